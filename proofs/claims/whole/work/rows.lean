section
/-- a private method of a class that the tables say can be made, by its rows of tables_1 -/
def lw_okq (q : MethodName × Nat) : Prop := (q.1.cls ≠ "java/lang/invoke/MethodHandle" ∧ q.1.cls ≠ "java/lang/invoke/VarHandle") ∧ Cond.instantiable q.1.cls q.2 ∈ tables_1 ∧ Cond.privateMethod q.1 ∈ tables_1 ∧ Cond.instanceMethod q.1 ∈ tables_1
theorem lw_p0 : lw_okq (⟨"SleepRoads", "sheetOrNull", "(I)LSleepRoads$Sheet;"⟩, 6) := ⟨⟨by decide +kernel, by decide +kernel⟩, List.mem_of_getElem? (i := 11) (by decide +kernel), List.mem_of_getElem? (i := 129) (by decide +kernel), List.mem_of_getElem? (i := 130) (by decide +kernel)⟩
theorem lw_p1 : lw_okq (⟨"SleepRoads", "cameTo", "(I)I"⟩, 6) := ⟨⟨by decide +kernel, by decide +kernel⟩, List.mem_of_getElem? (i := 11) (by decide +kernel), List.mem_of_getElem? (i := 148) (by decide +kernel), List.mem_of_getElem? (i := 149) (by decide +kernel)⟩
theorem lw_p2 : lw_okq (⟨"SleepRoads$Town", "goesOnWith", "(I)Z"⟩, 7) := ⟨⟨by decide +kernel, by decide +kernel⟩, List.mem_of_getElem? (i := 19) (by decide +kernel), List.mem_of_getElem? (i := 164) (by decide +kernel), List.mem_of_getElem? (i := 165) (by decide +kernel)⟩
theorem lw_p3 : lw_okq (⟨"SleepRoads$Town", "readZ", "(I)Z"⟩, 7) := ⟨⟨by decide +kernel, by decide +kernel⟩, List.mem_of_getElem? (i := 19) (by decide +kernel), List.mem_of_getElem? (i := 168) (by decide +kernel), List.mem_of_getElem? (i := 169) (by decide +kernel)⟩
theorem lw_p4 : lw_okq (⟨"SleepRoads$Town", "readPlaces", "(I)Z"⟩, 7) := ⟨⟨by decide +kernel, by decide +kernel⟩, List.mem_of_getElem? (i := 19) (by decide +kernel), List.mem_of_getElem? (i := 172) (by decide +kernel), List.mem_of_getElem? (i := 173) (by decide +kernel)⟩
theorem lw_p5 : lw_okq (⟨"SleepRoads$Town", "readBreak", "(I)Z"⟩, 7) := ⟨⟨by decide +kernel, by decide +kernel⟩, List.mem_of_getElem? (i := 19) (by decide +kernel), List.mem_of_getElem? (i := 179) (by decide +kernel), List.mem_of_getElem? (i := 180) (by decide +kernel)⟩
theorem lw_p6 : lw_okq (⟨"SleepRoads$Town", "readKind", "(I)Z"⟩, 7) := ⟨⟨by decide +kernel, by decide +kernel⟩, List.mem_of_getElem? (i := 19) (by decide +kernel), List.mem_of_getElem? (i := 183) (by decide +kernel), List.mem_of_getElem? (i := 184) (by decide +kernel)⟩
theorem lw_p7 : lw_okq (⟨"SleepRoads$Town", "readStart", "(I)Z"⟩, 7) := ⟨⟨by decide +kernel, by decide +kernel⟩, List.mem_of_getElem? (i := 19) (by decide +kernel), List.mem_of_getElem? (i := 195) (by decide +kernel), List.mem_of_getElem? (i := 196) (by decide +kernel)⟩
theorem lw_p8 : lw_okq (⟨"SleepRoads$Town", "readStride", "(I)Z"⟩, 7) := ⟨⟨by decide +kernel, by decide +kernel⟩, List.mem_of_getElem? (i := 19) (by decide +kernel), List.mem_of_getElem? (i := 203) (by decide +kernel), List.mem_of_getElem? (i := 204) (by decide +kernel)⟩
theorem lw_p9 : lw_okq (⟨"SleepRoads$Town", "readGoods", "(I)Z"⟩, 7) := ⟨⟨by decide +kernel, by decide +kernel⟩, List.mem_of_getElem? (i := 19) (by decide +kernel), List.mem_of_getElem? (i := 207) (by decide +kernel), List.mem_of_getElem? (i := 208) (by decide +kernel)⟩
theorem lw_p10 : lw_okq (⟨"SleepRoads", "tellOfWalk", "(ILSleepRoads$Sheet;III)I"⟩, 6) := ⟨⟨by decide +kernel, by decide +kernel⟩, List.mem_of_getElem? (i := 11) (by decide +kernel), List.mem_of_getElem? (i := 311) (by decide +kernel), List.mem_of_getElem? (i := 312) (by decide +kernel)⟩
theorem lw_p11 : lw_okq (⟨"SleepRoads$Town", "withNeighbours", "(I)I"⟩, 7) := ⟨⟨by decide +kernel, by decide +kernel⟩, List.mem_of_getElem? (i := 19) (by decide +kernel), List.mem_of_getElem? (i := 327) (by decide +kernel), List.mem_of_getElem? (i := 328) (by decide +kernel)⟩
theorem lw_p12 : lw_okq (⟨"SleepRoads$Town", "findTheWay", "(II)V"⟩, 7) := ⟨⟨by decide +kernel, by decide +kernel⟩, List.mem_of_getElem? (i := 19) (by decide +kernel), List.mem_of_getElem? (i := 336) (by decide +kernel), List.mem_of_getElem? (i := 337) (by decide +kernel)⟩
theorem lw_p13 : lw_okq (⟨"SleepRoads$Town", "firstActInto", "(II)I"⟩, 7) := ⟨⟨by decide +kernel, by decide +kernel⟩, List.mem_of_getElem? (i := 19) (by decide +kernel), List.mem_of_getElem? (i := 343) (by decide +kernel), List.mem_of_getElem? (i := 344) (by decide +kernel)⟩
theorem lw_p14 : lw_okq (⟨"SleepRoads$Town", "comesTo", "(II)Z"⟩, 7) := ⟨⟨by decide +kernel, by decide +kernel⟩, List.mem_of_getElem? (i := 19) (by decide +kernel), List.mem_of_getElem? (i := 364) (by decide +kernel), List.mem_of_getElem? (i := 365) (by decide +kernel)⟩
theorem lw_p15 : lw_okq (⟨"SleepRoads", "comesWithin", "(IIII)Z"⟩, 6) := ⟨⟨by decide +kernel, by decide +kernel⟩, List.mem_of_getElem? (i := 11) (by decide +kernel), List.mem_of_getElem? (i := 411) (by decide +kernel), List.mem_of_getElem? (i := 412) (by decide +kernel)⟩
def lw_privs_1 : List (MethodName × Nat) := [(⟨"SleepRoads", "sheetOrNull", "(I)LSleepRoads$Sheet;"⟩, 6), (⟨"SleepRoads", "cameTo", "(I)I"⟩, 6), (⟨"SleepRoads$Town", "goesOnWith", "(I)Z"⟩, 7), (⟨"SleepRoads$Town", "readZ", "(I)Z"⟩, 7), (⟨"SleepRoads$Town", "readPlaces", "(I)Z"⟩, 7), (⟨"SleepRoads$Town", "readBreak", "(I)Z"⟩, 7), (⟨"SleepRoads$Town", "readKind", "(I)Z"⟩, 7), (⟨"SleepRoads$Town", "readStart", "(I)Z"⟩, 7), (⟨"SleepRoads$Town", "readStride", "(I)Z"⟩, 7), (⟨"SleepRoads$Town", "readGoods", "(I)Z"⟩, 7), (⟨"SleepRoads", "tellOfWalk", "(ILSleepRoads$Sheet;III)I"⟩, 6), (⟨"SleepRoads$Town", "withNeighbours", "(I)I"⟩, 7), (⟨"SleepRoads$Town", "findTheWay", "(II)V"⟩, 7), (⟨"SleepRoads$Town", "firstActInto", "(II)I"⟩, 7), (⟨"SleepRoads$Town", "comesTo", "(II)Z"⟩, 7), (⟨"SleepRoads", "comesWithin", "(IIII)Z"⟩, 6)]
theorem lw_r1 : ∀ q ∈ lw_privs_1, lw_okq q := List.forall_mem_cons.mpr ⟨lw_p0, List.forall_mem_cons.mpr ⟨lw_p1, List.forall_mem_cons.mpr ⟨lw_p2, List.forall_mem_cons.mpr ⟨lw_p3, List.forall_mem_cons.mpr ⟨lw_p4, List.forall_mem_cons.mpr ⟨lw_p5, List.forall_mem_cons.mpr ⟨lw_p6, List.forall_mem_cons.mpr ⟨lw_p7, List.forall_mem_cons.mpr ⟨lw_p8, List.forall_mem_cons.mpr ⟨lw_p9, List.forall_mem_cons.mpr ⟨lw_p10, List.forall_mem_cons.mpr ⟨lw_p11, List.forall_mem_cons.mpr ⟨lw_p12, List.forall_mem_cons.mpr ⟨lw_p13, List.forall_mem_cons.mpr ⟨lw_p14, List.forall_mem_cons.mpr ⟨lw_p15, fun _ h => absurd h List.not_mem_nil⟩⟩⟩⟩⟩⟩⟩⟩⟩⟩⟩⟩⟩⟩⟩⟩
theorem lw_p16 : lw_okq (⟨"SleepRoads", "moonstruckBody", "(LSleepRoads$Sleeper;)I"⟩, 6) := ⟨⟨by decide +kernel, by decide +kernel⟩, List.mem_of_getElem? (i := 11) (by decide +kernel), List.mem_of_getElem? (i := 459) (by decide +kernel), List.mem_of_getElem? (i := 460) (by decide +kernel)⟩
theorem lw_p17 : lw_okq (⟨"SleepRoads", "leave", "(I)V"⟩, 6) := ⟨⟨by decide +kernel, by decide +kernel⟩, List.mem_of_getElem? (i := 11) (by decide +kernel), List.mem_of_getElem? (i := 463) (by decide +kernel), List.mem_of_getElem? (i := 464) (by decide +kernel)⟩
theorem lw_p18 : lw_okq (⟨"SleepRoads", "sleeperBody", "(LSleepRoads$Sleeper;)I"⟩, 6) := ⟨⟨by decide +kernel, by decide +kernel⟩, List.mem_of_getElem? (i := 11) (by decide +kernel), List.mem_of_getElem? (i := 467) (by decide +kernel), List.mem_of_getElem? (i := 468) (by decide +kernel)⟩
theorem lw_p19 : lw_okq (⟨"SleepRoads", "restlessBody", "(LSleepRoads$Sleeper;)I"⟩, 6) := ⟨⟨by decide +kernel, by decide +kernel⟩, List.mem_of_getElem? (i := 11) (by decide +kernel), List.mem_of_getElem? (i := 471) (by decide +kernel), List.mem_of_getElem? (i := 472) (by decide +kernel)⟩
theorem lw_p20 : lw_okq (⟨"SleepRoads", "ownWakening", "()I"⟩, 6) := ⟨⟨by decide +kernel, by decide +kernel⟩, List.mem_of_getElem? (i := 11) (by decide +kernel), List.mem_of_getElem? (i := 479) (by decide +kernel), List.mem_of_getElem? (i := 480) (by decide +kernel)⟩
theorem lw_p21 : lw_okq (⟨"SleepRoads", "lentWakening", "(I)I"⟩, 6) := ⟨⟨by decide +kernel, by decide +kernel⟩, List.mem_of_getElem? (i := 11) (by decide +kernel), List.mem_of_getElem? (i := 483) (by decide +kernel), List.mem_of_getElem? (i := 484) (by decide +kernel)⟩
theorem lw_p22 : lw_okq (⟨"SleepRoadsModel", "refused", "(I)I"⟩, 30) := ⟨⟨by decide +kernel, by decide +kernel⟩, List.mem_of_getElem? (i := 507) (by decide +kernel), List.mem_of_getElem? (i := 615) (by decide +kernel), List.mem_of_getElem? (i := 616) (by decide +kernel)⟩
theorem lw_p23 : lw_okq (⟨"SleepRoadsModel", "cellsBarred", "(IIIJ)I"⟩, 30) := ⟨⟨by decide +kernel, by decide +kernel⟩, List.mem_of_getElem? (i := 507) (by decide +kernel), List.mem_of_getElem? (i := 620) (by decide +kernel), List.mem_of_getElem? (i := 621) (by decide +kernel)⟩
theorem lw_p24 : lw_okq (⟨"SleepRoadsModel", "failed", "(I)I"⟩, 30) := ⟨⟨by decide +kernel, by decide +kernel⟩, List.mem_of_getElem? (i := 507) (by decide +kernel), List.mem_of_getElem? (i := 624) (by decide +kernel), List.mem_of_getElem? (i := 625) (by decide +kernel)⟩
theorem lw_p25 : lw_okq (⟨"SleepRoadsModel", "readsTown", "(II)Z"⟩, 30) := ⟨⟨by decide +kernel, by decide +kernel⟩, List.mem_of_getElem? (i := 507) (by decide +kernel), List.mem_of_getElem? (i := 631) (by decide +kernel), List.mem_of_getElem? (i := 632) (by decide +kernel)⟩
theorem lw_p26 : lw_okq (⟨"SleepRoadsModel", "codeAt", "(II)I"⟩, 30) := ⟨⟨by decide +kernel, by decide +kernel⟩, List.mem_of_getElem? (i := 507) (by decide +kernel), List.mem_of_getElem? (i := 635) (by decide +kernel), List.mem_of_getElem? (i := 636) (by decide +kernel)⟩
theorem lw_p27 : lw_okq (⟨"SleepRoadsModel", "figure", "(IIII)I"⟩, 30) := ⟨⟨by decide +kernel, by decide +kernel⟩, List.mem_of_getElem? (i := 507) (by decide +kernel), List.mem_of_getElem? (i := 639) (by decide +kernel), List.mem_of_getElem? (i := 640) (by decide +kernel)⟩
theorem lw_p28 : lw_okq (⟨"SleepRoadsModel", "readsSleeper", "(II)Z"⟩, 30) := ⟨⟨by decide +kernel, by decide +kernel⟩, List.mem_of_getElem? (i := 507) (by decide +kernel), List.mem_of_getElem? (i := 643) (by decide +kernel), List.mem_of_getElem? (i := 644) (by decide +kernel)⟩
theorem lw_p29 : lw_okq (⟨"SleepRoadsModel", "noSleeper", "(I)Z"⟩, 30) := ⟨⟨by decide +kernel, by decide +kernel⟩, List.mem_of_getElem? (i := 507) (by decide +kernel), List.mem_of_getElem? (i := 651) (by decide +kernel), List.mem_of_getElem? (i := 652) (by decide +kernel)⟩
theorem lw_p30 : lw_okq (⟨"SleepRoadsModel", "noPlace", "(I)Z"⟩, 30) := ⟨⟨by decide +kernel, by decide +kernel⟩, List.mem_of_getElem? (i := 507) (by decide +kernel), List.mem_of_getElem? (i := 659) (by decide +kernel), List.mem_of_getElem? (i := 660) (by decide +kernel)⟩
theorem lw_p31 : lw_okq (⟨"SleepRoadsModel", "whereAt", "(II)I"⟩, 30) := ⟨⟨by decide +kernel, by decide +kernel⟩, List.mem_of_getElem? (i := 507) (by decide +kernel), List.mem_of_getElem? (i := 680) (by decide +kernel), List.mem_of_getElem? (i := 681) (by decide +kernel)⟩
def lw_privs_2 : List (MethodName × Nat) := [(⟨"SleepRoads", "moonstruckBody", "(LSleepRoads$Sleeper;)I"⟩, 6), (⟨"SleepRoads", "leave", "(I)V"⟩, 6), (⟨"SleepRoads", "sleeperBody", "(LSleepRoads$Sleeper;)I"⟩, 6), (⟨"SleepRoads", "restlessBody", "(LSleepRoads$Sleeper;)I"⟩, 6), (⟨"SleepRoads", "ownWakening", "()I"⟩, 6), (⟨"SleepRoads", "lentWakening", "(I)I"⟩, 6), (⟨"SleepRoadsModel", "refused", "(I)I"⟩, 30), (⟨"SleepRoadsModel", "cellsBarred", "(IIIJ)I"⟩, 30), (⟨"SleepRoadsModel", "failed", "(I)I"⟩, 30), (⟨"SleepRoadsModel", "readsTown", "(II)Z"⟩, 30), (⟨"SleepRoadsModel", "codeAt", "(II)I"⟩, 30), (⟨"SleepRoadsModel", "figure", "(IIII)I"⟩, 30), (⟨"SleepRoadsModel", "readsSleeper", "(II)Z"⟩, 30), (⟨"SleepRoadsModel", "noSleeper", "(I)Z"⟩, 30), (⟨"SleepRoadsModel", "noPlace", "(I)Z"⟩, 30), (⟨"SleepRoadsModel", "whereAt", "(II)I"⟩, 30)]
theorem lw_r2 : ∀ q ∈ lw_privs_2, lw_okq q := List.forall_mem_cons.mpr ⟨lw_p16, List.forall_mem_cons.mpr ⟨lw_p17, List.forall_mem_cons.mpr ⟨lw_p18, List.forall_mem_cons.mpr ⟨lw_p19, List.forall_mem_cons.mpr ⟨lw_p20, List.forall_mem_cons.mpr ⟨lw_p21, List.forall_mem_cons.mpr ⟨lw_p22, List.forall_mem_cons.mpr ⟨lw_p23, List.forall_mem_cons.mpr ⟨lw_p24, List.forall_mem_cons.mpr ⟨lw_p25, List.forall_mem_cons.mpr ⟨lw_p26, List.forall_mem_cons.mpr ⟨lw_p27, List.forall_mem_cons.mpr ⟨lw_p28, List.forall_mem_cons.mpr ⟨lw_p29, List.forall_mem_cons.mpr ⟨lw_p30, List.forall_mem_cons.mpr ⟨lw_p31, fun _ h => absurd h List.not_mem_nil⟩⟩⟩⟩⟩⟩⟩⟩⟩⟩⟩⟩⟩⟩⟩⟩
theorem lw_p32 : lw_okq (⟨"SleepRoadsModel", "freeAt", "(I)I"⟩, 30) := ⟨⟨by decide +kernel, by decide +kernel⟩, List.mem_of_getElem? (i := 507) (by decide +kernel), List.mem_of_getElem? (i := 692) (by decide +kernel), List.mem_of_getElem? (i := 693) (by decide +kernel)⟩
theorem lw_p33 : lw_okq (⟨"SleepRoadsModel", "goWalk", "(III)V"⟩, 30) := ⟨⟨by decide +kernel, by decide +kernel⟩, List.mem_of_getElem? (i := 507) (by decide +kernel), List.mem_of_getElem? (i := 708) (by decide +kernel), List.mem_of_getElem? (i := 709) (by decide +kernel)⟩
theorem lw_p34 : lw_okq (⟨"SleepRoadsModel", "behind", "(II)I"⟩, 30) := ⟨⟨by decide +kernel, by decide +kernel⟩, List.mem_of_getElem? (i := 507) (by decide +kernel), List.mem_of_getElem? (i := 712) (by decide +kernel), List.mem_of_getElem? (i := 713) (by decide +kernel)⟩
theorem lw_p35 : lw_okq (⟨"SleepRoadsModel", "soonestOf", "(III)I"⟩, 30) := ⟨⟨by decide +kernel, by decide +kernel⟩, List.mem_of_getElem? (i := 507) (by decide +kernel), List.mem_of_getElem? (i := 722) (by decide +kernel), List.mem_of_getElem? (i := 723) (by decide +kernel)⟩
theorem lw_p36 : lw_okq (⟨"SleepRoadsModel", "setBehind", "(II)I"⟩, 30) := ⟨⟨by decide +kernel, by decide +kernel⟩, List.mem_of_getElem? (i := 507) (by decide +kernel), List.mem_of_getElem? (i := 726) (by decide +kernel), List.mem_of_getElem? (i := 727) (by decide +kernel)⟩
theorem lw_p37 : lw_okq (⟨"SleepRoadsModel", "goBack", "(II)V"⟩, 30) := ⟨⟨by decide +kernel, by decide +kernel⟩, List.mem_of_getElem? (i := 507) (by decide +kernel), List.mem_of_getElem? (i := 730) (by decide +kernel), List.mem_of_getElem? (i := 731) (by decide +kernel)⟩
theorem lw_p38 : lw_okq (⟨"SleepRoadsModel", "guardedAt", "(I)I"⟩, 30) := ⟨⟨by decide +kernel, by decide +kernel⟩, List.mem_of_getElem? (i := 507) (by decide +kernel), List.mem_of_getElem? (i := 742) (by decide +kernel), List.mem_of_getElem? (i := 743) (by decide +kernel)⟩
theorem lw_p39 : lw_okq (⟨"SleepRoadsModel", "areSo", "()Z"⟩, 30) := ⟨⟨by decide +kernel, by decide +kernel⟩, List.mem_of_getElem? (i := 507) (by decide +kernel), List.mem_of_getElem? (i := 758) (by decide +kernel), List.mem_of_getElem? (i := 759) (by decide +kernel)⟩
theorem lw_p40 : lw_okq (⟨"SleepRoadsModel", "noCell", "(II)I"⟩, 30) := ⟨⟨by decide +kernel, by decide +kernel⟩, List.mem_of_getElem? (i := 507) (by decide +kernel), List.mem_of_getElem? (i := 793) (by decide +kernel), List.mem_of_getElem? (i := 794) (by decide +kernel)⟩
theorem lw_p41 : lw_okq (⟨"SleepRoadsModel", "failedLong", "(I)J"⟩, 30) := ⟨⟨by decide +kernel, by decide +kernel⟩, List.mem_of_getElem? (i := 507) (by decide +kernel), List.mem_of_getElem? (i := 801) (by decide +kernel), List.mem_of_getElem? (i := 802) (by decide +kernel)⟩
theorem lw_p42 : lw_okq (⟨"SleepRoadsModel", "traced", "(I)V"⟩, 30) := ⟨⟨by decide +kernel, by decide +kernel⟩, List.mem_of_getElem? (i := 507) (by decide +kernel), List.mem_of_getElem? (i := 813) (by decide +kernel), List.mem_of_getElem? (i := 814) (by decide +kernel)⟩
theorem lw_p43 : lw_okq (⟨"SleepRoadsModel", "goodsNow", "()I"⟩, 30) := ⟨⟨by decide +kernel, by decide +kernel⟩, List.mem_of_getElem? (i := 507) (by decide +kernel), List.mem_of_getElem? (i := 837) (by decide +kernel), List.mem_of_getElem? (i := 838) (by decide +kernel)⟩
def lw_privs_3 : List (MethodName × Nat) := [(⟨"SleepRoadsModel", "freeAt", "(I)I"⟩, 30), (⟨"SleepRoadsModel", "goWalk", "(III)V"⟩, 30), (⟨"SleepRoadsModel", "behind", "(II)I"⟩, 30), (⟨"SleepRoadsModel", "soonestOf", "(III)I"⟩, 30), (⟨"SleepRoadsModel", "setBehind", "(II)I"⟩, 30), (⟨"SleepRoadsModel", "goBack", "(II)V"⟩, 30), (⟨"SleepRoadsModel", "guardedAt", "(I)I"⟩, 30), (⟨"SleepRoadsModel", "areSo", "()Z"⟩, 30), (⟨"SleepRoadsModel", "noCell", "(II)I"⟩, 30), (⟨"SleepRoadsModel", "failedLong", "(I)J"⟩, 30), (⟨"SleepRoadsModel", "traced", "(I)V"⟩, 30), (⟨"SleepRoadsModel", "goodsNow", "()I"⟩, 30)]
theorem lw_r3 : ∀ q ∈ lw_privs_3, lw_okq q := List.forall_mem_cons.mpr ⟨lw_p32, List.forall_mem_cons.mpr ⟨lw_p33, List.forall_mem_cons.mpr ⟨lw_p34, List.forall_mem_cons.mpr ⟨lw_p35, List.forall_mem_cons.mpr ⟨lw_p36, List.forall_mem_cons.mpr ⟨lw_p37, List.forall_mem_cons.mpr ⟨lw_p38, List.forall_mem_cons.mpr ⟨lw_p39, List.forall_mem_cons.mpr ⟨lw_p40, List.forall_mem_cons.mpr ⟨lw_p41, List.forall_mem_cons.mpr ⟨lw_p42, List.forall_mem_cons.mpr ⟨lw_p43, fun _ h => absurd h List.not_mem_nil⟩⟩⟩⟩⟩⟩⟩⟩⟩⟩⟩⟩
def lw_privs : List (MethodName × Nat) := lw_privs_1 ++ (lw_privs_2 ++ (lw_privs_3))
def lw_tbl : List Cond := k2_sels lw_privs ++ tables_1
theorem lw_privs_ok : ∀ q ∈ lw_privs, lw_okq q := by
  show ∀ q ∈ lw_privs_1 ++ (lw_privs_2 ++ (lw_privs_3)), lw_okq q
  exact List.forall_mem_append.mpr ⟨lw_r1, List.forall_mem_append.mpr ⟨lw_r2, lw_r3⟩⟩

/-- the words that bear being carried into a call -/
def TB : List Cond := lw_tbl.filter goodWord
theorem tb_t {w : Cond} (i : Nat) (h : tables_1[i]? = some w) (g : goodWord w = true) : w ∈ TB := List.mem_filter.mpr ⟨List.mem_append_right _ (List.mem_of_getElem? h), g⟩
theorem tb_s {w : Cond} (i : Nat) (h : (k2_sels lw_privs)[i]? = some w) (g : goodWord w = true) : w ∈ TB := List.mem_filter.mpr ⟨List.mem_append_left _ (List.mem_of_getElem? h), g⟩
theorem tb_in : ∀ w ∈ TB, w ∈ lw_tbl := fun _ h => (List.mem_filter.mp h).1
theorem tb_good : GoodIn TB TB := fun _ h => ⟨h, good_of_word (List.mem_filter.mp h).2⟩
end
section
def RX0 : String := "SleepRoads$Readings"
def TX0 : u_T := fun k => match k with
  | 0 => ("SleepRoads$Readings", "sleeper", "[I", true)
  | 1 => ("SleepRoads$Readings", "minute", "[I", true)
  | 2 => ("SleepRoads$Readings", "place", "[I", true)
  | _ => ("SleepRoads$Readings", "count", "I", false)
def tyX0 : Nat → FieldType := fun k => match k with
  | 0 => .array .int
  | 1 => .array .int
  | 2 => .array .int
  | _ => .int
theorem nmX0 : ∀ a, a < 4 → ∀ b, b < 4 → a ≠ b → (TX0 a).2.1 ≠ (TX0 b).2.1 := by decide +kernel
theorem tyX0_ok : ∀ k, k < 4 → parseFieldDescriptor (TX0 k).2.2.1 = some (tyX0 k) := by decide +kernel
abbrev cX0_init : ByteArray := prog_2_method_1_code
def yX0_init : MethodName := ⟨RX0, "<init>", "()V"⟩
abbrev cX0_howMany : ByteArray := prog_2_method_2_code
def yX0_howMany : MethodName := ⟨RX0, "howMany", "()I"⟩
abbrev cX0_keepFirst : ByteArray := prog_2_method_3_code
def yX0_keepFirst : MethodName := ⟨RX0, "keepFirst", "(I)V"⟩
abbrev cX0_add : ByteArray := prog_2_method_4_code
def yX0_add : MethodName := ⟨RX0, "add", "(III)I"⟩
abbrev cX0_areSo : ByteArray := prog_2_method_5_code
def yX0_areSo : MethodName := ⟨RX0, "areSo", "(LSleepRoads$Town;IIII)Z"⟩
def RX1 : String := "SleepRoads$Sheet"
def TX1 : u_T := fun k => match k with
  | 0 => ("SleepRoads$Sheet", "cells", "[I", true)
  | 1 => ("SleepRoads$Sheet", "lane", "I", false)
  | _ => ("SleepRoads$Sheet", "length", "I", false)
def tyX1 : Nat → FieldType := fun k => match k with
  | 0 => .array .int
  | 1 => .int
  | _ => .int
theorem nmX1 : ∀ a, a < 3 → ∀ b, b < 3 → a ≠ b → (TX1 a).2.1 ≠ (TX1 b).2.1 := by decide +kernel
theorem tyX1_ok : ∀ k, k < 3 → parseFieldDescriptor (TX1 k).2.2.1 = some (tyX1 k) := by decide +kernel
abbrev cX1_init : ByteArray := prog_3_method_1_code
def yX1_init : MethodName := ⟨RX1, "<init>", "()V"⟩
abbrev cX1_hasNothing : ByteArray := prog_3_method_2_code
def yX1_hasNothing : MethodName := ⟨RX1, "hasNothing", "()Z"⟩
abbrev cX1_drop : ByteArray := prog_3_method_3_code
def yX1_drop : MethodName := ⟨RX1, "drop", "()V"⟩
abbrev cX1_renew : ByteArray := prog_3_method_4_code
def yX1_renew : MethodName := ⟨RX1, "renew", "(II)V"⟩
abbrev cX1_hasCell : ByteArray := prog_3_method_5_code
def yX1_hasCell : MethodName := ⟨RX1, "hasCell", "(I)Z"⟩
abbrev cX1_at : ByteArray := prog_3_method_6_code
def yX1_at : MethodName := ⟨RX1, "at", "(I)I"⟩
abbrev cX1_set : ByteArray := prog_3_method_7_code
def yX1_set : MethodName := ⟨RX1, "set", "(II)V"⟩
abbrev cX1_faultAsRow : ByteArray := prog_3_method_8_code
def yX1_faultAsRow : MethodName := ⟨RX1, "faultAsRow", "(I)I"⟩
abbrev cX1_faultOfCells : ByteArray := prog_3_method_9_code
def yX1_faultOfCells : MethodName := ⟨RX1, "faultOfCells", "(II)I"⟩
def RX2 : String := "SleepRoads$Sleeper"
def TX2 : u_T := fun k => match k with
  | 0 => ("SleepRoads$Sleeper", "kind", "I", false)
  | 1 => ("SleepRoads$Sleeper", "start", "I", false)
  | _ => ("SleepRoads$Sleeper", "stride", "I", false)
def tyX2 : Nat → FieldType := fun k => match k with
  | 0 => .int
  | 1 => .int
  | _ => .int
theorem nmX2 : ∀ a, a < 3 → ∀ b, b < 3 → a ≠ b → (TX2 a).2.1 ≠ (TX2 b).2.1 := by decide +kernel
theorem tyX2_ok : ∀ k, k < 3 → parseFieldDescriptor (TX2 k).2.2.1 = some (tyX2 k) := by decide +kernel
abbrev cX2_init : ByteArray := prog_4_method_1_code
def yX2_init : MethodName := ⟨RX2, "<init>", "()V"⟩
abbrev cX2_gone : ByteArray := prog_4_method_2_code
def yX2_gone : MethodName := ⟨RX2, "gone", "(III)I"⟩
def RX3 : String := "SleepRoads$Town"
def TX3 : u_T := fun k => match k with
  | 0 => ("SleepRoads$Town", "sleepers", "[LSleepRoads$Sleeper;", true)
  | 1 => ("SleepRoads$Town", "goods", "[I", true)
  | 2 => ("SleepRoads$Town", "onTheWay", "[I", true)
  | 3 => ("SleepRoads$Town", "sleeperCount", "I", false)
  | 4 => ("SleepRoads$Town", "placeCount", "I", false)
  | 5 => ("SleepRoads$Town", "goodsRead", "I", false)
  | _ => ("SleepRoads$Town", "part", "I", false)
def tyX3 : Nat → FieldType := fun k => match k with
  | 0 => .array (.object "SleepRoads$Sleeper")
  | 1 => .array .int
  | 2 => .array .int
  | 3 => .int
  | 4 => .int
  | 5 => .int
  | _ => .int
theorem nmX3 : ∀ a, a < 7 → ∀ b, b < 7 → a ≠ b → (TX3 a).2.1 ≠ (TX3 b).2.1 := by decide +kernel
theorem tyX3_ok : ∀ k, k < 7 → parseFieldDescriptor (TX3 k).2.2.1 = some (tyX3 k) := by decide +kernel
abbrev cX3_init : ByteArray := prog_5_method_1_code
def yX3_init : MethodName := ⟨RX3, "<init>", "()V"⟩
abbrev cX3_read : ByteArray := prog_5_method_2_code
def yX3_read : MethodName := ⟨RX3, "read", "(LSleepRoads$Sheet;II)I"⟩
abbrev cX3_goesOnWith : ByteArray := prog_5_method_3_code
def yX3_goesOnWith : MethodName := ⟨RX3, "goesOnWith", "(I)Z"⟩
abbrev cX3_readZ : ByteArray := prog_5_method_4_code
def yX3_readZ : MethodName := ⟨RX3, "readZ", "(I)Z"⟩
abbrev cX3_readPlaces : ByteArray := prog_5_method_5_code
def yX3_readPlaces : MethodName := ⟨RX3, "readPlaces", "(I)Z"⟩
abbrev cX3_readBreak : ByteArray := prog_5_method_6_code
def yX3_readBreak : MethodName := ⟨RX3, "readBreak", "(I)Z"⟩
abbrev cX3_readKind : ByteArray := prog_5_method_7_code
def yX3_readKind : MethodName := ⟨RX3, "readKind", "(I)Z"⟩
abbrev cX3_readStart : ByteArray := prog_5_method_8_code
def yX3_readStart : MethodName := ⟨RX3, "readStart", "(I)Z"⟩
abbrev cX3_readStride : ByteArray := prog_5_method_9_code
def yX3_readStride : MethodName := ⟨RX3, "readStride", "(I)Z"⟩
abbrev cX3_readGoods : ByteArray := prog_5_method_10_code
def yX3_readGoods : MethodName := ⟨RX3, "readGoods", "(I)Z"⟩
abbrev cX3_digit : ByteArray := prog_5_method_11_code
def yX3_digit : MethodName := ⟨RX3, "digit", "(I)I"⟩
abbrev cX3_isThere : ByteArray := prog_5_method_12_code
def yX3_isThere : MethodName := ⟨RX3, "isThere", "()Z"⟩
abbrev cX3_placeCount : ByteArray := prog_5_method_13_code
def yX3_placeCount : MethodName := ⟨RX3, "placeCount", "()I"⟩
abbrev cX3_sleeperCount : ByteArray := prog_5_method_14_code
def yX3_sleeperCount : MethodName := ⟨RX3, "sleeperCount", "()I"⟩
abbrev cX3_hasPlace : ByteArray := prog_5_method_15_code
def yX3_hasPlace : MethodName := ⟨RX3, "hasPlace", "(I)Z"⟩
abbrev cX3_hasSleeper : ByteArray := prog_5_method_16_code
def yX3_hasSleeper : MethodName := ⟨RX3, "hasSleeper", "(I)Z"⟩
abbrev cX3_sleeperOrNull : ByteArray := prog_5_method_17_code
def yX3_sleeperOrNull : MethodName := ⟨RX3, "sleeperOrNull", "(I)LSleepRoads$Sleeper;"⟩
abbrev cX3_goodsAt : ByteArray := prog_5_method_18_code
def yX3_goodsAt : MethodName := ⟨RX3, "goodsAt", "(I)I"⟩
abbrev cX3_setGoods : ByteArray := prog_5_method_19_code
def yX3_setGoods : MethodName := ⟨RX3, "setGoods", "(II)V"⟩
abbrev cX3_goodsOfAll : ByteArray := prog_5_method_20_code
def yX3_goodsOfAll : MethodName := ⟨RX3, "goodsOfAll", "()I"⟩
abbrev cX3_placeIf : ByteArray := prog_5_method_21_code
def yX3_placeIf : MethodName := ⟨RX3, "placeIf", "(IIII)I"⟩
abbrev cX3_placeOf : ByteArray := prog_5_method_22_code
def yX3_placeOf : MethodName := ⟨RX3, "placeOf", "(II)I"⟩
abbrev cX3_placeAfter : ByteArray := prog_5_method_23_code
def yX3_placeAfter : MethodName := ⟨RX3, "placeAfter", "(II)I"⟩
abbrev cX3_goodsTakenBy : ByteArray := prog_5_method_24_code
def yX3_goodsTakenBy : MethodName := ⟨RX3, "goodsTakenBy", "(II)I"⟩
abbrev cX3_everyPlace : ByteArray := prog_5_method_25_code
def yX3_everyPlace : MethodName := ⟨RX3, "everyPlace", "()I"⟩
abbrev cX3_freePlaces : ByteArray := prog_5_method_26_code
def yX3_freePlaces : MethodName := ⟨RX3, "freePlaces", "(II)I"⟩
abbrev cX3_withNeighbours : ByteArray := prog_5_method_27_code
def yX3_withNeighbours : MethodName := ⟨RX3, "withNeighbours", "(I)I"⟩
abbrev cX3_fewestMinutes : ByteArray := prog_5_method_28_code
def yX3_fewestMinutes : MethodName := ⟨RX3, "fewestMinutes", "(III)I"⟩
abbrev cX3_actOfSoonest : ByteArray := prog_5_method_29_code
def yX3_actOfSoonest : MethodName := ⟨RX3, "actOfSoonest", "(IIII)I"⟩
abbrev cX3_findTheWay : ByteArray := prog_5_method_30_code
def yX3_findTheWay : MethodName := ⟨RX3, "findTheWay", "(II)V"⟩
abbrev cX3_firstActInto : ByteArray := prog_5_method_31_code
def yX3_firstActInto : MethodName := ⟨RX3, "firstActInto", "(II)I"⟩
abbrev cX3_placeWhereMostCome : ByteArray := prog_5_method_32_code
def yX3_placeWhereMostCome : MethodName := ⟨RX3, "placeWhereMostCome", "()I"⟩
abbrev cX3_comesTo : ByteArray := prog_5_method_33_code
def yX3_comesTo : MethodName := ⟨RX3, "comesTo", "(II)Z"⟩
def RX4 : String := "SleepRoads"
def TX4 : u_T := fun k => match k with
  | 0 => ("SleepRoads", "town", "LSleepRoads$Town;", true)
  | 1 => ("SleepRoads", "tryout", "LSleepRoads$Town;", true)
  | 2 => ("SleepRoads", "readings", "LSleepRoads$Readings;", true)
  | 3 => ("SleepRoads", "sheets", "[LSleepRoads$Sheet;", true)
  | 4 => ("SleepRoads", "trace", "I", false)
  | _ => ("SleepRoads", "fault", "I", false)
def tyX4 : Nat → FieldType := fun k => match k with
  | 0 => .object "SleepRoads$Town"
  | 1 => .object "SleepRoads$Town"
  | 2 => .object "SleepRoads$Readings"
  | 3 => .array (.object "SleepRoads$Sheet")
  | 4 => .int
  | _ => .int
theorem nmX4 : ∀ a, a < 6 → ∀ b, b < 6 → a ≠ b → (TX4 a).2.1 ≠ (TX4 b).2.1 := by decide +kernel
theorem tyX4_ok : ∀ k, k < 6 → parseFieldDescriptor (TX4 k).2.2.1 = some (tyX4 k) := by decide +kernel
abbrev cX4_init : ByteArray := prog_1_method_1_code
def yX4_init : MethodName := ⟨RX4, "<init>", "()V"⟩
abbrev cX4_town : ByteArray := prog_1_method_2_code
def yX4_town : MethodName := ⟨RX4, "town", "(IIII)I"⟩
abbrev cX4_ofSleeper : ByteArray := prog_1_method_3_code
def yX4_ofSleeper : MethodName := ⟨RX4, "ofSleeper", "(II)I"⟩
abbrev cX4_goods : ByteArray := prog_1_method_4_code
def yX4_goods : MethodName := ⟨RX4, "goods", "(I)I"⟩
abbrev cX4_lay : ByteArray := prog_1_method_5_code
def yX4_lay : MethodName := ⟨RX4, "lay", "(II)I"⟩
abbrev cX4_stride : ByteArray := prog_1_method_6_code
def yX4_stride : MethodName := ⟨RX4, "stride", "(II)I"⟩
abbrev cX4_where : ByteArray := prog_1_method_7_code
def yX4_where : MethodName := ⟨RX4, "where", "(II)I"⟩
abbrev cX4_taken : ByteArray := prog_1_method_8_code
def yX4_taken : MethodName := ⟨RX4, "taken", "(II)I"⟩
abbrev cX4_free : ByteArray := prog_1_method_9_code
def yX4_free : MethodName := ⟨RX4, "free", "(I)I"⟩
abbrev cX4_meet : ByteArray := prog_1_method_10_code
def yX4_meet : MethodName := ⟨RX4, "meet", "(II)I"⟩
abbrev cX4_walk : ByteArray := prog_1_method_11_code
def yX4_walk : MethodName := ⟨RX4, "walk", "(IIIIII)I"⟩
abbrev cX4_areActs : ByteArray := prog_1_method_12_code
def yX4_areActs : MethodName := ⟨RX4, "areActs", "(LSleepRoads$Sheet;II)Z"⟩
abbrev cX4_tellOfWalk : ByteArray := prog_1_method_13_code
def yX4_tellOfWalk : MethodName := ⟨RX4, "tellOfWalk", "(ILSleepRoads$Sheet;III)I"⟩
abbrev cX4_soonest : ByteArray := prog_1_method_14_code
def yX4_soonest : MethodName := ⟨RX4, "soonest", "(III)I"⟩
abbrev cX4_steer : ByteArray := prog_1_method_15_code
def yX4_steer : MethodName := ⟨RX4, "steer", "(III)I"⟩
abbrev cX4_guard : ByteArray := prog_1_method_16_code
def yX4_guard : MethodName := ⟨RX4, "guard", "()I"⟩
abbrev cX4_reading : ByteArray := prog_1_method_17_code
def yX4_reading : MethodName := ⟨RX4, "reading", "(III)I"⟩
abbrev cX4_back : ByteArray := prog_1_method_18_code
def yX4_back : MethodName := ⟨RX4, "back", "(I)I"⟩
abbrev cX4_strides : ByteArray := prog_1_method_19_code
def yX4_strides : MethodName := ⟨RX4, "strides", "(I)I"⟩
abbrev cX4_kinds : ByteArray := prog_1_method_20_code
def yX4_kinds : MethodName := ⟨RX4, "kinds", "(I)I"⟩
abbrev cX4_starts : ByteArray := prog_1_method_21_code
def yX4_starts : MethodName := ⟨RX4, "starts", "(I)I"⟩
abbrev cX4_odds : ByteArray := prog_1_method_22_code
def yX4_odds : MethodName := ⟨RX4, "odds", "(IIII)J"⟩
abbrev cX4_comesWithin : ByteArray := prog_1_method_23_code
def yX4_comesWithin : MethodName := ⟨RX4, "comesWithin", "(IIII)Z"⟩
abbrev cX4_sheet : ByteArray := prog_1_method_24_code
def yX4_sheet : MethodName := ⟨RX4, "sheet", "(III)I"⟩
abbrev cX4_lose : ByteArray := prog_1_method_25_code
def yX4_lose : MethodName := ⟨RX4, "lose", "(I)I"⟩
abbrev cX4_put : ByteArray := prog_1_method_26_code
def yX4_put : MethodName := ⟨RX4, "put", "(III)I"⟩
abbrev cX4_cell : ByteArray := prog_1_method_27_code
def yX4_cell : MethodName := ⟨RX4, "cell", "(III)J"⟩
abbrev cX4_copy : ByteArray := prog_1_method_28_code
def yX4_copy : MethodName := ⟨RX4, "copy", "(IIIII)I"⟩
abbrev cX4_tell : ByteArray := prog_1_method_29_code
def yX4_tell : MethodName := ⟨RX4, "tell", "(I)I"⟩
abbrev cX4_waken : ByteArray := prog_1_method_30_code
def yX4_waken : MethodName := ⟨RX4, "waken", "(I)I"⟩
abbrev cX4_as : ByteArray := prog_1_method_31_code
def yX4_as : MethodName := ⟨RX4, "as", "(II)I"⟩
abbrev cX4_trace : ByteArray := prog_1_method_32_code
def yX4_trace : MethodName := ⟨RX4, "trace", "()I"⟩
abbrev cX4_fault : ByteArray := prog_1_method_33_code
def yX4_fault : MethodName := ⟨RX4, "fault", "()I"⟩
abbrev cX4_many : ByteArray := prog_1_method_34_code
def yX4_many : MethodName := ⟨RX4, "many", "(I)I"⟩
abbrev cX4_sleeperBody : ByteArray := prog_1_method_35_code
def yX4_sleeperBody : MethodName := ⟨RX4, "sleeperBody", "(LSleepRoads$Sleeper;)I"⟩
abbrev cX4_moonstruckBody : ByteArray := prog_1_method_36_code
def yX4_moonstruckBody : MethodName := ⟨RX4, "moonstruckBody", "(LSleepRoads$Sleeper;)I"⟩
abbrev cX4_restlessBody : ByteArray := prog_1_method_37_code
def yX4_restlessBody : MethodName := ⟨RX4, "restlessBody", "(LSleepRoads$Sleeper;)I"⟩
abbrev cX4_lentWakening : ByteArray := prog_1_method_38_code
def yX4_lentWakening : MethodName := ⟨RX4, "lentWakening", "(I)I"⟩
abbrev cX4_ownWakening : ByteArray := prog_1_method_39_code
def yX4_ownWakening : MethodName := ⟨RX4, "ownWakening", "()I"⟩
abbrev cX4_leave : ByteArray := prog_1_method_40_code
def yX4_leave : MethodName := ⟨RX4, "leave", "(I)V"⟩
abbrev cX4_cameTo : ByteArray := prog_1_method_41_code
def yX4_cameTo : MethodName := ⟨RX4, "cameTo", "(I)I"⟩
abbrev cX4_sheetOrNull : ByteArray := prog_1_method_42_code
def yX4_sheetOrNull : MethodName := ⟨RX4, "sheetOrNull", "(I)LSleepRoads$Sheet;"⟩
abbrev cX4_isLane : ByteArray := prog_1_method_43_code
def yX4_isLane : MethodName := ⟨RX4, "isLane", "(I)Z"⟩
abbrev cX4_isMinute : ByteArray := prog_1_method_44_code
def yX4_isMinute : MethodName := ⟨RX4, "isMinute", "(I)Z"⟩
abbrev cX4_isIn : ByteArray := prog_1_method_45_code
def yX4_isIn : MethodName := ⟨RX4, "isIn", "(II)Z"⟩
abbrev cX4_bit : ByteArray := prog_1_method_46_code
def yX4_bit : MethodName := ⟨RX4, "bit", "(I)I"⟩
def RX5 : String := "SleepRoadsModel"
def TX5 : u_T := fun k => match k with
  | 0 => ("SleepRoadsModel", "fault", "I", false)
  | 1 => ("SleepRoadsModel", "places", "I", false)
  | 2 => ("SleepRoadsModel", "goodsOf", "[I", true)
  | 3 => ("SleepRoadsModel", "sleepers", "I", false)
  | 4 => ("SleepRoadsModel", "kindOf", "[I", true)
  | 5 => ("SleepRoadsModel", "startOf", "[I", true)
  | 6 => ("SleepRoadsModel", "strideOf", "[I", true)
  | 7 => ("SleepRoadsModel", "abed", "I", false)
  | 8 => ("SleepRoadsModel", "readAt", "I", false)
  | 9 => ("SleepRoadsModel", "readPlaces", "I", false)
  | 10 => ("SleepRoadsModel", "readSleepers", "I", false)
  | 11 => ("SleepRoadsModel", "readGoods", "[I", true)
  | 12 => ("SleepRoadsModel", "readKind", "[I", true)
  | 13 => ("SleepRoadsModel", "readStart", "[I", true)
  | 14 => ("SleepRoadsModel", "readStride", "[I", true)
  | 15 => ("SleepRoadsModel", "leftAt", "[I", true)
  | 16 => ("SleepRoadsModel", "firstWrong", "I", false)
  | 17 => ("SleepRoadsModel", "endsAt", "I", false)
  | 18 => ("SleepRoadsModel", "seen", "I", false)
  | 19 => ("SleepRoadsModel", "stays", "I", false)
  | 20 => ("SleepRoadsModel", "goodAt", "[I", true)
  | 21 => ("SleepRoadsModel", "readings", "I", false)
  | 22 => ("SleepRoadsModel", "readingOf", "[I", true)
  | 23 => ("SleepRoadsModel", "readingBy", "[I", true)
  | 24 => ("SleepRoadsModel", "readingAt", "[I", true)
  | 25 => ("SleepRoadsModel", "sheetSize", "[I", true)
  | 26 => ("SleepRoadsModel", "sheetLane", "[I", true)
  | 27 => ("SleepRoadsModel", "sheet", "[I", true)
  | 28 => ("SleepRoadsModel", "hands", "[I", true)
  | _ => ("SleepRoadsModel", "traceNow", "I", false)
def tyX5 : Nat → FieldType := fun k => match k with
  | 0 => .int
  | 1 => .int
  | 2 => .array .int
  | 3 => .int
  | 4 => .array .int
  | 5 => .array .int
  | 6 => .array .int
  | 7 => .int
  | 8 => .int
  | 9 => .int
  | 10 => .int
  | 11 => .array .int
  | 12 => .array .int
  | 13 => .array .int
  | 14 => .array .int
  | 15 => .array .int
  | 16 => .int
  | 17 => .int
  | 18 => .int
  | 19 => .int
  | 20 => .array .int
  | 21 => .int
  | 22 => .array .int
  | 23 => .array .int
  | 24 => .array .int
  | 25 => .array .int
  | 26 => .array .int
  | 27 => .array .int
  | 28 => .array .int
  | _ => .int
theorem nmX5 : ∀ a, a < 30 → ∀ b, b < 30 → a ≠ b → (TX5 a).2.1 ≠ (TX5 b).2.1 := by decide +kernel
theorem tyX5_ok : ∀ k, k < 30 → parseFieldDescriptor (TX5 k).2.2.1 = some (tyX5 k) := by decide +kernel
abbrev cX5_init : ByteArray := prog_7_method_1_code
def yX5_init : MethodName := ⟨RX5, "<init>", "()V"⟩
abbrev cX5_in : ByteArray := prog_7_method_2_code
def yX5_in : MethodName := ⟨RX5, "in", "(JJJ)Z"⟩
abbrev cX5_lost : ByteArray := prog_7_method_3_code
def yX5_lost : MethodName := ⟨RX5, "lost", "()J"⟩
abbrev cX5_isIn : ByteArray := prog_7_method_4_code
def yX5_isIn : MethodName := ⟨RX5, "isIn", "(II)Z"⟩
abbrev cX5_share : ByteArray := prog_7_method_5_code
def yX5_share : MethodName := ⟨RX5, "share", "(JJI)J"⟩
abbrev cX5_refused : ByteArray := prog_7_method_6_code
def yX5_refused : MethodName := ⟨RX5, "refused", "(I)I"⟩
abbrev cX5_failed : ByteArray := prog_7_method_7_code
def yX5_failed : MethodName := ⟨RX5, "failed", "(I)I"⟩
abbrev cX5_failedLong : ByteArray := prog_7_method_8_code
def yX5_failedLong : MethodName := ⟨RX5, "failedLong", "(I)J"⟩
abbrev cX5_noPlace : ByteArray := prog_7_method_9_code
def yX5_noPlace : MethodName := ⟨RX5, "noPlace", "(I)Z"⟩
abbrev cX5_noSleeper : ByteArray := prog_7_method_10_code
def yX5_noSleeper : MethodName := ⟨RX5, "noSleeper", "(I)Z"⟩
abbrev cX5_noMinute : ByteArray := prog_7_method_11_code
def yX5_noMinute : MethodName := ⟨RX5, "noMinute", "(I)Z"⟩
abbrev cX5_codeAt : ByteArray := prog_7_method_12_code
def yX5_codeAt : MethodName := ⟨RX5, "codeAt", "(II)I"⟩
abbrev cX5_figure : ByteArray := prog_7_method_13_code
def yX5_figure : MethodName := ⟨RX5, "figure", "(IIII)I"⟩
abbrev cX5_readsSleeper : ByteArray := prog_7_method_14_code
def yX5_readsSleeper : MethodName := ⟨RX5, "readsSleeper", "(II)Z"⟩
abbrev cX5_readsTown : ByteArray := prog_7_method_15_code
def yX5_readsTown : MethodName := ⟨RX5, "readsTown", "(II)Z"⟩
abbrev cX5_cellsBarred : ByteArray := prog_7_method_16_code
def yX5_cellsBarred : MethodName := ⟨RX5, "cellsBarred", "(IIIJ)I"⟩
abbrev cX5_town : ByteArray := prog_7_method_17_code
def yX5_town : MethodName := ⟨RX5, "town", "(IIII)I"⟩
abbrev cX5_ofSleeper : ByteArray := prog_7_method_18_code
def yX5_ofSleeper : MethodName := ⟨RX5, "ofSleeper", "(II)I"⟩
abbrev cX5_goods : ByteArray := prog_7_method_19_code
def yX5_goods : MethodName := ⟨RX5, "goods", "(I)I"⟩
abbrev cX5_lay : ByteArray := prog_7_method_20_code
def yX5_lay : MethodName := ⟨RX5, "lay", "(II)I"⟩
abbrev cX5_stride : ByteArray := prog_7_method_21_code
def yX5_stride : MethodName := ⟨RX5, "stride", "(II)I"⟩
abbrev cX5_whereAt : ByteArray := prog_7_method_22_code
def yX5_whereAt : MethodName := ⟨RX5, "whereAt", "(II)I"⟩
abbrev cX5_where : ByteArray := prog_7_method_23_code
def yX5_where : MethodName := ⟨RX5, "where", "(II)I"⟩
abbrev cX5_taken : ByteArray := prog_7_method_24_code
def yX5_taken : MethodName := ⟨RX5, "taken", "(II)I"⟩
abbrev cX5_freeAt : ByteArray := prog_7_method_25_code
def yX5_freeAt : MethodName := ⟨RX5, "freeAt", "(I)I"⟩
abbrev cX5_free : ByteArray := prog_7_method_26_code
def yX5_free : MethodName := ⟨RX5, "free", "(I)I"⟩
abbrev cX5_meet : ByteArray := prog_7_method_27_code
def yX5_meet : MethodName := ⟨RX5, "meet", "(II)I"⟩
abbrev cX5_behind : ByteArray := prog_7_method_28_code
def yX5_behind : MethodName := ⟨RX5, "behind", "(II)I"⟩
abbrev cX5_goWalk : ByteArray := prog_7_method_29_code
def yX5_goWalk : MethodName := ⟨RX5, "goWalk", "(III)V"⟩
abbrev cX5_walk : ByteArray := prog_7_method_30_code
def yX5_walk : MethodName := ⟨RX5, "walk", "(IIIIII)I"⟩
abbrev cX5_setBehind : ByteArray := prog_7_method_31_code
def yX5_setBehind : MethodName := ⟨RX5, "setBehind", "(II)I"⟩
abbrev cX5_soonestOf : ByteArray := prog_7_method_32_code
def yX5_soonestOf : MethodName := ⟨RX5, "soonestOf", "(III)I"⟩
abbrev cX5_goBack : ByteArray := prog_7_method_33_code
def yX5_goBack : MethodName := ⟨RX5, "goBack", "(II)V"⟩
abbrev cX5_soonest : ByteArray := prog_7_method_34_code
def yX5_soonest : MethodName := ⟨RX5, "soonest", "(III)I"⟩
abbrev cX5_steer : ByteArray := prog_7_method_35_code
def yX5_steer : MethodName := ⟨RX5, "steer", "(III)I"⟩
abbrev cX5_guardedAt : ByteArray := prog_7_method_36_code
def yX5_guardedAt : MethodName := ⟨RX5, "guardedAt", "(I)I"⟩
abbrev cX5_guard : ByteArray := prog_7_method_37_code
def yX5_guard : MethodName := ⟨RX5, "guard", "()I"⟩
abbrev cX5_reading : ByteArray := prog_7_method_38_code
def yX5_reading : MethodName := ⟨RX5, "reading", "(III)I"⟩
abbrev cX5_back : ByteArray := prog_7_method_39_code
def yX5_back : MethodName := ⟨RX5, "back", "(I)I"⟩
abbrev cX5_areSo : ByteArray := prog_7_method_40_code
def yX5_areSo : MethodName := ⟨RX5, "areSo", "()Z"⟩
abbrev cX5_strides : ByteArray := prog_7_method_41_code
def yX5_strides : MethodName := ⟨RX5, "strides", "(I)I"⟩
abbrev cX5_kinds : ByteArray := prog_7_method_42_code
def yX5_kinds : MethodName := ⟨RX5, "kinds", "(I)I"⟩
abbrev cX5_starts : ByteArray := prog_7_method_43_code
def yX5_starts : MethodName := ⟨RX5, "starts", "(I)I"⟩
abbrev cX5_odds : ByteArray := prog_7_method_44_code
def yX5_odds : MethodName := ⟨RX5, "odds", "(IIII)J"⟩
abbrev cX5_noSheet : ByteArray := prog_7_method_45_code
def yX5_noSheet : MethodName := ⟨RX5, "noSheet", "(I)Z"⟩
abbrev cX5_sheet : ByteArray := prog_7_method_46_code
def yX5_sheet : MethodName := ⟨RX5, "sheet", "(III)I"⟩
abbrev cX5_lose : ByteArray := prog_7_method_47_code
def yX5_lose : MethodName := ⟨RX5, "lose", "(I)I"⟩
abbrev cX5_noCell : ByteArray := prog_7_method_48_code
def yX5_noCell : MethodName := ⟨RX5, "noCell", "(II)I"⟩
abbrev cX5_put : ByteArray := prog_7_method_49_code
def yX5_put : MethodName := ⟨RX5, "put", "(III)I"⟩
abbrev cX5_cell : ByteArray := prog_7_method_50_code
def yX5_cell : MethodName := ⟨RX5, "cell", "(III)J"⟩
abbrev cX5_isBeyond : ByteArray := prog_7_method_51_code
def yX5_isBeyond : MethodName := ⟨RX5, "isBeyond", "(IJI)Z"⟩
abbrev cX5_copy : ByteArray := prog_7_method_52_code
def yX5_copy : MethodName := ⟨RX5, "copy", "(IIIII)I"⟩
abbrev cX5_traced : ByteArray := prog_7_method_53_code
def yX5_traced : MethodName := ⟨RX5, "traced", "(I)V"⟩
abbrev cX5_tell : ByteArray := prog_7_method_54_code
def yX5_tell : MethodName := ⟨RX5, "tell", "(I)I"⟩
abbrev cX5_waken : ByteArray := prog_7_method_55_code
def yX5_waken : MethodName := ⟨RX5, "waken", "(I)I"⟩
abbrev cX5_as : ByteArray := prog_7_method_56_code
def yX5_as : MethodName := ⟨RX5, "as", "(II)I"⟩
abbrev cX5_trace : ByteArray := prog_7_method_57_code
def yX5_trace : MethodName := ⟨RX5, "trace", "()I"⟩
abbrev cX5_fault : ByteArray := prog_7_method_58_code
def yX5_fault : MethodName := ⟨RX5, "fault", "()I"⟩
abbrev cX5_goodsNow : ByteArray := prog_7_method_59_code
def yX5_goodsNow : MethodName := ⟨RX5, "goodsNow", "()I"⟩
abbrev cX5_many : ByteArray := prog_7_method_60_code
def yX5_many : MethodName := ⟨RX5, "many", "(I)I"⟩
def RJ9 : String := "java/lang/Math"
abbrev cJ9_abs_0f7a4 : ByteArray := prog_8_method_59_code
def yJ9_abs_0f7a4 : MethodName := ⟨RJ9, "abs", "(I)I"⟩
abbrev cJ9_min_7cf53 : ByteArray := prog_8_method_69_code
def yJ9_min_7cf53 : MethodName := ⟨RJ9, "min", "(II)I"⟩
def RJ10 : String := "java/lang/System"
def RJ7 : String := "java/util/Arrays"
abbrev cJ7_fill_53178 : ByteArray := prog_10_method_103_code
def yJ7_fill_53178 : MethodName := ⟨RJ7, "fill", "([II)V"⟩
def RL : String := "SleepRoadsLaw"
abbrev cL_law : ByteArray := code
def yL_law : MethodName := ⟨RL, "law", "([I)Z"⟩
abbrev vwCl : List vw_C := [(RX0, TX0, 4), (RX1, TX1, 3), (RX2, TX2, 3), (RX3, TX3, 7), (RX4, TX4, 6), (RX5, TX5, 30)]
theorem dX0_init_0 : decode cX0_init 0 = .ok (.aload_n 0, 1) := by decide +kernel
theorem dX0_init_1 : decode cX0_init 1 = .ok (.invokespecial 3, 3) := by decide +kernel
theorem dX0_init_4 : decode cX0_init 4 = .ok (.aload_n 0, 1) := by decide +kernel
theorem dX0_init_5 : decode cX0_init 5 = .ok (.bipush 8, 2) := by decide +kernel
theorem dX0_init_7 : decode cX0_init 7 = .ok (.newarray .int, 2) := by decide +kernel
theorem dX0_init_9 : decode cX0_init 9 = .ok (.putfield 9, 3) := by decide +kernel
theorem dX0_init_12 : decode cX0_init 12 = .ok (.aload_n 0, 1) := by decide +kernel
theorem dX0_init_13 : decode cX0_init 13 = .ok (.bipush 8, 2) := by decide +kernel
theorem dX0_init_15 : decode cX0_init 15 = .ok (.newarray .int, 2) := by decide +kernel
theorem dX0_init_17 : decode cX0_init 17 = .ok (.putfield 15, 3) := by decide +kernel
theorem dX0_init_20 : decode cX0_init 20 = .ok (.aload_n 0, 1) := by decide +kernel
theorem dX0_init_21 : decode cX0_init 21 = .ok (.bipush 8, 2) := by decide +kernel
theorem dX0_init_23 : decode cX0_init 23 = .ok (.newarray .int, 2) := by decide +kernel
theorem dX0_init_25 : decode cX0_init 25 = .ok (.putfield 18, 3) := by decide +kernel
theorem dX0_init_28 : decode cX0_init 28 = .ok (.aload_n 0, 1) := by decide +kernel
theorem dX0_init_29 : decode cX0_init 29 = .ok (.iconst 0, 1) := by decide +kernel
theorem dX0_init_30 : decode cX0_init 30 = .ok (.putfield 21, 3) := by decide +kernel
theorem dX0_init_33 : decode cX0_init 33 = .ok (.return_, 1) := by decide +kernel
theorem dX0_howMany_0 : decode cX0_howMany 0 = .ok (.aload_n 0, 1) := by decide +kernel
theorem dX0_howMany_1 : decode cX0_howMany 1 = .ok (.getfield 21, 3) := by decide +kernel
theorem dX0_howMany_4 : decode cX0_howMany 4 = .ok (.ireturn, 1) := by decide +kernel
theorem dX0_keepFirst_0 : decode cX0_keepFirst 0 = .ok (.aload_n 0, 1) := by decide +kernel
theorem dX0_keepFirst_1 : decode cX0_keepFirst 1 = .ok (.iload_n 1, 1) := by decide +kernel
theorem dX0_keepFirst_2 : decode cX0_keepFirst 2 = .ok (.putfield 21, 3) := by decide +kernel
theorem dX0_keepFirst_5 : decode cX0_keepFirst 5 = .ok (.return_, 1) := by decide +kernel
theorem dX0_add_0 : decode cX0_add 0 = .ok (.aload_n 0, 1) := by decide +kernel
theorem dX0_add_1 : decode cX0_add 1 = .ok (.getfield 21, 3) := by decide +kernel
theorem dX0_add_4 : decode cX0_add 4 = .ok (.ifCond .lt 12, 3) := by decide +kernel
theorem dX0_add_7 : decode cX0_add 7 = .ok (.aload_n 0, 1) := by decide +kernel
theorem dX0_add_8 : decode cX0_add 8 = .ok (.getfield 21, 3) := by decide +kernel
theorem dX0_add_11 : decode cX0_add 11 = .ok (.bipush 8, 2) := by decide +kernel
theorem dX0_add_13 : decode cX0_add 13 = .ok (.if_icmp .lt 6, 3) := by decide +kernel
theorem dX0_add_16 : decode cX0_add 16 = .ok (.bipush (-4), 2) := by decide +kernel
theorem dX0_add_18 : decode cX0_add 18 = .ok (.ireturn, 1) := by decide +kernel
theorem dX0_add_19 : decode cX0_add 19 = .ok (.aload_n 0, 1) := by decide +kernel
theorem dX0_add_20 : decode cX0_add 20 = .ok (.getfield 9, 3) := by decide +kernel
theorem dX0_add_23 : decode cX0_add 23 = .ok (.aload_n 0, 1) := by decide +kernel
theorem dX0_add_24 : decode cX0_add 24 = .ok (.getfield 21, 3) := by decide +kernel
theorem dX0_add_27 : decode cX0_add 27 = .ok (.iload_n 1, 1) := by decide +kernel
theorem dX0_add_28 : decode cX0_add 28 = .ok (.iastore, 1) := by decide +kernel
theorem dX0_add_29 : decode cX0_add 29 = .ok (.aload_n 0, 1) := by decide +kernel
theorem dX0_add_30 : decode cX0_add 30 = .ok (.getfield 15, 3) := by decide +kernel
theorem dX0_add_33 : decode cX0_add 33 = .ok (.aload_n 0, 1) := by decide +kernel
theorem dX0_add_34 : decode cX0_add 34 = .ok (.getfield 21, 3) := by decide +kernel
theorem dX0_add_37 : decode cX0_add 37 = .ok (.iload_n 2, 1) := by decide +kernel
theorem dX0_add_38 : decode cX0_add 38 = .ok (.iastore, 1) := by decide +kernel
theorem dX0_add_39 : decode cX0_add 39 = .ok (.aload_n 0, 1) := by decide +kernel
theorem dX0_add_40 : decode cX0_add 40 = .ok (.getfield 18, 3) := by decide +kernel
theorem dX0_add_43 : decode cX0_add 43 = .ok (.aload_n 0, 1) := by decide +kernel
theorem dX0_add_44 : decode cX0_add 44 = .ok (.getfield 21, 3) := by decide +kernel
theorem dX0_add_47 : decode cX0_add 47 = .ok (.iload_n 3, 1) := by decide +kernel
theorem dX0_add_48 : decode cX0_add 48 = .ok (.iastore, 1) := by decide +kernel
theorem dX0_add_49 : decode cX0_add 49 = .ok (.aload_n 0, 1) := by decide +kernel
theorem dX0_add_50 : decode cX0_add 50 = .ok (.dup, 1) := by decide +kernel
theorem dX0_add_51 : decode cX0_add 51 = .ok (.getfield 21, 3) := by decide +kernel
theorem dX0_add_54 : decode cX0_add 54 = .ok (.iconst 1, 1) := by decide +kernel
theorem dX0_add_55 : decode cX0_add 55 = .ok (.iadd, 1) := by decide +kernel
theorem dX0_add_56 : decode cX0_add 56 = .ok (.putfield 21, 3) := by decide +kernel
theorem dX0_add_59 : decode cX0_add 59 = .ok (.aload_n 0, 1) := by decide +kernel
theorem dX0_add_60 : decode cX0_add 60 = .ok (.getfield 21, 3) := by decide +kernel
theorem dX0_add_63 : decode cX0_add 63 = .ok (.iconst 1, 1) := by decide +kernel
theorem dX0_add_64 : decode cX0_add 64 = .ok (.isub, 1) := by decide +kernel
theorem dX0_add_65 : decode cX0_add 65 = .ok (.ireturn, 1) := by decide +kernel
theorem dX0_areSo_0 : decode cX0_areSo 0 = .ok (.iconst 0, 1) := by decide +kernel
theorem dX0_areSo_1 : decode cX0_areSo 1 = .ok (.istore 6, 2) := by decide +kernel
theorem dX0_areSo_3 : decode cX0_areSo 3 = .ok (.iload 6, 2) := by decide +kernel
theorem dX0_areSo_5 : decode cX0_areSo 5 = .ok (.aload_n 0, 1) := by decide +kernel
theorem dX0_areSo_6 : decode cX0_areSo 6 = .ok (.getfield 21, 3) := by decide +kernel
theorem dX0_areSo_9 : decode cX0_areSo 9 = .ok (.if_icmp .ge 80, 3) := by decide +kernel
theorem dX0_areSo_12 : decode cX0_areSo 12 = .ok (.iload 6, 2) := by decide +kernel
theorem dX0_areSo_14 : decode cX0_areSo 14 = .ok (.bipush 8, 2) := by decide +kernel
theorem dX0_areSo_16 : decode cX0_areSo 16 = .ok (.if_icmp .ge 73, 3) := by decide +kernel
theorem dX0_areSo_19 : decode cX0_areSo 19 = .ok (.aload_n 0, 1) := by decide +kernel
theorem dX0_areSo_20 : decode cX0_areSo 20 = .ok (.getfield 9, 3) := by decide +kernel
theorem dX0_areSo_23 : decode cX0_areSo 23 = .ok (.iload 6, 2) := by decide +kernel
theorem dX0_areSo_25 : decode cX0_areSo 25 = .ok (.iaload, 1) := by decide +kernel
theorem dX0_areSo_26 : decode cX0_areSo 26 = .ok (.iload_n 2, 1) := by decide +kernel
theorem dX0_areSo_27 : decode cX0_areSo 27 = .ok (.if_icmp .ne 22, 3) := by decide +kernel
theorem dX0_areSo_30 : decode cX0_areSo 30 = .ok (.aload_n 1, 1) := by decide +kernel
theorem dX0_areSo_31 : decode cX0_areSo 31 = .ok (.iload_n 3, 1) := by decide +kernel
theorem dX0_areSo_32 : decode cX0_areSo 32 = .ok (.iload 4, 2) := by decide +kernel
theorem dX0_areSo_34 : decode cX0_areSo 34 = .ok (.iload 5, 2) := by decide +kernel
theorem dX0_areSo_36 : decode cX0_areSo 36 = .ok (.aload_n 0, 1) := by decide +kernel
theorem dX0_areSo_37 : decode cX0_areSo 37 = .ok (.getfield 15, 3) := by decide +kernel
theorem dX0_areSo_40 : decode cX0_areSo 40 = .ok (.iload 6, 2) := by decide +kernel
theorem dX0_areSo_42 : decode cX0_areSo 42 = .ok (.iaload, 1) := by decide +kernel
theorem dX0_areSo_43 : decode cX0_areSo 43 = .ok (.invokevirtual 25, 3) := by decide +kernel
theorem dX0_areSo_46 : decode cX0_areSo 46 = .ok (.goto 21, 3) := by decide +kernel
theorem dX0_areSo_49 : decode cX0_areSo 49 = .ok (.aload_n 1, 1) := by decide +kernel
theorem dX0_areSo_50 : decode cX0_areSo 50 = .ok (.aload_n 0, 1) := by decide +kernel
theorem dX0_areSo_51 : decode cX0_areSo 51 = .ok (.getfield 9, 3) := by decide +kernel
theorem dX0_areSo_54 : decode cX0_areSo 54 = .ok (.iload 6, 2) := by decide +kernel
theorem dX0_areSo_56 : decode cX0_areSo 56 = .ok (.iaload, 1) := by decide +kernel
theorem dX0_areSo_57 : decode cX0_areSo 57 = .ok (.aload_n 0, 1) := by decide +kernel
theorem dX0_areSo_58 : decode cX0_areSo 58 = .ok (.getfield 15, 3) := by decide +kernel
theorem dX0_areSo_61 : decode cX0_areSo 61 = .ok (.iload 6, 2) := by decide +kernel
theorem dX0_areSo_63 : decode cX0_areSo 63 = .ok (.iaload, 1) := by decide +kernel
theorem dX0_areSo_64 : decode cX0_areSo 64 = .ok (.invokevirtual 31, 3) := by decide +kernel
theorem dX0_areSo_67 : decode cX0_areSo 67 = .ok (.istore 7, 2) := by decide +kernel
theorem dX0_areSo_69 : decode cX0_areSo 69 = .ok (.iload 7, 2) := by decide +kernel
theorem dX0_areSo_71 : decode cX0_areSo 71 = .ok (.aload_n 0, 1) := by decide +kernel
theorem dX0_areSo_72 : decode cX0_areSo 72 = .ok (.getfield 18, 3) := by decide +kernel
theorem dX0_areSo_75 : decode cX0_areSo 75 = .ok (.iload 6, 2) := by decide +kernel
theorem dX0_areSo_77 : decode cX0_areSo 77 = .ok (.iaload, 1) := by decide +kernel
theorem dX0_areSo_78 : decode cX0_areSo 78 = .ok (.if_icmp .eq 5, 3) := by decide +kernel
theorem dX0_areSo_81 : decode cX0_areSo 81 = .ok (.iconst 0, 1) := by decide +kernel
theorem dX0_areSo_82 : decode cX0_areSo 82 = .ok (.ireturn, 1) := by decide +kernel
theorem dX0_areSo_83 : decode cX0_areSo 83 = .ok (.iinc 6 1, 3) := by decide +kernel
theorem dX0_areSo_86 : decode cX0_areSo 86 = .ok (.goto (-83), 3) := by decide +kernel
theorem dX0_areSo_89 : decode cX0_areSo 89 = .ok (.iconst 1, 1) := by decide +kernel
theorem dX0_areSo_90 : decode cX0_areSo 90 = .ok (.ireturn, 1) := by decide +kernel
theorem dX1_init_0 : decode cX1_init 0 = .ok (.aload_n 0, 1) := by decide +kernel
theorem dX1_init_1 : decode cX1_init 1 = .ok (.invokespecial 3, 3) := by decide +kernel
theorem dX1_init_4 : decode cX1_init 4 = .ok (.aload_n 0, 1) := by decide +kernel
theorem dX1_init_5 : decode cX1_init 5 = .ok (.bipush 60, 2) := by decide +kernel
theorem dX1_init_7 : decode cX1_init 7 = .ok (.newarray .int, 2) := by decide +kernel
theorem dX1_init_9 : decode cX1_init 9 = .ok (.putfield 9, 3) := by decide +kernel
theorem dX1_init_12 : decode cX1_init 12 = .ok (.aload_n 0, 1) := by decide +kernel
theorem dX1_init_13 : decode cX1_init 13 = .ok (.iconst (-1), 1) := by decide +kernel
theorem dX1_init_14 : decode cX1_init 14 = .ok (.putfield 15, 3) := by decide +kernel
theorem dX1_init_17 : decode cX1_init 17 = .ok (.aload_n 0, 1) := by decide +kernel
theorem dX1_init_18 : decode cX1_init 18 = .ok (.iconst 0, 1) := by decide +kernel
theorem dX1_init_19 : decode cX1_init 19 = .ok (.putfield 19, 3) := by decide +kernel
theorem dX1_init_22 : decode cX1_init 22 = .ok (.return_, 1) := by decide +kernel
theorem dX1_hasNothing_0 : decode cX1_hasNothing 0 = .ok (.aload_n 0, 1) := by decide +kernel
theorem dX1_hasNothing_1 : decode cX1_hasNothing 1 = .ok (.getfield 15, 3) := by decide +kernel
theorem dX1_hasNothing_4 : decode cX1_hasNothing 4 = .ok (.iconst (-1), 1) := by decide +kernel
theorem dX1_hasNothing_5 : decode cX1_hasNothing 5 = .ok (.if_icmp .ne 7, 3) := by decide +kernel
theorem dX1_hasNothing_8 : decode cX1_hasNothing 8 = .ok (.iconst 1, 1) := by decide +kernel
theorem dX1_hasNothing_9 : decode cX1_hasNothing 9 = .ok (.goto 4, 3) := by decide +kernel
theorem dX1_hasNothing_12 : decode cX1_hasNothing 12 = .ok (.iconst 0, 1) := by decide +kernel
theorem dX1_hasNothing_13 : decode cX1_hasNothing 13 = .ok (.ireturn, 1) := by decide +kernel
theorem dX1_drop_0 : decode cX1_drop 0 = .ok (.aload_n 0, 1) := by decide +kernel
theorem dX1_drop_1 : decode cX1_drop 1 = .ok (.iconst (-1), 1) := by decide +kernel
theorem dX1_drop_2 : decode cX1_drop 2 = .ok (.putfield 15, 3) := by decide +kernel
theorem dX1_drop_5 : decode cX1_drop 5 = .ok (.aload_n 0, 1) := by decide +kernel
theorem dX1_drop_6 : decode cX1_drop 6 = .ok (.iconst 0, 1) := by decide +kernel
theorem dX1_drop_7 : decode cX1_drop 7 = .ok (.putfield 19, 3) := by decide +kernel
theorem dX1_drop_10 : decode cX1_drop 10 = .ok (.return_, 1) := by decide +kernel
theorem dX1_renew_0 : decode cX1_renew 0 = .ok (.aload_n 0, 1) := by decide +kernel
theorem dX1_renew_1 : decode cX1_renew 1 = .ok (.getfield 9, 3) := by decide +kernel
theorem dX1_renew_4 : decode cX1_renew 4 = .ok (.iconst 0, 1) := by decide +kernel
theorem dX1_renew_5 : decode cX1_renew 5 = .ok (.invokestatic 22, 3) := by decide +kernel
theorem dX1_renew_8 : decode cX1_renew 8 = .ok (.aload_n 0, 1) := by decide +kernel
theorem dX1_renew_9 : decode cX1_renew 9 = .ok (.iload_n 1, 1) := by decide +kernel
theorem dX1_renew_10 : decode cX1_renew 10 = .ok (.putfield 15, 3) := by decide +kernel
theorem dX1_renew_13 : decode cX1_renew 13 = .ok (.aload_n 0, 1) := by decide +kernel
theorem dX1_renew_14 : decode cX1_renew 14 = .ok (.iload_n 2, 1) := by decide +kernel
theorem dX1_renew_15 : decode cX1_renew 15 = .ok (.putfield 19, 3) := by decide +kernel
theorem dX1_renew_18 : decode cX1_renew 18 = .ok (.return_, 1) := by decide +kernel
theorem dX1_hasCell_0 : decode cX1_hasCell 0 = .ok (.iload_n 1, 1) := by decide +kernel
theorem dX1_hasCell_1 : decode cX1_hasCell 1 = .ok (.ifCond .lt 24, 3) := by decide +kernel
theorem dX1_hasCell_4 : decode cX1_hasCell 4 = .ok (.iload_n 1, 1) := by decide +kernel
theorem dX1_hasCell_5 : decode cX1_hasCell 5 = .ok (.aload_n 0, 1) := by decide +kernel
theorem dX1_hasCell_6 : decode cX1_hasCell 6 = .ok (.getfield 19, 3) := by decide +kernel
theorem dX1_hasCell_9 : decode cX1_hasCell 9 = .ok (.if_icmp .ge 16, 3) := by decide +kernel
theorem dX1_hasCell_12 : decode cX1_hasCell 12 = .ok (.iload_n 1, 1) := by decide +kernel
theorem dX1_hasCell_13 : decode cX1_hasCell 13 = .ok (.aload_n 0, 1) := by decide +kernel
theorem dX1_hasCell_14 : decode cX1_hasCell 14 = .ok (.getfield 9, 3) := by decide +kernel
theorem dX1_hasCell_17 : decode cX1_hasCell 17 = .ok (.arraylength, 1) := by decide +kernel
theorem dX1_hasCell_18 : decode cX1_hasCell 18 = .ok (.if_icmp .ge 7, 3) := by decide +kernel
theorem dX1_hasCell_21 : decode cX1_hasCell 21 = .ok (.iconst 1, 1) := by decide +kernel
theorem dX1_hasCell_22 : decode cX1_hasCell 22 = .ok (.goto 4, 3) := by decide +kernel
theorem dX1_hasCell_25 : decode cX1_hasCell 25 = .ok (.iconst 0, 1) := by decide +kernel
theorem dX1_hasCell_26 : decode cX1_hasCell 26 = .ok (.ireturn, 1) := by decide +kernel
theorem dX1_at_0 : decode cX1_at 0 = .ok (.aload_n 0, 1) := by decide +kernel
theorem dX1_at_1 : decode cX1_at 1 = .ok (.iload_n 1, 1) := by decide +kernel
theorem dX1_at_2 : decode cX1_at 2 = .ok (.invokevirtual 28, 3) := by decide +kernel
theorem dX1_at_5 : decode cX1_at 5 = .ok (.ifCond .eq 12, 3) := by decide +kernel
theorem dX1_at_8 : decode cX1_at 8 = .ok (.aload_n 0, 1) := by decide +kernel
theorem dX1_at_9 : decode cX1_at 9 = .ok (.getfield 9, 3) := by decide +kernel
theorem dX1_at_12 : decode cX1_at 12 = .ok (.iload_n 1, 1) := by decide +kernel
theorem dX1_at_13 : decode cX1_at 13 = .ok (.iaload, 1) := by decide +kernel
theorem dX1_at_14 : decode cX1_at 14 = .ok (.goto 4, 3) := by decide +kernel
theorem dX1_at_17 : decode cX1_at 17 = .ok (.iconst 0, 1) := by decide +kernel
theorem dX1_at_18 : decode cX1_at 18 = .ok (.ireturn, 1) := by decide +kernel
theorem dX1_set_0 : decode cX1_set 0 = .ok (.aload_n 0, 1) := by decide +kernel
theorem dX1_set_1 : decode cX1_set 1 = .ok (.iload_n 1, 1) := by decide +kernel
theorem dX1_set_2 : decode cX1_set 2 = .ok (.invokevirtual 28, 3) := by decide +kernel
theorem dX1_set_5 : decode cX1_set 5 = .ok (.ifCond .eq 35, 3) := by decide +kernel
theorem dX1_set_8 : decode cX1_set 8 = .ok (.aload_n 0, 1) := by decide +kernel
theorem dX1_set_9 : decode cX1_set 9 = .ok (.getfield 9, 3) := by decide +kernel
theorem dX1_set_12 : decode cX1_set 12 = .ok (.iload_n 1, 1) := by decide +kernel
theorem dX1_set_13 : decode cX1_set 13 = .ok (.aload_n 0, 1) := by decide +kernel
theorem dX1_set_14 : decode cX1_set 14 = .ok (.getfield 15, 3) := by decide +kernel
theorem dX1_set_17 : decode cX1_set 17 = .ok (.ifCond .ne 8, 3) := by decide +kernel
theorem dX1_set_20 : decode cX1_set 20 = .ok (.iload_n 2, 1) := by decide +kernel
theorem dX1_set_21 : decode cX1_set 21 = .ok (.i2b, 1) := by decide +kernel
theorem dX1_set_22 : decode cX1_set 22 = .ok (.goto 17, 3) := by decide +kernel
theorem dX1_set_25 : decode cX1_set 25 = .ok (.aload_n 0, 1) := by decide +kernel
theorem dX1_set_26 : decode cX1_set 26 = .ok (.getfield 15, 3) := by decide +kernel
theorem dX1_set_29 : decode cX1_set 29 = .ok (.iconst 1, 1) := by decide +kernel
theorem dX1_set_30 : decode cX1_set 30 = .ok (.if_icmp .ne 8, 3) := by decide +kernel
theorem dX1_set_33 : decode cX1_set 33 = .ok (.iload_n 2, 1) := by decide +kernel
theorem dX1_set_34 : decode cX1_set 34 = .ok (.i2s, 1) := by decide +kernel
theorem dX1_set_35 : decode cX1_set 35 = .ok (.goto 4, 3) := by decide +kernel
theorem dX1_set_38 : decode cX1_set 38 = .ok (.iload_n 2, 1) := by decide +kernel
theorem dX1_set_39 : decode cX1_set 39 = .ok (.iastore, 1) := by decide +kernel
theorem dX1_set_40 : decode cX1_set 40 = .ok (.return_, 1) := by decide +kernel
theorem dX1_faultAsRow_0 : decode cX1_faultAsRow 0 = .ok (.aload_n 0, 1) := by decide +kernel
theorem dX1_faultAsRow_1 : decode cX1_faultAsRow 1 = .ok (.invokevirtual 32, 3) := by decide +kernel
theorem dX1_faultAsRow_4 : decode cX1_faultAsRow 4 = .ok (.ifCond .eq 5, 3) := by decide +kernel
theorem dX1_faultAsRow_7 : decode cX1_faultAsRow 7 = .ok (.iconst 1, 1) := by decide +kernel
theorem dX1_faultAsRow_8 : decode cX1_faultAsRow 8 = .ok (.ireturn, 1) := by decide +kernel
theorem dX1_faultAsRow_9 : decode cX1_faultAsRow 9 = .ok (.aload_n 0, 1) := by decide +kernel
theorem dX1_faultAsRow_10 : decode cX1_faultAsRow 10 = .ok (.getfield 15, 3) := by decide +kernel
theorem dX1_faultAsRow_13 : decode cX1_faultAsRow 13 = .ok (.iload_n 1, 1) := by decide +kernel
theorem dX1_faultAsRow_14 : decode cX1_faultAsRow 14 = .ok (.if_icmp .ne 7, 3) := by decide +kernel
theorem dX1_faultAsRow_17 : decode cX1_faultAsRow 17 = .ok (.iconst 0, 1) := by decide +kernel
theorem dX1_faultAsRow_18 : decode cX1_faultAsRow 18 = .ok (.goto 4, 3) := by decide +kernel
theorem dX1_faultAsRow_21 : decode cX1_faultAsRow 21 = .ok (.iconst 2, 1) := by decide +kernel
theorem dX1_faultAsRow_22 : decode cX1_faultAsRow 22 = .ok (.ireturn, 1) := by decide +kernel
theorem dX1_faultOfCells_0 : decode cX1_faultOfCells 0 = .ok (.iload_n 1, 1) := by decide +kernel
theorem dX1_faultOfCells_1 : decode cX1_faultOfCells 1 = .ok (.ifCond .lt 25, 3) := by decide +kernel
theorem dX1_faultOfCells_4 : decode cX1_faultOfCells 4 = .ok (.iload_n 2, 1) := by decide +kernel
theorem dX1_faultOfCells_5 : decode cX1_faultOfCells 5 = .ok (.ifCond .lt 21, 3) := by decide +kernel
theorem dX1_faultOfCells_8 : decode cX1_faultOfCells 8 = .ok (.iload_n 1, 1) := by decide +kernel
theorem dX1_faultOfCells_9 : decode cX1_faultOfCells 9 = .ok (.aload_n 0, 1) := by decide +kernel
theorem dX1_faultOfCells_10 : decode cX1_faultOfCells 10 = .ok (.getfield 19, 3) := by decide +kernel
theorem dX1_faultOfCells_13 : decode cX1_faultOfCells 13 = .ok (.if_icmp .gt 13, 3) := by decide +kernel
theorem dX1_faultOfCells_16 : decode cX1_faultOfCells 16 = .ok (.iload_n 2, 1) := by decide +kernel
theorem dX1_faultOfCells_17 : decode cX1_faultOfCells 17 = .ok (.aload_n 0, 1) := by decide +kernel
theorem dX1_faultOfCells_18 : decode cX1_faultOfCells 18 = .ok (.getfield 19, 3) := by decide +kernel
theorem dX1_faultOfCells_21 : decode cX1_faultOfCells 21 = .ok (.iload_n 1, 1) := by decide +kernel
theorem dX1_faultOfCells_22 : decode cX1_faultOfCells 22 = .ok (.isub, 1) := by decide +kernel
theorem dX1_faultOfCells_23 : decode cX1_faultOfCells 23 = .ok (.if_icmp .le 7, 3) := by decide +kernel
theorem dX1_faultOfCells_26 : decode cX1_faultOfCells 26 = .ok (.iconst 3, 1) := by decide +kernel
theorem dX1_faultOfCells_27 : decode cX1_faultOfCells 27 = .ok (.goto 4, 3) := by decide +kernel
theorem dX1_faultOfCells_30 : decode cX1_faultOfCells 30 = .ok (.iconst 0, 1) := by decide +kernel
theorem dX1_faultOfCells_31 : decode cX1_faultOfCells 31 = .ok (.ireturn, 1) := by decide +kernel
theorem dX2_init_0 : decode cX2_init 0 = .ok (.aload_n 0, 1) := by decide +kernel
theorem dX2_init_1 : decode cX2_init 1 = .ok (.invokespecial 3, 3) := by decide +kernel
theorem dX2_init_4 : decode cX2_init 4 = .ok (.return_, 1) := by decide +kernel
theorem dX2_gone_0 : decode cX2_gone 0 = .ok (.iload_n 0, 1) := by decide +kernel
theorem dX2_gone_1 : decode cX2_gone 1 = .ok (.lookupswitch 45 #[(1, 27), (2, 33)], 27) := by decide +kernel
theorem dX2_gone_28 : decode cX2_gone 28 = .ok (.iload_n 2, 1) := by decide +kernel
theorem dX2_gone_29 : decode cX2_gone 29 = .ok (.iload_n 1, 1) := by decide +kernel
theorem dX2_gone_30 : decode cX2_gone 30 = .ok (.iconst 1, 1) := by decide +kernel
theorem dX2_gone_31 : decode cX2_gone 31 = .ok (.iadd, 1) := by decide +kernel
theorem dX2_gone_32 : decode cX2_gone 32 = .ok (.imul, 1) := by decide +kernel
theorem dX2_gone_33 : decode cX2_gone 33 = .ok (.ireturn, 1) := by decide +kernel
theorem dX2_gone_34 : decode cX2_gone 34 = .ok (.iload_n 2, 1) := by decide +kernel
theorem dX2_gone_35 : decode cX2_gone 35 = .ok (.iconst 1, 1) := by decide +kernel
theorem dX2_gone_36 : decode cX2_gone 36 = .ok (.iadd, 1) := by decide +kernel
theorem dX2_gone_37 : decode cX2_gone 37 = .ok (.iconst 2, 1) := by decide +kernel
theorem dX2_gone_38 : decode cX2_gone 38 = .ok (.idiv, 1) := by decide +kernel
theorem dX2_gone_39 : decode cX2_gone 39 = .ok (.iconst 2, 1) := by decide +kernel
theorem dX2_gone_40 : decode cX2_gone 40 = .ok (.imul, 1) := by decide +kernel
theorem dX2_gone_41 : decode cX2_gone 41 = .ok (.iload_n 1, 1) := by decide +kernel
theorem dX2_gone_42 : decode cX2_gone 42 = .ok (.iconst 1, 1) := by decide +kernel
theorem dX2_gone_43 : decode cX2_gone 43 = .ok (.iadd, 1) := by decide +kernel
theorem dX2_gone_44 : decode cX2_gone 44 = .ok (.imul, 1) := by decide +kernel
theorem dX2_gone_45 : decode cX2_gone 45 = .ok (.ireturn, 1) := by decide +kernel
theorem dX2_gone_46 : decode cX2_gone 46 = .ok (.iload_n 2, 1) := by decide +kernel
theorem dX2_gone_47 : decode cX2_gone 47 = .ok (.iload_n 1, 1) := by decide +kernel
theorem dX2_gone_48 : decode cX2_gone 48 = .ok (.imul, 1) := by decide +kernel
theorem dX2_gone_49 : decode cX2_gone 49 = .ok (.ireturn, 1) := by decide +kernel
theorem dX3_init_0 : decode cX3_init 0 = .ok (.aload_n 0, 1) := by decide +kernel
theorem dX3_init_1 : decode cX3_init 1 = .ok (.invokespecial 3, 3) := by decide +kernel
theorem dX3_init_4 : decode cX3_init 4 = .ok (.aload_n 0, 1) := by decide +kernel
theorem dX3_init_5 : decode cX3_init 5 = .ok (.iconst 4, 1) := by decide +kernel
theorem dX3_init_6 : decode cX3_init 6 = .ok (.anewarray 9, 3) := by decide +kernel
theorem dX3_init_9 : decode cX3_init 9 = .ok (.putfield 11, 3) := by decide +kernel
theorem dX3_init_12 : decode cX3_init 12 = .ok (.aload_n 0, 1) := by decide +kernel
theorem dX3_init_13 : decode cX3_init 13 = .ok (.bipush 9, 2) := by decide +kernel
theorem dX3_init_15 : decode cX3_init 15 = .ok (.newarray .int, 2) := by decide +kernel
theorem dX3_init_17 : decode cX3_init 17 = .ok (.putfield 17, 3) := by decide +kernel
theorem dX3_init_20 : decode cX3_init 20 = .ok (.aload_n 0, 1) := by decide +kernel
theorem dX3_init_21 : decode cX3_init 21 = .ok (.bipush 61, 2) := by decide +kernel
theorem dX3_init_23 : decode cX3_init 23 = .ok (.newarray .int, 2) := by decide +kernel
theorem dX3_init_25 : decode cX3_init 25 = .ok (.putfield 21, 3) := by decide +kernel
theorem dX3_init_28 : decode cX3_init 28 = .ok (.aload_n 0, 1) := by decide +kernel
theorem dX3_init_29 : decode cX3_init 29 = .ok (.iconst 0, 1) := by decide +kernel
theorem dX3_init_30 : decode cX3_init 30 = .ok (.putfield 24, 3) := by decide +kernel
theorem dX3_init_33 : decode cX3_init 33 = .ok (.aload_n 0, 1) := by decide +kernel
theorem dX3_init_34 : decode cX3_init 34 = .ok (.iconst 0, 1) := by decide +kernel
theorem dX3_init_35 : decode cX3_init 35 = .ok (.putfield 28, 3) := by decide +kernel
theorem dX3_init_38 : decode cX3_init 38 = .ok (.aload_n 0, 1) := by decide +kernel
theorem dX3_init_39 : decode cX3_init 39 = .ok (.iconst 0, 1) := by decide +kernel
theorem dX3_init_40 : decode cX3_init 40 = .ok (.putfield 31, 3) := by decide +kernel
theorem dX3_init_43 : decode cX3_init 43 = .ok (.aload_n 0, 1) := by decide +kernel
theorem dX3_init_44 : decode cX3_init 44 = .ok (.iconst 0, 1) := by decide +kernel
theorem dX3_init_45 : decode cX3_init 45 = .ok (.putfield 34, 3) := by decide +kernel
theorem dX3_init_48 : decode cX3_init 48 = .ok (.iconst 0, 1) := by decide +kernel
theorem dX3_init_49 : decode cX3_init 49 = .ok (.istore_n 1, 1) := by decide +kernel
theorem dX3_init_50 : decode cX3_init 50 = .ok (.iload_n 1, 1) := by decide +kernel
theorem dX3_init_51 : decode cX3_init 51 = .ok (.aload_n 0, 1) := by decide +kernel
theorem dX3_init_52 : decode cX3_init 52 = .ok (.getfield 11, 3) := by decide +kernel
theorem dX3_init_55 : decode cX3_init 55 = .ok (.arraylength, 1) := by decide +kernel
theorem dX3_init_56 : decode cX3_init 56 = .ok (.if_icmp .ge 22, 3) := by decide +kernel
theorem dX3_init_59 : decode cX3_init 59 = .ok (.aload_n 0, 1) := by decide +kernel
theorem dX3_init_60 : decode cX3_init 60 = .ok (.getfield 11, 3) := by decide +kernel
theorem dX3_init_63 : decode cX3_init 63 = .ok (.iload_n 1, 1) := by decide +kernel
theorem dX3_init_64 : decode cX3_init 64 = .ok (.new 9, 3) := by decide +kernel
theorem dX3_init_67 : decode cX3_init 67 = .ok (.dup, 1) := by decide +kernel
theorem dX3_init_68 : decode cX3_init 68 = .ok (.invokespecial 37, 3) := by decide +kernel
theorem dX3_init_71 : decode cX3_init 71 = .ok (.aastore, 1) := by decide +kernel
theorem dX3_init_72 : decode cX3_init 72 = .ok (.iinc 1 1, 3) := by decide +kernel
theorem dX3_init_75 : decode cX3_init 75 = .ok (.goto (-25), 3) := by decide +kernel
theorem dX3_init_78 : decode cX3_init 78 = .ok (.return_, 1) := by decide +kernel
theorem dX3_read_0 : decode cX3_read 0 = .ok (.aload_n 0, 1) := by decide +kernel
theorem dX3_read_1 : decode cX3_read 1 = .ok (.iconst 0, 1) := by decide +kernel
theorem dX3_read_2 : decode cX3_read 2 = .ok (.putfield 24, 3) := by decide +kernel
theorem dX3_read_5 : decode cX3_read 5 = .ok (.aload_n 0, 1) := by decide +kernel
theorem dX3_read_6 : decode cX3_read 6 = .ok (.iconst 0, 1) := by decide +kernel
theorem dX3_read_7 : decode cX3_read 7 = .ok (.putfield 28, 3) := by decide +kernel
theorem dX3_read_10 : decode cX3_read 10 = .ok (.aload_n 0, 1) := by decide +kernel
theorem dX3_read_11 : decode cX3_read 11 = .ok (.iconst 0, 1) := by decide +kernel
theorem dX3_read_12 : decode cX3_read 12 = .ok (.putfield 31, 3) := by decide +kernel
theorem dX3_read_15 : decode cX3_read 15 = .ok (.aload_n 0, 1) := by decide +kernel
theorem dX3_read_16 : decode cX3_read 16 = .ok (.iconst 0, 1) := by decide +kernel
theorem dX3_read_17 : decode cX3_read 17 = .ok (.putfield 34, 3) := by decide +kernel
theorem dX3_read_20 : decode cX3_read 20 = .ok (.iconst 0, 1) := by decide +kernel
theorem dX3_read_21 : decode cX3_read 21 = .ok (.istore 4, 2) := by decide +kernel
theorem dX3_read_23 : decode cX3_read 23 = .ok (.iload 4, 2) := by decide +kernel
theorem dX3_read_25 : decode cX3_read 25 = .ok (.iload_n 3, 1) := by decide +kernel
theorem dX3_read_26 : decode cX3_read 26 = .ok (.if_icmp .ge 27, 3) := by decide +kernel
theorem dX3_read_29 : decode cX3_read 29 = .ok (.aload_n 0, 1) := by decide +kernel
theorem dX3_read_30 : decode cX3_read 30 = .ok (.aload_n 1, 1) := by decide +kernel
theorem dX3_read_31 : decode cX3_read 31 = .ok (.iload_n 2, 1) := by decide +kernel
theorem dX3_read_32 : decode cX3_read 32 = .ok (.iload 4, 2) := by decide +kernel
theorem dX3_read_34 : decode cX3_read 34 = .ok (.iadd, 1) := by decide +kernel
theorem dX3_read_35 : decode cX3_read 35 = .ok (.invokevirtual 38, 3) := by decide +kernel
theorem dX3_read_38 : decode cX3_read 38 = .ok (.invokevirtual 44, 3) := by decide +kernel
theorem dX3_read_41 : decode cX3_read 41 = .ok (.ifCond .ne 6, 3) := by decide +kernel
theorem dX3_read_44 : decode cX3_read 44 = .ok (.iload 4, 2) := by decide +kernel
theorem dX3_read_46 : decode cX3_read 46 = .ok (.ireturn, 1) := by decide +kernel
theorem dX3_read_47 : decode cX3_read 47 = .ok (.iinc 4 1, 3) := by decide +kernel
theorem dX3_read_50 : decode cX3_read 50 = .ok (.goto (-27), 3) := by decide +kernel
theorem dX3_read_53 : decode cX3_read 53 = .ok (.aload_n 0, 1) := by decide +kernel
theorem dX3_read_54 : decode cX3_read 54 = .ok (.getfield 34, 3) := by decide +kernel
theorem dX3_read_57 : decode cX3_read 57 = .ok (.bipush 7, 2) := by decide +kernel
theorem dX3_read_59 : decode cX3_read 59 = .ok (.if_icmp .ne 8, 3) := by decide +kernel
theorem dX3_read_62 : decode cX3_read 62 = .ok (.bipush (-9), 2) := by decide +kernel
theorem dX3_read_64 : decode cX3_read 64 = .ok (.goto 4, 3) := by decide +kernel
theorem dX3_read_67 : decode cX3_read 67 = .ok (.iload_n 3, 1) := by decide +kernel
theorem dX3_read_68 : decode cX3_read 68 = .ok (.ireturn, 1) := by decide +kernel
theorem dX3_goesOnWith_0 : decode cX3_goesOnWith 0 = .ok (.aload_n 0, 1) := by decide +kernel
theorem dX3_goesOnWith_1 : decode cX3_goesOnWith 1 = .ok (.getfield 34, 3) := by decide +kernel
theorem dX3_goesOnWith_4 : decode cX3_goesOnWith 4 = .ok (.tableswitch 86 0 6 #[44, 50, 56, 62, 68, 74, 80], 44) := by decide +kernel
theorem dX3_goesOnWith_48 : decode cX3_goesOnWith 48 = .ok (.aload_n 0, 1) := by decide +kernel
theorem dX3_goesOnWith_49 : decode cX3_goesOnWith 49 = .ok (.iload_n 1, 1) := by decide +kernel
theorem dX3_goesOnWith_50 : decode cX3_goesOnWith 50 = .ok (.invokevirtual 48, 3) := by decide +kernel
theorem dX3_goesOnWith_53 : decode cX3_goesOnWith 53 = .ok (.ireturn, 1) := by decide +kernel
theorem dX3_goesOnWith_54 : decode cX3_goesOnWith 54 = .ok (.aload_n 0, 1) := by decide +kernel
theorem dX3_goesOnWith_55 : decode cX3_goesOnWith 55 = .ok (.iload_n 1, 1) := by decide +kernel
theorem dX3_goesOnWith_56 : decode cX3_goesOnWith 56 = .ok (.invokevirtual 51, 3) := by decide +kernel
theorem dX3_goesOnWith_59 : decode cX3_goesOnWith 59 = .ok (.ireturn, 1) := by decide +kernel
theorem dX3_goesOnWith_60 : decode cX3_goesOnWith 60 = .ok (.aload_n 0, 1) := by decide +kernel
theorem dX3_goesOnWith_61 : decode cX3_goesOnWith 61 = .ok (.iload_n 1, 1) := by decide +kernel
theorem dX3_goesOnWith_62 : decode cX3_goesOnWith 62 = .ok (.invokevirtual 54, 3) := by decide +kernel
theorem dX3_goesOnWith_65 : decode cX3_goesOnWith 65 = .ok (.ireturn, 1) := by decide +kernel
theorem dX3_goesOnWith_66 : decode cX3_goesOnWith 66 = .ok (.aload_n 0, 1) := by decide +kernel
theorem dX3_goesOnWith_67 : decode cX3_goesOnWith 67 = .ok (.iload_n 1, 1) := by decide +kernel
theorem dX3_goesOnWith_68 : decode cX3_goesOnWith 68 = .ok (.invokevirtual 57, 3) := by decide +kernel
theorem dX3_goesOnWith_71 : decode cX3_goesOnWith 71 = .ok (.ireturn, 1) := by decide +kernel
theorem dX3_goesOnWith_72 : decode cX3_goesOnWith 72 = .ok (.aload_n 0, 1) := by decide +kernel
theorem dX3_goesOnWith_73 : decode cX3_goesOnWith 73 = .ok (.iload_n 1, 1) := by decide +kernel
theorem dX3_goesOnWith_74 : decode cX3_goesOnWith 74 = .ok (.invokevirtual 60, 3) := by decide +kernel
theorem dX3_goesOnWith_77 : decode cX3_goesOnWith 77 = .ok (.ireturn, 1) := by decide +kernel
theorem dX3_goesOnWith_78 : decode cX3_goesOnWith 78 = .ok (.aload_n 0, 1) := by decide +kernel
theorem dX3_goesOnWith_79 : decode cX3_goesOnWith 79 = .ok (.iload_n 1, 1) := by decide +kernel
theorem dX3_goesOnWith_80 : decode cX3_goesOnWith 80 = .ok (.invokevirtual 63, 3) := by decide +kernel
theorem dX3_goesOnWith_83 : decode cX3_goesOnWith 83 = .ok (.ireturn, 1) := by decide +kernel
theorem dX3_goesOnWith_84 : decode cX3_goesOnWith 84 = .ok (.aload_n 0, 1) := by decide +kernel
theorem dX3_goesOnWith_85 : decode cX3_goesOnWith 85 = .ok (.iload_n 1, 1) := by decide +kernel
theorem dX3_goesOnWith_86 : decode cX3_goesOnWith 86 = .ok (.invokevirtual 66, 3) := by decide +kernel
theorem dX3_goesOnWith_89 : decode cX3_goesOnWith 89 = .ok (.ireturn, 1) := by decide +kernel
theorem dX3_goesOnWith_90 : decode cX3_goesOnWith 90 = .ok (.iconst 0, 1) := by decide +kernel
theorem dX3_goesOnWith_91 : decode cX3_goesOnWith 91 = .ok (.ireturn, 1) := by decide +kernel
theorem dX3_readZ_0 : decode cX3_readZ 0 = .ok (.iload_n 1, 1) := by decide +kernel
theorem dX3_readZ_1 : decode cX3_readZ 1 = .ok (.bipush 122, 2) := by decide +kernel
theorem dX3_readZ_3 : decode cX3_readZ 3 = .ok (.if_icmp .eq 5, 3) := by decide +kernel
theorem dX3_readZ_6 : decode cX3_readZ 6 = .ok (.iconst 0, 1) := by decide +kernel
theorem dX3_readZ_7 : decode cX3_readZ 7 = .ok (.ireturn, 1) := by decide +kernel
theorem dX3_readZ_8 : decode cX3_readZ 8 = .ok (.aload_n 0, 1) := by decide +kernel
theorem dX3_readZ_9 : decode cX3_readZ 9 = .ok (.iconst 1, 1) := by decide +kernel
theorem dX3_readZ_10 : decode cX3_readZ 10 = .ok (.putfield 34, 3) := by decide +kernel
theorem dX3_readZ_13 : decode cX3_readZ 13 = .ok (.iconst 1, 1) := by decide +kernel
theorem dX3_readZ_14 : decode cX3_readZ 14 = .ok (.ireturn, 1) := by decide +kernel
theorem dX3_readPlaces_0 : decode cX3_readPlaces 0 = .ok (.iload_n 1, 1) := by decide +kernel
theorem dX3_readPlaces_1 : decode cX3_readPlaces 1 = .ok (.invokestatic 69, 3) := by decide +kernel
theorem dX3_readPlaces_4 : decode cX3_readPlaces 4 = .ok (.istore_n 2, 1) := by decide +kernel
theorem dX3_readPlaces_5 : decode cX3_readPlaces 5 = .ok (.iload_n 2, 1) := by decide +kernel
theorem dX3_readPlaces_6 : decode cX3_readPlaces 6 = .ok (.iconst 3, 1) := by decide +kernel
theorem dX3_readPlaces_7 : decode cX3_readPlaces 7 = .ok (.if_icmp .ge 5, 3) := by decide +kernel
theorem dX3_readPlaces_10 : decode cX3_readPlaces 10 = .ok (.iconst 0, 1) := by decide +kernel
theorem dX3_readPlaces_11 : decode cX3_readPlaces 11 = .ok (.ireturn, 1) := by decide +kernel
theorem dX3_readPlaces_12 : decode cX3_readPlaces 12 = .ok (.aload_n 0, 1) := by decide +kernel
theorem dX3_readPlaces_13 : decode cX3_readPlaces 13 = .ok (.iload_n 2, 1) := by decide +kernel
theorem dX3_readPlaces_14 : decode cX3_readPlaces 14 = .ok (.putfield 28, 3) := by decide +kernel
theorem dX3_readPlaces_17 : decode cX3_readPlaces 17 = .ok (.aload_n 0, 1) := by decide +kernel
theorem dX3_readPlaces_18 : decode cX3_readPlaces 18 = .ok (.iconst 2, 1) := by decide +kernel
theorem dX3_readPlaces_19 : decode cX3_readPlaces 19 = .ok (.putfield 34, 3) := by decide +kernel
theorem dX3_readPlaces_22 : decode cX3_readPlaces 22 = .ok (.iconst 1, 1) := by decide +kernel
theorem dX3_readPlaces_23 : decode cX3_readPlaces 23 = .ok (.ireturn, 1) := by decide +kernel
theorem dX3_readBreak_0 : decode cX3_readBreak 0 = .ok (.iload_n 1, 1) := by decide +kernel
theorem dX3_readBreak_1 : decode cX3_readBreak 1 = .ok (.bipush 59, 2) := by decide +kernel
theorem dX3_readBreak_3 : decode cX3_readBreak 3 = .ok (.if_icmp .ne 32, 3) := by decide +kernel
theorem dX3_readBreak_6 : decode cX3_readBreak 6 = .ok (.aload_n 0, 1) := by decide +kernel
theorem dX3_readBreak_7 : decode cX3_readBreak 7 = .ok (.getfield 24, 3) := by decide +kernel
theorem dX3_readBreak_10 : decode cX3_readBreak 10 = .ok (.aload_n 0, 1) := by decide +kernel
theorem dX3_readBreak_11 : decode cX3_readBreak 11 = .ok (.getfield 11, 3) := by decide +kernel
theorem dX3_readBreak_14 : decode cX3_readBreak 14 = .ok (.arraylength, 1) := by decide +kernel
theorem dX3_readBreak_15 : decode cX3_readBreak 15 = .ok (.if_icmp .ge 20, 3) := by decide +kernel
theorem dX3_readBreak_18 : decode cX3_readBreak 18 = .ok (.aload_n 0, 1) := by decide +kernel
theorem dX3_readBreak_19 : decode cX3_readBreak 19 = .ok (.dup, 1) := by decide +kernel
theorem dX3_readBreak_20 : decode cX3_readBreak 20 = .ok (.getfield 24, 3) := by decide +kernel
theorem dX3_readBreak_23 : decode cX3_readBreak 23 = .ok (.iconst 1, 1) := by decide +kernel
theorem dX3_readBreak_24 : decode cX3_readBreak 24 = .ok (.iadd, 1) := by decide +kernel
theorem dX3_readBreak_25 : decode cX3_readBreak 25 = .ok (.putfield 24, 3) := by decide +kernel
theorem dX3_readBreak_28 : decode cX3_readBreak 28 = .ok (.aload_n 0, 1) := by decide +kernel
theorem dX3_readBreak_29 : decode cX3_readBreak 29 = .ok (.iconst 3, 1) := by decide +kernel
theorem dX3_readBreak_30 : decode cX3_readBreak 30 = .ok (.putfield 34, 3) := by decide +kernel
theorem dX3_readBreak_33 : decode cX3_readBreak 33 = .ok (.iconst 1, 1) := by decide +kernel
theorem dX3_readBreak_34 : decode cX3_readBreak 34 = .ok (.ireturn, 1) := by decide +kernel
theorem dX3_readBreak_35 : decode cX3_readBreak 35 = .ok (.iload_n 1, 1) := by decide +kernel
theorem dX3_readBreak_36 : decode cX3_readBreak 36 = .ok (.bipush 47, 2) := by decide +kernel
theorem dX3_readBreak_38 : decode cX3_readBreak 38 = .ok (.if_icmp .ne 18, 3) := by decide +kernel
theorem dX3_readBreak_41 : decode cX3_readBreak 41 = .ok (.aload_n 0, 1) := by decide +kernel
theorem dX3_readBreak_42 : decode cX3_readBreak 42 = .ok (.getfield 24, 3) := by decide +kernel
theorem dX3_readBreak_45 : decode cX3_readBreak 45 = .ok (.ifCond .le 11, 3) := by decide +kernel
theorem dX3_readBreak_48 : decode cX3_readBreak 48 = .ok (.aload_n 0, 1) := by decide +kernel
theorem dX3_readBreak_49 : decode cX3_readBreak 49 = .ok (.bipush 6, 2) := by decide +kernel
theorem dX3_readBreak_51 : decode cX3_readBreak 51 = .ok (.putfield 34, 3) := by decide +kernel
theorem dX3_readBreak_54 : decode cX3_readBreak 54 = .ok (.iconst 1, 1) := by decide +kernel
theorem dX3_readBreak_55 : decode cX3_readBreak 55 = .ok (.ireturn, 1) := by decide +kernel
theorem dX3_readBreak_56 : decode cX3_readBreak 56 = .ok (.iconst 0, 1) := by decide +kernel
theorem dX3_readBreak_57 : decode cX3_readBreak 57 = .ok (.ireturn, 1) := by decide +kernel
theorem dX3_readKind_0 : decode cX3_readKind 0 = .ok (.iload_n 1, 1) := by decide +kernel
theorem dX3_readKind_1 : decode cX3_readKind 1 = .ok (.bipush 115, 2) := by decide +kernel
theorem dX3_readKind_3 : decode cX3_readKind 3 = .ok (.if_icmp .ne 7, 3) := by decide +kernel
theorem dX3_readKind_6 : decode cX3_readKind 6 = .ok (.iconst 0, 1) := by decide +kernel
theorem dX3_readKind_7 : decode cX3_readKind 7 = .ok (.goto 25, 3) := by decide +kernel
theorem dX3_readKind_10 : decode cX3_readKind 10 = .ok (.iload_n 1, 1) := by decide +kernel
theorem dX3_readKind_11 : decode cX3_readKind 11 = .ok (.bipush 109, 2) := by decide +kernel
theorem dX3_readKind_13 : decode cX3_readKind 13 = .ok (.if_icmp .ne 7, 3) := by decide +kernel
theorem dX3_readKind_16 : decode cX3_readKind 16 = .ok (.iconst 1, 1) := by decide +kernel
theorem dX3_readKind_17 : decode cX3_readKind 17 = .ok (.goto 15, 3) := by decide +kernel
theorem dX3_readKind_20 : decode cX3_readKind 20 = .ok (.iload_n 1, 1) := by decide +kernel
theorem dX3_readKind_21 : decode cX3_readKind 21 = .ok (.bipush 114, 2) := by decide +kernel
theorem dX3_readKind_23 : decode cX3_readKind 23 = .ok (.if_icmp .ne 7, 3) := by decide +kernel
theorem dX3_readKind_26 : decode cX3_readKind 26 = .ok (.iconst 2, 1) := by decide +kernel
theorem dX3_readKind_27 : decode cX3_readKind 27 = .ok (.goto 5, 3) := by decide +kernel
theorem dX3_readKind_30 : decode cX3_readKind 30 = .ok (.bipush (-9), 2) := by decide +kernel
theorem dX3_readKind_32 : decode cX3_readKind 32 = .ok (.istore_n 2, 1) := by decide +kernel
theorem dX3_readKind_33 : decode cX3_readKind 33 = .ok (.aload_n 0, 1) := by decide +kernel
theorem dX3_readKind_34 : decode cX3_readKind 34 = .ok (.aload_n 0, 1) := by decide +kernel
theorem dX3_readKind_35 : decode cX3_readKind 35 = .ok (.getfield 24, 3) := by decide +kernel
theorem dX3_readKind_38 : decode cX3_readKind 38 = .ok (.iconst 1, 1) := by decide +kernel
theorem dX3_readKind_39 : decode cX3_readKind 39 = .ok (.isub, 1) := by decide +kernel
theorem dX3_readKind_40 : decode cX3_readKind 40 = .ok (.invokevirtual 72, 3) := by decide +kernel
theorem dX3_readKind_43 : decode cX3_readKind 43 = .ok (.astore_n 3, 1) := by decide +kernel
theorem dX3_readKind_44 : decode cX3_readKind 44 = .ok (.iload_n 2, 1) := by decide +kernel
theorem dX3_readKind_45 : decode cX3_readKind 45 = .ok (.bipush (-9), 2) := by decide +kernel
theorem dX3_readKind_47 : decode cX3_readKind 47 = .ok (.if_icmp .eq 7, 3) := by decide +kernel
theorem dX3_readKind_50 : decode cX3_readKind 50 = .ok (.aload_n 3, 1) := by decide +kernel
theorem dX3_readKind_51 : decode cX3_readKind 51 = .ok (.ifnonnull 5, 3) := by decide +kernel
theorem dX3_readKind_54 : decode cX3_readKind 54 = .ok (.iconst 0, 1) := by decide +kernel
theorem dX3_readKind_55 : decode cX3_readKind 55 = .ok (.ireturn, 1) := by decide +kernel
theorem dX3_readKind_56 : decode cX3_readKind 56 = .ok (.aload_n 3, 1) := by decide +kernel
theorem dX3_readKind_57 : decode cX3_readKind 57 = .ok (.iload_n 2, 1) := by decide +kernel
theorem dX3_readKind_58 : decode cX3_readKind 58 = .ok (.putfield 76, 3) := by decide +kernel
theorem dX3_readKind_61 : decode cX3_readKind 61 = .ok (.aload_n 0, 1) := by decide +kernel
theorem dX3_readKind_62 : decode cX3_readKind 62 = .ok (.iconst 4, 1) := by decide +kernel
theorem dX3_readKind_63 : decode cX3_readKind 63 = .ok (.putfield 34, 3) := by decide +kernel
theorem dX3_readKind_66 : decode cX3_readKind 66 = .ok (.iconst 1, 1) := by decide +kernel
theorem dX3_readKind_67 : decode cX3_readKind 67 = .ok (.ireturn, 1) := by decide +kernel
theorem dX3_readStart_0 : decode cX3_readStart 0 = .ok (.iload_n 1, 1) := by decide +kernel
theorem dX3_readStart_1 : decode cX3_readStart 1 = .ok (.invokestatic 69, 3) := by decide +kernel
theorem dX3_readStart_4 : decode cX3_readStart 4 = .ok (.istore_n 2, 1) := by decide +kernel
theorem dX3_readStart_5 : decode cX3_readStart 5 = .ok (.aload_n 0, 1) := by decide +kernel
theorem dX3_readStart_6 : decode cX3_readStart 6 = .ok (.aload_n 0, 1) := by decide +kernel
theorem dX3_readStart_7 : decode cX3_readStart 7 = .ok (.getfield 24, 3) := by decide +kernel
theorem dX3_readStart_10 : decode cX3_readStart 10 = .ok (.iconst 1, 1) := by decide +kernel
theorem dX3_readStart_11 : decode cX3_readStart 11 = .ok (.isub, 1) := by decide +kernel
theorem dX3_readStart_12 : decode cX3_readStart 12 = .ok (.invokevirtual 72, 3) := by decide +kernel
theorem dX3_readStart_15 : decode cX3_readStart 15 = .ok (.astore_n 3, 1) := by decide +kernel
theorem dX3_readStart_16 : decode cX3_readStart 16 = .ok (.aload_n 0, 1) := by decide +kernel
theorem dX3_readStart_17 : decode cX3_readStart 17 = .ok (.iload_n 2, 1) := by decide +kernel
theorem dX3_readStart_18 : decode cX3_readStart 18 = .ok (.invokevirtual 79, 3) := by decide +kernel
theorem dX3_readStart_21 : decode cX3_readStart 21 = .ok (.ifCond .eq 7, 3) := by decide +kernel
theorem dX3_readStart_24 : decode cX3_readStart 24 = .ok (.aload_n 3, 1) := by decide +kernel
theorem dX3_readStart_25 : decode cX3_readStart 25 = .ok (.ifnonnull 5, 3) := by decide +kernel
theorem dX3_readStart_28 : decode cX3_readStart 28 = .ok (.iconst 0, 1) := by decide +kernel
theorem dX3_readStart_29 : decode cX3_readStart 29 = .ok (.ireturn, 1) := by decide +kernel
theorem dX3_readStart_30 : decode cX3_readStart 30 = .ok (.aload_n 3, 1) := by decide +kernel
theorem dX3_readStart_31 : decode cX3_readStart 31 = .ok (.iload_n 2, 1) := by decide +kernel
theorem dX3_readStart_32 : decode cX3_readStart 32 = .ok (.putfield 82, 3) := by decide +kernel
theorem dX3_readStart_35 : decode cX3_readStart 35 = .ok (.aload_n 0, 1) := by decide +kernel
theorem dX3_readStart_36 : decode cX3_readStart 36 = .ok (.iconst 5, 1) := by decide +kernel
theorem dX3_readStart_37 : decode cX3_readStart 37 = .ok (.putfield 34, 3) := by decide +kernel
theorem dX3_readStart_40 : decode cX3_readStart 40 = .ok (.iconst 1, 1) := by decide +kernel
theorem dX3_readStart_41 : decode cX3_readStart 41 = .ok (.ireturn, 1) := by decide +kernel
theorem dX3_readStride_0 : decode cX3_readStride 0 = .ok (.iload_n 1, 1) := by decide +kernel
theorem dX3_readStride_1 : decode cX3_readStride 1 = .ok (.invokestatic 69, 3) := by decide +kernel
theorem dX3_readStride_4 : decode cX3_readStride 4 = .ok (.istore_n 2, 1) := by decide +kernel
theorem dX3_readStride_5 : decode cX3_readStride 5 = .ok (.aload_n 0, 1) := by decide +kernel
theorem dX3_readStride_6 : decode cX3_readStride 6 = .ok (.aload_n 0, 1) := by decide +kernel
theorem dX3_readStride_7 : decode cX3_readStride 7 = .ok (.getfield 24, 3) := by decide +kernel
theorem dX3_readStride_10 : decode cX3_readStride 10 = .ok (.iconst 1, 1) := by decide +kernel
theorem dX3_readStride_11 : decode cX3_readStride 11 = .ok (.isub, 1) := by decide +kernel
theorem dX3_readStride_12 : decode cX3_readStride 12 = .ok (.invokevirtual 72, 3) := by decide +kernel
theorem dX3_readStride_15 : decode cX3_readStride 15 = .ok (.astore_n 3, 1) := by decide +kernel
theorem dX3_readStride_16 : decode cX3_readStride 16 = .ok (.iload_n 2, 1) := by decide +kernel
theorem dX3_readStride_17 : decode cX3_readStride 17 = .ok (.ifCond .lt 12, 3) := by decide +kernel
theorem dX3_readStride_20 : decode cX3_readStride 20 = .ok (.iload_n 2, 1) := by decide +kernel
theorem dX3_readStride_21 : decode cX3_readStride 21 = .ok (.iconst 3, 1) := by decide +kernel
theorem dX3_readStride_22 : decode cX3_readStride 22 = .ok (.if_icmp .gt 7, 3) := by decide +kernel
theorem dX3_readStride_25 : decode cX3_readStride 25 = .ok (.aload_n 3, 1) := by decide +kernel
theorem dX3_readStride_26 : decode cX3_readStride 26 = .ok (.ifnonnull 5, 3) := by decide +kernel
theorem dX3_readStride_29 : decode cX3_readStride 29 = .ok (.iconst 0, 1) := by decide +kernel
theorem dX3_readStride_30 : decode cX3_readStride 30 = .ok (.ireturn, 1) := by decide +kernel
theorem dX3_readStride_31 : decode cX3_readStride 31 = .ok (.aload_n 3, 1) := by decide +kernel
theorem dX3_readStride_32 : decode cX3_readStride 32 = .ok (.iload_n 2, 1) := by decide +kernel
theorem dX3_readStride_33 : decode cX3_readStride 33 = .ok (.putfield 85, 3) := by decide +kernel
theorem dX3_readStride_36 : decode cX3_readStride 36 = .ok (.aload_n 0, 1) := by decide +kernel
theorem dX3_readStride_37 : decode cX3_readStride 37 = .ok (.iconst 2, 1) := by decide +kernel
theorem dX3_readStride_38 : decode cX3_readStride 38 = .ok (.putfield 34, 3) := by decide +kernel
theorem dX3_readStride_41 : decode cX3_readStride 41 = .ok (.iconst 1, 1) := by decide +kernel
theorem dX3_readStride_42 : decode cX3_readStride 42 = .ok (.ireturn, 1) := by decide +kernel
theorem dX3_readGoods_0 : decode cX3_readGoods 0 = .ok (.iload_n 1, 1) := by decide +kernel
theorem dX3_readGoods_1 : decode cX3_readGoods 1 = .ok (.invokestatic 69, 3) := by decide +kernel
theorem dX3_readGoods_4 : decode cX3_readGoods 4 = .ok (.istore_n 2, 1) := by decide +kernel
theorem dX3_readGoods_5 : decode cX3_readGoods 5 = .ok (.iload_n 2, 1) := by decide +kernel
theorem dX3_readGoods_6 : decode cX3_readGoods 6 = .ok (.ifCond .ge 5, 3) := by decide +kernel
theorem dX3_readGoods_9 : decode cX3_readGoods 9 = .ok (.iconst 0, 1) := by decide +kernel
theorem dX3_readGoods_10 : decode cX3_readGoods 10 = .ok (.ireturn, 1) := by decide +kernel
theorem dX3_readGoods_11 : decode cX3_readGoods 11 = .ok (.aload_n 0, 1) := by decide +kernel
theorem dX3_readGoods_12 : decode cX3_readGoods 12 = .ok (.aload_n 0, 1) := by decide +kernel
theorem dX3_readGoods_13 : decode cX3_readGoods 13 = .ok (.getfield 31, 3) := by decide +kernel
theorem dX3_readGoods_16 : decode cX3_readGoods 16 = .ok (.iload_n 2, 1) := by decide +kernel
theorem dX3_readGoods_17 : decode cX3_readGoods 17 = .ok (.invokevirtual 88, 3) := by decide +kernel
theorem dX3_readGoods_20 : decode cX3_readGoods 20 = .ok (.aload_n 0, 1) := by decide +kernel
theorem dX3_readGoods_21 : decode cX3_readGoods 21 = .ok (.dup, 1) := by decide +kernel
theorem dX3_readGoods_22 : decode cX3_readGoods 22 = .ok (.getfield 31, 3) := by decide +kernel
theorem dX3_readGoods_25 : decode cX3_readGoods 25 = .ok (.iconst 1, 1) := by decide +kernel
theorem dX3_readGoods_26 : decode cX3_readGoods 26 = .ok (.iadd, 1) := by decide +kernel
theorem dX3_readGoods_27 : decode cX3_readGoods 27 = .ok (.putfield 31, 3) := by decide +kernel
theorem dX3_readGoods_30 : decode cX3_readGoods 30 = .ok (.aload_n 0, 1) := by decide +kernel
theorem dX3_readGoods_31 : decode cX3_readGoods 31 = .ok (.aload_n 0, 1) := by decide +kernel
theorem dX3_readGoods_32 : decode cX3_readGoods 32 = .ok (.getfield 31, 3) := by decide +kernel
theorem dX3_readGoods_35 : decode cX3_readGoods 35 = .ok (.aload_n 0, 1) := by decide +kernel
theorem dX3_readGoods_36 : decode cX3_readGoods 36 = .ok (.getfield 28, 3) := by decide +kernel
theorem dX3_readGoods_39 : decode cX3_readGoods 39 = .ok (.if_icmp .ge 8, 3) := by decide +kernel
theorem dX3_readGoods_42 : decode cX3_readGoods 42 = .ok (.bipush 6, 2) := by decide +kernel
theorem dX3_readGoods_44 : decode cX3_readGoods 44 = .ok (.goto 5, 3) := by decide +kernel
theorem dX3_readGoods_47 : decode cX3_readGoods 47 = .ok (.bipush 7, 2) := by decide +kernel
theorem dX3_readGoods_49 : decode cX3_readGoods 49 = .ok (.putfield 34, 3) := by decide +kernel
theorem dX3_readGoods_52 : decode cX3_readGoods 52 = .ok (.iconst 1, 1) := by decide +kernel
theorem dX3_readGoods_53 : decode cX3_readGoods 53 = .ok (.ireturn, 1) := by decide +kernel
theorem dX3_digit_0 : decode cX3_digit 0 = .ok (.iload_n 0, 1) := by decide +kernel
theorem dX3_digit_1 : decode cX3_digit 1 = .ok (.bipush 48, 2) := by decide +kernel
theorem dX3_digit_3 : decode cX3_digit 3 = .ok (.if_icmp .lt 16, 3) := by decide +kernel
theorem dX3_digit_6 : decode cX3_digit 6 = .ok (.iload_n 0, 1) := by decide +kernel
theorem dX3_digit_7 : decode cX3_digit 7 = .ok (.bipush 57, 2) := by decide +kernel
theorem dX3_digit_9 : decode cX3_digit 9 = .ok (.if_icmp .gt 10, 3) := by decide +kernel
theorem dX3_digit_12 : decode cX3_digit 12 = .ok (.iload_n 0, 1) := by decide +kernel
theorem dX3_digit_13 : decode cX3_digit 13 = .ok (.bipush 48, 2) := by decide +kernel
theorem dX3_digit_15 : decode cX3_digit 15 = .ok (.isub, 1) := by decide +kernel
theorem dX3_digit_16 : decode cX3_digit 16 = .ok (.goto 5, 3) := by decide +kernel
theorem dX3_digit_19 : decode cX3_digit 19 = .ok (.bipush (-9), 2) := by decide +kernel
theorem dX3_digit_21 : decode cX3_digit 21 = .ok (.ireturn, 1) := by decide +kernel
theorem dX3_isThere_0 : decode cX3_isThere 0 = .ok (.aload_n 0, 1) := by decide +kernel
theorem dX3_isThere_1 : decode cX3_isThere 1 = .ok (.getfield 28, 3) := by decide +kernel
theorem dX3_isThere_4 : decode cX3_isThere 4 = .ok (.ifCond .le 7, 3) := by decide +kernel
theorem dX3_isThere_7 : decode cX3_isThere 7 = .ok (.iconst 1, 1) := by decide +kernel
theorem dX3_isThere_8 : decode cX3_isThere 8 = .ok (.goto 4, 3) := by decide +kernel
theorem dX3_isThere_11 : decode cX3_isThere 11 = .ok (.iconst 0, 1) := by decide +kernel
theorem dX3_isThere_12 : decode cX3_isThere 12 = .ok (.ireturn, 1) := by decide +kernel
theorem dX3_placeCount_0 : decode cX3_placeCount 0 = .ok (.aload_n 0, 1) := by decide +kernel
theorem dX3_placeCount_1 : decode cX3_placeCount 1 = .ok (.getfield 28, 3) := by decide +kernel
theorem dX3_placeCount_4 : decode cX3_placeCount 4 = .ok (.ireturn, 1) := by decide +kernel
theorem dX3_sleeperCount_0 : decode cX3_sleeperCount 0 = .ok (.aload_n 0, 1) := by decide +kernel
theorem dX3_sleeperCount_1 : decode cX3_sleeperCount 1 = .ok (.getfield 24, 3) := by decide +kernel
theorem dX3_sleeperCount_4 : decode cX3_sleeperCount 4 = .ok (.ireturn, 1) := by decide +kernel
theorem dX3_hasPlace_0 : decode cX3_hasPlace 0 = .ok (.iload_n 1, 1) := by decide +kernel
theorem dX3_hasPlace_1 : decode cX3_hasPlace 1 = .ok (.ifCond .lt 24, 3) := by decide +kernel
theorem dX3_hasPlace_4 : decode cX3_hasPlace 4 = .ok (.iload_n 1, 1) := by decide +kernel
theorem dX3_hasPlace_5 : decode cX3_hasPlace 5 = .ok (.aload_n 0, 1) := by decide +kernel
theorem dX3_hasPlace_6 : decode cX3_hasPlace 6 = .ok (.getfield 28, 3) := by decide +kernel
theorem dX3_hasPlace_9 : decode cX3_hasPlace 9 = .ok (.if_icmp .ge 16, 3) := by decide +kernel
theorem dX3_hasPlace_12 : decode cX3_hasPlace 12 = .ok (.iload_n 1, 1) := by decide +kernel
theorem dX3_hasPlace_13 : decode cX3_hasPlace 13 = .ok (.aload_n 0, 1) := by decide +kernel
theorem dX3_hasPlace_14 : decode cX3_hasPlace 14 = .ok (.getfield 17, 3) := by decide +kernel
theorem dX3_hasPlace_17 : decode cX3_hasPlace 17 = .ok (.arraylength, 1) := by decide +kernel
theorem dX3_hasPlace_18 : decode cX3_hasPlace 18 = .ok (.if_icmp .ge 7, 3) := by decide +kernel
theorem dX3_hasPlace_21 : decode cX3_hasPlace 21 = .ok (.iconst 1, 1) := by decide +kernel
theorem dX3_hasPlace_22 : decode cX3_hasPlace 22 = .ok (.goto 4, 3) := by decide +kernel
theorem dX3_hasPlace_25 : decode cX3_hasPlace 25 = .ok (.iconst 0, 1) := by decide +kernel
theorem dX3_hasPlace_26 : decode cX3_hasPlace 26 = .ok (.ireturn, 1) := by decide +kernel
theorem dX3_hasSleeper_0 : decode cX3_hasSleeper 0 = .ok (.iload_n 1, 1) := by decide +kernel
theorem dX3_hasSleeper_1 : decode cX3_hasSleeper 1 = .ok (.ifCond .lt 24, 3) := by decide +kernel
theorem dX3_hasSleeper_4 : decode cX3_hasSleeper 4 = .ok (.iload_n 1, 1) := by decide +kernel
theorem dX3_hasSleeper_5 : decode cX3_hasSleeper 5 = .ok (.aload_n 0, 1) := by decide +kernel
theorem dX3_hasSleeper_6 : decode cX3_hasSleeper 6 = .ok (.getfield 24, 3) := by decide +kernel
theorem dX3_hasSleeper_9 : decode cX3_hasSleeper 9 = .ok (.if_icmp .ge 16, 3) := by decide +kernel
theorem dX3_hasSleeper_12 : decode cX3_hasSleeper 12 = .ok (.iload_n 1, 1) := by decide +kernel
theorem dX3_hasSleeper_13 : decode cX3_hasSleeper 13 = .ok (.aload_n 0, 1) := by decide +kernel
theorem dX3_hasSleeper_14 : decode cX3_hasSleeper 14 = .ok (.getfield 11, 3) := by decide +kernel
theorem dX3_hasSleeper_17 : decode cX3_hasSleeper 17 = .ok (.arraylength, 1) := by decide +kernel
theorem dX3_hasSleeper_18 : decode cX3_hasSleeper 18 = .ok (.if_icmp .ge 7, 3) := by decide +kernel
theorem dX3_hasSleeper_21 : decode cX3_hasSleeper 21 = .ok (.iconst 1, 1) := by decide +kernel
theorem dX3_hasSleeper_22 : decode cX3_hasSleeper 22 = .ok (.goto 4, 3) := by decide +kernel
theorem dX3_hasSleeper_25 : decode cX3_hasSleeper 25 = .ok (.iconst 0, 1) := by decide +kernel
theorem dX3_hasSleeper_26 : decode cX3_hasSleeper 26 = .ok (.ireturn, 1) := by decide +kernel
theorem dX3_sleeperOrNull_0 : decode cX3_sleeperOrNull 0 = .ok (.aload_n 0, 1) := by decide +kernel
theorem dX3_sleeperOrNull_1 : decode cX3_sleeperOrNull 1 = .ok (.iload_n 1, 1) := by decide +kernel
theorem dX3_sleeperOrNull_2 : decode cX3_sleeperOrNull 2 = .ok (.invokevirtual 92, 3) := by decide +kernel
theorem dX3_sleeperOrNull_5 : decode cX3_sleeperOrNull 5 = .ok (.ifCond .eq 12, 3) := by decide +kernel
theorem dX3_sleeperOrNull_8 : decode cX3_sleeperOrNull 8 = .ok (.aload_n 0, 1) := by decide +kernel
theorem dX3_sleeperOrNull_9 : decode cX3_sleeperOrNull 9 = .ok (.getfield 11, 3) := by decide +kernel
theorem dX3_sleeperOrNull_12 : decode cX3_sleeperOrNull 12 = .ok (.iload_n 1, 1) := by decide +kernel
theorem dX3_sleeperOrNull_13 : decode cX3_sleeperOrNull 13 = .ok (.aaload, 1) := by decide +kernel
theorem dX3_sleeperOrNull_14 : decode cX3_sleeperOrNull 14 = .ok (.goto 4, 3) := by decide +kernel
theorem dX3_sleeperOrNull_17 : decode cX3_sleeperOrNull 17 = .ok (.aconst_null, 1) := by decide +kernel
theorem dX3_sleeperOrNull_18 : decode cX3_sleeperOrNull 18 = .ok (.areturn, 1) := by decide +kernel
theorem dX3_goodsAt_0 : decode cX3_goodsAt 0 = .ok (.aload_n 0, 1) := by decide +kernel
theorem dX3_goodsAt_1 : decode cX3_goodsAt 1 = .ok (.iload_n 1, 1) := by decide +kernel
theorem dX3_goodsAt_2 : decode cX3_goodsAt 2 = .ok (.invokevirtual 79, 3) := by decide +kernel
theorem dX3_goodsAt_5 : decode cX3_goodsAt 5 = .ok (.ifCond .eq 12, 3) := by decide +kernel
theorem dX3_goodsAt_8 : decode cX3_goodsAt 8 = .ok (.aload_n 0, 1) := by decide +kernel
theorem dX3_goodsAt_9 : decode cX3_goodsAt 9 = .ok (.getfield 17, 3) := by decide +kernel
theorem dX3_goodsAt_12 : decode cX3_goodsAt 12 = .ok (.iload_n 1, 1) := by decide +kernel
theorem dX3_goodsAt_13 : decode cX3_goodsAt 13 = .ok (.iaload, 1) := by decide +kernel
theorem dX3_goodsAt_14 : decode cX3_goodsAt 14 = .ok (.goto 4, 3) := by decide +kernel
theorem dX3_goodsAt_17 : decode cX3_goodsAt 17 = .ok (.iconst 0, 1) := by decide +kernel
theorem dX3_goodsAt_18 : decode cX3_goodsAt 18 = .ok (.ireturn, 1) := by decide +kernel
theorem dX3_setGoods_0 : decode cX3_setGoods 0 = .ok (.aload_n 0, 1) := by decide +kernel
theorem dX3_setGoods_1 : decode cX3_setGoods 1 = .ok (.iload_n 1, 1) := by decide +kernel
theorem dX3_setGoods_2 : decode cX3_setGoods 2 = .ok (.invokevirtual 79, 3) := by decide +kernel
theorem dX3_setGoods_5 : decode cX3_setGoods 5 = .ok (.ifCond .eq 10, 3) := by decide +kernel
theorem dX3_setGoods_8 : decode cX3_setGoods 8 = .ok (.aload_n 0, 1) := by decide +kernel
theorem dX3_setGoods_9 : decode cX3_setGoods 9 = .ok (.getfield 17, 3) := by decide +kernel
theorem dX3_setGoods_12 : decode cX3_setGoods 12 = .ok (.iload_n 1, 1) := by decide +kernel
theorem dX3_setGoods_13 : decode cX3_setGoods 13 = .ok (.iload_n 2, 1) := by decide +kernel
theorem dX3_setGoods_14 : decode cX3_setGoods 14 = .ok (.iastore, 1) := by decide +kernel
theorem dX3_setGoods_15 : decode cX3_setGoods 15 = .ok (.return_, 1) := by decide +kernel
theorem dX3_goodsOfAll_0 : decode cX3_goodsOfAll 0 = .ok (.iconst 0, 1) := by decide +kernel
theorem dX3_goodsOfAll_1 : decode cX3_goodsOfAll 1 = .ok (.istore_n 1, 1) := by decide +kernel
theorem dX3_goodsOfAll_2 : decode cX3_goodsOfAll 2 = .ok (.iconst 0, 1) := by decide +kernel
theorem dX3_goodsOfAll_3 : decode cX3_goodsOfAll 3 = .ok (.istore_n 2, 1) := by decide +kernel
theorem dX3_goodsOfAll_4 : decode cX3_goodsOfAll 4 = .ok (.iload_n 2, 1) := by decide +kernel
theorem dX3_goodsOfAll_5 : decode cX3_goodsOfAll 5 = .ok (.aload_n 0, 1) := by decide +kernel
theorem dX3_goodsOfAll_6 : decode cX3_goodsOfAll 6 = .ok (.getfield 28, 3) := by decide +kernel
theorem dX3_goodsOfAll_9 : decode cX3_goodsOfAll 9 = .ok (.if_icmp .ge 17, 3) := by decide +kernel
theorem dX3_goodsOfAll_12 : decode cX3_goodsOfAll 12 = .ok (.iload_n 1, 1) := by decide +kernel
theorem dX3_goodsOfAll_13 : decode cX3_goodsOfAll 13 = .ok (.aload_n 0, 1) := by decide +kernel
theorem dX3_goodsOfAll_14 : decode cX3_goodsOfAll 14 = .ok (.iload_n 2, 1) := by decide +kernel
theorem dX3_goodsOfAll_15 : decode cX3_goodsOfAll 15 = .ok (.invokevirtual 95, 3) := by decide +kernel
theorem dX3_goodsOfAll_18 : decode cX3_goodsOfAll 18 = .ok (.iadd, 1) := by decide +kernel
theorem dX3_goodsOfAll_19 : decode cX3_goodsOfAll 19 = .ok (.istore_n 1, 1) := by decide +kernel
theorem dX3_goodsOfAll_20 : decode cX3_goodsOfAll 20 = .ok (.iinc 2 1, 3) := by decide +kernel
theorem dX3_goodsOfAll_23 : decode cX3_goodsOfAll 23 = .ok (.goto (-19), 3) := by decide +kernel
theorem dX3_goodsOfAll_26 : decode cX3_goodsOfAll 26 = .ok (.iload_n 1, 1) := by decide +kernel
theorem dX3_goodsOfAll_27 : decode cX3_goodsOfAll 27 = .ok (.ireturn, 1) := by decide +kernel
theorem dX3_placeIf_0 : decode cX3_placeIf 0 = .ok (.aload_n 0, 1) := by decide +kernel
theorem dX3_placeIf_1 : decode cX3_placeIf 1 = .ok (.getfield 28, 3) := by decide +kernel
theorem dX3_placeIf_4 : decode cX3_placeIf 4 = .ok (.ifCond .le 20, 3) := by decide +kernel
theorem dX3_placeIf_7 : decode cX3_placeIf 7 = .ok (.iload_n 2, 1) := by decide +kernel
theorem dX3_placeIf_8 : decode cX3_placeIf 8 = .ok (.iload_n 1, 1) := by decide +kernel
theorem dX3_placeIf_9 : decode cX3_placeIf 9 = .ok (.iload_n 3, 1) := by decide +kernel
theorem dX3_placeIf_10 : decode cX3_placeIf 10 = .ok (.iload 4, 2) := by decide +kernel
theorem dX3_placeIf_12 : decode cX3_placeIf 12 = .ok (.invokestatic 98, 3) := by decide +kernel
theorem dX3_placeIf_15 : decode cX3_placeIf 15 = .ok (.iadd, 1) := by decide +kernel
theorem dX3_placeIf_16 : decode cX3_placeIf 16 = .ok (.aload_n 0, 1) := by decide +kernel
theorem dX3_placeIf_17 : decode cX3_placeIf 17 = .ok (.getfield 28, 3) := by decide +kernel
theorem dX3_placeIf_20 : decode cX3_placeIf 20 = .ok (.irem, 1) := by decide +kernel
theorem dX3_placeIf_21 : decode cX3_placeIf 21 = .ok (.goto 4, 3) := by decide +kernel
theorem dX3_placeIf_24 : decode cX3_placeIf 24 = .ok (.iconst (-1), 1) := by decide +kernel
theorem dX3_placeIf_25 : decode cX3_placeIf 25 = .ok (.ireturn, 1) := by decide +kernel
theorem dX3_placeOf_0 : decode cX3_placeOf 0 = .ok (.aload_n 0, 1) := by decide +kernel
theorem dX3_placeOf_1 : decode cX3_placeOf 1 = .ok (.iload_n 1, 1) := by decide +kernel
theorem dX3_placeOf_2 : decode cX3_placeOf 2 = .ok (.invokevirtual 72, 3) := by decide +kernel
theorem dX3_placeOf_5 : decode cX3_placeOf 5 = .ok (.astore_n 3, 1) := by decide +kernel
theorem dX3_placeOf_6 : decode cX3_placeOf 6 = .ok (.aload_n 3, 1) := by decide +kernel
theorem dX3_placeOf_7 : decode cX3_placeOf 7 = .ok (.ifnonnull 7, 3) := by decide +kernel
theorem dX3_placeOf_10 : decode cX3_placeOf 10 = .ok (.iconst (-1), 1) := by decide +kernel
theorem dX3_placeOf_11 : decode cX3_placeOf 11 = .ok (.goto 20, 3) := by decide +kernel
theorem dX3_placeOf_14 : decode cX3_placeOf 14 = .ok (.aload_n 0, 1) := by decide +kernel
theorem dX3_placeOf_15 : decode cX3_placeOf 15 = .ok (.aload_n 3, 1) := by decide +kernel
theorem dX3_placeOf_16 : decode cX3_placeOf 16 = .ok (.getfield 76, 3) := by decide +kernel
theorem dX3_placeOf_19 : decode cX3_placeOf 19 = .ok (.aload_n 3, 1) := by decide +kernel
theorem dX3_placeOf_20 : decode cX3_placeOf 20 = .ok (.getfield 82, 3) := by decide +kernel
theorem dX3_placeOf_23 : decode cX3_placeOf 23 = .ok (.aload_n 3, 1) := by decide +kernel
theorem dX3_placeOf_24 : decode cX3_placeOf 24 = .ok (.getfield 85, 3) := by decide +kernel
theorem dX3_placeOf_27 : decode cX3_placeOf 27 = .ok (.iload_n 2, 1) := by decide +kernel
theorem dX3_placeOf_28 : decode cX3_placeOf 28 = .ok (.invokevirtual 102, 3) := by decide +kernel
theorem dX3_placeOf_31 : decode cX3_placeOf 31 = .ok (.ireturn, 1) := by decide +kernel
theorem dX3_placeAfter_0 : decode cX3_placeAfter 0 = .ok (.aload_n 0, 1) := by decide +kernel
theorem dX3_placeAfter_1 : decode cX3_placeAfter 1 = .ok (.getfield 28, 3) := by decide +kernel
theorem dX3_placeAfter_4 : decode cX3_placeAfter 4 = .ok (.ifCond .gt 5, 3) := by decide +kernel
theorem dX3_placeAfter_7 : decode cX3_placeAfter 7 = .ok (.iconst (-1), 1) := by decide +kernel
theorem dX3_placeAfter_8 : decode cX3_placeAfter 8 = .ok (.ireturn, 1) := by decide +kernel
theorem dX3_placeAfter_9 : decode cX3_placeAfter 9 = .ok (.iload_n 2, 1) := by decide +kernel
theorem dX3_placeAfter_10 : decode cX3_placeAfter 10 = .ok (.lookupswitch 49 #[(1, 26), (2, 35)], 26) := by decide +kernel
theorem dX3_placeAfter_36 : decode cX3_placeAfter 36 = .ok (.iload_n 1, 1) := by decide +kernel
theorem dX3_placeAfter_37 : decode cX3_placeAfter 37 = .ok (.iconst 1, 1) := by decide +kernel
theorem dX3_placeAfter_38 : decode cX3_placeAfter 38 = .ok (.iadd, 1) := by decide +kernel
theorem dX3_placeAfter_39 : decode cX3_placeAfter 39 = .ok (.aload_n 0, 1) := by decide +kernel
theorem dX3_placeAfter_40 : decode cX3_placeAfter 40 = .ok (.getfield 28, 3) := by decide +kernel
theorem dX3_placeAfter_43 : decode cX3_placeAfter 43 = .ok (.irem, 1) := by decide +kernel
theorem dX3_placeAfter_44 : decode cX3_placeAfter 44 = .ok (.ireturn, 1) := by decide +kernel
theorem dX3_placeAfter_45 : decode cX3_placeAfter 45 = .ok (.iload_n 1, 1) := by decide +kernel
theorem dX3_placeAfter_46 : decode cX3_placeAfter 46 = .ok (.aload_n 0, 1) := by decide +kernel
theorem dX3_placeAfter_47 : decode cX3_placeAfter 47 = .ok (.getfield 28, 3) := by decide +kernel
theorem dX3_placeAfter_50 : decode cX3_placeAfter 50 = .ok (.iadd, 1) := by decide +kernel
theorem dX3_placeAfter_51 : decode cX3_placeAfter 51 = .ok (.iconst 1, 1) := by decide +kernel
theorem dX3_placeAfter_52 : decode cX3_placeAfter 52 = .ok (.isub, 1) := by decide +kernel
theorem dX3_placeAfter_53 : decode cX3_placeAfter 53 = .ok (.aload_n 0, 1) := by decide +kernel
theorem dX3_placeAfter_54 : decode cX3_placeAfter 54 = .ok (.getfield 28, 3) := by decide +kernel
theorem dX3_placeAfter_57 : decode cX3_placeAfter 57 = .ok (.irem, 1) := by decide +kernel
theorem dX3_placeAfter_58 : decode cX3_placeAfter 58 = .ok (.ireturn, 1) := by decide +kernel
theorem dX3_placeAfter_59 : decode cX3_placeAfter 59 = .ok (.iload_n 1, 1) := by decide +kernel
theorem dX3_placeAfter_60 : decode cX3_placeAfter 60 = .ok (.ireturn, 1) := by decide +kernel
theorem dX3_goodsTakenBy_0 : decode cX3_goodsTakenBy 0 = .ok (.iconst 0, 1) := by decide +kernel
theorem dX3_goodsTakenBy_1 : decode cX3_goodsTakenBy 1 = .ok (.istore_n 3, 1) := by decide +kernel
theorem dX3_goodsTakenBy_2 : decode cX3_goodsTakenBy 2 = .ok (.iconst 0, 1) := by decide +kernel
theorem dX3_goodsTakenBy_3 : decode cX3_goodsTakenBy 3 = .ok (.istore 4, 2) := by decide +kernel
theorem dX3_goodsTakenBy_5 : decode cX3_goodsTakenBy 5 = .ok (.iconst 0, 1) := by decide +kernel
theorem dX3_goodsTakenBy_6 : decode cX3_goodsTakenBy 6 = .ok (.istore 5, 2) := by decide +kernel
theorem dX3_goodsTakenBy_8 : decode cX3_goodsTakenBy 8 = .ok (.iload 5, 2) := by decide +kernel
theorem dX3_goodsTakenBy_10 : decode cX3_goodsTakenBy 10 = .ok (.iload_n 2, 1) := by decide +kernel
theorem dX3_goodsTakenBy_11 : decode cX3_goodsTakenBy 11 = .ok (.if_icmp .gt 78, 3) := by decide +kernel
theorem dX3_goodsTakenBy_14 : decode cX3_goodsTakenBy 14 = .ok (.iload 5, 2) := by decide +kernel
theorem dX3_goodsTakenBy_16 : decode cX3_goodsTakenBy 16 = .ok (.bipush 60, 2) := by decide +kernel
theorem dX3_goodsTakenBy_18 : decode cX3_goodsTakenBy 18 = .ok (.if_icmp .gt 71, 3) := by decide +kernel
theorem dX3_goodsTakenBy_21 : decode cX3_goodsTakenBy 21 = .ok (.iconst 0, 1) := by decide +kernel
theorem dX3_goodsTakenBy_22 : decode cX3_goodsTakenBy 22 = .ok (.istore 6, 2) := by decide +kernel
theorem dX3_goodsTakenBy_24 : decode cX3_goodsTakenBy 24 = .ok (.iload 6, 2) := by decide +kernel
theorem dX3_goodsTakenBy_26 : decode cX3_goodsTakenBy 26 = .ok (.aload_n 0, 1) := by decide +kernel
theorem dX3_goodsTakenBy_27 : decode cX3_goodsTakenBy 27 = .ok (.getfield 24, 3) := by decide +kernel
theorem dX3_goodsTakenBy_30 : decode cX3_goodsTakenBy 30 = .ok (.if_icmp .ge 53, 3) := by decide +kernel
theorem dX3_goodsTakenBy_33 : decode cX3_goodsTakenBy 33 = .ok (.aload_n 0, 1) := by decide +kernel
theorem dX3_goodsTakenBy_34 : decode cX3_goodsTakenBy 34 = .ok (.iload 6, 2) := by decide +kernel
theorem dX3_goodsTakenBy_36 : decode cX3_goodsTakenBy 36 = .ok (.iload 5, 2) := by decide +kernel
theorem dX3_goodsTakenBy_38 : decode cX3_goodsTakenBy 38 = .ok (.invokevirtual 106, 3) := by decide +kernel
theorem dX3_goodsTakenBy_41 : decode cX3_goodsTakenBy 41 = .ok (.istore 7, 2) := by decide +kernel
theorem dX3_goodsTakenBy_43 : decode cX3_goodsTakenBy 43 = .ok (.iload 6, 2) := by decide +kernel
theorem dX3_goodsTakenBy_45 : decode cX3_goodsTakenBy 45 = .ok (.iload_n 1, 1) := by decide +kernel
theorem dX3_goodsTakenBy_46 : decode cX3_goodsTakenBy 46 = .ok (.if_icmp .ne 23, 3) := by decide +kernel
theorem dX3_goodsTakenBy_49 : decode cX3_goodsTakenBy 49 = .ok (.iload_n 3, 1) := by decide +kernel
theorem dX3_goodsTakenBy_50 : decode cX3_goodsTakenBy 50 = .ok (.iload 7, 2) := by decide +kernel
theorem dX3_goodsTakenBy_52 : decode cX3_goodsTakenBy 52 = .ok (.invokestatic 110, 3) := by decide +kernel
theorem dX3_goodsTakenBy_55 : decode cX3_goodsTakenBy 55 = .ok (.ifCond .ne 14, 3) := by decide +kernel
theorem dX3_goodsTakenBy_58 : decode cX3_goodsTakenBy 58 = .ok (.iload 4, 2) := by decide +kernel
theorem dX3_goodsTakenBy_60 : decode cX3_goodsTakenBy 60 = .ok (.aload_n 0, 1) := by decide +kernel
theorem dX3_goodsTakenBy_61 : decode cX3_goodsTakenBy 61 = .ok (.iload 7, 2) := by decide +kernel
theorem dX3_goodsTakenBy_63 : decode cX3_goodsTakenBy 63 = .ok (.invokevirtual 95, 3) := by decide +kernel
theorem dX3_goodsTakenBy_66 : decode cX3_goodsTakenBy 66 = .ok (.iadd, 1) := by decide +kernel
theorem dX3_goodsTakenBy_67 : decode cX3_goodsTakenBy 67 = .ok (.istore 4, 2) := by decide +kernel
theorem dX3_goodsTakenBy_69 : decode cX3_goodsTakenBy 69 = .ok (.iload_n 3, 1) := by decide +kernel
theorem dX3_goodsTakenBy_70 : decode cX3_goodsTakenBy 70 = .ok (.iload 7, 2) := by decide +kernel
theorem dX3_goodsTakenBy_72 : decode cX3_goodsTakenBy 72 = .ok (.invokestatic 114, 3) := by decide +kernel
theorem dX3_goodsTakenBy_75 : decode cX3_goodsTakenBy 75 = .ok (.ior, 1) := by decide +kernel
theorem dX3_goodsTakenBy_76 : decode cX3_goodsTakenBy 76 = .ok (.istore_n 3, 1) := by decide +kernel
theorem dX3_goodsTakenBy_77 : decode cX3_goodsTakenBy 77 = .ok (.iinc 6 1, 3) := by decide +kernel
theorem dX3_goodsTakenBy_80 : decode cX3_goodsTakenBy 80 = .ok (.goto (-56), 3) := by decide +kernel
theorem dX3_goodsTakenBy_83 : decode cX3_goodsTakenBy 83 = .ok (.iinc 5 1, 3) := by decide +kernel
theorem dX3_goodsTakenBy_86 : decode cX3_goodsTakenBy 86 = .ok (.goto (-78), 3) := by decide +kernel
theorem dX3_goodsTakenBy_89 : decode cX3_goodsTakenBy 89 = .ok (.iload 4, 2) := by decide +kernel
theorem dX3_goodsTakenBy_91 : decode cX3_goodsTakenBy 91 = .ok (.ireturn, 1) := by decide +kernel
theorem dX3_everyPlace_0 : decode cX3_everyPlace 0 = .ok (.aload_n 0, 1) := by decide +kernel
theorem dX3_everyPlace_1 : decode cX3_everyPlace 1 = .ok (.getfield 28, 3) := by decide +kernel
theorem dX3_everyPlace_4 : decode cX3_everyPlace 4 = .ok (.invokestatic 114, 3) := by decide +kernel
theorem dX3_everyPlace_7 : decode cX3_everyPlace 7 = .ok (.iconst 1, 1) := by decide +kernel
theorem dX3_everyPlace_8 : decode cX3_everyPlace 8 = .ok (.isub, 1) := by decide +kernel
theorem dX3_everyPlace_9 : decode cX3_everyPlace 9 = .ok (.ireturn, 1) := by decide +kernel
theorem dX3_freePlaces_0 : decode cX3_freePlaces 0 = .ok (.aload_n 0, 1) := by decide +kernel
theorem dX3_freePlaces_1 : decode cX3_freePlaces 1 = .ok (.invokevirtual 117, 3) := by decide +kernel
theorem dX3_freePlaces_4 : decode cX3_freePlaces 4 = .ok (.istore_n 3, 1) := by decide +kernel
theorem dX3_freePlaces_5 : decode cX3_freePlaces 5 = .ok (.iconst 0, 1) := by decide +kernel
theorem dX3_freePlaces_6 : decode cX3_freePlaces 6 = .ok (.istore 4, 2) := by decide +kernel
theorem dX3_freePlaces_8 : decode cX3_freePlaces 8 = .ok (.iload 4, 2) := by decide +kernel
theorem dX3_freePlaces_10 : decode cX3_freePlaces 10 = .ok (.aload_n 0, 1) := by decide +kernel
theorem dX3_freePlaces_11 : decode cX3_freePlaces 11 = .ok (.getfield 24, 3) := by decide +kernel
theorem dX3_freePlaces_14 : decode cX3_freePlaces 14 = .ok (.if_icmp .ge 33, 3) := by decide +kernel
theorem dX3_freePlaces_17 : decode cX3_freePlaces 17 = .ok (.iload_n 2, 1) := by decide +kernel
theorem dX3_freePlaces_18 : decode cX3_freePlaces 18 = .ok (.iload 4, 2) := by decide +kernel
theorem dX3_freePlaces_20 : decode cX3_freePlaces 20 = .ok (.invokestatic 110, 3) := by decide +kernel
theorem dX3_freePlaces_23 : decode cX3_freePlaces 23 = .ok (.ifCond .eq 18, 3) := by decide +kernel
theorem dX3_freePlaces_26 : decode cX3_freePlaces 26 = .ok (.iload_n 3, 1) := by decide +kernel
theorem dX3_freePlaces_27 : decode cX3_freePlaces 27 = .ok (.aload_n 0, 1) := by decide +kernel
theorem dX3_freePlaces_28 : decode cX3_freePlaces 28 = .ok (.iload 4, 2) := by decide +kernel
theorem dX3_freePlaces_30 : decode cX3_freePlaces 30 = .ok (.iload_n 1, 1) := by decide +kernel
theorem dX3_freePlaces_31 : decode cX3_freePlaces 31 = .ok (.invokevirtual 106, 3) := by decide +kernel
theorem dX3_freePlaces_34 : decode cX3_freePlaces 34 = .ok (.invokestatic 114, 3) := by decide +kernel
theorem dX3_freePlaces_37 : decode cX3_freePlaces 37 = .ok (.iconst (-1), 1) := by decide +kernel
theorem dX3_freePlaces_38 : decode cX3_freePlaces 38 = .ok (.ixor, 1) := by decide +kernel
theorem dX3_freePlaces_39 : decode cX3_freePlaces 39 = .ok (.iand, 1) := by decide +kernel
theorem dX3_freePlaces_40 : decode cX3_freePlaces 40 = .ok (.istore_n 3, 1) := by decide +kernel
theorem dX3_freePlaces_41 : decode cX3_freePlaces 41 = .ok (.iinc 4 1, 3) := by decide +kernel
theorem dX3_freePlaces_44 : decode cX3_freePlaces 44 = .ok (.goto (-36), 3) := by decide +kernel
theorem dX3_freePlaces_47 : decode cX3_freePlaces 47 = .ok (.iload_n 3, 1) := by decide +kernel
theorem dX3_freePlaces_48 : decode cX3_freePlaces 48 = .ok (.ireturn, 1) := by decide +kernel
theorem dX3_withNeighbours_0 : decode cX3_withNeighbours 0 = .ok (.aload_n 0, 1) := by decide +kernel
theorem dX3_withNeighbours_1 : decode cX3_withNeighbours 1 = .ok (.getfield 28, 3) := by decide +kernel
theorem dX3_withNeighbours_4 : decode cX3_withNeighbours 4 = .ok (.iconst 1, 1) := by decide +kernel
theorem dX3_withNeighbours_5 : decode cX3_withNeighbours 5 = .ok (.isub, 1) := by decide +kernel
theorem dX3_withNeighbours_6 : decode cX3_withNeighbours 6 = .ok (.istore_n 2, 1) := by decide +kernel
theorem dX3_withNeighbours_7 : decode cX3_withNeighbours 7 = .ok (.iload_n 1, 1) := by decide +kernel
theorem dX3_withNeighbours_8 : decode cX3_withNeighbours 8 = .ok (.iconst 1, 1) := by decide +kernel
theorem dX3_withNeighbours_9 : decode cX3_withNeighbours 9 = .ok (.ishl, 1) := by decide +kernel
theorem dX3_withNeighbours_10 : decode cX3_withNeighbours 10 = .ok (.iload_n 1, 1) := by decide +kernel
theorem dX3_withNeighbours_11 : decode cX3_withNeighbours 11 = .ok (.iload_n 2, 1) := by decide +kernel
theorem dX3_withNeighbours_12 : decode cX3_withNeighbours 12 = .ok (.ishr, 1) := by decide +kernel
theorem dX3_withNeighbours_13 : decode cX3_withNeighbours 13 = .ok (.ior, 1) := by decide +kernel
theorem dX3_withNeighbours_14 : decode cX3_withNeighbours 14 = .ok (.istore_n 3, 1) := by decide +kernel
theorem dX3_withNeighbours_15 : decode cX3_withNeighbours 15 = .ok (.iload_n 1, 1) := by decide +kernel
theorem dX3_withNeighbours_16 : decode cX3_withNeighbours 16 = .ok (.iconst 1, 1) := by decide +kernel
theorem dX3_withNeighbours_17 : decode cX3_withNeighbours 17 = .ok (.ishr, 1) := by decide +kernel
theorem dX3_withNeighbours_18 : decode cX3_withNeighbours 18 = .ok (.iload_n 1, 1) := by decide +kernel
theorem dX3_withNeighbours_19 : decode cX3_withNeighbours 19 = .ok (.iload_n 2, 1) := by decide +kernel
theorem dX3_withNeighbours_20 : decode cX3_withNeighbours 20 = .ok (.ishl, 1) := by decide +kernel
theorem dX3_withNeighbours_21 : decode cX3_withNeighbours 21 = .ok (.ior, 1) := by decide +kernel
theorem dX3_withNeighbours_22 : decode cX3_withNeighbours 22 = .ok (.istore 4, 2) := by decide +kernel
theorem dX3_withNeighbours_24 : decode cX3_withNeighbours 24 = .ok (.iload_n 1, 1) := by decide +kernel
theorem dX3_withNeighbours_25 : decode cX3_withNeighbours 25 = .ok (.iload_n 3, 1) := by decide +kernel
theorem dX3_withNeighbours_26 : decode cX3_withNeighbours 26 = .ok (.ior, 1) := by decide +kernel
theorem dX3_withNeighbours_27 : decode cX3_withNeighbours 27 = .ok (.iload 4, 2) := by decide +kernel
theorem dX3_withNeighbours_29 : decode cX3_withNeighbours 29 = .ok (.ior, 1) := by decide +kernel
theorem dX3_withNeighbours_30 : decode cX3_withNeighbours 30 = .ok (.aload_n 0, 1) := by decide +kernel
theorem dX3_withNeighbours_31 : decode cX3_withNeighbours 31 = .ok (.invokevirtual 117, 3) := by decide +kernel
theorem dX3_withNeighbours_34 : decode cX3_withNeighbours 34 = .ok (.iand, 1) := by decide +kernel
theorem dX3_withNeighbours_35 : decode cX3_withNeighbours 35 = .ok (.ireturn, 1) := by decide +kernel
theorem dX3_fewestMinutes_0 : decode cX3_fewestMinutes 0 = .ok (.iload_n 1, 1) := by decide +kernel
theorem dX3_fewestMinutes_1 : decode cX3_fewestMinutes 1 = .ok (.invokestatic 114, 3) := by decide +kernel
theorem dX3_fewestMinutes_4 : decode cX3_fewestMinutes 4 = .ok (.istore 4, 2) := by decide +kernel
theorem dX3_fewestMinutes_6 : decode cX3_fewestMinutes 6 = .ok (.iconst 0, 1) := by decide +kernel
theorem dX3_fewestMinutes_7 : decode cX3_fewestMinutes 7 = .ok (.istore 5, 2) := by decide +kernel
theorem dX3_fewestMinutes_9 : decode cX3_fewestMinutes 9 = .ok (.iload 5, 2) := by decide +kernel
theorem dX3_fewestMinutes_11 : decode cX3_fewestMinutes 11 = .ok (.bipush 60, 2) := by decide +kernel
theorem dX3_fewestMinutes_13 : decode cX3_fewestMinutes 13 = .ok (.if_icmp .gt 39, 3) := by decide +kernel
theorem dX3_fewestMinutes_16 : decode cX3_fewestMinutes 16 = .ok (.iload 4, 2) := by decide +kernel
theorem dX3_fewestMinutes_18 : decode cX3_fewestMinutes 18 = .ok (.iload_n 2, 1) := by decide +kernel
theorem dX3_fewestMinutes_19 : decode cX3_fewestMinutes 19 = .ok (.invokestatic 110, 3) := by decide +kernel
theorem dX3_fewestMinutes_22 : decode cX3_fewestMinutes 22 = .ok (.ifCond .eq 6, 3) := by decide +kernel
theorem dX3_fewestMinutes_25 : decode cX3_fewestMinutes 25 = .ok (.iload 5, 2) := by decide +kernel
theorem dX3_fewestMinutes_27 : decode cX3_fewestMinutes 27 = .ok (.ireturn, 1) := by decide +kernel
theorem dX3_fewestMinutes_28 : decode cX3_fewestMinutes 28 = .ok (.aload_n 0, 1) := by decide +kernel
theorem dX3_fewestMinutes_29 : decode cX3_fewestMinutes 29 = .ok (.iload 4, 2) := by decide +kernel
theorem dX3_fewestMinutes_31 : decode cX3_fewestMinutes 31 = .ok (.invokevirtual 121, 3) := by decide +kernel
theorem dX3_fewestMinutes_34 : decode cX3_fewestMinutes 34 = .ok (.aload_n 0, 1) := by decide +kernel
theorem dX3_fewestMinutes_35 : decode cX3_fewestMinutes 35 = .ok (.iload 5, 2) := by decide +kernel
theorem dX3_fewestMinutes_37 : decode cX3_fewestMinutes 37 = .ok (.iconst 1, 1) := by decide +kernel
theorem dX3_fewestMinutes_38 : decode cX3_fewestMinutes 38 = .ok (.iadd, 1) := by decide +kernel
theorem dX3_fewestMinutes_39 : decode cX3_fewestMinutes 39 = .ok (.iload_n 3, 1) := by decide +kernel
theorem dX3_fewestMinutes_40 : decode cX3_fewestMinutes 40 = .ok (.invokevirtual 124, 3) := by decide +kernel
theorem dX3_fewestMinutes_43 : decode cX3_fewestMinutes 43 = .ok (.iand, 1) := by decide +kernel
theorem dX3_fewestMinutes_44 : decode cX3_fewestMinutes 44 = .ok (.istore 4, 2) := by decide +kernel
theorem dX3_fewestMinutes_46 : decode cX3_fewestMinutes 46 = .ok (.iinc 5 1, 3) := by decide +kernel
theorem dX3_fewestMinutes_49 : decode cX3_fewestMinutes 49 = .ok (.goto (-40), 3) := by decide +kernel
theorem dX3_fewestMinutes_52 : decode cX3_fewestMinutes 52 = .ok (.bipush (-9), 2) := by decide +kernel
theorem dX3_fewestMinutes_54 : decode cX3_fewestMinutes 54 = .ok (.ireturn, 1) := by decide +kernel
theorem dX3_actOfSoonest_0 : decode cX3_actOfSoonest 0 = .ok (.aload_n 0, 1) := by decide +kernel
theorem dX3_actOfSoonest_1 : decode cX3_actOfSoonest 1 = .ok (.iload_n 2, 1) := by decide +kernel
theorem dX3_actOfSoonest_2 : decode cX3_actOfSoonest 2 = .ok (.iload_n 3, 1) := by decide +kernel
theorem dX3_actOfSoonest_3 : decode cX3_actOfSoonest 3 = .ok (.invokevirtual 127, 3) := by decide +kernel
theorem dX3_actOfSoonest_6 : decode cX3_actOfSoonest 6 = .ok (.iload_n 1, 1) := by decide +kernel
theorem dX3_actOfSoonest_7 : decode cX3_actOfSoonest 7 = .ok (.istore 5, 2) := by decide +kernel
theorem dX3_actOfSoonest_9 : decode cX3_actOfSoonest 9 = .ok (.bipush (-9), 2) := by decide +kernel
theorem dX3_actOfSoonest_11 : decode cX3_actOfSoonest 11 = .ok (.istore 6, 2) := by decide +kernel
theorem dX3_actOfSoonest_13 : decode cX3_actOfSoonest 13 = .ok (.iconst 1, 1) := by decide +kernel
theorem dX3_actOfSoonest_14 : decode cX3_actOfSoonest 14 = .ok (.istore 7, 2) := by decide +kernel
theorem dX3_actOfSoonest_16 : decode cX3_actOfSoonest 16 = .ok (.iload 7, 2) := by decide +kernel
theorem dX3_actOfSoonest_18 : decode cX3_actOfSoonest 18 = .ok (.iload 4, 2) := by decide +kernel
theorem dX3_actOfSoonest_20 : decode cX3_actOfSoonest 20 = .ok (.iconst 1, 1) := by decide +kernel
theorem dX3_actOfSoonest_21 : decode cX3_actOfSoonest 21 = .ok (.iadd, 1) := by decide +kernel
theorem dX3_actOfSoonest_22 : decode cX3_actOfSoonest 22 = .ok (.if_icmp .gt 44, 3) := by decide +kernel
theorem dX3_actOfSoonest_25 : decode cX3_actOfSoonest 25 = .ok (.iload 7, 2) := by decide +kernel
theorem dX3_actOfSoonest_27 : decode cX3_actOfSoonest 27 = .ok (.aload_n 0, 1) := by decide +kernel
theorem dX3_actOfSoonest_28 : decode cX3_actOfSoonest 28 = .ok (.getfield 21, 3) := by decide +kernel
theorem dX3_actOfSoonest_31 : decode cX3_actOfSoonest 31 = .ok (.arraylength, 1) := by decide +kernel
theorem dX3_actOfSoonest_32 : decode cX3_actOfSoonest 32 = .ok (.if_icmp .ge 34, 3) := by decide +kernel
theorem dX3_actOfSoonest_35 : decode cX3_actOfSoonest 35 = .ok (.aload_n 0, 1) := by decide +kernel
theorem dX3_actOfSoonest_36 : decode cX3_actOfSoonest 36 = .ok (.aload_n 0, 1) := by decide +kernel
theorem dX3_actOfSoonest_37 : decode cX3_actOfSoonest 37 = .ok (.getfield 21, 3) := by decide +kernel
theorem dX3_actOfSoonest_40 : decode cX3_actOfSoonest 40 = .ok (.iload 7, 2) := by decide +kernel
theorem dX3_actOfSoonest_42 : decode cX3_actOfSoonest 42 = .ok (.iaload, 1) := by decide +kernel
theorem dX3_actOfSoonest_43 : decode cX3_actOfSoonest 43 = .ok (.iload 5, 2) := by decide +kernel
theorem dX3_actOfSoonest_45 : decode cX3_actOfSoonest 45 = .ok (.invokevirtual 130, 3) := by decide +kernel
theorem dX3_actOfSoonest_48 : decode cX3_actOfSoonest 48 = .ok (.istore 6, 2) := by decide +kernel
theorem dX3_actOfSoonest_50 : decode cX3_actOfSoonest 50 = .ok (.aload_n 0, 1) := by decide +kernel
theorem dX3_actOfSoonest_51 : decode cX3_actOfSoonest 51 = .ok (.iload 5, 2) := by decide +kernel
theorem dX3_actOfSoonest_53 : decode cX3_actOfSoonest 53 = .ok (.iload 6, 2) := by decide +kernel
theorem dX3_actOfSoonest_55 : decode cX3_actOfSoonest 55 = .ok (.invokevirtual 133, 3) := by decide +kernel
theorem dX3_actOfSoonest_58 : decode cX3_actOfSoonest 58 = .ok (.istore 5, 2) := by decide +kernel
theorem dX3_actOfSoonest_60 : decode cX3_actOfSoonest 60 = .ok (.iinc 7 1, 3) := by decide +kernel
theorem dX3_actOfSoonest_63 : decode cX3_actOfSoonest 63 = .ok (.goto (-47), 3) := by decide +kernel
theorem dX3_actOfSoonest_66 : decode cX3_actOfSoonest 66 = .ok (.iload 6, 2) := by decide +kernel
theorem dX3_actOfSoonest_68 : decode cX3_actOfSoonest 68 = .ok (.ireturn, 1) := by decide +kernel
theorem dX3_findTheWay_0 : decode cX3_findTheWay 0 = .ok (.iload_n 1, 1) := by decide +kernel
theorem dX3_findTheWay_1 : decode cX3_findTheWay 1 = .ok (.invokestatic 114, 3) := by decide +kernel
theorem dX3_findTheWay_4 : decode cX3_findTheWay 4 = .ok (.istore_n 3, 1) := by decide +kernel
theorem dX3_findTheWay_5 : decode cX3_findTheWay 5 = .ok (.iload_n 2, 1) := by decide +kernel
theorem dX3_findTheWay_6 : decode cX3_findTheWay 6 = .ok (.aload_n 0, 1) := by decide +kernel
theorem dX3_findTheWay_7 : decode cX3_findTheWay 7 = .ok (.getfield 21, 3) := by decide +kernel
theorem dX3_findTheWay_10 : decode cX3_findTheWay 10 = .ok (.arraylength, 1) := by decide +kernel
theorem dX3_findTheWay_11 : decode cX3_findTheWay 11 = .ok (.iconst 1, 1) := by decide +kernel
theorem dX3_findTheWay_12 : decode cX3_findTheWay 12 = .ok (.isub, 1) := by decide +kernel
theorem dX3_findTheWay_13 : decode cX3_findTheWay 13 = .ok (.invokestatic 136, 3) := by decide +kernel
theorem dX3_findTheWay_16 : decode cX3_findTheWay 16 = .ok (.istore 4, 2) := by decide +kernel
theorem dX3_findTheWay_18 : decode cX3_findTheWay 18 = .ok (.iload 4, 2) := by decide +kernel
theorem dX3_findTheWay_20 : decode cX3_findTheWay 20 = .ok (.ifCond .lt 38, 3) := by decide +kernel
theorem dX3_findTheWay_23 : decode cX3_findTheWay 23 = .ok (.aload_n 0, 1) := by decide +kernel
theorem dX3_findTheWay_24 : decode cX3_findTheWay 24 = .ok (.getfield 21, 3) := by decide +kernel
theorem dX3_findTheWay_27 : decode cX3_findTheWay 27 = .ok (.iload 4, 2) := by decide +kernel
theorem dX3_findTheWay_29 : decode cX3_findTheWay 29 = .ok (.iload_n 3, 1) := by decide +kernel
theorem dX3_findTheWay_30 : decode cX3_findTheWay 30 = .ok (.aload_n 0, 1) := by decide +kernel
theorem dX3_findTheWay_31 : decode cX3_findTheWay 31 = .ok (.iload 4, 2) := by decide +kernel
theorem dX3_findTheWay_33 : decode cX3_findTheWay 33 = .ok (.bipush 15, 2) := by decide +kernel
theorem dX3_findTheWay_35 : decode cX3_findTheWay 35 = .ok (.invokevirtual 124, 3) := by decide +kernel
theorem dX3_findTheWay_38 : decode cX3_findTheWay 38 = .ok (.iand, 1) := by decide +kernel
theorem dX3_findTheWay_39 : decode cX3_findTheWay 39 = .ok (.iastore, 1) := by decide +kernel
theorem dX3_findTheWay_40 : decode cX3_findTheWay 40 = .ok (.aload_n 0, 1) := by decide +kernel
theorem dX3_findTheWay_41 : decode cX3_findTheWay 41 = .ok (.aload_n 0, 1) := by decide +kernel
theorem dX3_findTheWay_42 : decode cX3_findTheWay 42 = .ok (.getfield 21, 3) := by decide +kernel
theorem dX3_findTheWay_45 : decode cX3_findTheWay 45 = .ok (.iload 4, 2) := by decide +kernel
theorem dX3_findTheWay_47 : decode cX3_findTheWay 47 = .ok (.iaload, 1) := by decide +kernel
theorem dX3_findTheWay_48 : decode cX3_findTheWay 48 = .ok (.invokevirtual 121, 3) := by decide +kernel
theorem dX3_findTheWay_51 : decode cX3_findTheWay 51 = .ok (.istore_n 3, 1) := by decide +kernel
theorem dX3_findTheWay_52 : decode cX3_findTheWay 52 = .ok (.iinc 4 (-1), 3) := by decide +kernel
theorem dX3_findTheWay_55 : decode cX3_findTheWay 55 = .ok (.goto (-37), 3) := by decide +kernel
theorem dX3_findTheWay_58 : decode cX3_findTheWay 58 = .ok (.return_, 1) := by decide +kernel
theorem dX3_firstActInto_0 : decode cX3_firstActInto 0 = .ok (.iconst 0, 1) := by decide +kernel
theorem dX3_firstActInto_1 : decode cX3_firstActInto 1 = .ok (.istore_n 3, 1) := by decide +kernel
theorem dX3_firstActInto_2 : decode cX3_firstActInto 2 = .ok (.iload_n 3, 1) := by decide +kernel
theorem dX3_firstActInto_3 : decode cX3_firstActInto 3 = .ok (.iconst 2, 1) := by decide +kernel
theorem dX3_firstActInto_4 : decode cX3_firstActInto 4 = .ok (.if_icmp .gt 24, 3) := by decide +kernel
theorem dX3_firstActInto_7 : decode cX3_firstActInto 7 = .ok (.iload_n 1, 1) := by decide +kernel
theorem dX3_firstActInto_8 : decode cX3_firstActInto 8 = .ok (.aload_n 0, 1) := by decide +kernel
theorem dX3_firstActInto_9 : decode cX3_firstActInto 9 = .ok (.iload_n 2, 1) := by decide +kernel
theorem dX3_firstActInto_10 : decode cX3_firstActInto 10 = .ok (.iload_n 3, 1) := by decide +kernel
theorem dX3_firstActInto_11 : decode cX3_firstActInto 11 = .ok (.invokevirtual 133, 3) := by decide +kernel
theorem dX3_firstActInto_14 : decode cX3_firstActInto 14 = .ok (.invokestatic 110, 3) := by decide +kernel
theorem dX3_firstActInto_17 : decode cX3_firstActInto 17 = .ok (.ifCond .eq 5, 3) := by decide +kernel
theorem dX3_firstActInto_20 : decode cX3_firstActInto 20 = .ok (.iload_n 3, 1) := by decide +kernel
theorem dX3_firstActInto_21 : decode cX3_firstActInto 21 = .ok (.ireturn, 1) := by decide +kernel
theorem dX3_firstActInto_22 : decode cX3_firstActInto 22 = .ok (.iinc 3 1, 3) := by decide +kernel
theorem dX3_firstActInto_25 : decode cX3_firstActInto 25 = .ok (.goto (-23), 3) := by decide +kernel
theorem dX3_firstActInto_28 : decode cX3_firstActInto 28 = .ok (.bipush (-9), 2) := by decide +kernel
theorem dX3_firstActInto_30 : decode cX3_firstActInto 30 = .ok (.ireturn, 1) := by decide +kernel
theorem dX3_placeWhereMostCome_0 : decode cX3_placeWhereMostCome 0 = .ok (.iconst 0, 1) := by decide +kernel
theorem dX3_placeWhereMostCome_1 : decode cX3_placeWhereMostCome 1 = .ok (.istore_n 1, 1) := by decide +kernel
theorem dX3_placeWhereMostCome_2 : decode cX3_placeWhereMostCome 2 = .ok (.iconst 0, 1) := by decide +kernel
theorem dX3_placeWhereMostCome_3 : decode cX3_placeWhereMostCome 3 = .ok (.istore_n 2, 1) := by decide +kernel
theorem dX3_placeWhereMostCome_4 : decode cX3_placeWhereMostCome 4 = .ok (.iconst 0, 1) := by decide +kernel
theorem dX3_placeWhereMostCome_5 : decode cX3_placeWhereMostCome 5 = .ok (.istore_n 3, 1) := by decide +kernel
theorem dX3_placeWhereMostCome_6 : decode cX3_placeWhereMostCome 6 = .ok (.iload_n 3, 1) := by decide +kernel
theorem dX3_placeWhereMostCome_7 : decode cX3_placeWhereMostCome 7 = .ok (.aload_n 0, 1) := by decide +kernel
theorem dX3_placeWhereMostCome_8 : decode cX3_placeWhereMostCome 8 = .ok (.getfield 28, 3) := by decide +kernel
theorem dX3_placeWhereMostCome_11 : decode cX3_placeWhereMostCome 11 = .ok (.if_icmp .ge 61, 3) := by decide +kernel
theorem dX3_placeWhereMostCome_14 : decode cX3_placeWhereMostCome 14 = .ok (.iconst 0, 1) := by decide +kernel
theorem dX3_placeWhereMostCome_15 : decode cX3_placeWhereMostCome 15 = .ok (.istore 4, 2) := by decide +kernel
theorem dX3_placeWhereMostCome_17 : decode cX3_placeWhereMostCome 17 = .ok (.iconst 0, 1) := by decide +kernel
theorem dX3_placeWhereMostCome_18 : decode cX3_placeWhereMostCome 18 = .ok (.istore 5, 2) := by decide +kernel
theorem dX3_placeWhereMostCome_20 : decode cX3_placeWhereMostCome 20 = .ok (.iload 5, 2) := by decide +kernel
theorem dX3_placeWhereMostCome_22 : decode cX3_placeWhereMostCome 22 = .ok (.aload_n 0, 1) := by decide +kernel
theorem dX3_placeWhereMostCome_23 : decode cX3_placeWhereMostCome 23 = .ok (.getfield 24, 3) := by decide +kernel
theorem dX3_placeWhereMostCome_26 : decode cX3_placeWhereMostCome 26 = .ok (.if_icmp .ge 29, 3) := by decide +kernel
theorem dX3_placeWhereMostCome_29 : decode cX3_placeWhereMostCome 29 = .ok (.iload 4, 2) := by decide +kernel
theorem dX3_placeWhereMostCome_31 : decode cX3_placeWhereMostCome 31 = .ok (.aload_n 0, 1) := by decide +kernel
theorem dX3_placeWhereMostCome_32 : decode cX3_placeWhereMostCome 32 = .ok (.iload 5, 2) := by decide +kernel
theorem dX3_placeWhereMostCome_34 : decode cX3_placeWhereMostCome 34 = .ok (.iload_n 3, 1) := by decide +kernel
theorem dX3_placeWhereMostCome_35 : decode cX3_placeWhereMostCome 35 = .ok (.invokevirtual 141, 3) := by decide +kernel
theorem dX3_placeWhereMostCome_38 : decode cX3_placeWhereMostCome 38 = .ok (.ifCond .eq 7, 3) := by decide +kernel
theorem dX3_placeWhereMostCome_41 : decode cX3_placeWhereMostCome 41 = .ok (.iconst 1, 1) := by decide +kernel
theorem dX3_placeWhereMostCome_42 : decode cX3_placeWhereMostCome 42 = .ok (.goto 4, 3) := by decide +kernel
theorem dX3_placeWhereMostCome_45 : decode cX3_placeWhereMostCome 45 = .ok (.iconst 0, 1) := by decide +kernel
theorem dX3_placeWhereMostCome_46 : decode cX3_placeWhereMostCome 46 = .ok (.iadd, 1) := by decide +kernel
theorem dX3_placeWhereMostCome_47 : decode cX3_placeWhereMostCome 47 = .ok (.istore 4, 2) := by decide +kernel
theorem dX3_placeWhereMostCome_49 : decode cX3_placeWhereMostCome 49 = .ok (.iinc 5 1, 3) := by decide +kernel
theorem dX3_placeWhereMostCome_52 : decode cX3_placeWhereMostCome 52 = .ok (.goto (-32), 3) := by decide +kernel
theorem dX3_placeWhereMostCome_55 : decode cX3_placeWhereMostCome 55 = .ok (.iload 4, 2) := by decide +kernel
theorem dX3_placeWhereMostCome_57 : decode cX3_placeWhereMostCome 57 = .ok (.iload_n 2, 1) := by decide +kernel
theorem dX3_placeWhereMostCome_58 : decode cX3_placeWhereMostCome 58 = .ok (.if_icmp .le 8, 3) := by decide +kernel
theorem dX3_placeWhereMostCome_61 : decode cX3_placeWhereMostCome 61 = .ok (.iload 4, 2) := by decide +kernel
theorem dX3_placeWhereMostCome_63 : decode cX3_placeWhereMostCome 63 = .ok (.istore_n 2, 1) := by decide +kernel
theorem dX3_placeWhereMostCome_64 : decode cX3_placeWhereMostCome 64 = .ok (.iload_n 3, 1) := by decide +kernel
theorem dX3_placeWhereMostCome_65 : decode cX3_placeWhereMostCome 65 = .ok (.istore_n 1, 1) := by decide +kernel
theorem dX3_placeWhereMostCome_66 : decode cX3_placeWhereMostCome 66 = .ok (.iinc 3 1, 3) := by decide +kernel
theorem dX3_placeWhereMostCome_69 : decode cX3_placeWhereMostCome 69 = .ok (.goto (-63), 3) := by decide +kernel
theorem dX3_placeWhereMostCome_72 : decode cX3_placeWhereMostCome 72 = .ok (.iload_n 1, 1) := by decide +kernel
theorem dX3_placeWhereMostCome_73 : decode cX3_placeWhereMostCome 73 = .ok (.ireturn, 1) := by decide +kernel
theorem dX3_comesTo_0 : decode cX3_comesTo 0 = .ok (.iconst 0, 1) := by decide +kernel
theorem dX3_comesTo_1 : decode cX3_comesTo 1 = .ok (.istore_n 3, 1) := by decide +kernel
theorem dX3_comesTo_2 : decode cX3_comesTo 2 = .ok (.iload_n 3, 1) := by decide +kernel
theorem dX3_comesTo_3 : decode cX3_comesTo 3 = .ok (.bipush 60, 2) := by decide +kernel
theorem dX3_comesTo_5 : decode cX3_comesTo 5 = .ok (.if_icmp .gt 21, 3) := by decide +kernel
theorem dX3_comesTo_8 : decode cX3_comesTo 8 = .ok (.aload_n 0, 1) := by decide +kernel
theorem dX3_comesTo_9 : decode cX3_comesTo 9 = .ok (.iload_n 1, 1) := by decide +kernel
theorem dX3_comesTo_10 : decode cX3_comesTo 10 = .ok (.iload_n 3, 1) := by decide +kernel
theorem dX3_comesTo_11 : decode cX3_comesTo 11 = .ok (.invokevirtual 106, 3) := by decide +kernel
theorem dX3_comesTo_14 : decode cX3_comesTo 14 = .ok (.iload_n 2, 1) := by decide +kernel
theorem dX3_comesTo_15 : decode cX3_comesTo 15 = .ok (.if_icmp .ne 5, 3) := by decide +kernel
theorem dX3_comesTo_18 : decode cX3_comesTo 18 = .ok (.iconst 1, 1) := by decide +kernel
theorem dX3_comesTo_19 : decode cX3_comesTo 19 = .ok (.ireturn, 1) := by decide +kernel
theorem dX3_comesTo_20 : decode cX3_comesTo 20 = .ok (.iinc 3 1, 3) := by decide +kernel
theorem dX3_comesTo_23 : decode cX3_comesTo 23 = .ok (.goto (-21), 3) := by decide +kernel
theorem dX3_comesTo_26 : decode cX3_comesTo 26 = .ok (.iconst 0, 1) := by decide +kernel
theorem dX3_comesTo_27 : decode cX3_comesTo 27 = .ok (.ireturn, 1) := by decide +kernel
theorem dX4_init_0 : decode cX4_init 0 = .ok (.aload_n 0, 1) := by decide +kernel
theorem dX4_init_1 : decode cX4_init 1 = .ok (.invokespecial 5, 3) := by decide +kernel
theorem dX4_init_4 : decode cX4_init 4 = .ok (.aload_n 0, 1) := by decide +kernel
theorem dX4_init_5 : decode cX4_init 5 = .ok (.new 11, 3) := by decide +kernel
theorem dX4_init_8 : decode cX4_init 8 = .ok (.dup, 1) := by decide +kernel
theorem dX4_init_9 : decode cX4_init 9 = .ok (.invokespecial 13, 3) := by decide +kernel
theorem dX4_init_12 : decode cX4_init 12 = .ok (.putfield 14, 3) := by decide +kernel
theorem dX4_init_15 : decode cX4_init 15 = .ok (.aload_n 0, 1) := by decide +kernel
theorem dX4_init_16 : decode cX4_init 16 = .ok (.new 11, 3) := by decide +kernel
theorem dX4_init_19 : decode cX4_init 19 = .ok (.dup, 1) := by decide +kernel
theorem dX4_init_20 : decode cX4_init 20 = .ok (.invokespecial 13, 3) := by decide +kernel
theorem dX4_init_23 : decode cX4_init 23 = .ok (.putfield 18, 3) := by decide +kernel
theorem dX4_init_26 : decode cX4_init 26 = .ok (.aload_n 0, 1) := by decide +kernel
theorem dX4_init_27 : decode cX4_init 27 = .ok (.new 21, 3) := by decide +kernel
theorem dX4_init_30 : decode cX4_init 30 = .ok (.dup, 1) := by decide +kernel
theorem dX4_init_31 : decode cX4_init 31 = .ok (.invokespecial 23, 3) := by decide +kernel
theorem dX4_init_34 : decode cX4_init 34 = .ok (.putfield 24, 3) := by decide +kernel
theorem dX4_init_37 : decode cX4_init 37 = .ok (.aload_n 0, 1) := by decide +kernel
theorem dX4_init_38 : decode cX4_init 38 = .ok (.iconst 4, 1) := by decide +kernel
theorem dX4_init_39 : decode cX4_init 39 = .ok (.anewarray 28, 3) := by decide +kernel
theorem dX4_init_42 : decode cX4_init 42 = .ok (.putfield 30, 3) := by decide +kernel
theorem dX4_init_45 : decode cX4_init 45 = .ok (.aload_n 0, 1) := by decide +kernel
theorem dX4_init_46 : decode cX4_init 46 = .ok (.iconst 0, 1) := by decide +kernel
theorem dX4_init_47 : decode cX4_init 47 = .ok (.putfield 34, 3) := by decide +kernel
theorem dX4_init_50 : decode cX4_init 50 = .ok (.aload_n 0, 1) := by decide +kernel
theorem dX4_init_51 : decode cX4_init 51 = .ok (.iconst 0, 1) := by decide +kernel
theorem dX4_init_52 : decode cX4_init 52 = .ok (.putfield 38, 3) := by decide +kernel
theorem dX4_init_55 : decode cX4_init 55 = .ok (.iconst 0, 1) := by decide +kernel
theorem dX4_init_56 : decode cX4_init 56 = .ok (.istore_n 1, 1) := by decide +kernel
theorem dX4_init_57 : decode cX4_init 57 = .ok (.iload_n 1, 1) := by decide +kernel
theorem dX4_init_58 : decode cX4_init 58 = .ok (.aload_n 0, 1) := by decide +kernel
theorem dX4_init_59 : decode cX4_init 59 = .ok (.getfield 30, 3) := by decide +kernel
theorem dX4_init_62 : decode cX4_init 62 = .ok (.arraylength, 1) := by decide +kernel
theorem dX4_init_63 : decode cX4_init 63 = .ok (.if_icmp .ge 22, 3) := by decide +kernel
theorem dX4_init_66 : decode cX4_init 66 = .ok (.aload_n 0, 1) := by decide +kernel
theorem dX4_init_67 : decode cX4_init 67 = .ok (.getfield 30, 3) := by decide +kernel
theorem dX4_init_70 : decode cX4_init 70 = .ok (.iload_n 1, 1) := by decide +kernel
theorem dX4_init_71 : decode cX4_init 71 = .ok (.new 28, 3) := by decide +kernel
theorem dX4_init_74 : decode cX4_init 74 = .ok (.dup, 1) := by decide +kernel
theorem dX4_init_75 : decode cX4_init 75 = .ok (.invokespecial 41, 3) := by decide +kernel
theorem dX4_init_78 : decode cX4_init 78 = .ok (.aastore, 1) := by decide +kernel
theorem dX4_init_79 : decode cX4_init 79 = .ok (.iinc 1 1, 3) := by decide +kernel
theorem dX4_init_82 : decode cX4_init 82 = .ok (.goto (-25), 3) := by decide +kernel
theorem dX4_init_85 : decode cX4_init 85 = .ok (.return_, 1) := by decide +kernel
theorem dX4_town_0 : decode cX4_town 0 = .ok (.aload_n 0, 1) := by decide +kernel
theorem dX4_town_1 : decode cX4_town 1 = .ok (.iconst 0, 1) := by decide +kernel
theorem dX4_town_2 : decode cX4_town 2 = .ok (.putfield 38, 3) := by decide +kernel
theorem dX4_town_5 : decode cX4_town 5 = .ok (.aload_n 0, 1) := by decide +kernel
theorem dX4_town_6 : decode cX4_town 6 = .ok (.iload_n 1, 1) := by decide +kernel
theorem dX4_town_7 : decode cX4_town 7 = .ok (.invokevirtual 42, 3) := by decide +kernel
theorem dX4_town_10 : decode cX4_town 10 = .ok (.astore 5, 2) := by decide +kernel
theorem dX4_town_12 : decode cX4_town 12 = .ok (.aload 5, 2) := by decide +kernel
theorem dX4_town_14 : decode cX4_town 14 = .ok (.ifnonnull 5, 3) := by decide +kernel
theorem dX4_town_17 : decode cX4_town 17 = .ok (.iconst (-1), 1) := by decide +kernel
theorem dX4_town_18 : decode cX4_town 18 = .ok (.ireturn, 1) := by decide +kernel
theorem dX4_town_19 : decode cX4_town 19 = .ok (.iload_n 2, 1) := by decide +kernel
theorem dX4_town_20 : decode cX4_town 20 = .ok (.invokestatic 46, 3) := by decide +kernel
theorem dX4_town_23 : decode cX4_town 23 = .ok (.ifCond .ne 6, 3) := by decide +kernel
theorem dX4_town_26 : decode cX4_town 26 = .ok (.bipush (-2), 2) := by decide +kernel
theorem dX4_town_28 : decode cX4_town 28 = .ok (.ireturn, 1) := by decide +kernel
theorem dX4_town_29 : decode cX4_town 29 = .ok (.aload 5, 2) := by decide +kernel
theorem dX4_town_31 : decode cX4_town 31 = .ok (.iload_n 2, 1) := by decide +kernel
theorem dX4_town_32 : decode cX4_town 32 = .ok (.invokevirtual 50, 3) := by decide +kernel
theorem dX4_town_35 : decode cX4_town 35 = .ok (.istore 6, 2) := by decide +kernel
theorem dX4_town_37 : decode cX4_town 37 = .ok (.iload 6, 2) := by decide +kernel
theorem dX4_town_39 : decode cX4_town 39 = .ok (.ifCond .ne 22, 3) := by decide +kernel
theorem dX4_town_42 : decode cX4_town 42 = .ok (.iload 4, 2) := by decide +kernel
theorem dX4_town_44 : decode cX4_town 44 = .ok (.ifCond .ge 7, 3) := by decide +kernel
theorem dX4_town_47 : decode cX4_town 47 = .ok (.iconst 4, 1) := by decide +kernel
theorem dX4_town_48 : decode cX4_town 48 = .ok (.goto 11, 3) := by decide +kernel
theorem dX4_town_51 : decode cX4_town 51 = .ok (.aload 5, 2) := by decide +kernel
theorem dX4_town_53 : decode cX4_town 53 = .ok (.iload_n 3, 1) := by decide +kernel
theorem dX4_town_54 : decode cX4_town 54 = .ok (.iload 4, 2) := by decide +kernel
theorem dX4_town_56 : decode cX4_town 56 = .ok (.invokevirtual 54, 3) := by decide +kernel
theorem dX4_town_59 : decode cX4_town 59 = .ok (.istore 6, 2) := by decide +kernel
theorem dX4_town_61 : decode cX4_town 61 = .ok (.iload 6, 2) := by decide +kernel
theorem dX4_town_63 : decode cX4_town 63 = .ok (.ifCond .eq 10, 3) := by decide +kernel
theorem dX4_town_66 : decode cX4_town 66 = .ok (.aload_n 0, 1) := by decide +kernel
theorem dX4_town_67 : decode cX4_town 67 = .ok (.iload 6, 2) := by decide +kernel
theorem dX4_town_69 : decode cX4_town 69 = .ok (.invokevirtual 58, 3) := by decide +kernel
theorem dX4_town_72 : decode cX4_town 72 = .ok (.ireturn, 1) := by decide +kernel
theorem dX4_town_73 : decode cX4_town 73 = .ok (.aload_n 0, 1) := by decide +kernel
theorem dX4_town_74 : decode cX4_town 74 = .ok (.getfield 18, 3) := by decide +kernel
theorem dX4_town_77 : decode cX4_town 77 = .ok (.aload 5, 2) := by decide +kernel
theorem dX4_town_79 : decode cX4_town 79 = .ok (.iload_n 3, 1) := by decide +kernel
theorem dX4_town_80 : decode cX4_town 80 = .ok (.iload 4, 2) := by decide +kernel
theorem dX4_town_82 : decode cX4_town 82 = .ok (.invokevirtual 61, 3) := by decide +kernel
theorem dX4_town_85 : decode cX4_town 85 = .ok (.istore 7, 2) := by decide +kernel
theorem dX4_town_87 : decode cX4_town 87 = .ok (.iload 7, 2) := by decide +kernel
theorem dX4_town_89 : decode cX4_town 89 = .ok (.bipush (-9), 2) := by decide +kernel
theorem dX4_town_91 : decode cX4_town 91 = .ok (.if_icmp .eq 9, 3) := by decide +kernel
theorem dX4_town_94 : decode cX4_town 94 = .ok (.bipush (-100), 2) := by decide +kernel
theorem dX4_town_96 : decode cX4_town 96 = .ok (.iload 7, 2) := by decide +kernel
theorem dX4_town_98 : decode cX4_town 98 = .ok (.isub, 1) := by decide +kernel
theorem dX4_town_99 : decode cX4_town 99 = .ok (.ireturn, 1) := by decide +kernel
theorem dX4_town_100 : decode cX4_town 100 = .ok (.aload_n 0, 1) := by decide +kernel
theorem dX4_town_101 : decode cX4_town 101 = .ok (.getfield 14, 3) := by decide +kernel
theorem dX4_town_104 : decode cX4_town 104 = .ok (.aload 5, 2) := by decide +kernel
theorem dX4_town_106 : decode cX4_town 106 = .ok (.iload_n 3, 1) := by decide +kernel
theorem dX4_town_107 : decode cX4_town 107 = .ok (.iload 4, 2) := by decide +kernel
theorem dX4_town_109 : decode cX4_town 109 = .ok (.invokevirtual 61, 3) := by decide +kernel
theorem dX4_town_112 : decode cX4_town 112 = .ok (.pop, 1) := by decide +kernel
theorem dX4_town_113 : decode cX4_town 113 = .ok (.aload_n 0, 1) := by decide +kernel
theorem dX4_town_114 : decode cX4_town 114 = .ok (.getfield 24, 3) := by decide +kernel
theorem dX4_town_117 : decode cX4_town 117 = .ok (.iconst 0, 1) := by decide +kernel
theorem dX4_town_118 : decode cX4_town 118 = .ok (.invokevirtual 65, 3) := by decide +kernel
theorem dX4_town_121 : decode cX4_town 121 = .ok (.aload_n 0, 1) := by decide +kernel
theorem dX4_town_122 : decode cX4_town 122 = .ok (.getfield 14, 3) := by decide +kernel
theorem dX4_town_125 : decode cX4_town 125 = .ok (.invokevirtual 69, 3) := by decide +kernel
theorem dX4_town_128 : decode cX4_town 128 = .ok (.ireturn, 1) := by decide +kernel
theorem dX4_ofSleeper_0 : decode cX4_ofSleeper 0 = .ok (.aload_n 0, 1) := by decide +kernel
theorem dX4_ofSleeper_1 : decode cX4_ofSleeper 1 = .ok (.getfield 14, 3) := by decide +kernel
theorem dX4_ofSleeper_4 : decode cX4_ofSleeper 4 = .ok (.iload_n 1, 1) := by decide +kernel
theorem dX4_ofSleeper_5 : decode cX4_ofSleeper 5 = .ok (.invokevirtual 73, 3) := by decide +kernel
theorem dX4_ofSleeper_8 : decode cX4_ofSleeper 8 = .ok (.astore_n 3, 1) := by decide +kernel
theorem dX4_ofSleeper_9 : decode cX4_ofSleeper 9 = .ok (.aload_n 3, 1) := by decide +kernel
theorem dX4_ofSleeper_10 : decode cX4_ofSleeper 10 = .ok (.ifnonnull 5, 3) := by decide +kernel
theorem dX4_ofSleeper_13 : decode cX4_ofSleeper 13 = .ok (.iconst (-1), 1) := by decide +kernel
theorem dX4_ofSleeper_14 : decode cX4_ofSleeper 14 = .ok (.ireturn, 1) := by decide +kernel
theorem dX4_ofSleeper_15 : decode cX4_ofSleeper 15 = .ok (.iload_n 2, 1) := by decide +kernel
theorem dX4_ofSleeper_16 : decode cX4_ofSleeper 16 = .ok (.tableswitch 43 0 2 #[28, 33, 38], 28) := by decide +kernel
theorem dX4_ofSleeper_44 : decode cX4_ofSleeper 44 = .ok (.aload_n 3, 1) := by decide +kernel
theorem dX4_ofSleeper_45 : decode cX4_ofSleeper 45 = .ok (.getfield 77, 3) := by decide +kernel
theorem dX4_ofSleeper_48 : decode cX4_ofSleeper 48 = .ok (.ireturn, 1) := by decide +kernel
theorem dX4_ofSleeper_49 : decode cX4_ofSleeper 49 = .ok (.aload_n 3, 1) := by decide +kernel
theorem dX4_ofSleeper_50 : decode cX4_ofSleeper 50 = .ok (.getfield 82, 3) := by decide +kernel
theorem dX4_ofSleeper_53 : decode cX4_ofSleeper 53 = .ok (.ireturn, 1) := by decide +kernel
theorem dX4_ofSleeper_54 : decode cX4_ofSleeper 54 = .ok (.aload_n 3, 1) := by decide +kernel
theorem dX4_ofSleeper_55 : decode cX4_ofSleeper 55 = .ok (.getfield 85, 3) := by decide +kernel
theorem dX4_ofSleeper_58 : decode cX4_ofSleeper 58 = .ok (.ireturn, 1) := by decide +kernel
theorem dX4_ofSleeper_59 : decode cX4_ofSleeper 59 = .ok (.bipush (-2), 2) := by decide +kernel
theorem dX4_ofSleeper_61 : decode cX4_ofSleeper 61 = .ok (.ireturn, 1) := by decide +kernel
theorem dX4_goods_0 : decode cX4_goods 0 = .ok (.aload_n 0, 1) := by decide +kernel
theorem dX4_goods_1 : decode cX4_goods 1 = .ok (.getfield 14, 3) := by decide +kernel
theorem dX4_goods_4 : decode cX4_goods 4 = .ok (.iload_n 1, 1) := by decide +kernel
theorem dX4_goods_5 : decode cX4_goods 5 = .ok (.invokevirtual 88, 3) := by decide +kernel
theorem dX4_goods_8 : decode cX4_goods 8 = .ok (.ifCond .eq 14, 3) := by decide +kernel
theorem dX4_goods_11 : decode cX4_goods 11 = .ok (.aload_n 0, 1) := by decide +kernel
theorem dX4_goods_12 : decode cX4_goods 12 = .ok (.getfield 14, 3) := by decide +kernel
theorem dX4_goods_15 : decode cX4_goods 15 = .ok (.iload_n 1, 1) := by decide +kernel
theorem dX4_goods_16 : decode cX4_goods 16 = .ok (.invokevirtual 91, 3) := by decide +kernel
theorem dX4_goods_19 : decode cX4_goods 19 = .ok (.goto 4, 3) := by decide +kernel
theorem dX4_goods_22 : decode cX4_goods 22 = .ok (.iconst (-1), 1) := by decide +kernel
theorem dX4_goods_23 : decode cX4_goods 23 = .ok (.ireturn, 1) := by decide +kernel
theorem dX4_lay_0 : decode cX4_lay 0 = .ok (.aload_n 0, 1) := by decide +kernel
theorem dX4_lay_1 : decode cX4_lay 1 = .ok (.getfield 14, 3) := by decide +kernel
theorem dX4_lay_4 : decode cX4_lay 4 = .ok (.iload_n 1, 1) := by decide +kernel
theorem dX4_lay_5 : decode cX4_lay 5 = .ok (.invokevirtual 88, 3) := by decide +kernel
theorem dX4_lay_8 : decode cX4_lay 8 = .ok (.ifCond .ne 5, 3) := by decide +kernel
theorem dX4_lay_11 : decode cX4_lay 11 = .ok (.iconst (-1), 1) := by decide +kernel
theorem dX4_lay_12 : decode cX4_lay 12 = .ok (.ireturn, 1) := by decide +kernel
theorem dX4_lay_13 : decode cX4_lay 13 = .ok (.iload_n 2, 1) := by decide +kernel
theorem dX4_lay_14 : decode cX4_lay 14 = .ok (.ifCond .lt 9, 3) := by decide +kernel
theorem dX4_lay_17 : decode cX4_lay 17 = .ok (.iload_n 2, 1) := by decide +kernel
theorem dX4_lay_18 : decode cX4_lay 18 = .ok (.bipush 9, 2) := by decide +kernel
theorem dX4_lay_20 : decode cX4_lay 20 = .ok (.if_icmp .le 6, 3) := by decide +kernel
theorem dX4_lay_23 : decode cX4_lay 23 = .ok (.bipush (-2), 2) := by decide +kernel
theorem dX4_lay_25 : decode cX4_lay 25 = .ok (.ireturn, 1) := by decide +kernel
theorem dX4_lay_26 : decode cX4_lay 26 = .ok (.aload_n 0, 1) := by decide +kernel
theorem dX4_lay_27 : decode cX4_lay 27 = .ok (.getfield 14, 3) := by decide +kernel
theorem dX4_lay_30 : decode cX4_lay 30 = .ok (.iload_n 1, 1) := by decide +kernel
theorem dX4_lay_31 : decode cX4_lay 31 = .ok (.invokevirtual 91, 3) := by decide +kernel
theorem dX4_lay_34 : decode cX4_lay 34 = .ok (.istore_n 3, 1) := by decide +kernel
theorem dX4_lay_35 : decode cX4_lay 35 = .ok (.aload_n 0, 1) := by decide +kernel
theorem dX4_lay_36 : decode cX4_lay 36 = .ok (.getfield 14, 3) := by decide +kernel
theorem dX4_lay_39 : decode cX4_lay 39 = .ok (.iload_n 1, 1) := by decide +kernel
theorem dX4_lay_40 : decode cX4_lay 40 = .ok (.iload_n 2, 1) := by decide +kernel
theorem dX4_lay_41 : decode cX4_lay 41 = .ok (.invokevirtual 94, 3) := by decide +kernel
theorem dX4_lay_44 : decode cX4_lay 44 = .ok (.iload_n 3, 1) := by decide +kernel
theorem dX4_lay_45 : decode cX4_lay 45 = .ok (.ireturn, 1) := by decide +kernel
theorem dX4_stride_0 : decode cX4_stride 0 = .ok (.aload_n 0, 1) := by decide +kernel
theorem dX4_stride_1 : decode cX4_stride 1 = .ok (.getfield 14, 3) := by decide +kernel
theorem dX4_stride_4 : decode cX4_stride 4 = .ok (.iload_n 1, 1) := by decide +kernel
theorem dX4_stride_5 : decode cX4_stride 5 = .ok (.invokevirtual 73, 3) := by decide +kernel
theorem dX4_stride_8 : decode cX4_stride 8 = .ok (.astore_n 3, 1) := by decide +kernel
theorem dX4_stride_9 : decode cX4_stride 9 = .ok (.aload_n 3, 1) := by decide +kernel
theorem dX4_stride_10 : decode cX4_stride 10 = .ok (.ifnonnull 5, 3) := by decide +kernel
theorem dX4_stride_13 : decode cX4_stride 13 = .ok (.iconst (-1), 1) := by decide +kernel
theorem dX4_stride_14 : decode cX4_stride 14 = .ok (.ireturn, 1) := by decide +kernel
theorem dX4_stride_15 : decode cX4_stride 15 = .ok (.iload_n 2, 1) := by decide +kernel
theorem dX4_stride_16 : decode cX4_stride 16 = .ok (.ifCond .lt 8, 3) := by decide +kernel
theorem dX4_stride_19 : decode cX4_stride 19 = .ok (.iload_n 2, 1) := by decide +kernel
theorem dX4_stride_20 : decode cX4_stride 20 = .ok (.iconst 3, 1) := by decide +kernel
theorem dX4_stride_21 : decode cX4_stride 21 = .ok (.if_icmp .le 6, 3) := by decide +kernel
theorem dX4_stride_24 : decode cX4_stride 24 = .ok (.bipush (-2), 2) := by decide +kernel
theorem dX4_stride_26 : decode cX4_stride 26 = .ok (.ireturn, 1) := by decide +kernel
theorem dX4_stride_27 : decode cX4_stride 27 = .ok (.aload_n 3, 1) := by decide +kernel
theorem dX4_stride_28 : decode cX4_stride 28 = .ok (.getfield 85, 3) := by decide +kernel
theorem dX4_stride_31 : decode cX4_stride 31 = .ok (.istore 4, 2) := by decide +kernel
theorem dX4_stride_33 : decode cX4_stride 33 = .ok (.aload_n 3, 1) := by decide +kernel
theorem dX4_stride_34 : decode cX4_stride 34 = .ok (.iload_n 2, 1) := by decide +kernel
theorem dX4_stride_35 : decode cX4_stride 35 = .ok (.putfield 85, 3) := by decide +kernel
theorem dX4_stride_38 : decode cX4_stride 38 = .ok (.iload 4, 2) := by decide +kernel
theorem dX4_stride_40 : decode cX4_stride 40 = .ok (.ireturn, 1) := by decide +kernel
theorem dX4_where_0 : decode cX4_where 0 = .ok (.aload_n 0, 1) := by decide +kernel
theorem dX4_where_1 : decode cX4_where 1 = .ok (.getfield 14, 3) := by decide +kernel
theorem dX4_where_4 : decode cX4_where 4 = .ok (.iload_n 1, 1) := by decide +kernel
theorem dX4_where_5 : decode cX4_where 5 = .ok (.invokevirtual 98, 3) := by decide +kernel
theorem dX4_where_8 : decode cX4_where 8 = .ok (.ifCond .ne 5, 3) := by decide +kernel
theorem dX4_where_11 : decode cX4_where 11 = .ok (.iconst (-1), 1) := by decide +kernel
theorem dX4_where_12 : decode cX4_where 12 = .ok (.ireturn, 1) := by decide +kernel
theorem dX4_where_13 : decode cX4_where 13 = .ok (.iload_n 2, 1) := by decide +kernel
theorem dX4_where_14 : decode cX4_where 14 = .ok (.invokestatic 101, 3) := by decide +kernel
theorem dX4_where_17 : decode cX4_where 17 = .ok (.ifCond .eq 15, 3) := by decide +kernel
theorem dX4_where_20 : decode cX4_where 20 = .ok (.aload_n 0, 1) := by decide +kernel
theorem dX4_where_21 : decode cX4_where 21 = .ok (.getfield 14, 3) := by decide +kernel
theorem dX4_where_24 : decode cX4_where 24 = .ok (.iload_n 1, 1) := by decide +kernel
theorem dX4_where_25 : decode cX4_where 25 = .ok (.iload_n 2, 1) := by decide +kernel
theorem dX4_where_26 : decode cX4_where 26 = .ok (.invokevirtual 104, 3) := by decide +kernel
theorem dX4_where_29 : decode cX4_where 29 = .ok (.goto 5, 3) := by decide +kernel
theorem dX4_where_32 : decode cX4_where 32 = .ok (.bipush (-2), 2) := by decide +kernel
theorem dX4_where_34 : decode cX4_where 34 = .ok (.ireturn, 1) := by decide +kernel
theorem dX4_taken_0 : decode cX4_taken 0 = .ok (.aload_n 0, 1) := by decide +kernel
theorem dX4_taken_1 : decode cX4_taken 1 = .ok (.getfield 14, 3) := by decide +kernel
theorem dX4_taken_4 : decode cX4_taken 4 = .ok (.iload_n 1, 1) := by decide +kernel
theorem dX4_taken_5 : decode cX4_taken 5 = .ok (.invokevirtual 98, 3) := by decide +kernel
theorem dX4_taken_8 : decode cX4_taken 8 = .ok (.ifCond .ne 5, 3) := by decide +kernel
theorem dX4_taken_11 : decode cX4_taken 11 = .ok (.iconst (-1), 1) := by decide +kernel
theorem dX4_taken_12 : decode cX4_taken 12 = .ok (.ireturn, 1) := by decide +kernel
theorem dX4_taken_13 : decode cX4_taken 13 = .ok (.iload_n 2, 1) := by decide +kernel
theorem dX4_taken_14 : decode cX4_taken 14 = .ok (.invokestatic 101, 3) := by decide +kernel
theorem dX4_taken_17 : decode cX4_taken 17 = .ok (.ifCond .eq 15, 3) := by decide +kernel
theorem dX4_taken_20 : decode cX4_taken 20 = .ok (.aload_n 0, 1) := by decide +kernel
theorem dX4_taken_21 : decode cX4_taken 21 = .ok (.getfield 14, 3) := by decide +kernel
theorem dX4_taken_24 : decode cX4_taken 24 = .ok (.iload_n 1, 1) := by decide +kernel
theorem dX4_taken_25 : decode cX4_taken 25 = .ok (.iload_n 2, 1) := by decide +kernel
theorem dX4_taken_26 : decode cX4_taken 26 = .ok (.invokevirtual 107, 3) := by decide +kernel
theorem dX4_taken_29 : decode cX4_taken 29 = .ok (.goto 5, 3) := by decide +kernel
theorem dX4_taken_32 : decode cX4_taken 32 = .ok (.bipush (-2), 2) := by decide +kernel
theorem dX4_taken_34 : decode cX4_taken 34 = .ok (.ireturn, 1) := by decide +kernel
theorem dX4_free_0 : decode cX4_free 0 = .ok (.iload_n 1, 1) := by decide +kernel
theorem dX4_free_1 : decode cX4_free 1 = .ok (.invokestatic 101, 3) := by decide +kernel
theorem dX4_free_4 : decode cX4_free 4 = .ok (.ifCond .ne 6, 3) := by decide +kernel
theorem dX4_free_7 : decode cX4_free 7 = .ok (.bipush (-2), 2) := by decide +kernel
theorem dX4_free_9 : decode cX4_free 9 = .ok (.ireturn, 1) := by decide +kernel
theorem dX4_free_10 : decode cX4_free 10 = .ok (.aload_n 0, 1) := by decide +kernel
theorem dX4_free_11 : decode cX4_free 11 = .ok (.getfield 14, 3) := by decide +kernel
theorem dX4_free_14 : decode cX4_free 14 = .ok (.invokevirtual 110, 3) := by decide +kernel
theorem dX4_free_17 : decode cX4_free 17 = .ok (.ifCond .eq 16, 3) := by decide +kernel
theorem dX4_free_20 : decode cX4_free 20 = .ok (.aload_n 0, 1) := by decide +kernel
theorem dX4_free_21 : decode cX4_free 21 = .ok (.getfield 14, 3) := by decide +kernel
theorem dX4_free_24 : decode cX4_free 24 = .ok (.iload_n 1, 1) := by decide +kernel
theorem dX4_free_25 : decode cX4_free 25 = .ok (.bipush 15, 2) := by decide +kernel
theorem dX4_free_27 : decode cX4_free 27 = .ok (.invokevirtual 114, 3) := by decide +kernel
theorem dX4_free_30 : decode cX4_free 30 = .ok (.goto 5, 3) := by decide +kernel
theorem dX4_free_33 : decode cX4_free 33 = .ok (.bipush (-3), 2) := by decide +kernel
theorem dX4_free_35 : decode cX4_free 35 = .ok (.ireturn, 1) := by decide +kernel
theorem dX4_meet_0 : decode cX4_meet 0 = .ok (.aload_n 0, 1) := by decide +kernel
theorem dX4_meet_1 : decode cX4_meet 1 = .ok (.getfield 14, 3) := by decide +kernel
theorem dX4_meet_4 : decode cX4_meet 4 = .ok (.iload_n 1, 1) := by decide +kernel
theorem dX4_meet_5 : decode cX4_meet 5 = .ok (.invokevirtual 98, 3) := by decide +kernel
theorem dX4_meet_8 : decode cX4_meet 8 = .ok (.ifCond .eq 19, 3) := by decide +kernel
theorem dX4_meet_11 : decode cX4_meet 11 = .ok (.aload_n 0, 1) := by decide +kernel
theorem dX4_meet_12 : decode cX4_meet 12 = .ok (.getfield 14, 3) := by decide +kernel
theorem dX4_meet_15 : decode cX4_meet 15 = .ok (.iload_n 2, 1) := by decide +kernel
theorem dX4_meet_16 : decode cX4_meet 16 = .ok (.invokevirtual 98, 3) := by decide +kernel
theorem dX4_meet_19 : decode cX4_meet 19 = .ok (.ifCond .eq 8, 3) := by decide +kernel
theorem dX4_meet_22 : decode cX4_meet 22 = .ok (.iload_n 1, 1) := by decide +kernel
theorem dX4_meet_23 : decode cX4_meet 23 = .ok (.iload_n 2, 1) := by decide +kernel
theorem dX4_meet_24 : decode cX4_meet 24 = .ok (.if_icmp .ne 5, 3) := by decide +kernel
theorem dX4_meet_27 : decode cX4_meet 27 = .ok (.iconst (-1), 1) := by decide +kernel
theorem dX4_meet_28 : decode cX4_meet 28 = .ok (.ireturn, 1) := by decide +kernel
theorem dX4_meet_29 : decode cX4_meet 29 = .ok (.iconst 0, 1) := by decide +kernel
theorem dX4_meet_30 : decode cX4_meet 30 = .ok (.istore_n 3, 1) := by decide +kernel
theorem dX4_meet_31 : decode cX4_meet 31 = .ok (.iload_n 3, 1) := by decide +kernel
theorem dX4_meet_32 : decode cX4_meet 32 = .ok (.bipush 60, 2) := by decide +kernel
theorem dX4_meet_34 : decode cX4_meet 34 = .ok (.if_icmp .gt 32, 3) := by decide +kernel
theorem dX4_meet_37 : decode cX4_meet 37 = .ok (.aload_n 0, 1) := by decide +kernel
theorem dX4_meet_38 : decode cX4_meet 38 = .ok (.getfield 14, 3) := by decide +kernel
theorem dX4_meet_41 : decode cX4_meet 41 = .ok (.iload_n 1, 1) := by decide +kernel
theorem dX4_meet_42 : decode cX4_meet 42 = .ok (.iload_n 3, 1) := by decide +kernel
theorem dX4_meet_43 : decode cX4_meet 43 = .ok (.invokevirtual 104, 3) := by decide +kernel
theorem dX4_meet_46 : decode cX4_meet 46 = .ok (.aload_n 0, 1) := by decide +kernel
theorem dX4_meet_47 : decode cX4_meet 47 = .ok (.getfield 14, 3) := by decide +kernel
theorem dX4_meet_50 : decode cX4_meet 50 = .ok (.iload_n 2, 1) := by decide +kernel
theorem dX4_meet_51 : decode cX4_meet 51 = .ok (.iload_n 3, 1) := by decide +kernel
theorem dX4_meet_52 : decode cX4_meet 52 = .ok (.invokevirtual 104, 3) := by decide +kernel
theorem dX4_meet_55 : decode cX4_meet 55 = .ok (.if_icmp .ne 5, 3) := by decide +kernel
theorem dX4_meet_58 : decode cX4_meet 58 = .ok (.iload_n 3, 1) := by decide +kernel
theorem dX4_meet_59 : decode cX4_meet 59 = .ok (.ireturn, 1) := by decide +kernel
theorem dX4_meet_60 : decode cX4_meet 60 = .ok (.iinc 3 1, 3) := by decide +kernel
theorem dX4_meet_63 : decode cX4_meet 63 = .ok (.goto (-32), 3) := by decide +kernel
theorem dX4_meet_66 : decode cX4_meet 66 = .ok (.bipush (-9), 2) := by decide +kernel
theorem dX4_meet_68 : decode cX4_meet 68 = .ok (.ireturn, 1) := by decide +kernel
theorem dX4_walk_0 : decode cX4_walk 0 = .ok (.aload_n 0, 1) := by decide +kernel
theorem dX4_walk_1 : decode cX4_walk 1 = .ok (.iconst 0, 1) := by decide +kernel
theorem dX4_walk_2 : decode cX4_walk 2 = .ok (.putfield 38, 3) := by decide +kernel
theorem dX4_walk_5 : decode cX4_walk 5 = .ok (.aload_n 0, 1) := by decide +kernel
theorem dX4_walk_6 : decode cX4_walk 6 = .ok (.iload_n 2, 1) := by decide +kernel
theorem dX4_walk_7 : decode cX4_walk 7 = .ok (.invokevirtual 42, 3) := by decide +kernel
theorem dX4_walk_10 : decode cX4_walk 10 = .ok (.astore 7, 2) := by decide +kernel
theorem dX4_walk_12 : decode cX4_walk 12 = .ok (.aload_n 0, 1) := by decide +kernel
theorem dX4_walk_13 : decode cX4_walk 13 = .ok (.getfield 14, 3) := by decide +kernel
theorem dX4_walk_16 : decode cX4_walk 16 = .ok (.iload_n 1, 1) := by decide +kernel
theorem dX4_walk_17 : decode cX4_walk 17 = .ok (.invokevirtual 88, 3) := by decide +kernel
theorem dX4_walk_20 : decode cX4_walk 20 = .ok (.ifCond .eq 8, 3) := by decide +kernel
theorem dX4_walk_23 : decode cX4_walk 23 = .ok (.aload 7, 2) := by decide +kernel
theorem dX4_walk_25 : decode cX4_walk 25 = .ok (.ifnonnull 5, 3) := by decide +kernel
theorem dX4_walk_28 : decode cX4_walk 28 = .ok (.iconst (-1), 1) := by decide +kernel
theorem dX4_walk_29 : decode cX4_walk 29 = .ok (.ireturn, 1) := by decide +kernel
theorem dX4_walk_30 : decode cX4_walk 30 = .ok (.iload_n 3, 1) := by decide +kernel
theorem dX4_walk_31 : decode cX4_walk 31 = .ok (.invokestatic 46, 3) := by decide +kernel
theorem dX4_walk_34 : decode cX4_walk 34 = .ok (.ifCond .eq 26, 3) := by decide +kernel
theorem dX4_walk_37 : decode cX4_walk 37 = .ok (.iload 5, 2) := by decide +kernel
theorem dX4_walk_39 : decode cX4_walk 39 = .ok (.ifCond .lt 21, 3) := by decide +kernel
theorem dX4_walk_42 : decode cX4_walk 42 = .ok (.iload 5, 2) := by decide +kernel
theorem dX4_walk_44 : decode cX4_walk 44 = .ok (.bipush 40, 2) := by decide +kernel
theorem dX4_walk_46 : decode cX4_walk 46 = .ok (.if_icmp .gt 14, 3) := by decide +kernel
theorem dX4_walk_49 : decode cX4_walk 49 = .ok (.iload 6, 2) := by decide +kernel
theorem dX4_walk_51 : decode cX4_walk 51 = .ok (.ifCond .lt 9, 3) := by decide +kernel
theorem dX4_walk_54 : decode cX4_walk 54 = .ok (.iload 6, 2) := by decide +kernel
theorem dX4_walk_56 : decode cX4_walk 56 = .ok (.iconst 3, 1) := by decide +kernel
theorem dX4_walk_57 : decode cX4_walk 57 = .ok (.if_icmp .le 6, 3) := by decide +kernel
theorem dX4_walk_60 : decode cX4_walk 60 = .ok (.bipush (-2), 2) := by decide +kernel
theorem dX4_walk_62 : decode cX4_walk 62 = .ok (.ireturn, 1) := by decide +kernel
theorem dX4_walk_63 : decode cX4_walk 63 = .ok (.aload_n 0, 1) := by decide +kernel
theorem dX4_walk_64 : decode cX4_walk 64 = .ok (.getfield 14, 3) := by decide +kernel
theorem dX4_walk_67 : decode cX4_walk 67 = .ok (.iconst 0, 1) := by decide +kernel
theorem dX4_walk_68 : decode cX4_walk 68 = .ok (.bipush 15, 2) := by decide +kernel
theorem dX4_walk_70 : decode cX4_walk 70 = .ok (.invokevirtual 114, 3) := by decide +kernel
theorem dX4_walk_73 : decode cX4_walk 73 = .ok (.iload_n 1, 1) := by decide +kernel
theorem dX4_walk_74 : decode cX4_walk 74 = .ok (.invokestatic 117, 3) := by decide +kernel
theorem dX4_walk_77 : decode cX4_walk 77 = .ok (.ifCond .ne 6, 3) := by decide +kernel
theorem dX4_walk_80 : decode cX4_walk 80 = .ok (.bipush (-3), 2) := by decide +kernel
theorem dX4_walk_82 : decode cX4_walk 82 = .ok (.ireturn, 1) := by decide +kernel
theorem dX4_walk_83 : decode cX4_walk 83 = .ok (.aload 7, 2) := by decide +kernel
theorem dX4_walk_85 : decode cX4_walk 85 = .ok (.iload_n 3, 1) := by decide +kernel
theorem dX4_walk_86 : decode cX4_walk 86 = .ok (.invokevirtual 50, 3) := by decide +kernel
theorem dX4_walk_89 : decode cX4_walk 89 = .ok (.istore 8, 2) := by decide +kernel
theorem dX4_walk_91 : decode cX4_walk 91 = .ok (.iload 8, 2) := by decide +kernel
theorem dX4_walk_93 : decode cX4_walk 93 = .ok (.ifCond .ne 14, 3) := by decide +kernel
theorem dX4_walk_96 : decode cX4_walk 96 = .ok (.aload 7, 2) := by decide +kernel
theorem dX4_walk_98 : decode cX4_walk 98 = .ok (.iload 4, 2) := by decide +kernel
theorem dX4_walk_100 : decode cX4_walk 100 = .ok (.iload 5, 2) := by decide +kernel
theorem dX4_walk_102 : decode cX4_walk 102 = .ok (.invokevirtual 54, 3) := by decide +kernel
theorem dX4_walk_105 : decode cX4_walk 105 = .ok (.istore 8, 2) := by decide +kernel
theorem dX4_walk_107 : decode cX4_walk 107 = .ok (.iload 8, 2) := by decide +kernel
theorem dX4_walk_109 : decode cX4_walk 109 = .ok (.ifCond .eq 10, 3) := by decide +kernel
theorem dX4_walk_112 : decode cX4_walk 112 = .ok (.aload_n 0, 1) := by decide +kernel
theorem dX4_walk_113 : decode cX4_walk 113 = .ok (.iload 8, 2) := by decide +kernel
theorem dX4_walk_115 : decode cX4_walk 115 = .ok (.invokevirtual 58, 3) := by decide +kernel
theorem dX4_walk_118 : decode cX4_walk 118 = .ok (.ireturn, 1) := by decide +kernel
theorem dX4_walk_119 : decode cX4_walk 119 = .ok (.aload 7, 2) := by decide +kernel
theorem dX4_walk_121 : decode cX4_walk 121 = .ok (.iload 4, 2) := by decide +kernel
theorem dX4_walk_123 : decode cX4_walk 123 = .ok (.iload 5, 2) := by decide +kernel
theorem dX4_walk_125 : decode cX4_walk 125 = .ok (.invokestatic 121, 3) := by decide +kernel
theorem dX4_walk_128 : decode cX4_walk 128 = .ok (.ifCond .eq 19, 3) := by decide +kernel
theorem dX4_walk_131 : decode cX4_walk 131 = .ok (.aload_n 0, 1) := by decide +kernel
theorem dX4_walk_132 : decode cX4_walk 132 = .ok (.iload_n 1, 1) := by decide +kernel
theorem dX4_walk_133 : decode cX4_walk 133 = .ok (.aload 7, 2) := by decide +kernel
theorem dX4_walk_135 : decode cX4_walk 135 = .ok (.iload 4, 2) := by decide +kernel
theorem dX4_walk_137 : decode cX4_walk 137 = .ok (.iload 5, 2) := by decide +kernel
theorem dX4_walk_139 : decode cX4_walk 139 = .ok (.iload 6, 2) := by decide +kernel
theorem dX4_walk_141 : decode cX4_walk 141 = .ok (.invokevirtual 125, 3) := by decide +kernel
theorem dX4_walk_144 : decode cX4_walk 144 = .ok (.goto 5, 3) := by decide +kernel
theorem dX4_walk_147 : decode cX4_walk 147 = .ok (.bipush (-2), 2) := by decide +kernel
theorem dX4_walk_149 : decode cX4_walk 149 = .ok (.ireturn, 1) := by decide +kernel
theorem dX4_areActs_0 : decode cX4_areActs 0 = .ok (.iconst 0, 1) := by decide +kernel
theorem dX4_areActs_1 : decode cX4_areActs 1 = .ok (.istore_n 3, 1) := by decide +kernel
theorem dX4_areActs_2 : decode cX4_areActs 2 = .ok (.iload_n 3, 1) := by decide +kernel
theorem dX4_areActs_3 : decode cX4_areActs 3 = .ok (.iload_n 2, 1) := by decide +kernel
theorem dX4_areActs_4 : decode cX4_areActs 4 = .ok (.if_icmp .ge 37, 3) := by decide +kernel
theorem dX4_areActs_7 : decode cX4_areActs 7 = .ok (.aload_n 0, 1) := by decide +kernel
theorem dX4_areActs_8 : decode cX4_areActs 8 = .ok (.iload_n 1, 1) := by decide +kernel
theorem dX4_areActs_9 : decode cX4_areActs 9 = .ok (.iload_n 3, 1) := by decide +kernel
theorem dX4_areActs_10 : decode cX4_areActs 10 = .ok (.iadd, 1) := by decide +kernel
theorem dX4_areActs_11 : decode cX4_areActs 11 = .ok (.invokevirtual 129, 3) := by decide +kernel
theorem dX4_areActs_14 : decode cX4_areActs 14 = .ok (.istore 4, 2) := by decide +kernel
theorem dX4_areActs_16 : decode cX4_areActs 16 = .ok (.iload 4, 2) := by decide +kernel
theorem dX4_areActs_18 : decode cX4_areActs 18 = .ok (.ifCond .eq 17, 3) := by decide +kernel
theorem dX4_areActs_21 : decode cX4_areActs 21 = .ok (.iload 4, 2) := by decide +kernel
theorem dX4_areActs_23 : decode cX4_areActs 23 = .ok (.iconst 1, 1) := by decide +kernel
theorem dX4_areActs_24 : decode cX4_areActs 24 = .ok (.if_icmp .eq 11, 3) := by decide +kernel
theorem dX4_areActs_27 : decode cX4_areActs 27 = .ok (.iload 4, 2) := by decide +kernel
theorem dX4_areActs_29 : decode cX4_areActs 29 = .ok (.iconst 2, 1) := by decide +kernel
theorem dX4_areActs_30 : decode cX4_areActs 30 = .ok (.if_icmp .eq 5, 3) := by decide +kernel
theorem dX4_areActs_33 : decode cX4_areActs 33 = .ok (.iconst 0, 1) := by decide +kernel
theorem dX4_areActs_34 : decode cX4_areActs 34 = .ok (.ireturn, 1) := by decide +kernel
theorem dX4_areActs_35 : decode cX4_areActs 35 = .ok (.iinc 3 1, 3) := by decide +kernel
theorem dX4_areActs_38 : decode cX4_areActs 38 = .ok (.goto (-36), 3) := by decide +kernel
theorem dX4_areActs_41 : decode cX4_areActs 41 = .ok (.iconst 1, 1) := by decide +kernel
theorem dX4_areActs_42 : decode cX4_areActs 42 = .ok (.ireturn, 1) := by decide +kernel
theorem dX4_tellOfWalk_0 : decode cX4_tellOfWalk 0 = .ok (.iload_n 1, 1) := by decide +kernel
theorem dX4_tellOfWalk_1 : decode cX4_tellOfWalk 1 = .ok (.istore 6, 2) := by decide +kernel
theorem dX4_tellOfWalk_3 : decode cX4_tellOfWalk 3 = .ok (.iload_n 1, 1) := by decide +kernel
theorem dX4_tellOfWalk_4 : decode cX4_tellOfWalk 4 = .ok (.invokestatic 132, 3) := by decide +kernel
theorem dX4_tellOfWalk_7 : decode cX4_tellOfWalk 7 = .ok (.istore 7, 2) := by decide +kernel
theorem dX4_tellOfWalk_9 : decode cX4_tellOfWalk 9 = .ok (.iconst 0, 1) := by decide +kernel
theorem dX4_tellOfWalk_10 : decode cX4_tellOfWalk 10 = .ok (.istore 8, 2) := by decide +kernel
theorem dX4_tellOfWalk_12 : decode cX4_tellOfWalk 12 = .ok (.iconst 0, 1) := by decide +kernel
theorem dX4_tellOfWalk_13 : decode cX4_tellOfWalk 13 = .ok (.istore 9, 2) := by decide +kernel
theorem dX4_tellOfWalk_15 : decode cX4_tellOfWalk 15 = .ok (.iload 9, 2) := by decide +kernel
theorem dX4_tellOfWalk_17 : decode cX4_tellOfWalk 17 = .ok (.iload 4, 2) := by decide +kernel
theorem dX4_tellOfWalk_19 : decode cX4_tellOfWalk 19 = .ok (.if_icmp .ge 95, 3) := by decide +kernel
theorem dX4_tellOfWalk_22 : decode cX4_tellOfWalk 22 = .ok (.aload_n 2, 1) := by decide +kernel
theorem dX4_tellOfWalk_23 : decode cX4_tellOfWalk 23 = .ok (.iload_n 3, 1) := by decide +kernel
theorem dX4_tellOfWalk_24 : decode cX4_tellOfWalk 24 = .ok (.iload 9, 2) := by decide +kernel
theorem dX4_tellOfWalk_26 : decode cX4_tellOfWalk 26 = .ok (.iadd, 1) := by decide +kernel
theorem dX4_tellOfWalk_27 : decode cX4_tellOfWalk 27 = .ok (.invokevirtual 129, 3) := by decide +kernel
theorem dX4_tellOfWalk_30 : decode cX4_tellOfWalk 30 = .ok (.istore 10, 2) := by decide +kernel
theorem dX4_tellOfWalk_32 : decode cX4_tellOfWalk 32 = .ok (.aload_n 0, 1) := by decide +kernel
theorem dX4_tellOfWalk_33 : decode cX4_tellOfWalk 33 = .ok (.getfield 14, 3) := by decide +kernel
theorem dX4_tellOfWalk_36 : decode cX4_tellOfWalk 36 = .ok (.iload 6, 2) := by decide +kernel
theorem dX4_tellOfWalk_38 : decode cX4_tellOfWalk 38 = .ok (.iload 10, 2) := by decide +kernel
theorem dX4_tellOfWalk_40 : decode cX4_tellOfWalk 40 = .ok (.invokevirtual 135, 3) := by decide +kernel
theorem dX4_tellOfWalk_43 : decode cX4_tellOfWalk 43 = .ok (.istore 6, 2) := by decide +kernel
theorem dX4_tellOfWalk_45 : decode cX4_tellOfWalk 45 = .ok (.aload_n 0, 1) := by decide +kernel
theorem dX4_tellOfWalk_46 : decode cX4_tellOfWalk 46 = .ok (.getfield 14, 3) := by decide +kernel
theorem dX4_tellOfWalk_49 : decode cX4_tellOfWalk 49 = .ok (.iload 9, 2) := by decide +kernel
theorem dX4_tellOfWalk_51 : decode cX4_tellOfWalk 51 = .ok (.iconst 1, 1) := by decide +kernel
theorem dX4_tellOfWalk_52 : decode cX4_tellOfWalk 52 = .ok (.iadd, 1) := by decide +kernel
theorem dX4_tellOfWalk_53 : decode cX4_tellOfWalk 53 = .ok (.bipush 15, 2) := by decide +kernel
theorem dX4_tellOfWalk_55 : decode cX4_tellOfWalk 55 = .ok (.invokevirtual 114, 3) := by decide +kernel
theorem dX4_tellOfWalk_58 : decode cX4_tellOfWalk 58 = .ok (.iload 6, 2) := by decide +kernel
theorem dX4_tellOfWalk_60 : decode cX4_tellOfWalk 60 = .ok (.invokestatic 117, 3) := by decide +kernel
theorem dX4_tellOfWalk_63 : decode cX4_tellOfWalk 63 = .ok (.ifCond .ne 20, 3) := by decide +kernel
theorem dX4_tellOfWalk_66 : decode cX4_tellOfWalk 66 = .ok (.iload 5, 2) := by decide +kernel
theorem dX4_tellOfWalk_68 : decode cX4_tellOfWalk 68 = .ok (.iconst 1, 1) := by decide +kernel
theorem dX4_tellOfWalk_69 : decode cX4_tellOfWalk 69 = .ok (.if_icmp .ne 8, 3) := by decide +kernel
theorem dX4_tellOfWalk_72 : decode cX4_tellOfWalk 72 = .ok (.iload 9, 2) := by decide +kernel
theorem dX4_tellOfWalk_74 : decode cX4_tellOfWalk 74 = .ok (.goto 8, 3) := by decide +kernel
theorem dX4_tellOfWalk_77 : decode cX4_tellOfWalk 77 = .ok (.bipush (-100), 2) := by decide +kernel
theorem dX4_tellOfWalk_79 : decode cX4_tellOfWalk 79 = .ok (.iload 9, 2) := by decide +kernel
theorem dX4_tellOfWalk_81 : decode cX4_tellOfWalk 81 = .ok (.isub, 1) := by decide +kernel
theorem dX4_tellOfWalk_82 : decode cX4_tellOfWalk 82 = .ok (.ireturn, 1) := by decide +kernel
theorem dX4_tellOfWalk_83 : decode cX4_tellOfWalk 83 = .ok (.iload 7, 2) := by decide +kernel
theorem dX4_tellOfWalk_85 : decode cX4_tellOfWalk 85 = .ok (.iload 6, 2) := by decide +kernel
theorem dX4_tellOfWalk_87 : decode cX4_tellOfWalk 87 = .ok (.invokestatic 132, 3) := by decide +kernel
theorem dX4_tellOfWalk_90 : decode cX4_tellOfWalk 90 = .ok (.ior, 1) := by decide +kernel
theorem dX4_tellOfWalk_91 : decode cX4_tellOfWalk 91 = .ok (.istore 7, 2) := by decide +kernel
theorem dX4_tellOfWalk_93 : decode cX4_tellOfWalk 93 = .ok (.iload 8, 2) := by decide +kernel
theorem dX4_tellOfWalk_95 : decode cX4_tellOfWalk 95 = .ok (.iload 10, 2) := by decide +kernel
theorem dX4_tellOfWalk_97 : decode cX4_tellOfWalk 97 = .ok (.ifCond .ne 7, 3) := by decide +kernel
theorem dX4_tellOfWalk_100 : decode cX4_tellOfWalk 100 = .ok (.iconst 1, 1) := by decide +kernel
theorem dX4_tellOfWalk_101 : decode cX4_tellOfWalk 101 = .ok (.goto 4, 3) := by decide +kernel
theorem dX4_tellOfWalk_104 : decode cX4_tellOfWalk 104 = .ok (.iconst 0, 1) := by decide +kernel
theorem dX4_tellOfWalk_105 : decode cX4_tellOfWalk 105 = .ok (.iadd, 1) := by decide +kernel
theorem dX4_tellOfWalk_106 : decode cX4_tellOfWalk 106 = .ok (.istore 8, 2) := by decide +kernel
theorem dX4_tellOfWalk_108 : decode cX4_tellOfWalk 108 = .ok (.iinc 9 1, 3) := by decide +kernel
theorem dX4_tellOfWalk_111 : decode cX4_tellOfWalk 111 = .ok (.goto (-96), 3) := by decide +kernel
theorem dX4_tellOfWalk_114 : decode cX4_tellOfWalk 114 = .ok (.iload 5, 2) := by decide +kernel
theorem dX4_tellOfWalk_116 : decode cX4_tellOfWalk 116 = .ok (.tableswitch 37 0 2 #[28, 31, 34], 28) := by decide +kernel
theorem dX4_tellOfWalk_144 : decode cX4_tellOfWalk 144 = .ok (.iload 6, 2) := by decide +kernel
theorem dX4_tellOfWalk_146 : decode cX4_tellOfWalk 146 = .ok (.ireturn, 1) := by decide +kernel
theorem dX4_tellOfWalk_147 : decode cX4_tellOfWalk 147 = .ok (.bipush (-9), 2) := by decide +kernel
theorem dX4_tellOfWalk_149 : decode cX4_tellOfWalk 149 = .ok (.ireturn, 1) := by decide +kernel
theorem dX4_tellOfWalk_150 : decode cX4_tellOfWalk 150 = .ok (.iload 7, 2) := by decide +kernel
theorem dX4_tellOfWalk_152 : decode cX4_tellOfWalk 152 = .ok (.ireturn, 1) := by decide +kernel
theorem dX4_tellOfWalk_153 : decode cX4_tellOfWalk 153 = .ok (.iload 8, 2) := by decide +kernel
theorem dX4_tellOfWalk_155 : decode cX4_tellOfWalk 155 = .ok (.ireturn, 1) := by decide +kernel
theorem dX4_soonest_0 : decode cX4_soonest 0 = .ok (.aload_n 0, 1) := by decide +kernel
theorem dX4_soonest_1 : decode cX4_soonest 1 = .ok (.getfield 14, 3) := by decide +kernel
theorem dX4_soonest_4 : decode cX4_soonest 4 = .ok (.iload_n 1, 1) := by decide +kernel
theorem dX4_soonest_5 : decode cX4_soonest 5 = .ok (.invokevirtual 88, 3) := by decide +kernel
theorem dX4_soonest_8 : decode cX4_soonest 8 = .ok (.ifCond .eq 14, 3) := by decide +kernel
theorem dX4_soonest_11 : decode cX4_soonest 11 = .ok (.aload_n 0, 1) := by decide +kernel
theorem dX4_soonest_12 : decode cX4_soonest 12 = .ok (.getfield 14, 3) := by decide +kernel
theorem dX4_soonest_15 : decode cX4_soonest 15 = .ok (.iload_n 2, 1) := by decide +kernel
theorem dX4_soonest_16 : decode cX4_soonest 16 = .ok (.invokevirtual 88, 3) := by decide +kernel
theorem dX4_soonest_19 : decode cX4_soonest 19 = .ok (.ifCond .ne 5, 3) := by decide +kernel
theorem dX4_soonest_22 : decode cX4_soonest 22 = .ok (.iconst (-1), 1) := by decide +kernel
theorem dX4_soonest_23 : decode cX4_soonest 23 = .ok (.ireturn, 1) := by decide +kernel
theorem dX4_soonest_24 : decode cX4_soonest 24 = .ok (.iload_n 3, 1) := by decide +kernel
theorem dX4_soonest_25 : decode cX4_soonest 25 = .ok (.iconst (-1), 1) := by decide +kernel
theorem dX4_soonest_26 : decode cX4_soonest 26 = .ok (.if_icmp .lt 9, 3) := by decide +kernel
theorem dX4_soonest_29 : decode cX4_soonest 29 = .ok (.iload_n 3, 1) := by decide +kernel
theorem dX4_soonest_30 : decode cX4_soonest 30 = .ok (.bipush 60, 2) := by decide +kernel
theorem dX4_soonest_32 : decode cX4_soonest 32 = .ok (.if_icmp .lt 6, 3) := by decide +kernel
theorem dX4_soonest_35 : decode cX4_soonest 35 = .ok (.bipush (-2), 2) := by decide +kernel
theorem dX4_soonest_37 : decode cX4_soonest 37 = .ok (.ireturn, 1) := by decide +kernel
theorem dX4_soonest_38 : decode cX4_soonest 38 = .ok (.aload_n 0, 1) := by decide +kernel
theorem dX4_soonest_39 : decode cX4_soonest 39 = .ok (.getfield 14, 3) := by decide +kernel
theorem dX4_soonest_42 : decode cX4_soonest 42 = .ok (.iconst 0, 1) := by decide +kernel
theorem dX4_soonest_43 : decode cX4_soonest 43 = .ok (.bipush 15, 2) := by decide +kernel
theorem dX4_soonest_45 : decode cX4_soonest 45 = .ok (.invokevirtual 114, 3) := by decide +kernel
theorem dX4_soonest_48 : decode cX4_soonest 48 = .ok (.iload_n 1, 1) := by decide +kernel
theorem dX4_soonest_49 : decode cX4_soonest 49 = .ok (.invokestatic 117, 3) := by decide +kernel
theorem dX4_soonest_52 : decode cX4_soonest 52 = .ok (.ifCond .ne 6, 3) := by decide +kernel
theorem dX4_soonest_55 : decode cX4_soonest 55 = .ok (.bipush (-3), 2) := by decide +kernel
theorem dX4_soonest_57 : decode cX4_soonest 57 = .ok (.ireturn, 1) := by decide +kernel
theorem dX4_soonest_58 : decode cX4_soonest 58 = .ok (.aload_n 0, 1) := by decide +kernel
theorem dX4_soonest_59 : decode cX4_soonest 59 = .ok (.getfield 14, 3) := by decide +kernel
theorem dX4_soonest_62 : decode cX4_soonest 62 = .ok (.iload_n 1, 1) := by decide +kernel
theorem dX4_soonest_63 : decode cX4_soonest 63 = .ok (.iload_n 2, 1) := by decide +kernel
theorem dX4_soonest_64 : decode cX4_soonest 64 = .ok (.bipush 15, 2) := by decide +kernel
theorem dX4_soonest_66 : decode cX4_soonest 66 = .ok (.invokevirtual 138, 3) := by decide +kernel
theorem dX4_soonest_69 : decode cX4_soonest 69 = .ok (.istore 4, 2) := by decide +kernel
theorem dX4_soonest_71 : decode cX4_soonest 71 = .ok (.iload_n 3, 1) := by decide +kernel
theorem dX4_soonest_72 : decode cX4_soonest 72 = .ok (.iconst (-1), 1) := by decide +kernel
theorem dX4_soonest_73 : decode cX4_soonest 73 = .ok (.if_icmp .ne 6, 3) := by decide +kernel
theorem dX4_soonest_76 : decode cX4_soonest 76 = .ok (.iload 4, 2) := by decide +kernel
theorem dX4_soonest_78 : decode cX4_soonest 78 = .ok (.ireturn, 1) := by decide +kernel
theorem dX4_soonest_79 : decode cX4_soonest 79 = .ok (.iload_n 3, 1) := by decide +kernel
theorem dX4_soonest_80 : decode cX4_soonest 80 = .ok (.iload 4, 2) := by decide +kernel
theorem dX4_soonest_82 : decode cX4_soonest 82 = .ok (.if_icmp .ge 18, 3) := by decide +kernel
theorem dX4_soonest_85 : decode cX4_soonest 85 = .ok (.aload_n 0, 1) := by decide +kernel
theorem dX4_soonest_86 : decode cX4_soonest 86 = .ok (.getfield 14, 3) := by decide +kernel
theorem dX4_soonest_89 : decode cX4_soonest 89 = .ok (.iload_n 1, 1) := by decide +kernel
theorem dX4_soonest_90 : decode cX4_soonest 90 = .ok (.iload_n 2, 1) := by decide +kernel
theorem dX4_soonest_91 : decode cX4_soonest 91 = .ok (.iload 4, 2) := by decide +kernel
theorem dX4_soonest_93 : decode cX4_soonest 93 = .ok (.iload_n 3, 1) := by decide +kernel
theorem dX4_soonest_94 : decode cX4_soonest 94 = .ok (.invokevirtual 142, 3) := by decide +kernel
theorem dX4_soonest_97 : decode cX4_soonest 97 = .ok (.goto 5, 3) := by decide +kernel
theorem dX4_soonest_100 : decode cX4_soonest 100 = .ok (.bipush (-9), 2) := by decide +kernel
theorem dX4_soonest_102 : decode cX4_soonest 102 = .ok (.ireturn, 1) := by decide +kernel
theorem dX4_steer_0 : decode cX4_steer 0 = .ok (.aload_n 0, 1) := by decide +kernel
theorem dX4_steer_1 : decode cX4_steer 1 = .ok (.getfield 14, 3) := by decide +kernel
theorem dX4_steer_4 : decode cX4_steer 4 = .ok (.iload_n 1, 1) := by decide +kernel
theorem dX4_steer_5 : decode cX4_steer 5 = .ok (.invokevirtual 73, 3) := by decide +kernel
theorem dX4_steer_8 : decode cX4_steer 8 = .ok (.astore 4, 2) := by decide +kernel
theorem dX4_steer_10 : decode cX4_steer 10 = .ok (.aload 4, 2) := by decide +kernel
theorem dX4_steer_12 : decode cX4_steer 12 = .ok (.ifnull 14, 3) := by decide +kernel
theorem dX4_steer_15 : decode cX4_steer 15 = .ok (.aload_n 0, 1) := by decide +kernel
theorem dX4_steer_16 : decode cX4_steer 16 = .ok (.getfield 14, 3) := by decide +kernel
theorem dX4_steer_19 : decode cX4_steer 19 = .ok (.iload_n 2, 1) := by decide +kernel
theorem dX4_steer_20 : decode cX4_steer 20 = .ok (.invokevirtual 88, 3) := by decide +kernel
theorem dX4_steer_23 : decode cX4_steer 23 = .ok (.ifCond .ne 5, 3) := by decide +kernel
theorem dX4_steer_26 : decode cX4_steer 26 = .ok (.iconst (-1), 1) := by decide +kernel
theorem dX4_steer_27 : decode cX4_steer 27 = .ok (.ireturn, 1) := by decide +kernel
theorem dX4_steer_28 : decode cX4_steer 28 = .ok (.iload_n 3, 1) := by decide +kernel
theorem dX4_steer_29 : decode cX4_steer 29 = .ok (.invokestatic 101, 3) := by decide +kernel
theorem dX4_steer_32 : decode cX4_steer 32 = .ok (.ifCond .ne 6, 3) := by decide +kernel
theorem dX4_steer_35 : decode cX4_steer 35 = .ok (.bipush (-2), 2) := by decide +kernel
theorem dX4_steer_37 : decode cX4_steer 37 = .ok (.ireturn, 1) := by decide +kernel
theorem dX4_steer_38 : decode cX4_steer 38 = .ok (.bipush (-9), 2) := by decide +kernel
theorem dX4_steer_40 : decode cX4_steer 40 = .ok (.istore 5, 2) := by decide +kernel
theorem dX4_steer_42 : decode cX4_steer 42 = .ok (.iconst 0, 1) := by decide +kernel
theorem dX4_steer_43 : decode cX4_steer 43 = .ok (.istore 6, 2) := by decide +kernel
theorem dX4_steer_45 : decode cX4_steer 45 = .ok (.iload 6, 2) := by decide +kernel
theorem dX4_steer_47 : decode cX4_steer 47 = .ok (.iconst 3, 1) := by decide +kernel
theorem dX4_steer_48 : decode cX4_steer 48 = .ok (.if_icmp .gt 81, 3) := by decide +kernel
theorem dX4_steer_51 : decode cX4_steer 51 = .ok (.iload 5, 2) := by decide +kernel
theorem dX4_steer_53 : decode cX4_steer 53 = .ok (.bipush (-9), 2) := by decide +kernel
theorem dX4_steer_55 : decode cX4_steer 55 = .ok (.if_icmp .eq 28, 3) := by decide +kernel
theorem dX4_steer_58 : decode cX4_steer 58 = .ok (.iload 6, 2) := by decide +kernel
theorem dX4_steer_60 : decode cX4_steer 60 = .ok (.aload 4, 2) := by decide +kernel
theorem dX4_steer_62 : decode cX4_steer 62 = .ok (.getfield 85, 3) := by decide +kernel
theorem dX4_steer_65 : decode cX4_steer 65 = .ok (.isub, 1) := by decide +kernel
theorem dX4_steer_66 : decode cX4_steer 66 = .ok (.invokestatic 146, 3) := by decide +kernel
theorem dX4_steer_69 : decode cX4_steer 69 = .ok (.iload 5, 2) := by decide +kernel
theorem dX4_steer_71 : decode cX4_steer 71 = .ok (.aload 4, 2) := by decide +kernel
theorem dX4_steer_73 : decode cX4_steer 73 = .ok (.getfield 85, 3) := by decide +kernel
theorem dX4_steer_76 : decode cX4_steer 76 = .ok (.isub, 1) := by decide +kernel
theorem dX4_steer_77 : decode cX4_steer 77 = .ok (.invokestatic 146, 3) := by decide +kernel
theorem dX4_steer_80 : decode cX4_steer 80 = .ok (.if_icmp .ge 7, 3) := by decide +kernel
theorem dX4_steer_83 : decode cX4_steer 83 = .ok (.iconst 1, 1) := by decide +kernel
theorem dX4_steer_84 : decode cX4_steer 84 = .ok (.goto 4, 3) := by decide +kernel
theorem dX4_steer_87 : decode cX4_steer 87 = .ok (.iconst 0, 1) := by decide +kernel
theorem dX4_steer_88 : decode cX4_steer 88 = .ok (.istore 7, 2) := by decide +kernel
theorem dX4_steer_90 : decode cX4_steer 90 = .ok (.iload 7, 2) := by decide +kernel
theorem dX4_steer_92 : decode cX4_steer 92 = .ok (.ifCond .eq 31, 3) := by decide +kernel
theorem dX4_steer_95 : decode cX4_steer 95 = .ok (.aload_n 0, 1) := by decide +kernel
theorem dX4_steer_96 : decode cX4_steer 96 = .ok (.getfield 14, 3) := by decide +kernel
theorem dX4_steer_99 : decode cX4_steer 99 = .ok (.aload 4, 2) := by decide +kernel
theorem dX4_steer_101 : decode cX4_steer 101 = .ok (.getfield 77, 3) := by decide +kernel
theorem dX4_steer_104 : decode cX4_steer 104 = .ok (.aload 4, 2) := by decide +kernel
theorem dX4_steer_106 : decode cX4_steer 106 = .ok (.getfield 82, 3) := by decide +kernel
theorem dX4_steer_109 : decode cX4_steer 109 = .ok (.iload 6, 2) := by decide +kernel
theorem dX4_steer_111 : decode cX4_steer 111 = .ok (.iload_n 3, 1) := by decide +kernel
theorem dX4_steer_112 : decode cX4_steer 112 = .ok (.invokevirtual 151, 3) := by decide +kernel
theorem dX4_steer_115 : decode cX4_steer 115 = .ok (.iload_n 2, 1) := by decide +kernel
theorem dX4_steer_116 : decode cX4_steer 116 = .ok (.if_icmp .ne 7, 3) := by decide +kernel
theorem dX4_steer_119 : decode cX4_steer 119 = .ok (.iload 6, 2) := by decide +kernel
theorem dX4_steer_121 : decode cX4_steer 121 = .ok (.istore 5, 2) := by decide +kernel
theorem dX4_steer_123 : decode cX4_steer 123 = .ok (.iinc 6 1, 3) := by decide +kernel
theorem dX4_steer_126 : decode cX4_steer 126 = .ok (.goto (-81), 3) := by decide +kernel
theorem dX4_steer_129 : decode cX4_steer 129 = .ok (.iload 5, 2) := by decide +kernel
theorem dX4_steer_131 : decode cX4_steer 131 = .ok (.ireturn, 1) := by decide +kernel
theorem dX4_guard_0 : decode cX4_guard 0 = .ok (.aload_n 0, 1) := by decide +kernel
theorem dX4_guard_1 : decode cX4_guard 1 = .ok (.getfield 14, 3) := by decide +kernel
theorem dX4_guard_4 : decode cX4_guard 4 = .ok (.invokevirtual 110, 3) := by decide +kernel
theorem dX4_guard_7 : decode cX4_guard 7 = .ok (.ifCond .eq 13, 3) := by decide +kernel
theorem dX4_guard_10 : decode cX4_guard 10 = .ok (.aload_n 0, 1) := by decide +kernel
theorem dX4_guard_11 : decode cX4_guard 11 = .ok (.getfield 14, 3) := by decide +kernel
theorem dX4_guard_14 : decode cX4_guard 14 = .ok (.invokevirtual 154, 3) := by decide +kernel
theorem dX4_guard_17 : decode cX4_guard 17 = .ok (.goto 5, 3) := by decide +kernel
theorem dX4_guard_20 : decode cX4_guard 20 = .ok (.bipush (-3), 2) := by decide +kernel
theorem dX4_guard_22 : decode cX4_guard 22 = .ok (.ireturn, 1) := by decide +kernel
theorem dX4_reading_0 : decode cX4_reading 0 = .ok (.aload_n 0, 1) := by decide +kernel
theorem dX4_reading_1 : decode cX4_reading 1 = .ok (.getfield 14, 3) := by decide +kernel
theorem dX4_reading_4 : decode cX4_reading 4 = .ok (.iload_n 1, 1) := by decide +kernel
theorem dX4_reading_5 : decode cX4_reading 5 = .ok (.invokevirtual 98, 3) := by decide +kernel
theorem dX4_reading_8 : decode cX4_reading 8 = .ok (.ifCond .eq 14, 3) := by decide +kernel
theorem dX4_reading_11 : decode cX4_reading 11 = .ok (.aload_n 0, 1) := by decide +kernel
theorem dX4_reading_12 : decode cX4_reading 12 = .ok (.getfield 14, 3) := by decide +kernel
theorem dX4_reading_15 : decode cX4_reading 15 = .ok (.iload_n 3, 1) := by decide +kernel
theorem dX4_reading_16 : decode cX4_reading 16 = .ok (.invokevirtual 88, 3) := by decide +kernel
theorem dX4_reading_19 : decode cX4_reading 19 = .ok (.ifCond .ne 5, 3) := by decide +kernel
theorem dX4_reading_22 : decode cX4_reading 22 = .ok (.iconst (-1), 1) := by decide +kernel
theorem dX4_reading_23 : decode cX4_reading 23 = .ok (.ireturn, 1) := by decide +kernel
theorem dX4_reading_24 : decode cX4_reading 24 = .ok (.iload_n 2, 1) := by decide +kernel
theorem dX4_reading_25 : decode cX4_reading 25 = .ok (.invokestatic 101, 3) := by decide +kernel
theorem dX4_reading_28 : decode cX4_reading 28 = .ok (.ifCond .ne 6, 3) := by decide +kernel
theorem dX4_reading_31 : decode cX4_reading 31 = .ok (.bipush (-2), 2) := by decide +kernel
theorem dX4_reading_33 : decode cX4_reading 33 = .ok (.ireturn, 1) := by decide +kernel
theorem dX4_reading_34 : decode cX4_reading 34 = .ok (.aload_n 0, 1) := by decide +kernel
theorem dX4_reading_35 : decode cX4_reading 35 = .ok (.getfield 24, 3) := by decide +kernel
theorem dX4_reading_38 : decode cX4_reading 38 = .ok (.iload_n 1, 1) := by decide +kernel
theorem dX4_reading_39 : decode cX4_reading 39 = .ok (.iload_n 2, 1) := by decide +kernel
theorem dX4_reading_40 : decode cX4_reading 40 = .ok (.iload_n 3, 1) := by decide +kernel
theorem dX4_reading_41 : decode cX4_reading 41 = .ok (.invokevirtual 157, 3) := by decide +kernel
theorem dX4_reading_44 : decode cX4_reading 44 = .ok (.ireturn, 1) := by decide +kernel
theorem dX4_back_0 : decode cX4_back 0 = .ok (.iload_n 1, 1) := by decide +kernel
theorem dX4_back_1 : decode cX4_back 1 = .ok (.ifCond .lt 14, 3) := by decide +kernel
theorem dX4_back_4 : decode cX4_back 4 = .ok (.iload_n 1, 1) := by decide +kernel
theorem dX4_back_5 : decode cX4_back 5 = .ok (.aload_n 0, 1) := by decide +kernel
theorem dX4_back_6 : decode cX4_back 6 = .ok (.getfield 24, 3) := by decide +kernel
theorem dX4_back_9 : decode cX4_back 9 = .ok (.invokevirtual 160, 3) := by decide +kernel
theorem dX4_back_12 : decode cX4_back 12 = .ok (.if_icmp .le 6, 3) := by decide +kernel
theorem dX4_back_15 : decode cX4_back 15 = .ok (.bipush (-2), 2) := by decide +kernel
theorem dX4_back_17 : decode cX4_back 17 = .ok (.ireturn, 1) := by decide +kernel
theorem dX4_back_18 : decode cX4_back 18 = .ok (.aload_n 0, 1) := by decide +kernel
theorem dX4_back_19 : decode cX4_back 19 = .ok (.getfield 24, 3) := by decide +kernel
theorem dX4_back_22 : decode cX4_back 22 = .ok (.aload_n 0, 1) := by decide +kernel
theorem dX4_back_23 : decode cX4_back 23 = .ok (.getfield 24, 3) := by decide +kernel
theorem dX4_back_26 : decode cX4_back 26 = .ok (.invokevirtual 160, 3) := by decide +kernel
theorem dX4_back_29 : decode cX4_back 29 = .ok (.iload_n 1, 1) := by decide +kernel
theorem dX4_back_30 : decode cX4_back 30 = .ok (.isub, 1) := by decide +kernel
theorem dX4_back_31 : decode cX4_back 31 = .ok (.invokevirtual 65, 3) := by decide +kernel
theorem dX4_back_34 : decode cX4_back 34 = .ok (.aload_n 0, 1) := by decide +kernel
theorem dX4_back_35 : decode cX4_back 35 = .ok (.getfield 24, 3) := by decide +kernel
theorem dX4_back_38 : decode cX4_back 38 = .ok (.invokevirtual 160, 3) := by decide +kernel
theorem dX4_back_41 : decode cX4_back 41 = .ok (.ireturn, 1) := by decide +kernel
theorem dX4_strides_0 : decode cX4_strides 0 = .ok (.aload_n 0, 1) := by decide +kernel
theorem dX4_strides_1 : decode cX4_strides 1 = .ok (.getfield 14, 3) := by decide +kernel
theorem dX4_strides_4 : decode cX4_strides 4 = .ok (.iload_n 1, 1) := by decide +kernel
theorem dX4_strides_5 : decode cX4_strides 5 = .ok (.invokevirtual 73, 3) := by decide +kernel
theorem dX4_strides_8 : decode cX4_strides 8 = .ok (.astore_n 2, 1) := by decide +kernel
theorem dX4_strides_9 : decode cX4_strides 9 = .ok (.aload_n 2, 1) := by decide +kernel
theorem dX4_strides_10 : decode cX4_strides 10 = .ok (.ifnonnull 5, 3) := by decide +kernel
theorem dX4_strides_13 : decode cX4_strides 13 = .ok (.iconst (-1), 1) := by decide +kernel
theorem dX4_strides_14 : decode cX4_strides 14 = .ok (.ireturn, 1) := by decide +kernel
theorem dX4_strides_15 : decode cX4_strides 15 = .ok (.iconst 0, 1) := by decide +kernel
theorem dX4_strides_16 : decode cX4_strides 16 = .ok (.istore_n 3, 1) := by decide +kernel
theorem dX4_strides_17 : decode cX4_strides 17 = .ok (.iconst 0, 1) := by decide +kernel
theorem dX4_strides_18 : decode cX4_strides 18 = .ok (.istore 4, 2) := by decide +kernel
theorem dX4_strides_20 : decode cX4_strides 20 = .ok (.iload 4, 2) := by decide +kernel
theorem dX4_strides_22 : decode cX4_strides 22 = .ok (.iconst 3, 1) := by decide +kernel
theorem dX4_strides_23 : decode cX4_strides 23 = .ok (.if_icmp .gt 42, 3) := by decide +kernel
theorem dX4_strides_26 : decode cX4_strides 26 = .ok (.aload_n 0, 1) := by decide +kernel
theorem dX4_strides_27 : decode cX4_strides 27 = .ok (.getfield 24, 3) := by decide +kernel
theorem dX4_strides_30 : decode cX4_strides 30 = .ok (.aload_n 0, 1) := by decide +kernel
theorem dX4_strides_31 : decode cX4_strides 31 = .ok (.getfield 14, 3) := by decide +kernel
theorem dX4_strides_34 : decode cX4_strides 34 = .ok (.iload_n 1, 1) := by decide +kernel
theorem dX4_strides_35 : decode cX4_strides 35 = .ok (.aload_n 2, 1) := by decide +kernel
theorem dX4_strides_36 : decode cX4_strides 36 = .ok (.getfield 77, 3) := by decide +kernel
theorem dX4_strides_39 : decode cX4_strides 39 = .ok (.aload_n 2, 1) := by decide +kernel
theorem dX4_strides_40 : decode cX4_strides 40 = .ok (.getfield 82, 3) := by decide +kernel
theorem dX4_strides_43 : decode cX4_strides 43 = .ok (.iload 4, 2) := by decide +kernel
theorem dX4_strides_45 : decode cX4_strides 45 = .ok (.invokevirtual 163, 3) := by decide +kernel
theorem dX4_strides_48 : decode cX4_strides 48 = .ok (.ifCond .eq 11, 3) := by decide +kernel
theorem dX4_strides_51 : decode cX4_strides 51 = .ok (.iload_n 3, 1) := by decide +kernel
theorem dX4_strides_52 : decode cX4_strides 52 = .ok (.iload 4, 2) := by decide +kernel
theorem dX4_strides_54 : decode cX4_strides 54 = .ok (.invokestatic 132, 3) := by decide +kernel
theorem dX4_strides_57 : decode cX4_strides 57 = .ok (.ior, 1) := by decide +kernel
theorem dX4_strides_58 : decode cX4_strides 58 = .ok (.istore_n 3, 1) := by decide +kernel
theorem dX4_strides_59 : decode cX4_strides 59 = .ok (.iinc 4 1, 3) := by decide +kernel
theorem dX4_strides_62 : decode cX4_strides 62 = .ok (.goto (-42), 3) := by decide +kernel
theorem dX4_strides_65 : decode cX4_strides 65 = .ok (.iload_n 3, 1) := by decide +kernel
theorem dX4_strides_66 : decode cX4_strides 66 = .ok (.ireturn, 1) := by decide +kernel
theorem dX4_kinds_0 : decode cX4_kinds 0 = .ok (.aload_n 0, 1) := by decide +kernel
theorem dX4_kinds_1 : decode cX4_kinds 1 = .ok (.getfield 14, 3) := by decide +kernel
theorem dX4_kinds_4 : decode cX4_kinds 4 = .ok (.iload_n 1, 1) := by decide +kernel
theorem dX4_kinds_5 : decode cX4_kinds 5 = .ok (.invokevirtual 73, 3) := by decide +kernel
theorem dX4_kinds_8 : decode cX4_kinds 8 = .ok (.astore_n 2, 1) := by decide +kernel
theorem dX4_kinds_9 : decode cX4_kinds 9 = .ok (.aload_n 2, 1) := by decide +kernel
theorem dX4_kinds_10 : decode cX4_kinds 10 = .ok (.ifnonnull 5, 3) := by decide +kernel
theorem dX4_kinds_13 : decode cX4_kinds 13 = .ok (.iconst (-1), 1) := by decide +kernel
theorem dX4_kinds_14 : decode cX4_kinds 14 = .ok (.ireturn, 1) := by decide +kernel
theorem dX4_kinds_15 : decode cX4_kinds 15 = .ok (.iconst 0, 1) := by decide +kernel
theorem dX4_kinds_16 : decode cX4_kinds 16 = .ok (.istore_n 3, 1) := by decide +kernel
theorem dX4_kinds_17 : decode cX4_kinds 17 = .ok (.iconst 0, 1) := by decide +kernel
theorem dX4_kinds_18 : decode cX4_kinds 18 = .ok (.istore 4, 2) := by decide +kernel
theorem dX4_kinds_20 : decode cX4_kinds 20 = .ok (.iload 4, 2) := by decide +kernel
theorem dX4_kinds_22 : decode cX4_kinds 22 = .ok (.iconst 2, 1) := by decide +kernel
theorem dX4_kinds_23 : decode cX4_kinds 23 = .ok (.if_icmp .gt 42, 3) := by decide +kernel
theorem dX4_kinds_26 : decode cX4_kinds 26 = .ok (.aload_n 0, 1) := by decide +kernel
theorem dX4_kinds_27 : decode cX4_kinds 27 = .ok (.getfield 24, 3) := by decide +kernel
theorem dX4_kinds_30 : decode cX4_kinds 30 = .ok (.aload_n 0, 1) := by decide +kernel
theorem dX4_kinds_31 : decode cX4_kinds 31 = .ok (.getfield 14, 3) := by decide +kernel
theorem dX4_kinds_34 : decode cX4_kinds 34 = .ok (.iload_n 1, 1) := by decide +kernel
theorem dX4_kinds_35 : decode cX4_kinds 35 = .ok (.iload 4, 2) := by decide +kernel
theorem dX4_kinds_37 : decode cX4_kinds 37 = .ok (.aload_n 2, 1) := by decide +kernel
theorem dX4_kinds_38 : decode cX4_kinds 38 = .ok (.getfield 82, 3) := by decide +kernel
theorem dX4_kinds_41 : decode cX4_kinds 41 = .ok (.aload_n 2, 1) := by decide +kernel
theorem dX4_kinds_42 : decode cX4_kinds 42 = .ok (.getfield 85, 3) := by decide +kernel
theorem dX4_kinds_45 : decode cX4_kinds 45 = .ok (.invokevirtual 163, 3) := by decide +kernel
theorem dX4_kinds_48 : decode cX4_kinds 48 = .ok (.ifCond .eq 11, 3) := by decide +kernel
theorem dX4_kinds_51 : decode cX4_kinds 51 = .ok (.iload_n 3, 1) := by decide +kernel
theorem dX4_kinds_52 : decode cX4_kinds 52 = .ok (.iload 4, 2) := by decide +kernel
theorem dX4_kinds_54 : decode cX4_kinds 54 = .ok (.invokestatic 132, 3) := by decide +kernel
theorem dX4_kinds_57 : decode cX4_kinds 57 = .ok (.ior, 1) := by decide +kernel
theorem dX4_kinds_58 : decode cX4_kinds 58 = .ok (.istore_n 3, 1) := by decide +kernel
theorem dX4_kinds_59 : decode cX4_kinds 59 = .ok (.iinc 4 1, 3) := by decide +kernel
theorem dX4_kinds_62 : decode cX4_kinds 62 = .ok (.goto (-42), 3) := by decide +kernel
theorem dX4_kinds_65 : decode cX4_kinds 65 = .ok (.iload_n 3, 1) := by decide +kernel
theorem dX4_kinds_66 : decode cX4_kinds 66 = .ok (.ireturn, 1) := by decide +kernel
theorem dX4_starts_0 : decode cX4_starts 0 = .ok (.aload_n 0, 1) := by decide +kernel
theorem dX4_starts_1 : decode cX4_starts 1 = .ok (.getfield 14, 3) := by decide +kernel
theorem dX4_starts_4 : decode cX4_starts 4 = .ok (.iload_n 1, 1) := by decide +kernel
theorem dX4_starts_5 : decode cX4_starts 5 = .ok (.invokevirtual 73, 3) := by decide +kernel
theorem dX4_starts_8 : decode cX4_starts 8 = .ok (.astore_n 2, 1) := by decide +kernel
theorem dX4_starts_9 : decode cX4_starts 9 = .ok (.aload_n 2, 1) := by decide +kernel
theorem dX4_starts_10 : decode cX4_starts 10 = .ok (.ifnonnull 5, 3) := by decide +kernel
theorem dX4_starts_13 : decode cX4_starts 13 = .ok (.iconst (-1), 1) := by decide +kernel
theorem dX4_starts_14 : decode cX4_starts 14 = .ok (.ireturn, 1) := by decide +kernel
theorem dX4_starts_15 : decode cX4_starts 15 = .ok (.iconst 0, 1) := by decide +kernel
theorem dX4_starts_16 : decode cX4_starts 16 = .ok (.istore_n 3, 1) := by decide +kernel
theorem dX4_starts_17 : decode cX4_starts 17 = .ok (.iconst 0, 1) := by decide +kernel
theorem dX4_starts_18 : decode cX4_starts 18 = .ok (.istore 4, 2) := by decide +kernel
theorem dX4_starts_20 : decode cX4_starts 20 = .ok (.iload 4, 2) := by decide +kernel
theorem dX4_starts_22 : decode cX4_starts 22 = .ok (.aload_n 0, 1) := by decide +kernel
theorem dX4_starts_23 : decode cX4_starts 23 = .ok (.getfield 14, 3) := by decide +kernel
theorem dX4_starts_26 : decode cX4_starts 26 = .ok (.invokevirtual 167, 3) := by decide +kernel
theorem dX4_starts_29 : decode cX4_starts 29 = .ok (.if_icmp .ge 42, 3) := by decide +kernel
theorem dX4_starts_32 : decode cX4_starts 32 = .ok (.aload_n 0, 1) := by decide +kernel
theorem dX4_starts_33 : decode cX4_starts 33 = .ok (.getfield 24, 3) := by decide +kernel
theorem dX4_starts_36 : decode cX4_starts 36 = .ok (.aload_n 0, 1) := by decide +kernel
theorem dX4_starts_37 : decode cX4_starts 37 = .ok (.getfield 14, 3) := by decide +kernel
theorem dX4_starts_40 : decode cX4_starts 40 = .ok (.iload_n 1, 1) := by decide +kernel
theorem dX4_starts_41 : decode cX4_starts 41 = .ok (.aload_n 2, 1) := by decide +kernel
theorem dX4_starts_42 : decode cX4_starts 42 = .ok (.getfield 77, 3) := by decide +kernel
theorem dX4_starts_45 : decode cX4_starts 45 = .ok (.iload 4, 2) := by decide +kernel
theorem dX4_starts_47 : decode cX4_starts 47 = .ok (.aload_n 2, 1) := by decide +kernel
theorem dX4_starts_48 : decode cX4_starts 48 = .ok (.getfield 85, 3) := by decide +kernel
theorem dX4_starts_51 : decode cX4_starts 51 = .ok (.invokevirtual 163, 3) := by decide +kernel
theorem dX4_starts_54 : decode cX4_starts 54 = .ok (.ifCond .eq 11, 3) := by decide +kernel
theorem dX4_starts_57 : decode cX4_starts 57 = .ok (.iload_n 3, 1) := by decide +kernel
theorem dX4_starts_58 : decode cX4_starts 58 = .ok (.iload 4, 2) := by decide +kernel
theorem dX4_starts_60 : decode cX4_starts 60 = .ok (.invokestatic 132, 3) := by decide +kernel
theorem dX4_starts_63 : decode cX4_starts 63 = .ok (.ior, 1) := by decide +kernel
theorem dX4_starts_64 : decode cX4_starts 64 = .ok (.istore_n 3, 1) := by decide +kernel
theorem dX4_starts_65 : decode cX4_starts 65 = .ok (.iinc 4 1, 3) := by decide +kernel
theorem dX4_starts_68 : decode cX4_starts 68 = .ok (.goto (-48), 3) := by decide +kernel
theorem dX4_starts_71 : decode cX4_starts 71 = .ok (.iload_n 3, 1) := by decide +kernel
theorem dX4_starts_72 : decode cX4_starts 72 = .ok (.ireturn, 1) := by decide +kernel
theorem dX4_odds_0 : decode cX4_odds 0 = .ok (.aload_n 0, 1) := by decide +kernel
theorem dX4_odds_1 : decode cX4_odds 1 = .ok (.getfield 14, 3) := by decide +kernel
theorem dX4_odds_4 : decode cX4_odds 4 = .ok (.iload_n 1, 1) := by decide +kernel
theorem dX4_odds_5 : decode cX4_odds 5 = .ok (.invokevirtual 88, 3) := by decide +kernel
theorem dX4_odds_8 : decode cX4_odds 8 = .ok (.ifCond .eq 14, 3) := by decide +kernel
theorem dX4_odds_11 : decode cX4_odds 11 = .ok (.aload_n 0, 1) := by decide +kernel
theorem dX4_odds_12 : decode cX4_odds 12 = .ok (.getfield 14, 3) := by decide +kernel
theorem dX4_odds_15 : decode cX4_odds 15 = .ok (.iload_n 2, 1) := by decide +kernel
theorem dX4_odds_16 : decode cX4_odds 16 = .ok (.invokevirtual 88, 3) := by decide +kernel
theorem dX4_odds_19 : decode cX4_odds 19 = .ok (.ifCond .ne 7, 3) := by decide +kernel
theorem dX4_odds_22 : decode cX4_odds 22 = .ok (.ldc2_w 170, 3) := by decide +kernel
theorem dX4_odds_25 : decode cX4_odds 25 = .ok (.lreturn, 1) := by decide +kernel
theorem dX4_odds_26 : decode cX4_odds 26 = .ok (.iload_n 3, 1) := by decide +kernel
theorem dX4_odds_27 : decode cX4_odds 27 = .ok (.invokestatic 101, 3) := by decide +kernel
theorem dX4_odds_30 : decode cX4_odds 30 = .ok (.ifCond .eq 14, 3) := by decide +kernel
theorem dX4_odds_33 : decode cX4_odds 33 = .ok (.iload 4, 2) := by decide +kernel
theorem dX4_odds_35 : decode cX4_odds 35 = .ok (.ifCond .lt 9, 3) := by decide +kernel
theorem dX4_odds_38 : decode cX4_odds 38 = .ok (.iload 4, 2) := by decide +kernel
theorem dX4_odds_40 : decode cX4_odds 40 = .ok (.iconst 1, 1) := by decide +kernel
theorem dX4_odds_41 : decode cX4_odds 41 = .ok (.if_icmp .le 7, 3) := by decide +kernel
theorem dX4_odds_44 : decode cX4_odds 44 = .ok (.ldc2_w 170, 3) := by decide +kernel
theorem dX4_odds_47 : decode cX4_odds 47 = .ok (.lreturn, 1) := by decide +kernel
theorem dX4_odds_48 : decode cX4_odds 48 = .ok (.iconst 0, 1) := by decide +kernel
theorem dX4_odds_49 : decode cX4_odds 49 = .ok (.istore 5, 2) := by decide +kernel
theorem dX4_odds_51 : decode cX4_odds 51 = .ok (.iconst 1, 1) := by decide +kernel
theorem dX4_odds_52 : decode cX4_odds 52 = .ok (.aload_n 0, 1) := by decide +kernel
theorem dX4_odds_53 : decode cX4_odds 53 = .ok (.getfield 14, 3) := by decide +kernel
theorem dX4_odds_56 : decode cX4_odds 56 = .ok (.invokevirtual 69, 3) := by decide +kernel
theorem dX4_odds_59 : decode cX4_odds 59 = .ok (.ishl, 1) := by decide +kernel
theorem dX4_odds_60 : decode cX4_odds 60 = .ok (.istore 6, 2) := by decide +kernel
theorem dX4_odds_62 : decode cX4_odds 62 = .ok (.iconst 0, 1) := by decide +kernel
theorem dX4_odds_63 : decode cX4_odds 63 = .ok (.istore 7, 2) := by decide +kernel
theorem dX4_odds_65 : decode cX4_odds 65 = .ok (.iload 7, 2) := by decide +kernel
theorem dX4_odds_67 : decode cX4_odds 67 = .ok (.iload 6, 2) := by decide +kernel
theorem dX4_odds_69 : decode cX4_odds 69 = .ok (.if_icmp .ge 24, 3) := by decide +kernel
theorem dX4_odds_72 : decode cX4_odds 72 = .ok (.aload_n 0, 1) := by decide +kernel
theorem dX4_odds_73 : decode cX4_odds 73 = .ok (.iload_n 1, 1) := by decide +kernel
theorem dX4_odds_74 : decode cX4_odds 74 = .ok (.iload_n 2, 1) := by decide +kernel
theorem dX4_odds_75 : decode cX4_odds 75 = .ok (.iload_n 3, 1) := by decide +kernel
theorem dX4_odds_76 : decode cX4_odds 76 = .ok (.iload 7, 2) := by decide +kernel
theorem dX4_odds_78 : decode cX4_odds 78 = .ok (.invokevirtual 172, 3) := by decide +kernel
theorem dX4_odds_81 : decode cX4_odds 81 = .ok (.ifCond .eq 6, 3) := by decide +kernel
theorem dX4_odds_84 : decode cX4_odds 84 = .ok (.iinc 5 1, 3) := by decide +kernel
theorem dX4_odds_87 : decode cX4_odds 87 = .ok (.iinc 7 1, 3) := by decide +kernel
theorem dX4_odds_90 : decode cX4_odds 90 = .ok (.goto (-25), 3) := by decide +kernel
theorem dX4_odds_93 : decode cX4_odds 93 = .ok (.iload 6, 2) := by decide +kernel
theorem dX4_odds_95 : decode cX4_odds 95 = .ok (.iconst 1, 1) := by decide +kernel
theorem dX4_odds_96 : decode cX4_odds 96 = .ok (.if_icmp .le 25, 3) := by decide +kernel
theorem dX4_odds_99 : decode cX4_odds 99 = .ok (.iload 5, 2) := by decide +kernel
theorem dX4_odds_101 : decode cX4_odds 101 = .ok (.iconst 2, 1) := by decide +kernel
theorem dX4_odds_102 : decode cX4_odds 102 = .ok (.irem, 1) := by decide +kernel
theorem dX4_odds_103 : decode cX4_odds 103 = .ok (.ifCond .ne 18, 3) := by decide +kernel
theorem dX4_odds_106 : decode cX4_odds 106 = .ok (.iload 5, 2) := by decide +kernel
theorem dX4_odds_108 : decode cX4_odds 108 = .ok (.iconst 2, 1) := by decide +kernel
theorem dX4_odds_109 : decode cX4_odds 109 = .ok (.idiv, 1) := by decide +kernel
theorem dX4_odds_110 : decode cX4_odds 110 = .ok (.istore 5, 2) := by decide +kernel
theorem dX4_odds_112 : decode cX4_odds 112 = .ok (.iload 6, 2) := by decide +kernel
theorem dX4_odds_114 : decode cX4_odds 114 = .ok (.iconst 2, 1) := by decide +kernel
theorem dX4_odds_115 : decode cX4_odds 115 = .ok (.idiv, 1) := by decide +kernel
theorem dX4_odds_116 : decode cX4_odds 116 = .ok (.istore 6, 2) := by decide +kernel
theorem dX4_odds_118 : decode cX4_odds 118 = .ok (.goto (-25), 3) := by decide +kernel
theorem dX4_odds_121 : decode cX4_odds 121 = .ok (.iload 4, 2) := by decide +kernel
theorem dX4_odds_123 : decode cX4_odds 123 = .ok (.ifCond .ne 9, 3) := by decide +kernel
theorem dX4_odds_126 : decode cX4_odds 126 = .ok (.iload 5, 2) := by decide +kernel
theorem dX4_odds_128 : decode cX4_odds 128 = .ok (.i2l, 1) := by decide +kernel
theorem dX4_odds_129 : decode cX4_odds 129 = .ok (.goto 6, 3) := by decide +kernel
theorem dX4_odds_132 : decode cX4_odds 132 = .ok (.iload 6, 2) := by decide +kernel
theorem dX4_odds_134 : decode cX4_odds 134 = .ok (.i2l, 1) := by decide +kernel
theorem dX4_odds_135 : decode cX4_odds 135 = .ok (.lreturn, 1) := by decide +kernel
theorem dX4_comesWithin_0 : decode cX4_comesWithin 0 = .ok (.aload_n 0, 1) := by decide +kernel
theorem dX4_comesWithin_1 : decode cX4_comesWithin 1 = .ok (.getfield 14, 3) := by decide +kernel
theorem dX4_comesWithin_4 : decode cX4_comesWithin 4 = .ok (.iconst 0, 1) := by decide +kernel
theorem dX4_comesWithin_5 : decode cX4_comesWithin 5 = .ok (.iload 4, 2) := by decide +kernel
theorem dX4_comesWithin_7 : decode cX4_comesWithin 7 = .ok (.invokevirtual 114, 3) := by decide +kernel
theorem dX4_comesWithin_10 : decode cX4_comesWithin 10 = .ok (.iload_n 1, 1) := by decide +kernel
theorem dX4_comesWithin_11 : decode cX4_comesWithin 11 = .ok (.invokestatic 117, 3) := by decide +kernel
theorem dX4_comesWithin_14 : decode cX4_comesWithin 14 = .ok (.ifCond .ne 5, 3) := by decide +kernel
theorem dX4_comesWithin_17 : decode cX4_comesWithin 17 = .ok (.iconst 0, 1) := by decide +kernel
theorem dX4_comesWithin_18 : decode cX4_comesWithin 18 = .ok (.ireturn, 1) := by decide +kernel
theorem dX4_comesWithin_19 : decode cX4_comesWithin 19 = .ok (.aload_n 0, 1) := by decide +kernel
theorem dX4_comesWithin_20 : decode cX4_comesWithin 20 = .ok (.getfield 14, 3) := by decide +kernel
theorem dX4_comesWithin_23 : decode cX4_comesWithin 23 = .ok (.iload_n 1, 1) := by decide +kernel
theorem dX4_comesWithin_24 : decode cX4_comesWithin 24 = .ok (.iload_n 2, 1) := by decide +kernel
theorem dX4_comesWithin_25 : decode cX4_comesWithin 25 = .ok (.iload 4, 2) := by decide +kernel
theorem dX4_comesWithin_27 : decode cX4_comesWithin 27 = .ok (.invokevirtual 138, 3) := by decide +kernel
theorem dX4_comesWithin_30 : decode cX4_comesWithin 30 = .ok (.istore 5, 2) := by decide +kernel
theorem dX4_comesWithin_32 : decode cX4_comesWithin 32 = .ok (.iload 5, 2) := by decide +kernel
theorem dX4_comesWithin_34 : decode cX4_comesWithin 34 = .ok (.bipush (-9), 2) := by decide +kernel
theorem dX4_comesWithin_36 : decode cX4_comesWithin 36 = .ok (.if_icmp .eq 13, 3) := by decide +kernel
theorem dX4_comesWithin_39 : decode cX4_comesWithin 39 = .ok (.iload 5, 2) := by decide +kernel
theorem dX4_comesWithin_41 : decode cX4_comesWithin 41 = .ok (.iload_n 3, 1) := by decide +kernel
theorem dX4_comesWithin_42 : decode cX4_comesWithin 42 = .ok (.if_icmp .gt 7, 3) := by decide +kernel
theorem dX4_comesWithin_45 : decode cX4_comesWithin 45 = .ok (.iconst 1, 1) := by decide +kernel
theorem dX4_comesWithin_46 : decode cX4_comesWithin 46 = .ok (.goto 4, 3) := by decide +kernel
theorem dX4_comesWithin_49 : decode cX4_comesWithin 49 = .ok (.iconst 0, 1) := by decide +kernel
theorem dX4_comesWithin_50 : decode cX4_comesWithin 50 = .ok (.ireturn, 1) := by decide +kernel
theorem dX4_sheet_0 : decode cX4_sheet 0 = .ok (.aload_n 0, 1) := by decide +kernel
theorem dX4_sheet_1 : decode cX4_sheet 1 = .ok (.iconst 0, 1) := by decide +kernel
theorem dX4_sheet_2 : decode cX4_sheet 2 = .ok (.putfield 38, 3) := by decide +kernel
theorem dX4_sheet_5 : decode cX4_sheet 5 = .ok (.aload_n 0, 1) := by decide +kernel
theorem dX4_sheet_6 : decode cX4_sheet 6 = .ok (.iload_n 1, 1) := by decide +kernel
theorem dX4_sheet_7 : decode cX4_sheet 7 = .ok (.invokevirtual 42, 3) := by decide +kernel
theorem dX4_sheet_10 : decode cX4_sheet 10 = .ok (.astore 4, 2) := by decide +kernel
theorem dX4_sheet_12 : decode cX4_sheet 12 = .ok (.aload 4, 2) := by decide +kernel
theorem dX4_sheet_14 : decode cX4_sheet 14 = .ok (.ifnonnull 5, 3) := by decide +kernel
theorem dX4_sheet_17 : decode cX4_sheet 17 = .ok (.iconst (-1), 1) := by decide +kernel
theorem dX4_sheet_18 : decode cX4_sheet 18 = .ok (.ireturn, 1) := by decide +kernel
theorem dX4_sheet_19 : decode cX4_sheet 19 = .ok (.iload_n 2, 1) := by decide +kernel
theorem dX4_sheet_20 : decode cX4_sheet 20 = .ok (.invokestatic 46, 3) := by decide +kernel
theorem dX4_sheet_23 : decode cX4_sheet 23 = .ok (.ifCond .eq 9, 3) := by decide +kernel
theorem dX4_sheet_26 : decode cX4_sheet 26 = .ok (.iload_n 3, 1) := by decide +kernel
theorem dX4_sheet_27 : decode cX4_sheet 27 = .ok (.bipush 60, 2) := by decide +kernel
theorem dX4_sheet_29 : decode cX4_sheet 29 = .ok (.if_icmp .le 6, 3) := by decide +kernel
theorem dX4_sheet_32 : decode cX4_sheet 32 = .ok (.bipush (-2), 2) := by decide +kernel
theorem dX4_sheet_34 : decode cX4_sheet 34 = .ok (.ireturn, 1) := by decide +kernel
theorem dX4_sheet_35 : decode cX4_sheet 35 = .ok (.iload_n 3, 1) := by decide +kernel
theorem dX4_sheet_36 : decode cX4_sheet 36 = .ok (.ifCond .ge 9, 3) := by decide +kernel
theorem dX4_sheet_39 : decode cX4_sheet 39 = .ok (.aload_n 0, 1) := by decide +kernel
theorem dX4_sheet_40 : decode cX4_sheet 40 = .ok (.iconst 4, 1) := by decide +kernel
theorem dX4_sheet_41 : decode cX4_sheet 41 = .ok (.invokevirtual 58, 3) := by decide +kernel
theorem dX4_sheet_44 : decode cX4_sheet 44 = .ok (.ireturn, 1) := by decide +kernel
theorem dX4_sheet_45 : decode cX4_sheet 45 = .ok (.aload 4, 2) := by decide +kernel
theorem dX4_sheet_47 : decode cX4_sheet 47 = .ok (.iload_n 2, 1) := by decide +kernel
theorem dX4_sheet_48 : decode cX4_sheet 48 = .ok (.iload_n 3, 1) := by decide +kernel
theorem dX4_sheet_49 : decode cX4_sheet 49 = .ok (.invokevirtual 176, 3) := by decide +kernel
theorem dX4_sheet_52 : decode cX4_sheet 52 = .ok (.iconst 1, 1) := by decide +kernel
theorem dX4_sheet_53 : decode cX4_sheet 53 = .ok (.ireturn, 1) := by decide +kernel
theorem dX4_lose_0 : decode cX4_lose 0 = .ok (.aload_n 0, 1) := by decide +kernel
theorem dX4_lose_1 : decode cX4_lose 1 = .ok (.iload_n 1, 1) := by decide +kernel
theorem dX4_lose_2 : decode cX4_lose 2 = .ok (.invokevirtual 42, 3) := by decide +kernel
theorem dX4_lose_5 : decode cX4_lose 5 = .ok (.astore_n 2, 1) := by decide +kernel
theorem dX4_lose_6 : decode cX4_lose 6 = .ok (.aload_n 2, 1) := by decide +kernel
theorem dX4_lose_7 : decode cX4_lose 7 = .ok (.ifnonnull 5, 3) := by decide +kernel
theorem dX4_lose_10 : decode cX4_lose 10 = .ok (.iconst (-1), 1) := by decide +kernel
theorem dX4_lose_11 : decode cX4_lose 11 = .ok (.ireturn, 1) := by decide +kernel
theorem dX4_lose_12 : decode cX4_lose 12 = .ok (.aload_n 2, 1) := by decide +kernel
theorem dX4_lose_13 : decode cX4_lose 13 = .ok (.invokevirtual 179, 3) := by decide +kernel
theorem dX4_lose_16 : decode cX4_lose 16 = .ok (.ifCond .eq 7, 3) := by decide +kernel
theorem dX4_lose_19 : decode cX4_lose 19 = .ok (.iconst 0, 1) := by decide +kernel
theorem dX4_lose_20 : decode cX4_lose 20 = .ok (.goto 4, 3) := by decide +kernel
theorem dX4_lose_23 : decode cX4_lose 23 = .ok (.iconst 1, 1) := by decide +kernel
theorem dX4_lose_24 : decode cX4_lose 24 = .ok (.istore_n 3, 1) := by decide +kernel
theorem dX4_lose_25 : decode cX4_lose 25 = .ok (.aload_n 2, 1) := by decide +kernel
theorem dX4_lose_26 : decode cX4_lose 26 = .ok (.invokevirtual 182, 3) := by decide +kernel
theorem dX4_lose_29 : decode cX4_lose 29 = .ok (.iload_n 3, 1) := by decide +kernel
theorem dX4_lose_30 : decode cX4_lose 30 = .ok (.ireturn, 1) := by decide +kernel
theorem dX4_put_0 : decode cX4_put 0 = .ok (.aload_n 0, 1) := by decide +kernel
theorem dX4_put_1 : decode cX4_put 1 = .ok (.iconst 0, 1) := by decide +kernel
theorem dX4_put_2 : decode cX4_put 2 = .ok (.putfield 38, 3) := by decide +kernel
theorem dX4_put_5 : decode cX4_put 5 = .ok (.aload_n 0, 1) := by decide +kernel
theorem dX4_put_6 : decode cX4_put 6 = .ok (.iload_n 1, 1) := by decide +kernel
theorem dX4_put_7 : decode cX4_put 7 = .ok (.invokevirtual 42, 3) := by decide +kernel
theorem dX4_put_10 : decode cX4_put 10 = .ok (.astore 4, 2) := by decide +kernel
theorem dX4_put_12 : decode cX4_put 12 = .ok (.aload 4, 2) := by decide +kernel
theorem dX4_put_14 : decode cX4_put 14 = .ok (.ifnonnull 5, 3) := by decide +kernel
theorem dX4_put_17 : decode cX4_put 17 = .ok (.iconst (-1), 1) := by decide +kernel
theorem dX4_put_18 : decode cX4_put 18 = .ok (.ireturn, 1) := by decide +kernel
theorem dX4_put_19 : decode cX4_put 19 = .ok (.aload 4, 2) := by decide +kernel
theorem dX4_put_21 : decode cX4_put 21 = .ok (.invokevirtual 179, 3) := by decide +kernel
theorem dX4_put_24 : decode cX4_put 24 = .ok (.ifCond .eq 9, 3) := by decide +kernel
theorem dX4_put_27 : decode cX4_put 27 = .ok (.aload_n 0, 1) := by decide +kernel
theorem dX4_put_28 : decode cX4_put 28 = .ok (.iconst 1, 1) := by decide +kernel
theorem dX4_put_29 : decode cX4_put 29 = .ok (.invokevirtual 58, 3) := by decide +kernel
theorem dX4_put_32 : decode cX4_put 32 = .ok (.ireturn, 1) := by decide +kernel
theorem dX4_put_33 : decode cX4_put 33 = .ok (.aload 4, 2) := by decide +kernel
theorem dX4_put_35 : decode cX4_put 35 = .ok (.iload_n 2, 1) := by decide +kernel
theorem dX4_put_36 : decode cX4_put 36 = .ok (.invokevirtual 185, 3) := by decide +kernel
theorem dX4_put_39 : decode cX4_put 39 = .ok (.ifCond .ne 9, 3) := by decide +kernel
theorem dX4_put_42 : decode cX4_put 42 = .ok (.aload_n 0, 1) := by decide +kernel
theorem dX4_put_43 : decode cX4_put 43 = .ok (.iconst 3, 1) := by decide +kernel
theorem dX4_put_44 : decode cX4_put 44 = .ok (.invokevirtual 58, 3) := by decide +kernel
theorem dX4_put_47 : decode cX4_put 47 = .ok (.ireturn, 1) := by decide +kernel
theorem dX4_put_48 : decode cX4_put 48 = .ok (.aload 4, 2) := by decide +kernel
theorem dX4_put_50 : decode cX4_put 50 = .ok (.iload_n 2, 1) := by decide +kernel
theorem dX4_put_51 : decode cX4_put 51 = .ok (.iload_n 3, 1) := by decide +kernel
theorem dX4_put_52 : decode cX4_put 52 = .ok (.invokevirtual 188, 3) := by decide +kernel
theorem dX4_put_55 : decode cX4_put 55 = .ok (.iconst 1, 1) := by decide +kernel
theorem dX4_put_56 : decode cX4_put 56 = .ok (.ireturn, 1) := by decide +kernel
theorem dX4_cell_0 : decode cX4_cell 0 = .ok (.aload_n 0, 1) := by decide +kernel
theorem dX4_cell_1 : decode cX4_cell 1 = .ok (.iconst 0, 1) := by decide +kernel
theorem dX4_cell_2 : decode cX4_cell 2 = .ok (.putfield 38, 3) := by decide +kernel
theorem dX4_cell_5 : decode cX4_cell 5 = .ok (.aload_n 0, 1) := by decide +kernel
theorem dX4_cell_6 : decode cX4_cell 6 = .ok (.iload_n 1, 1) := by decide +kernel
theorem dX4_cell_7 : decode cX4_cell 7 = .ok (.invokevirtual 42, 3) := by decide +kernel
theorem dX4_cell_10 : decode cX4_cell 10 = .ok (.astore 4, 2) := by decide +kernel
theorem dX4_cell_12 : decode cX4_cell 12 = .ok (.aload 4, 2) := by decide +kernel
theorem dX4_cell_14 : decode cX4_cell 14 = .ok (.ifnull 10, 3) := by decide +kernel
theorem dX4_cell_17 : decode cX4_cell 17 = .ok (.iload_n 3, 1) := by decide +kernel
theorem dX4_cell_18 : decode cX4_cell 18 = .ok (.invokestatic 46, 3) := by decide +kernel
theorem dX4_cell_21 : decode cX4_cell 21 = .ok (.ifCond .ne 7, 3) := by decide +kernel
theorem dX4_cell_24 : decode cX4_cell 24 = .ok (.ldc2_w 170, 3) := by decide +kernel
theorem dX4_cell_27 : decode cX4_cell 27 = .ok (.lreturn, 1) := by decide +kernel
theorem dX4_cell_28 : decode cX4_cell 28 = .ok (.aload_n 0, 1) := by decide +kernel
theorem dX4_cell_29 : decode cX4_cell 29 = .ok (.aload 4, 2) := by decide +kernel
theorem dX4_cell_31 : decode cX4_cell 31 = .ok (.iload_n 3, 1) := by decide +kernel
theorem dX4_cell_32 : decode cX4_cell 32 = .ok (.invokevirtual 50, 3) := by decide +kernel
theorem dX4_cell_35 : decode cX4_cell 35 = .ok (.putfield 38, 3) := by decide +kernel
theorem dX4_cell_38 : decode cX4_cell 38 = .ok (.aload_n 0, 1) := by decide +kernel
theorem dX4_cell_39 : decode cX4_cell 39 = .ok (.getfield 38, 3) := by decide +kernel
theorem dX4_cell_42 : decode cX4_cell 42 = .ok (.ifCond .ne 17, 3) := by decide +kernel
theorem dX4_cell_45 : decode cX4_cell 45 = .ok (.aload 4, 2) := by decide +kernel
theorem dX4_cell_47 : decode cX4_cell 47 = .ok (.iload_n 2, 1) := by decide +kernel
theorem dX4_cell_48 : decode cX4_cell 48 = .ok (.invokevirtual 185, 3) := by decide +kernel
theorem dX4_cell_51 : decode cX4_cell 51 = .ok (.ifCond .ne 8, 3) := by decide +kernel
theorem dX4_cell_54 : decode cX4_cell 54 = .ok (.aload_n 0, 1) := by decide +kernel
theorem dX4_cell_55 : decode cX4_cell 55 = .ok (.iconst 3, 1) := by decide +kernel
theorem dX4_cell_56 : decode cX4_cell 56 = .ok (.putfield 38, 3) := by decide +kernel
theorem dX4_cell_59 : decode cX4_cell 59 = .ok (.aload_n 0, 1) := by decide +kernel
theorem dX4_cell_60 : decode cX4_cell 60 = .ok (.getfield 38, 3) := by decide +kernel
theorem dX4_cell_63 : decode cX4_cell 63 = .ok (.ifCond .ne 13, 3) := by decide +kernel
theorem dX4_cell_66 : decode cX4_cell 66 = .ok (.aload 4, 2) := by decide +kernel
theorem dX4_cell_68 : decode cX4_cell 68 = .ok (.iload_n 2, 1) := by decide +kernel
theorem dX4_cell_69 : decode cX4_cell 69 = .ok (.invokevirtual 129, 3) := by decide +kernel
theorem dX4_cell_72 : decode cX4_cell 72 = .ok (.i2l, 1) := by decide +kernel
theorem dX4_cell_73 : decode cX4_cell 73 = .ok (.goto 6, 3) := by decide +kernel
theorem dX4_cell_76 : decode cX4_cell 76 = .ok (.ldc2_w 170, 3) := by decide +kernel
theorem dX4_cell_79 : decode cX4_cell 79 = .ok (.lreturn, 1) := by decide +kernel
theorem dX4_copy_0 : decode cX4_copy 0 = .ok (.aload_n 0, 1) := by decide +kernel
theorem dX4_copy_1 : decode cX4_copy 1 = .ok (.iconst 0, 1) := by decide +kernel
theorem dX4_copy_2 : decode cX4_copy 2 = .ok (.putfield 38, 3) := by decide +kernel
theorem dX4_copy_5 : decode cX4_copy 5 = .ok (.aload_n 0, 1) := by decide +kernel
theorem dX4_copy_6 : decode cX4_copy 6 = .ok (.iload_n 1, 1) := by decide +kernel
theorem dX4_copy_7 : decode cX4_copy 7 = .ok (.invokevirtual 42, 3) := by decide +kernel
theorem dX4_copy_10 : decode cX4_copy 10 = .ok (.astore 6, 2) := by decide +kernel
theorem dX4_copy_12 : decode cX4_copy 12 = .ok (.aload_n 0, 1) := by decide +kernel
theorem dX4_copy_13 : decode cX4_copy 13 = .ok (.iload_n 3, 1) := by decide +kernel
theorem dX4_copy_14 : decode cX4_copy 14 = .ok (.invokevirtual 42, 3) := by decide +kernel
theorem dX4_copy_17 : decode cX4_copy 17 = .ok (.astore 7, 2) := by decide +kernel
theorem dX4_copy_19 : decode cX4_copy 19 = .ok (.aload 6, 2) := by decide +kernel
theorem dX4_copy_21 : decode cX4_copy 21 = .ok (.ifnull 8, 3) := by decide +kernel
theorem dX4_copy_24 : decode cX4_copy 24 = .ok (.aload 7, 2) := by decide +kernel
theorem dX4_copy_26 : decode cX4_copy 26 = .ok (.ifnonnull 5, 3) := by decide +kernel
theorem dX4_copy_29 : decode cX4_copy 29 = .ok (.iconst (-1), 1) := by decide +kernel
theorem dX4_copy_30 : decode cX4_copy 30 = .ok (.ireturn, 1) := by decide +kernel
theorem dX4_copy_31 : decode cX4_copy 31 = .ok (.aload 6, 2) := by decide +kernel
theorem dX4_copy_33 : decode cX4_copy 33 = .ok (.invokevirtual 179, 3) := by decide +kernel
theorem dX4_copy_36 : decode cX4_copy 36 = .ok (.ifCond .ne 11, 3) := by decide +kernel
theorem dX4_copy_39 : decode cX4_copy 39 = .ok (.aload 7, 2) := by decide +kernel
theorem dX4_copy_41 : decode cX4_copy 41 = .ok (.invokevirtual 179, 3) := by decide +kernel
theorem dX4_copy_44 : decode cX4_copy 44 = .ok (.ifCond .eq 9, 3) := by decide +kernel
theorem dX4_copy_47 : decode cX4_copy 47 = .ok (.aload_n 0, 1) := by decide +kernel
theorem dX4_copy_48 : decode cX4_copy 48 = .ok (.iconst 1, 1) := by decide +kernel
theorem dX4_copy_49 : decode cX4_copy 49 = .ok (.invokevirtual 58, 3) := by decide +kernel
theorem dX4_copy_52 : decode cX4_copy 52 = .ok (.ireturn, 1) := by decide +kernel
theorem dX4_copy_53 : decode cX4_copy 53 = .ok (.aload 6, 2) := by decide +kernel
theorem dX4_copy_55 : decode cX4_copy 55 = .ok (.getfield 191, 3) := by decide +kernel
theorem dX4_copy_58 : decode cX4_copy 58 = .ok (.aload 7, 2) := by decide +kernel
theorem dX4_copy_60 : decode cX4_copy 60 = .ok (.getfield 191, 3) := by decide +kernel
theorem dX4_copy_63 : decode cX4_copy 63 = .ok (.if_icmp .eq 9, 3) := by decide +kernel
theorem dX4_copy_66 : decode cX4_copy 66 = .ok (.aload_n 0, 1) := by decide +kernel
theorem dX4_copy_67 : decode cX4_copy 67 = .ok (.iconst 2, 1) := by decide +kernel
theorem dX4_copy_68 : decode cX4_copy 68 = .ok (.invokevirtual 58, 3) := by decide +kernel
theorem dX4_copy_71 : decode cX4_copy 71 = .ok (.ireturn, 1) := by decide +kernel
theorem dX4_copy_72 : decode cX4_copy 72 = .ok (.aload 6, 2) := by decide +kernel
theorem dX4_copy_74 : decode cX4_copy 74 = .ok (.iload_n 2, 1) := by decide +kernel
theorem dX4_copy_75 : decode cX4_copy 75 = .ok (.iload 5, 2) := by decide +kernel
theorem dX4_copy_77 : decode cX4_copy 77 = .ok (.invokevirtual 54, 3) := by decide +kernel
theorem dX4_copy_80 : decode cX4_copy 80 = .ok (.ifCond .ne 15, 3) := by decide +kernel
theorem dX4_copy_83 : decode cX4_copy 83 = .ok (.aload 7, 2) := by decide +kernel
theorem dX4_copy_85 : decode cX4_copy 85 = .ok (.iload 4, 2) := by decide +kernel
theorem dX4_copy_87 : decode cX4_copy 87 = .ok (.iload 5, 2) := by decide +kernel
theorem dX4_copy_89 : decode cX4_copy 89 = .ok (.invokevirtual 54, 3) := by decide +kernel
theorem dX4_copy_92 : decode cX4_copy 92 = .ok (.ifCond .eq 9, 3) := by decide +kernel
theorem dX4_copy_95 : decode cX4_copy 95 = .ok (.aload_n 0, 1) := by decide +kernel
theorem dX4_copy_96 : decode cX4_copy 96 = .ok (.iconst 3, 1) := by decide +kernel
theorem dX4_copy_97 : decode cX4_copy 97 = .ok (.invokevirtual 58, 3) := by decide +kernel
theorem dX4_copy_100 : decode cX4_copy 100 = .ok (.ireturn, 1) := by decide +kernel
theorem dX4_copy_101 : decode cX4_copy 101 = .ok (.aload 6, 2) := by decide +kernel
theorem dX4_copy_103 : decode cX4_copy 103 = .ok (.getfield 194, 3) := by decide +kernel
theorem dX4_copy_106 : decode cX4_copy 106 = .ok (.iload_n 2, 1) := by decide +kernel
theorem dX4_copy_107 : decode cX4_copy 107 = .ok (.aload 7, 2) := by decide +kernel
theorem dX4_copy_109 : decode cX4_copy 109 = .ok (.getfield 194, 3) := by decide +kernel
theorem dX4_copy_112 : decode cX4_copy 112 = .ok (.iload 4, 2) := by decide +kernel
theorem dX4_copy_114 : decode cX4_copy 114 = .ok (.iload 5, 2) := by decide +kernel
theorem dX4_copy_116 : decode cX4_copy 116 = .ok (.invokestatic 198, 3) := by decide +kernel
theorem dX4_copy_119 : decode cX4_copy 119 = .ok (.iload 5, 2) := by decide +kernel
theorem dX4_copy_121 : decode cX4_copy 121 = .ok (.ireturn, 1) := by decide +kernel
theorem dX4_tell_0 : decode cX4_tell 0 = .ok (.aload_n 0, 1) := by decide +kernel
theorem dX4_tell_1 : decode cX4_tell 1 = .ok (.getfield 14, 3) := by decide +kernel
theorem dX4_tell_4 : decode cX4_tell 4 = .ok (.iload_n 1, 1) := by decide +kernel
theorem dX4_tell_5 : decode cX4_tell 5 = .ok (.invokevirtual 73, 3) := by decide +kernel
theorem dX4_tell_8 : decode cX4_tell 8 = .ok (.astore_n 2, 1) := by decide +kernel
theorem dX4_tell_9 : decode cX4_tell 9 = .ok (.aload_n 2, 1) := by decide +kernel
theorem dX4_tell_10 : decode cX4_tell 10 = .ok (.ifnonnull 5, 3) := by decide +kernel
theorem dX4_tell_13 : decode cX4_tell 13 = .ok (.iconst (-1), 1) := by decide +kernel
theorem dX4_tell_14 : decode cX4_tell 14 = .ok (.ireturn, 1) := by decide +kernel
theorem dX4_tell_15 : decode cX4_tell 15 = .ok (.aload_n 2, 1) := by decide +kernel
theorem dX4_tell_16 : decode cX4_tell 16 = .ok (.getfield 77, 3) := by decide +kernel
theorem dX4_tell_19 : decode cX4_tell 19 = .ok (.lookupswitch 37 #[(1, 25), (2, 31)], 25) := by decide +kernel
theorem dX4_tell_44 : decode cX4_tell 44 = .ok (.aload_n 0, 1) := by decide +kernel
theorem dX4_tell_45 : decode cX4_tell 45 = .ok (.aload_n 2, 1) := by decide +kernel
theorem dX4_tell_46 : decode cX4_tell 46 = .ok (.invokevirtual 204, 3) := by decide +kernel
theorem dX4_tell_49 : decode cX4_tell 49 = .ok (.ireturn, 1) := by decide +kernel
theorem dX4_tell_50 : decode cX4_tell 50 = .ok (.aload_n 0, 1) := by decide +kernel
theorem dX4_tell_51 : decode cX4_tell 51 = .ok (.aload_n 2, 1) := by decide +kernel
theorem dX4_tell_52 : decode cX4_tell 52 = .ok (.invokevirtual 208, 3) := by decide +kernel
theorem dX4_tell_55 : decode cX4_tell 55 = .ok (.ireturn, 1) := by decide +kernel
theorem dX4_tell_56 : decode cX4_tell 56 = .ok (.aload_n 0, 1) := by decide +kernel
theorem dX4_tell_57 : decode cX4_tell 57 = .ok (.aload_n 2, 1) := by decide +kernel
theorem dX4_tell_58 : decode cX4_tell 58 = .ok (.invokevirtual 211, 3) := by decide +kernel
theorem dX4_tell_61 : decode cX4_tell 61 = .ok (.ireturn, 1) := by decide +kernel
theorem dX4_waken_0 : decode cX4_waken 0 = .ok (.aload_n 0, 1) := by decide +kernel
theorem dX4_waken_1 : decode cX4_waken 1 = .ok (.getfield 14, 3) := by decide +kernel
theorem dX4_waken_4 : decode cX4_waken 4 = .ok (.iload_n 1, 1) := by decide +kernel
theorem dX4_waken_5 : decode cX4_waken 5 = .ok (.invokevirtual 73, 3) := by decide +kernel
theorem dX4_waken_8 : decode cX4_waken 8 = .ok (.astore_n 2, 1) := by decide +kernel
theorem dX4_waken_9 : decode cX4_waken 9 = .ok (.aload_n 2, 1) := by decide +kernel
theorem dX4_waken_10 : decode cX4_waken 10 = .ok (.ifnonnull 5, 3) := by decide +kernel
theorem dX4_waken_13 : decode cX4_waken 13 = .ok (.iconst (-1), 1) := by decide +kernel
theorem dX4_waken_14 : decode cX4_waken 14 = .ok (.ireturn, 1) := by decide +kernel
theorem dX4_waken_15 : decode cX4_waken 15 = .ok (.aload_n 2, 1) := by decide +kernel
theorem dX4_waken_16 : decode cX4_waken 16 = .ok (.getfield 77, 3) := by decide +kernel
theorem dX4_waken_19 : decode cX4_waken 19 = .ok (.iconst 2, 1) := by decide +kernel
theorem dX4_waken_20 : decode cX4_waken 20 = .ok (.if_icmp .ne 10, 3) := by decide +kernel
theorem dX4_waken_23 : decode cX4_waken 23 = .ok (.aload_n 0, 1) := by decide +kernel
theorem dX4_waken_24 : decode cX4_waken 24 = .ok (.invokevirtual 214, 3) := by decide +kernel
theorem dX4_waken_27 : decode cX4_waken 27 = .ok (.goto 8, 3) := by decide +kernel
theorem dX4_waken_30 : decode cX4_waken 30 = .ok (.aload_n 0, 1) := by decide +kernel
theorem dX4_waken_31 : decode cX4_waken 31 = .ok (.iload_n 1, 1) := by decide +kernel
theorem dX4_waken_32 : decode cX4_waken 32 = .ok (.invokevirtual 217, 3) := by decide +kernel
theorem dX4_waken_35 : decode cX4_waken 35 = .ok (.ireturn, 1) := by decide +kernel
theorem dX4_as_0 : decode cX4_as 0 = .ok (.aload_n 0, 1) := by decide +kernel
theorem dX4_as_1 : decode cX4_as 1 = .ok (.iconst 0, 1) := by decide +kernel
theorem dX4_as_2 : decode cX4_as 2 = .ok (.putfield 38, 3) := by decide +kernel
theorem dX4_as_5 : decode cX4_as 5 = .ok (.aload_n 0, 1) := by decide +kernel
theorem dX4_as_6 : decode cX4_as 6 = .ok (.getfield 14, 3) := by decide +kernel
theorem dX4_as_9 : decode cX4_as 9 = .ok (.iload_n 1, 1) := by decide +kernel
theorem dX4_as_10 : decode cX4_as 10 = .ok (.invokevirtual 73, 3) := by decide +kernel
theorem dX4_as_13 : decode cX4_as 13 = .ok (.astore_n 3, 1) := by decide +kernel
theorem dX4_as_14 : decode cX4_as 14 = .ok (.aload_n 3, 1) := by decide +kernel
theorem dX4_as_15 : decode cX4_as 15 = .ok (.ifnonnull 5, 3) := by decide +kernel
theorem dX4_as_18 : decode cX4_as 18 = .ok (.iconst (-1), 1) := by decide +kernel
theorem dX4_as_19 : decode cX4_as 19 = .ok (.ireturn, 1) := by decide +kernel
theorem dX4_as_20 : decode cX4_as 20 = .ok (.iload_n 2, 1) := by decide +kernel
theorem dX4_as_21 : decode cX4_as 21 = .ok (.ifCond .lt 8, 3) := by decide +kernel
theorem dX4_as_24 : decode cX4_as 24 = .ok (.iload_n 2, 1) := by decide +kernel
theorem dX4_as_25 : decode cX4_as 25 = .ok (.iconst 2, 1) := by decide +kernel
theorem dX4_as_26 : decode cX4_as 26 = .ok (.if_icmp .le 6, 3) := by decide +kernel
theorem dX4_as_29 : decode cX4_as 29 = .ok (.bipush (-2), 2) := by decide +kernel
theorem dX4_as_31 : decode cX4_as 31 = .ok (.ireturn, 1) := by decide +kernel
theorem dX4_as_32 : decode cX4_as 32 = .ok (.aload_n 3, 1) := by decide +kernel
theorem dX4_as_33 : decode cX4_as 33 = .ok (.getfield 77, 3) := by decide +kernel
theorem dX4_as_36 : decode cX4_as 36 = .ok (.iload_n 2, 1) := by decide +kernel
theorem dX4_as_37 : decode cX4_as 37 = .ok (.if_icmp .ge 11, 3) := by decide +kernel
theorem dX4_as_40 : decode cX4_as 40 = .ok (.aload_n 0, 1) := by decide +kernel
theorem dX4_as_41 : decode cX4_as 41 = .ok (.iconst 2, 1) := by decide +kernel
theorem dX4_as_42 : decode cX4_as 42 = .ok (.invokevirtual 58, 3) := by decide +kernel
theorem dX4_as_45 : decode cX4_as 45 = .ok (.goto 4, 3) := by decide +kernel
theorem dX4_as_48 : decode cX4_as 48 = .ok (.iconst 1, 1) := by decide +kernel
theorem dX4_as_49 : decode cX4_as 49 = .ok (.ireturn, 1) := by decide +kernel
theorem dX4_trace_0 : decode cX4_trace 0 = .ok (.aload_n 0, 1) := by decide +kernel
theorem dX4_trace_1 : decode cX4_trace 1 = .ok (.getfield 34, 3) := by decide +kernel
theorem dX4_trace_4 : decode cX4_trace 4 = .ok (.ireturn, 1) := by decide +kernel
theorem dX4_fault_0 : decode cX4_fault 0 = .ok (.aload_n 0, 1) := by decide +kernel
theorem dX4_fault_1 : decode cX4_fault 1 = .ok (.getfield 38, 3) := by decide +kernel
theorem dX4_fault_4 : decode cX4_fault 4 = .ok (.ireturn, 1) := by decide +kernel
theorem dX4_many_0 : decode cX4_many 0 = .ok (.iload_n 1, 1) := by decide +kernel
theorem dX4_many_1 : decode cX4_many 1 = .ok (.tableswitch 63 0 3 #[31, 39, 47, 55], 31) := by decide +kernel
theorem dX4_many_32 : decode cX4_many 32 = .ok (.aload_n 0, 1) := by decide +kernel
theorem dX4_many_33 : decode cX4_many 33 = .ok (.getfield 14, 3) := by decide +kernel
theorem dX4_many_36 : decode cX4_many 36 = .ok (.invokevirtual 69, 3) := by decide +kernel
theorem dX4_many_39 : decode cX4_many 39 = .ok (.ireturn, 1) := by decide +kernel
theorem dX4_many_40 : decode cX4_many 40 = .ok (.aload_n 0, 1) := by decide +kernel
theorem dX4_many_41 : decode cX4_many 41 = .ok (.getfield 14, 3) := by decide +kernel
theorem dX4_many_44 : decode cX4_many 44 = .ok (.invokevirtual 167, 3) := by decide +kernel
theorem dX4_many_47 : decode cX4_many 47 = .ok (.ireturn, 1) := by decide +kernel
theorem dX4_many_48 : decode cX4_many 48 = .ok (.aload_n 0, 1) := by decide +kernel
theorem dX4_many_49 : decode cX4_many 49 = .ok (.getfield 14, 3) := by decide +kernel
theorem dX4_many_52 : decode cX4_many 52 = .ok (.invokevirtual 220, 3) := by decide +kernel
theorem dX4_many_55 : decode cX4_many 55 = .ok (.ireturn, 1) := by decide +kernel
theorem dX4_many_56 : decode cX4_many 56 = .ok (.aload_n 0, 1) := by decide +kernel
theorem dX4_many_57 : decode cX4_many 57 = .ok (.getfield 24, 3) := by decide +kernel
theorem dX4_many_60 : decode cX4_many 60 = .ok (.invokevirtual 160, 3) := by decide +kernel
theorem dX4_many_63 : decode cX4_many 63 = .ok (.ireturn, 1) := by decide +kernel
theorem dX4_many_64 : decode cX4_many 64 = .ok (.bipush (-2), 2) := by decide +kernel
theorem dX4_many_66 : decode cX4_many 66 = .ok (.ireturn, 1) := by decide +kernel
theorem dX4_sleeperBody_0 : decode cX4_sleeperBody 0 = .ok (.aload_n 0, 1) := by decide +kernel
theorem dX4_sleeperBody_1 : decode cX4_sleeperBody 1 = .ok (.iconst 1, 1) := by decide +kernel
theorem dX4_sleeperBody_2 : decode cX4_sleeperBody 2 = .ok (.invokevirtual 223, 3) := by decide +kernel
theorem dX4_sleeperBody_5 : decode cX4_sleeperBody 5 = .ok (.aload_n 1, 1) := by decide +kernel
theorem dX4_sleeperBody_6 : decode cX4_sleeperBody 6 = .ok (.getfield 85, 3) := by decide +kernel
theorem dX4_sleeperBody_9 : decode cX4_sleeperBody 9 = .ok (.ireturn, 1) := by decide +kernel
theorem dX4_moonstruckBody_0 : decode cX4_moonstruckBody 0 = .ok (.aload_n 0, 1) := by decide +kernel
theorem dX4_moonstruckBody_1 : decode cX4_moonstruckBody 1 = .ok (.iconst 2, 1) := by decide +kernel
theorem dX4_moonstruckBody_2 : decode cX4_moonstruckBody 2 = .ok (.invokevirtual 223, 3) := by decide +kernel
theorem dX4_moonstruckBody_5 : decode cX4_moonstruckBody 5 = .ok (.aload_n 0, 1) := by decide +kernel
theorem dX4_moonstruckBody_6 : decode cX4_moonstruckBody 6 = .ok (.aload_n 1, 1) := by decide +kernel
theorem dX4_moonstruckBody_7 : decode cX4_moonstruckBody 7 = .ok (.invokevirtual 211, 3) := by decide +kernel
theorem dX4_moonstruckBody_10 : decode cX4_moonstruckBody 10 = .ok (.bipush 100, 2) := by decide +kernel
theorem dX4_moonstruckBody_12 : decode cX4_moonstruckBody 12 = .ok (.iadd, 1) := by decide +kernel
theorem dX4_moonstruckBody_13 : decode cX4_moonstruckBody 13 = .ok (.ireturn, 1) := by decide +kernel
theorem dX4_restlessBody_0 : decode cX4_restlessBody 0 = .ok (.aload_n 0, 1) := by decide +kernel
theorem dX4_restlessBody_1 : decode cX4_restlessBody 1 = .ok (.iconst 3, 1) := by decide +kernel
theorem dX4_restlessBody_2 : decode cX4_restlessBody 2 = .ok (.invokevirtual 223, 3) := by decide +kernel
theorem dX4_restlessBody_5 : decode cX4_restlessBody 5 = .ok (.aload_n 0, 1) := by decide +kernel
theorem dX4_restlessBody_6 : decode cX4_restlessBody 6 = .ok (.aload_n 1, 1) := by decide +kernel
theorem dX4_restlessBody_7 : decode cX4_restlessBody 7 = .ok (.invokevirtual 204, 3) := by decide +kernel
theorem dX4_restlessBody_10 : decode cX4_restlessBody 10 = .ok (.istore_n 2, 1) := by decide +kernel
theorem dX4_restlessBody_11 : decode cX4_restlessBody 11 = .ok (.iload_n 2, 1) := by decide +kernel
theorem dX4_restlessBody_12 : decode cX4_restlessBody 12 = .ok (.aload_n 0, 1) := by decide +kernel
theorem dX4_restlessBody_13 : decode cX4_restlessBody 13 = .ok (.aload_n 1, 1) := by decide +kernel
theorem dX4_restlessBody_14 : decode cX4_restlessBody 14 = .ok (.invokevirtual 211, 3) := by decide +kernel
theorem dX4_restlessBody_17 : decode cX4_restlessBody 17 = .ok (.iadd, 1) := by decide +kernel
theorem dX4_restlessBody_18 : decode cX4_restlessBody 18 = .ok (.ireturn, 1) := by decide +kernel
theorem dX4_lentWakening_0 : decode cX4_lentWakening 0 = .ok (.aload_n 0, 1) := by decide +kernel
theorem dX4_lentWakening_1 : decode cX4_lentWakening 1 = .ok (.iconst 4, 1) := by decide +kernel
theorem dX4_lentWakening_2 : decode cX4_lentWakening 2 = .ok (.invokevirtual 223, 3) := by decide +kernel
theorem dX4_lentWakening_5 : decode cX4_lentWakening 5 = .ok (.iload_n 1, 1) := by decide +kernel
theorem dX4_lentWakening_6 : decode cX4_lentWakening 6 = .ok (.ireturn, 1) := by decide +kernel
theorem dX4_ownWakening_0 : decode cX4_ownWakening 0 = .ok (.aload_n 0, 1) := by decide +kernel
theorem dX4_ownWakening_1 : decode cX4_ownWakening 1 = .ok (.iconst 5, 1) := by decide +kernel
theorem dX4_ownWakening_2 : decode cX4_ownWakening 2 = .ok (.invokevirtual 223, 3) := by decide +kernel
theorem dX4_ownWakening_5 : decode cX4_ownWakening 5 = .ok (.bipush 90, 2) := by decide +kernel
theorem dX4_ownWakening_7 : decode cX4_ownWakening 7 = .ok (.ireturn, 1) := by decide +kernel
theorem dX4_leave_0 : decode cX4_leave 0 = .ok (.aload_n 0, 1) := by decide +kernel
theorem dX4_leave_1 : decode cX4_leave 1 = .ok (.bipush 31, 2) := by decide +kernel
theorem dX4_leave_3 : decode cX4_leave 3 = .ok (.aload_n 0, 1) := by decide +kernel
theorem dX4_leave_4 : decode cX4_leave 4 = .ok (.getfield 34, 3) := by decide +kernel
theorem dX4_leave_7 : decode cX4_leave 7 = .ok (.imul, 1) := by decide +kernel
theorem dX4_leave_8 : decode cX4_leave 8 = .ok (.iload_n 1, 1) := by decide +kernel
theorem dX4_leave_9 : decode cX4_leave 9 = .ok (.iadd, 1) := by decide +kernel
theorem dX4_leave_10 : decode cX4_leave 10 = .ok (.putfield 34, 3) := by decide +kernel
theorem dX4_leave_13 : decode cX4_leave 13 = .ok (.return_, 1) := by decide +kernel
theorem dX4_cameTo_0 : decode cX4_cameTo 0 = .ok (.aload_n 0, 1) := by decide +kernel
theorem dX4_cameTo_1 : decode cX4_cameTo 1 = .ok (.iload_n 1, 1) := by decide +kernel
theorem dX4_cameTo_2 : decode cX4_cameTo 2 = .ok (.putfield 38, 3) := by decide +kernel
theorem dX4_cameTo_5 : decode cX4_cameTo 5 = .ok (.bipush (-10), 2) := by decide +kernel
theorem dX4_cameTo_7 : decode cX4_cameTo 7 = .ok (.iload_n 1, 1) := by decide +kernel
theorem dX4_cameTo_8 : decode cX4_cameTo 8 = .ok (.isub, 1) := by decide +kernel
theorem dX4_cameTo_9 : decode cX4_cameTo 9 = .ok (.ireturn, 1) := by decide +kernel
theorem dX4_sheetOrNull_0 : decode cX4_sheetOrNull 0 = .ok (.iload_n 1, 1) := by decide +kernel
theorem dX4_sheetOrNull_1 : decode cX4_sheetOrNull 1 = .ok (.ifCond .lt 21, 3) := by decide +kernel
theorem dX4_sheetOrNull_4 : decode cX4_sheetOrNull 4 = .ok (.iload_n 1, 1) := by decide +kernel
theorem dX4_sheetOrNull_5 : decode cX4_sheetOrNull 5 = .ok (.aload_n 0, 1) := by decide +kernel
theorem dX4_sheetOrNull_6 : decode cX4_sheetOrNull 6 = .ok (.getfield 30, 3) := by decide +kernel
theorem dX4_sheetOrNull_9 : decode cX4_sheetOrNull 9 = .ok (.arraylength, 1) := by decide +kernel
theorem dX4_sheetOrNull_10 : decode cX4_sheetOrNull 10 = .ok (.if_icmp .ge 12, 3) := by decide +kernel
theorem dX4_sheetOrNull_13 : decode cX4_sheetOrNull 13 = .ok (.aload_n 0, 1) := by decide +kernel
theorem dX4_sheetOrNull_14 : decode cX4_sheetOrNull 14 = .ok (.getfield 30, 3) := by decide +kernel
theorem dX4_sheetOrNull_17 : decode cX4_sheetOrNull 17 = .ok (.iload_n 1, 1) := by decide +kernel
theorem dX4_sheetOrNull_18 : decode cX4_sheetOrNull 18 = .ok (.aaload, 1) := by decide +kernel
theorem dX4_sheetOrNull_19 : decode cX4_sheetOrNull 19 = .ok (.goto 4, 3) := by decide +kernel
theorem dX4_sheetOrNull_22 : decode cX4_sheetOrNull 22 = .ok (.aconst_null, 1) := by decide +kernel
theorem dX4_sheetOrNull_23 : decode cX4_sheetOrNull 23 = .ok (.areturn, 1) := by decide +kernel
theorem dX4_isLane_0 : decode cX4_isLane 0 = .ok (.iload_n 0, 1) := by decide +kernel
theorem dX4_isLane_1 : decode cX4_isLane 1 = .ok (.ifCond .lt 12, 3) := by decide +kernel
theorem dX4_isLane_4 : decode cX4_isLane 4 = .ok (.iload_n 0, 1) := by decide +kernel
theorem dX4_isLane_5 : decode cX4_isLane 5 = .ok (.iconst 2, 1) := by decide +kernel
theorem dX4_isLane_6 : decode cX4_isLane 6 = .ok (.if_icmp .gt 7, 3) := by decide +kernel
theorem dX4_isLane_9 : decode cX4_isLane 9 = .ok (.iconst 1, 1) := by decide +kernel
theorem dX4_isLane_10 : decode cX4_isLane 10 = .ok (.goto 4, 3) := by decide +kernel
theorem dX4_isLane_13 : decode cX4_isLane 13 = .ok (.iconst 0, 1) := by decide +kernel
theorem dX4_isLane_14 : decode cX4_isLane 14 = .ok (.ireturn, 1) := by decide +kernel
theorem dX4_isMinute_0 : decode cX4_isMinute 0 = .ok (.iload_n 0, 1) := by decide +kernel
theorem dX4_isMinute_1 : decode cX4_isMinute 1 = .ok (.ifCond .lt 13, 3) := by decide +kernel
theorem dX4_isMinute_4 : decode cX4_isMinute 4 = .ok (.iload_n 0, 1) := by decide +kernel
theorem dX4_isMinute_5 : decode cX4_isMinute 5 = .ok (.bipush 60, 2) := by decide +kernel
theorem dX4_isMinute_7 : decode cX4_isMinute 7 = .ok (.if_icmp .gt 7, 3) := by decide +kernel
theorem dX4_isMinute_10 : decode cX4_isMinute 10 = .ok (.iconst 1, 1) := by decide +kernel
theorem dX4_isMinute_11 : decode cX4_isMinute 11 = .ok (.goto 4, 3) := by decide +kernel
theorem dX4_isMinute_14 : decode cX4_isMinute 14 = .ok (.iconst 0, 1) := by decide +kernel
theorem dX4_isMinute_15 : decode cX4_isMinute 15 = .ok (.ireturn, 1) := by decide +kernel
theorem dX4_isIn_0 : decode cX4_isIn 0 = .ok (.iload_n 0, 1) := by decide +kernel
theorem dX4_isIn_1 : decode cX4_isIn 1 = .ok (.iload_n 1, 1) := by decide +kernel
theorem dX4_isIn_2 : decode cX4_isIn 2 = .ok (.invokestatic 132, 3) := by decide +kernel
theorem dX4_isIn_5 : decode cX4_isIn 5 = .ok (.iand, 1) := by decide +kernel
theorem dX4_isIn_6 : decode cX4_isIn 6 = .ok (.ifCond .eq 7, 3) := by decide +kernel
theorem dX4_isIn_9 : decode cX4_isIn 9 = .ok (.iconst 1, 1) := by decide +kernel
theorem dX4_isIn_10 : decode cX4_isIn 10 = .ok (.goto 4, 3) := by decide +kernel
theorem dX4_isIn_13 : decode cX4_isIn 13 = .ok (.iconst 0, 1) := by decide +kernel
theorem dX4_isIn_14 : decode cX4_isIn 14 = .ok (.ireturn, 1) := by decide +kernel
theorem dX4_bit_0 : decode cX4_bit 0 = .ok (.iload_n 0, 1) := by decide +kernel
theorem dX4_bit_1 : decode cX4_bit 1 = .ok (.ifCond .lt 15, 3) := by decide +kernel
theorem dX4_bit_4 : decode cX4_bit 4 = .ok (.iload_n 0, 1) := by decide +kernel
theorem dX4_bit_5 : decode cX4_bit 5 = .ok (.bipush 32, 2) := by decide +kernel
theorem dX4_bit_7 : decode cX4_bit 7 = .ok (.if_icmp .ge 9, 3) := by decide +kernel
theorem dX4_bit_10 : decode cX4_bit 10 = .ok (.iconst 1, 1) := by decide +kernel
theorem dX4_bit_11 : decode cX4_bit 11 = .ok (.iload_n 0, 1) := by decide +kernel
theorem dX4_bit_12 : decode cX4_bit 12 = .ok (.ishl, 1) := by decide +kernel
theorem dX4_bit_13 : decode cX4_bit 13 = .ok (.goto 4, 3) := by decide +kernel
theorem dX4_bit_16 : decode cX4_bit 16 = .ok (.iconst 0, 1) := by decide +kernel
theorem dX4_bit_17 : decode cX4_bit 17 = .ok (.ireturn, 1) := by decide +kernel
theorem dX5_init_0 : decode cX5_init 0 = .ok (.aload_n 0, 1) := by decide +kernel
theorem dX5_init_1 : decode cX5_init 1 = .ok (.invokespecial 1, 3) := by decide +kernel
theorem dX5_init_4 : decode cX5_init 4 = .ok (.aload_n 0, 1) := by decide +kernel
theorem dX5_init_5 : decode cX5_init 5 = .ok (.bipush 9, 2) := by decide +kernel
theorem dX5_init_7 : decode cX5_init 7 = .ok (.newarray .int, 2) := by decide +kernel
theorem dX5_init_9 : decode cX5_init 9 = .ok (.putfield 7, 3) := by decide +kernel
theorem dX5_init_12 : decode cX5_init 12 = .ok (.aload_n 0, 1) := by decide +kernel
theorem dX5_init_13 : decode cX5_init 13 = .ok (.iconst 4, 1) := by decide +kernel
theorem dX5_init_14 : decode cX5_init 14 = .ok (.newarray .int, 2) := by decide +kernel
theorem dX5_init_16 : decode cX5_init 16 = .ok (.putfield 13, 3) := by decide +kernel
theorem dX5_init_19 : decode cX5_init 19 = .ok (.aload_n 0, 1) := by decide +kernel
theorem dX5_init_20 : decode cX5_init 20 = .ok (.iconst 4, 1) := by decide +kernel
theorem dX5_init_21 : decode cX5_init 21 = .ok (.newarray .int, 2) := by decide +kernel
theorem dX5_init_23 : decode cX5_init 23 = .ok (.putfield 16, 3) := by decide +kernel
theorem dX5_init_26 : decode cX5_init 26 = .ok (.aload_n 0, 1) := by decide +kernel
theorem dX5_init_27 : decode cX5_init 27 = .ok (.iconst 4, 1) := by decide +kernel
theorem dX5_init_28 : decode cX5_init 28 = .ok (.newarray .int, 2) := by decide +kernel
theorem dX5_init_30 : decode cX5_init 30 = .ok (.putfield 19, 3) := by decide +kernel
theorem dX5_init_33 : decode cX5_init 33 = .ok (.aload_n 0, 1) := by decide +kernel
theorem dX5_init_34 : decode cX5_init 34 = .ok (.bipush 9, 2) := by decide +kernel
theorem dX5_init_36 : decode cX5_init 36 = .ok (.newarray .int, 2) := by decide +kernel
theorem dX5_init_38 : decode cX5_init 38 = .ok (.putfield 22, 3) := by decide +kernel
theorem dX5_init_41 : decode cX5_init 41 = .ok (.aload_n 0, 1) := by decide +kernel
theorem dX5_init_42 : decode cX5_init 42 = .ok (.iconst 4, 1) := by decide +kernel
theorem dX5_init_43 : decode cX5_init 43 = .ok (.newarray .int, 2) := by decide +kernel
theorem dX5_init_45 : decode cX5_init 45 = .ok (.putfield 25, 3) := by decide +kernel
theorem dX5_init_48 : decode cX5_init 48 = .ok (.aload_n 0, 1) := by decide +kernel
theorem dX5_init_49 : decode cX5_init 49 = .ok (.iconst 4, 1) := by decide +kernel
theorem dX5_init_50 : decode cX5_init 50 = .ok (.newarray .int, 2) := by decide +kernel
theorem dX5_init_52 : decode cX5_init 52 = .ok (.putfield 28, 3) := by decide +kernel
theorem dX5_init_55 : decode cX5_init 55 = .ok (.aload_n 0, 1) := by decide +kernel
theorem dX5_init_56 : decode cX5_init 56 = .ok (.iconst 4, 1) := by decide +kernel
theorem dX5_init_57 : decode cX5_init 57 = .ok (.newarray .int, 2) := by decide +kernel
theorem dX5_init_59 : decode cX5_init 59 = .ok (.putfield 31, 3) := by decide +kernel
theorem dX5_init_62 : decode cX5_init 62 = .ok (.aload_n 0, 1) := by decide +kernel
theorem dX5_init_63 : decode cX5_init 63 = .ok (.bipush 9, 2) := by decide +kernel
theorem dX5_init_65 : decode cX5_init 65 = .ok (.newarray .int, 2) := by decide +kernel
theorem dX5_init_67 : decode cX5_init 67 = .ok (.putfield 34, 3) := by decide +kernel
theorem dX5_init_70 : decode cX5_init 70 = .ok (.aload_n 0, 1) := by decide +kernel
theorem dX5_init_71 : decode cX5_init 71 = .ok (.bipush 61, 2) := by decide +kernel
theorem dX5_init_73 : decode cX5_init 73 = .ok (.newarray .int, 2) := by decide +kernel
theorem dX5_init_75 : decode cX5_init 75 = .ok (.putfield 37, 3) := by decide +kernel
theorem dX5_init_78 : decode cX5_init 78 = .ok (.aload_n 0, 1) := by decide +kernel
theorem dX5_init_79 : decode cX5_init 79 = .ok (.bipush 8, 2) := by decide +kernel
theorem dX5_init_81 : decode cX5_init 81 = .ok (.newarray .int, 2) := by decide +kernel
theorem dX5_init_83 : decode cX5_init 83 = .ok (.putfield 40, 3) := by decide +kernel
theorem dX5_init_86 : decode cX5_init 86 = .ok (.aload_n 0, 1) := by decide +kernel
theorem dX5_init_87 : decode cX5_init 87 = .ok (.bipush 8, 2) := by decide +kernel
theorem dX5_init_89 : decode cX5_init 89 = .ok (.newarray .int, 2) := by decide +kernel
theorem dX5_init_91 : decode cX5_init 91 = .ok (.putfield 43, 3) := by decide +kernel
theorem dX5_init_94 : decode cX5_init 94 = .ok (.aload_n 0, 1) := by decide +kernel
theorem dX5_init_95 : decode cX5_init 95 = .ok (.bipush 8, 2) := by decide +kernel
theorem dX5_init_97 : decode cX5_init 97 = .ok (.newarray .int, 2) := by decide +kernel
theorem dX5_init_99 : decode cX5_init 99 = .ok (.putfield 46, 3) := by decide +kernel
theorem dX5_init_102 : decode cX5_init 102 = .ok (.aload_n 0, 1) := by decide +kernel
theorem dX5_init_103 : decode cX5_init 103 = .ok (.iconst 4, 1) := by decide +kernel
theorem dX5_init_104 : decode cX5_init 104 = .ok (.newarray .int, 2) := by decide +kernel
theorem dX5_init_106 : decode cX5_init 106 = .ok (.putfield 49, 3) := by decide +kernel
theorem dX5_init_109 : decode cX5_init 109 = .ok (.aload_n 0, 1) := by decide +kernel
theorem dX5_init_110 : decode cX5_init 110 = .ok (.iconst 4, 1) := by decide +kernel
theorem dX5_init_111 : decode cX5_init 111 = .ok (.newarray .int, 2) := by decide +kernel
theorem dX5_init_113 : decode cX5_init 113 = .ok (.putfield 52, 3) := by decide +kernel
theorem dX5_init_116 : decode cX5_init 116 = .ok (.aload_n 0, 1) := by decide +kernel
theorem dX5_init_117 : decode cX5_init 117 = .ok (.sipush 240, 3) := by decide +kernel
theorem dX5_init_120 : decode cX5_init 120 = .ok (.newarray .int, 2) := by decide +kernel
theorem dX5_init_122 : decode cX5_init 122 = .ok (.putfield 55, 3) := by decide +kernel
theorem dX5_init_125 : decode cX5_init 125 = .ok (.aload_n 0, 1) := by decide +kernel
theorem dX5_init_126 : decode cX5_init 126 = .ok (.bipush 60, 2) := by decide +kernel
theorem dX5_init_128 : decode cX5_init 128 = .ok (.newarray .int, 2) := by decide +kernel
theorem dX5_init_130 : decode cX5_init 130 = .ok (.putfield 58, 3) := by decide +kernel
theorem dX5_init_133 : decode cX5_init 133 = .ok (.iconst 0, 1) := by decide +kernel
theorem dX5_init_134 : decode cX5_init 134 = .ok (.istore_n 1, 1) := by decide +kernel
theorem dX5_init_135 : decode cX5_init 135 = .ok (.iload_n 1, 1) := by decide +kernel
theorem dX5_init_136 : decode cX5_init 136 = .ok (.iconst 4, 1) := by decide +kernel
theorem dX5_init_137 : decode cX5_init 137 = .ok (.if_icmp .ge 16, 3) := by decide +kernel
theorem dX5_init_140 : decode cX5_init 140 = .ok (.aload_n 0, 1) := by decide +kernel
theorem dX5_init_141 : decode cX5_init 141 = .ok (.getfield 49, 3) := by decide +kernel
theorem dX5_init_144 : decode cX5_init 144 = .ok (.iload_n 1, 1) := by decide +kernel
theorem dX5_init_145 : decode cX5_init 145 = .ok (.iconst (-1), 1) := by decide +kernel
theorem dX5_init_146 : decode cX5_init 146 = .ok (.iastore, 1) := by decide +kernel
theorem dX5_init_147 : decode cX5_init 147 = .ok (.iinc 1 1, 3) := by decide +kernel
theorem dX5_init_150 : decode cX5_init 150 = .ok (.goto (-15), 3) := by decide +kernel
theorem dX5_init_153 : decode cX5_init 153 = .ok (.return_, 1) := by decide +kernel
theorem dX5_in_0 : decode cX5_in 0 = .ok (.lload_n 0, 1) := by decide +kernel
theorem dX5_in_1 : decode cX5_in 1 = .ok (.lload_n 2, 1) := by decide +kernel
theorem dX5_in_2 : decode cX5_in 2 = .ok (.lcmp, 1) := by decide +kernel
theorem dX5_in_3 : decode cX5_in 3 = .ok (.ifCond .lt 14, 3) := by decide +kernel
theorem dX5_in_6 : decode cX5_in 6 = .ok (.lload_n 0, 1) := by decide +kernel
theorem dX5_in_7 : decode cX5_in 7 = .ok (.lload 4, 2) := by decide +kernel
theorem dX5_in_9 : decode cX5_in 9 = .ok (.lcmp, 1) := by decide +kernel
theorem dX5_in_10 : decode cX5_in 10 = .ok (.ifCond .gt 7, 3) := by decide +kernel
theorem dX5_in_13 : decode cX5_in 13 = .ok (.iconst 1, 1) := by decide +kernel
theorem dX5_in_14 : decode cX5_in 14 = .ok (.goto 4, 3) := by decide +kernel
theorem dX5_in_17 : decode cX5_in 17 = .ok (.iconst 0, 1) := by decide +kernel
theorem dX5_in_18 : decode cX5_in 18 = .ok (.ireturn, 1) := by decide +kernel
theorem dX5_lost_0 : decode cX5_lost 0 = .ok (.ldc2_w 61, 3) := by decide +kernel
theorem dX5_lost_3 : decode cX5_lost 3 = .ok (.lreturn, 1) := by decide +kernel
theorem dX5_isIn_0 : decode cX5_isIn 0 = .ok (.iload_n 0, 1) := by decide +kernel
theorem dX5_isIn_1 : decode cX5_isIn 1 = .ok (.iload_n 1, 1) := by decide +kernel
theorem dX5_isIn_2 : decode cX5_isIn 2 = .ok (.ishr, 1) := by decide +kernel
theorem dX5_isIn_3 : decode cX5_isIn 3 = .ok (.iconst 1, 1) := by decide +kernel
theorem dX5_isIn_4 : decode cX5_isIn 4 = .ok (.iand, 1) := by decide +kernel
theorem dX5_isIn_5 : decode cX5_isIn 5 = .ok (.iconst 1, 1) := by decide +kernel
theorem dX5_isIn_6 : decode cX5_isIn 6 = .ok (.if_icmp .ne 7, 3) := by decide +kernel
theorem dX5_isIn_9 : decode cX5_isIn 9 = .ok (.iconst 1, 1) := by decide +kernel
theorem dX5_isIn_10 : decode cX5_isIn 10 = .ok (.goto 4, 3) := by decide +kernel
theorem dX5_isIn_13 : decode cX5_isIn 13 = .ok (.iconst 0, 1) := by decide +kernel
theorem dX5_isIn_14 : decode cX5_isIn 14 = .ok (.ireturn, 1) := by decide +kernel
theorem dX5_share_0 : decode cX5_share 0 = .ok (.lload_n 0, 1) := by decide +kernel
theorem dX5_share_1 : decode cX5_share 1 = .ok (.lstore 5, 2) := by decide +kernel
theorem dX5_share_3 : decode cX5_share 3 = .ok (.lload_n 2, 1) := by decide +kernel
theorem dX5_share_4 : decode cX5_share 4 = .ok (.lstore 7, 2) := by decide +kernel
theorem dX5_share_6 : decode cX5_share 6 = .ok (.lload 7, 2) := by decide +kernel
theorem dX5_share_8 : decode cX5_share 8 = .ok (.lconst 0, 1) := by decide +kernel
theorem dX5_share_9 : decode cX5_share 9 = .ok (.lcmp, 1) := by decide +kernel
theorem dX5_share_10 : decode cX5_share 10 = .ok (.ifCond .eq 21, 3) := by decide +kernel
theorem dX5_share_13 : decode cX5_share 13 = .ok (.lload 5, 2) := by decide +kernel
theorem dX5_share_15 : decode cX5_share 15 = .ok (.lload 7, 2) := by decide +kernel
theorem dX5_share_17 : decode cX5_share 17 = .ok (.lrem, 1) := by decide +kernel
theorem dX5_share_18 : decode cX5_share 18 = .ok (.lstore 9, 2) := by decide +kernel
theorem dX5_share_20 : decode cX5_share 20 = .ok (.lload 7, 2) := by decide +kernel
theorem dX5_share_22 : decode cX5_share 22 = .ok (.lstore 5, 2) := by decide +kernel
theorem dX5_share_24 : decode cX5_share 24 = .ok (.lload 9, 2) := by decide +kernel
theorem dX5_share_26 : decode cX5_share 26 = .ok (.lstore 7, 2) := by decide +kernel
theorem dX5_share_28 : decode cX5_share 28 = .ok (.goto (-22), 3) := by decide +kernel
theorem dX5_share_31 : decode cX5_share 31 = .ok (.iload 4, 2) := by decide +kernel
theorem dX5_share_33 : decode cX5_share 33 = .ok (.ifCond .ne 7, 3) := by decide +kernel
theorem dX5_share_36 : decode cX5_share 36 = .ok (.lload_n 0, 1) := by decide +kernel
theorem dX5_share_37 : decode cX5_share 37 = .ok (.goto 4, 3) := by decide +kernel
theorem dX5_share_40 : decode cX5_share 40 = .ok (.lload_n 2, 1) := by decide +kernel
theorem dX5_share_41 : decode cX5_share 41 = .ok (.lload 5, 2) := by decide +kernel
theorem dX5_share_43 : decode cX5_share 43 = .ok (.ldiv, 1) := by decide +kernel
theorem dX5_share_44 : decode cX5_share 44 = .ok (.lreturn, 1) := by decide +kernel
theorem dX5_refused_0 : decode cX5_refused 0 = .ok (.aload_n 0, 1) := by decide +kernel
theorem dX5_refused_1 : decode cX5_refused 1 = .ok (.iconst 0, 1) := by decide +kernel
theorem dX5_refused_2 : decode cX5_refused 2 = .ok (.putfield 63, 3) := by decide +kernel
theorem dX5_refused_5 : decode cX5_refused 5 = .ok (.iload_n 1, 1) := by decide +kernel
theorem dX5_refused_6 : decode cX5_refused 6 = .ok (.ireturn, 1) := by decide +kernel
theorem dX5_failed_0 : decode cX5_failed 0 = .ok (.aload_n 0, 1) := by decide +kernel
theorem dX5_failed_1 : decode cX5_failed 1 = .ok (.iload_n 1, 1) := by decide +kernel
theorem dX5_failed_2 : decode cX5_failed 2 = .ok (.putfield 63, 3) := by decide +kernel
theorem dX5_failed_5 : decode cX5_failed 5 = .ok (.bipush (-10), 2) := by decide +kernel
theorem dX5_failed_7 : decode cX5_failed 7 = .ok (.iload_n 1, 1) := by decide +kernel
theorem dX5_failed_8 : decode cX5_failed 8 = .ok (.isub, 1) := by decide +kernel
theorem dX5_failed_9 : decode cX5_failed 9 = .ok (.ireturn, 1) := by decide +kernel
theorem dX5_failedLong_0 : decode cX5_failedLong 0 = .ok (.aload_n 0, 1) := by decide +kernel
theorem dX5_failedLong_1 : decode cX5_failedLong 1 = .ok (.iload_n 1, 1) := by decide +kernel
theorem dX5_failedLong_2 : decode cX5_failedLong 2 = .ok (.putfield 63, 3) := by decide +kernel
theorem dX5_failedLong_5 : decode cX5_failedLong 5 = .ok (.invokestatic 67, 3) := by decide +kernel
theorem dX5_failedLong_8 : decode cX5_failedLong 8 = .ok (.lreturn, 1) := by decide +kernel
theorem dX5_noPlace_0 : decode cX5_noPlace 0 = .ok (.iload_n 1, 1) := by decide +kernel
theorem dX5_noPlace_1 : decode cX5_noPlace 1 = .ok (.i2l, 1) := by decide +kernel
theorem dX5_noPlace_2 : decode cX5_noPlace 2 = .ok (.lconst 0, 1) := by decide +kernel
theorem dX5_noPlace_3 : decode cX5_noPlace 3 = .ok (.aload_n 0, 1) := by decide +kernel
theorem dX5_noPlace_4 : decode cX5_noPlace 4 = .ok (.getfield 71, 3) := by decide +kernel
theorem dX5_noPlace_7 : decode cX5_noPlace 7 = .ok (.i2l, 1) := by decide +kernel
theorem dX5_noPlace_8 : decode cX5_noPlace 8 = .ok (.lconst 1, 1) := by decide +kernel
theorem dX5_noPlace_9 : decode cX5_noPlace 9 = .ok (.lsub, 1) := by decide +kernel
theorem dX5_noPlace_10 : decode cX5_noPlace 10 = .ok (.invokestatic 74, 3) := by decide +kernel
theorem dX5_noPlace_13 : decode cX5_noPlace 13 = .ok (.ifCond .ne 7, 3) := by decide +kernel
theorem dX5_noPlace_16 : decode cX5_noPlace 16 = .ok (.iconst 1, 1) := by decide +kernel
theorem dX5_noPlace_17 : decode cX5_noPlace 17 = .ok (.goto 4, 3) := by decide +kernel
theorem dX5_noPlace_20 : decode cX5_noPlace 20 = .ok (.iconst 0, 1) := by decide +kernel
theorem dX5_noPlace_21 : decode cX5_noPlace 21 = .ok (.ireturn, 1) := by decide +kernel
theorem dX5_noSleeper_0 : decode cX5_noSleeper 0 = .ok (.iload_n 1, 1) := by decide +kernel
theorem dX5_noSleeper_1 : decode cX5_noSleeper 1 = .ok (.i2l, 1) := by decide +kernel
theorem dX5_noSleeper_2 : decode cX5_noSleeper 2 = .ok (.lconst 0, 1) := by decide +kernel
theorem dX5_noSleeper_3 : decode cX5_noSleeper 3 = .ok (.aload_n 0, 1) := by decide +kernel
theorem dX5_noSleeper_4 : decode cX5_noSleeper 4 = .ok (.getfield 78, 3) := by decide +kernel
theorem dX5_noSleeper_7 : decode cX5_noSleeper 7 = .ok (.i2l, 1) := by decide +kernel
theorem dX5_noSleeper_8 : decode cX5_noSleeper 8 = .ok (.lconst 1, 1) := by decide +kernel
theorem dX5_noSleeper_9 : decode cX5_noSleeper 9 = .ok (.lsub, 1) := by decide +kernel
theorem dX5_noSleeper_10 : decode cX5_noSleeper 10 = .ok (.invokestatic 74, 3) := by decide +kernel
theorem dX5_noSleeper_13 : decode cX5_noSleeper 13 = .ok (.ifCond .ne 7, 3) := by decide +kernel
theorem dX5_noSleeper_16 : decode cX5_noSleeper 16 = .ok (.iconst 1, 1) := by decide +kernel
theorem dX5_noSleeper_17 : decode cX5_noSleeper 17 = .ok (.goto 4, 3) := by decide +kernel
theorem dX5_noSleeper_20 : decode cX5_noSleeper 20 = .ok (.iconst 0, 1) := by decide +kernel
theorem dX5_noSleeper_21 : decode cX5_noSleeper 21 = .ok (.ireturn, 1) := by decide +kernel
theorem dX5_noMinute_0 : decode cX5_noMinute 0 = .ok (.iload_n 0, 1) := by decide +kernel
theorem dX5_noMinute_1 : decode cX5_noMinute 1 = .ok (.i2l, 1) := by decide +kernel
theorem dX5_noMinute_2 : decode cX5_noMinute 2 = .ok (.lconst 0, 1) := by decide +kernel
theorem dX5_noMinute_3 : decode cX5_noMinute 3 = .ok (.ldc2_w 81, 3) := by decide +kernel
theorem dX5_noMinute_6 : decode cX5_noMinute 6 = .ok (.invokestatic 74, 3) := by decide +kernel
theorem dX5_noMinute_9 : decode cX5_noMinute 9 = .ok (.ifCond .ne 7, 3) := by decide +kernel
theorem dX5_noMinute_12 : decode cX5_noMinute 12 = .ok (.iconst 1, 1) := by decide +kernel
theorem dX5_noMinute_13 : decode cX5_noMinute 13 = .ok (.goto 4, 3) := by decide +kernel
theorem dX5_noMinute_16 : decode cX5_noMinute 16 = .ok (.iconst 0, 1) := by decide +kernel
theorem dX5_noMinute_17 : decode cX5_noMinute 17 = .ok (.ireturn, 1) := by decide +kernel
theorem dX5_codeAt_0 : decode cX5_codeAt 0 = .ok (.aload_n 0, 1) := by decide +kernel
theorem dX5_codeAt_1 : decode cX5_codeAt 1 = .ok (.getfield 83, 3) := by decide +kernel
theorem dX5_codeAt_4 : decode cX5_codeAt 4 = .ok (.iload_n 2, 1) := by decide +kernel
theorem dX5_codeAt_5 : decode cX5_codeAt 5 = .ok (.if_icmp .ge 17, 3) := by decide +kernel
theorem dX5_codeAt_8 : decode cX5_codeAt 8 = .ok (.aload_n 0, 1) := by decide +kernel
theorem dX5_codeAt_9 : decode cX5_codeAt 9 = .ok (.getfield 55, 3) := by decide +kernel
theorem dX5_codeAt_12 : decode cX5_codeAt 12 = .ok (.iload_n 1, 1) := by decide +kernel
theorem dX5_codeAt_13 : decode cX5_codeAt 13 = .ok (.aload_n 0, 1) := by decide +kernel
theorem dX5_codeAt_14 : decode cX5_codeAt 14 = .ok (.getfield 83, 3) := by decide +kernel
theorem dX5_codeAt_17 : decode cX5_codeAt 17 = .ok (.iadd, 1) := by decide +kernel
theorem dX5_codeAt_18 : decode cX5_codeAt 18 = .ok (.iaload, 1) := by decide +kernel
theorem dX5_codeAt_19 : decode cX5_codeAt 19 = .ok (.goto 5, 3) := by decide +kernel
theorem dX5_codeAt_22 : decode cX5_codeAt 22 = .ok (.bipush (-9), 2) := by decide +kernel
theorem dX5_codeAt_24 : decode cX5_codeAt 24 = .ok (.ireturn, 1) := by decide +kernel
theorem dX5_figure_0 : decode cX5_figure 0 = .ok (.aload_n 0, 1) := by decide +kernel
theorem dX5_figure_1 : decode cX5_figure 1 = .ok (.iload_n 1, 1) := by decide +kernel
theorem dX5_figure_2 : decode cX5_figure 2 = .ok (.iload_n 2, 1) := by decide +kernel
theorem dX5_figure_3 : decode cX5_figure 3 = .ok (.invokevirtual 86, 3) := by decide +kernel
theorem dX5_figure_6 : decode cX5_figure 6 = .ok (.bipush 48, 2) := by decide +kernel
theorem dX5_figure_8 : decode cX5_figure 8 = .ok (.isub, 1) := by decide +kernel
theorem dX5_figure_9 : decode cX5_figure 9 = .ok (.istore 5, 2) := by decide +kernel
theorem dX5_figure_11 : decode cX5_figure 11 = .ok (.iload 5, 2) := by decide +kernel
theorem dX5_figure_13 : decode cX5_figure 13 = .ok (.i2l, 1) := by decide +kernel
theorem dX5_figure_14 : decode cX5_figure 14 = .ok (.iload_n 3, 1) := by decide +kernel
theorem dX5_figure_15 : decode cX5_figure 15 = .ok (.i2l, 1) := by decide +kernel
theorem dX5_figure_16 : decode cX5_figure 16 = .ok (.iload 4, 2) := by decide +kernel
theorem dX5_figure_18 : decode cX5_figure 18 = .ok (.i2l, 1) := by decide +kernel
theorem dX5_figure_19 : decode cX5_figure 19 = .ok (.invokestatic 74, 3) := by decide +kernel
theorem dX5_figure_22 : decode cX5_figure 22 = .ok (.istore 6, 2) := by decide +kernel
theorem dX5_figure_24 : decode cX5_figure 24 = .ok (.aload_n 0, 1) := by decide +kernel
theorem dX5_figure_25 : decode cX5_figure 25 = .ok (.dup, 1) := by decide +kernel
theorem dX5_figure_26 : decode cX5_figure 26 = .ok (.getfield 83, 3) := by decide +kernel
theorem dX5_figure_29 : decode cX5_figure 29 = .ok (.iload 6, 2) := by decide +kernel
theorem dX5_figure_31 : decode cX5_figure 31 = .ok (.ifCond .eq 7, 3) := by decide +kernel
theorem dX5_figure_34 : decode cX5_figure 34 = .ok (.iconst 1, 1) := by decide +kernel
theorem dX5_figure_35 : decode cX5_figure 35 = .ok (.goto 4, 3) := by decide +kernel
theorem dX5_figure_38 : decode cX5_figure 38 = .ok (.iconst 0, 1) := by decide +kernel
theorem dX5_figure_39 : decode cX5_figure 39 = .ok (.iadd, 1) := by decide +kernel
theorem dX5_figure_40 : decode cX5_figure 40 = .ok (.putfield 83, 3) := by decide +kernel
theorem dX5_figure_43 : decode cX5_figure 43 = .ok (.iload 6, 2) := by decide +kernel
theorem dX5_figure_45 : decode cX5_figure 45 = .ok (.ifCond .eq 8, 3) := by decide +kernel
theorem dX5_figure_48 : decode cX5_figure 48 = .ok (.iload 5, 2) := by decide +kernel
theorem dX5_figure_50 : decode cX5_figure 50 = .ok (.goto 5, 3) := by decide +kernel
theorem dX5_figure_53 : decode cX5_figure 53 = .ok (.bipush (-9), 2) := by decide +kernel
theorem dX5_figure_55 : decode cX5_figure 55 = .ok (.ireturn, 1) := by decide +kernel
theorem dX5_readsSleeper_0 : decode cX5_readsSleeper 0 = .ok (.aload_n 0, 1) := by decide +kernel
theorem dX5_readsSleeper_1 : decode cX5_readsSleeper 1 = .ok (.getfield 90, 3) := by decide +kernel
theorem dX5_readsSleeper_4 : decode cX5_readsSleeper 4 = .ok (.iconst 4, 1) := by decide +kernel
theorem dX5_readsSleeper_5 : decode cX5_readsSleeper 5 = .ok (.if_icmp .eq 14, 3) := by decide +kernel
theorem dX5_readsSleeper_8 : decode cX5_readsSleeper 8 = .ok (.aload_n 0, 1) := by decide +kernel
theorem dX5_readsSleeper_9 : decode cX5_readsSleeper 9 = .ok (.iload_n 1, 1) := by decide +kernel
theorem dX5_readsSleeper_10 : decode cX5_readsSleeper 10 = .ok (.iload_n 2, 1) := by decide +kernel
theorem dX5_readsSleeper_11 : decode cX5_readsSleeper 11 = .ok (.invokevirtual 86, 3) := by decide +kernel
theorem dX5_readsSleeper_14 : decode cX5_readsSleeper 14 = .ok (.bipush 59, 2) := by decide +kernel
theorem dX5_readsSleeper_16 : decode cX5_readsSleeper 16 = .ok (.if_icmp .eq 5, 3) := by decide +kernel
theorem dX5_readsSleeper_19 : decode cX5_readsSleeper 19 = .ok (.iconst 0, 1) := by decide +kernel
theorem dX5_readsSleeper_20 : decode cX5_readsSleeper 20 = .ok (.ireturn, 1) := by decide +kernel
theorem dX5_readsSleeper_21 : decode cX5_readsSleeper 21 = .ok (.aload_n 0, 1) := by decide +kernel
theorem dX5_readsSleeper_22 : decode cX5_readsSleeper 22 = .ok (.dup, 1) := by decide +kernel
theorem dX5_readsSleeper_23 : decode cX5_readsSleeper 23 = .ok (.getfield 83, 3) := by decide +kernel
theorem dX5_readsSleeper_26 : decode cX5_readsSleeper 26 = .ok (.iconst 1, 1) := by decide +kernel
theorem dX5_readsSleeper_27 : decode cX5_readsSleeper 27 = .ok (.iadd, 1) := by decide +kernel
theorem dX5_readsSleeper_28 : decode cX5_readsSleeper 28 = .ok (.putfield 83, 3) := by decide +kernel
theorem dX5_readsSleeper_31 : decode cX5_readsSleeper 31 = .ok (.aload_n 0, 1) := by decide +kernel
theorem dX5_readsSleeper_32 : decode cX5_readsSleeper 32 = .ok (.iload_n 1, 1) := by decide +kernel
theorem dX5_readsSleeper_33 : decode cX5_readsSleeper 33 = .ok (.iload_n 2, 1) := by decide +kernel
theorem dX5_readsSleeper_34 : decode cX5_readsSleeper 34 = .ok (.invokevirtual 86, 3) := by decide +kernel
theorem dX5_readsSleeper_37 : decode cX5_readsSleeper 37 = .ok (.istore_n 3, 1) := by decide +kernel
theorem dX5_readsSleeper_38 : decode cX5_readsSleeper 38 = .ok (.iload_n 3, 1) := by decide +kernel
theorem dX5_readsSleeper_39 : decode cX5_readsSleeper 39 = .ok (.bipush 115, 2) := by decide +kernel
theorem dX5_readsSleeper_41 : decode cX5_readsSleeper 41 = .ok (.if_icmp .eq 17, 3) := by decide +kernel
theorem dX5_readsSleeper_44 : decode cX5_readsSleeper 44 = .ok (.iload_n 3, 1) := by decide +kernel
theorem dX5_readsSleeper_45 : decode cX5_readsSleeper 45 = .ok (.bipush 109, 2) := by decide +kernel
theorem dX5_readsSleeper_47 : decode cX5_readsSleeper 47 = .ok (.if_icmp .eq 11, 3) := by decide +kernel
theorem dX5_readsSleeper_50 : decode cX5_readsSleeper 50 = .ok (.iload_n 3, 1) := by decide +kernel
theorem dX5_readsSleeper_51 : decode cX5_readsSleeper 51 = .ok (.bipush 114, 2) := by decide +kernel
theorem dX5_readsSleeper_53 : decode cX5_readsSleeper 53 = .ok (.if_icmp .eq 5, 3) := by decide +kernel
theorem dX5_readsSleeper_56 : decode cX5_readsSleeper 56 = .ok (.iconst 0, 1) := by decide +kernel
theorem dX5_readsSleeper_57 : decode cX5_readsSleeper 57 = .ok (.ireturn, 1) := by decide +kernel
theorem dX5_readsSleeper_58 : decode cX5_readsSleeper 58 = .ok (.aload_n 0, 1) := by decide +kernel
theorem dX5_readsSleeper_59 : decode cX5_readsSleeper 59 = .ok (.dup, 1) := by decide +kernel
theorem dX5_readsSleeper_60 : decode cX5_readsSleeper 60 = .ok (.getfield 83, 3) := by decide +kernel
theorem dX5_readsSleeper_63 : decode cX5_readsSleeper 63 = .ok (.iconst 1, 1) := by decide +kernel
theorem dX5_readsSleeper_64 : decode cX5_readsSleeper 64 = .ok (.iadd, 1) := by decide +kernel
theorem dX5_readsSleeper_65 : decode cX5_readsSleeper 65 = .ok (.putfield 83, 3) := by decide +kernel
theorem dX5_readsSleeper_68 : decode cX5_readsSleeper 68 = .ok (.aload_n 0, 1) := by decide +kernel
theorem dX5_readsSleeper_69 : decode cX5_readsSleeper 69 = .ok (.iload_n 1, 1) := by decide +kernel
theorem dX5_readsSleeper_70 : decode cX5_readsSleeper 70 = .ok (.iload_n 2, 1) := by decide +kernel
theorem dX5_readsSleeper_71 : decode cX5_readsSleeper 71 = .ok (.iconst 0, 1) := by decide +kernel
theorem dX5_readsSleeper_72 : decode cX5_readsSleeper 72 = .ok (.aload_n 0, 1) := by decide +kernel
theorem dX5_readsSleeper_73 : decode cX5_readsSleeper 73 = .ok (.getfield 93, 3) := by decide +kernel
theorem dX5_readsSleeper_76 : decode cX5_readsSleeper 76 = .ok (.iconst 1, 1) := by decide +kernel
theorem dX5_readsSleeper_77 : decode cX5_readsSleeper 77 = .ok (.isub, 1) := by decide +kernel
theorem dX5_readsSleeper_78 : decode cX5_readsSleeper 78 = .ok (.invokevirtual 96, 3) := by decide +kernel
theorem dX5_readsSleeper_81 : decode cX5_readsSleeper 81 = .ok (.istore 4, 2) := by decide +kernel
theorem dX5_readsSleeper_83 : decode cX5_readsSleeper 83 = .ok (.iload 4, 2) := by decide +kernel
theorem dX5_readsSleeper_85 : decode cX5_readsSleeper 85 = .ok (.ifCond .ge 8, 3) := by decide +kernel
theorem dX5_readsSleeper_88 : decode cX5_readsSleeper 88 = .ok (.bipush (-9), 2) := by decide +kernel
theorem dX5_readsSleeper_90 : decode cX5_readsSleeper 90 = .ok (.goto 11, 3) := by decide +kernel
theorem dX5_readsSleeper_93 : decode cX5_readsSleeper 93 = .ok (.aload_n 0, 1) := by decide +kernel
theorem dX5_readsSleeper_94 : decode cX5_readsSleeper 94 = .ok (.iload_n 1, 1) := by decide +kernel
theorem dX5_readsSleeper_95 : decode cX5_readsSleeper 95 = .ok (.iload_n 2, 1) := by decide +kernel
theorem dX5_readsSleeper_96 : decode cX5_readsSleeper 96 = .ok (.iconst 0, 1) := by decide +kernel
theorem dX5_readsSleeper_97 : decode cX5_readsSleeper 97 = .ok (.iconst 3, 1) := by decide +kernel
theorem dX5_readsSleeper_98 : decode cX5_readsSleeper 98 = .ok (.invokevirtual 96, 3) := by decide +kernel
theorem dX5_readsSleeper_101 : decode cX5_readsSleeper 101 = .ok (.istore 5, 2) := by decide +kernel
theorem dX5_readsSleeper_103 : decode cX5_readsSleeper 103 = .ok (.iload 5, 2) := by decide +kernel
theorem dX5_readsSleeper_105 : decode cX5_readsSleeper 105 = .ok (.ifCond .ge 5, 3) := by decide +kernel
theorem dX5_readsSleeper_108 : decode cX5_readsSleeper 108 = .ok (.iconst 0, 1) := by decide +kernel
theorem dX5_readsSleeper_109 : decode cX5_readsSleeper 109 = .ok (.ireturn, 1) := by decide +kernel
theorem dX5_readsSleeper_110 : decode cX5_readsSleeper 110 = .ok (.aload_n 0, 1) := by decide +kernel
theorem dX5_readsSleeper_111 : decode cX5_readsSleeper 111 = .ok (.getfield 25, 3) := by decide +kernel
theorem dX5_readsSleeper_114 : decode cX5_readsSleeper 114 = .ok (.aload_n 0, 1) := by decide +kernel
theorem dX5_readsSleeper_115 : decode cX5_readsSleeper 115 = .ok (.getfield 90, 3) := by decide +kernel
theorem dX5_readsSleeper_118 : decode cX5_readsSleeper 118 = .ok (.iload_n 3, 1) := by decide +kernel
theorem dX5_readsSleeper_119 : decode cX5_readsSleeper 119 = .ok (.bipush 115, 2) := by decide +kernel
theorem dX5_readsSleeper_121 : decode cX5_readsSleeper 121 = .ok (.if_icmp .ne 7, 3) := by decide +kernel
theorem dX5_readsSleeper_124 : decode cX5_readsSleeper 124 = .ok (.iconst 0, 1) := by decide +kernel
theorem dX5_readsSleeper_125 : decode cX5_readsSleeper 125 = .ok (.goto 14, 3) := by decide +kernel
theorem dX5_readsSleeper_128 : decode cX5_readsSleeper 128 = .ok (.iload_n 3, 1) := by decide +kernel
theorem dX5_readsSleeper_129 : decode cX5_readsSleeper 129 = .ok (.bipush 109, 2) := by decide +kernel
theorem dX5_readsSleeper_131 : decode cX5_readsSleeper 131 = .ok (.if_icmp .ne 7, 3) := by decide +kernel
theorem dX5_readsSleeper_134 : decode cX5_readsSleeper 134 = .ok (.iconst 1, 1) := by decide +kernel
theorem dX5_readsSleeper_135 : decode cX5_readsSleeper 135 = .ok (.goto 4, 3) := by decide +kernel
theorem dX5_readsSleeper_138 : decode cX5_readsSleeper 138 = .ok (.iconst 2, 1) := by decide +kernel
theorem dX5_readsSleeper_139 : decode cX5_readsSleeper 139 = .ok (.iastore, 1) := by decide +kernel
theorem dX5_readsSleeper_140 : decode cX5_readsSleeper 140 = .ok (.aload_n 0, 1) := by decide +kernel
theorem dX5_readsSleeper_141 : decode cX5_readsSleeper 141 = .ok (.getfield 28, 3) := by decide +kernel
theorem dX5_readsSleeper_144 : decode cX5_readsSleeper 144 = .ok (.aload_n 0, 1) := by decide +kernel
theorem dX5_readsSleeper_145 : decode cX5_readsSleeper 145 = .ok (.getfield 90, 3) := by decide +kernel
theorem dX5_readsSleeper_148 : decode cX5_readsSleeper 148 = .ok (.iload 4, 2) := by decide +kernel
theorem dX5_readsSleeper_150 : decode cX5_readsSleeper 150 = .ok (.iastore, 1) := by decide +kernel
theorem dX5_readsSleeper_151 : decode cX5_readsSleeper 151 = .ok (.aload_n 0, 1) := by decide +kernel
theorem dX5_readsSleeper_152 : decode cX5_readsSleeper 152 = .ok (.getfield 31, 3) := by decide +kernel
theorem dX5_readsSleeper_155 : decode cX5_readsSleeper 155 = .ok (.aload_n 0, 1) := by decide +kernel
theorem dX5_readsSleeper_156 : decode cX5_readsSleeper 156 = .ok (.getfield 90, 3) := by decide +kernel
theorem dX5_readsSleeper_159 : decode cX5_readsSleeper 159 = .ok (.iload 5, 2) := by decide +kernel
theorem dX5_readsSleeper_161 : decode cX5_readsSleeper 161 = .ok (.iastore, 1) := by decide +kernel
theorem dX5_readsSleeper_162 : decode cX5_readsSleeper 162 = .ok (.aload_n 0, 1) := by decide +kernel
theorem dX5_readsSleeper_163 : decode cX5_readsSleeper 163 = .ok (.dup, 1) := by decide +kernel
theorem dX5_readsSleeper_164 : decode cX5_readsSleeper 164 = .ok (.getfield 90, 3) := by decide +kernel
theorem dX5_readsSleeper_167 : decode cX5_readsSleeper 167 = .ok (.iconst 1, 1) := by decide +kernel
theorem dX5_readsSleeper_168 : decode cX5_readsSleeper 168 = .ok (.iadd, 1) := by decide +kernel
theorem dX5_readsSleeper_169 : decode cX5_readsSleeper 169 = .ok (.putfield 90, 3) := by decide +kernel
theorem dX5_readsSleeper_172 : decode cX5_readsSleeper 172 = .ok (.iconst 1, 1) := by decide +kernel
theorem dX5_readsSleeper_173 : decode cX5_readsSleeper 173 = .ok (.ireturn, 1) := by decide +kernel
theorem dX5_readsTown_0 : decode cX5_readsTown 0 = .ok (.aload_n 0, 1) := by decide +kernel
theorem dX5_readsTown_1 : decode cX5_readsTown 1 = .ok (.iconst 0, 1) := by decide +kernel
theorem dX5_readsTown_2 : decode cX5_readsTown 2 = .ok (.putfield 83, 3) := by decide +kernel
theorem dX5_readsTown_5 : decode cX5_readsTown 5 = .ok (.aload_n 0, 1) := by decide +kernel
theorem dX5_readsTown_6 : decode cX5_readsTown 6 = .ok (.iconst 0, 1) := by decide +kernel
theorem dX5_readsTown_7 : decode cX5_readsTown 7 = .ok (.putfield 90, 3) := by decide +kernel
theorem dX5_readsTown_10 : decode cX5_readsTown 10 = .ok (.aload_n 0, 1) := by decide +kernel
theorem dX5_readsTown_11 : decode cX5_readsTown 11 = .ok (.iload_n 1, 1) := by decide +kernel
theorem dX5_readsTown_12 : decode cX5_readsTown 12 = .ok (.iload_n 2, 1) := by decide +kernel
theorem dX5_readsTown_13 : decode cX5_readsTown 13 = .ok (.invokevirtual 86, 3) := by decide +kernel
theorem dX5_readsTown_16 : decode cX5_readsTown 16 = .ok (.bipush 122, 2) := by decide +kernel
theorem dX5_readsTown_18 : decode cX5_readsTown 18 = .ok (.if_icmp .ne 7, 3) := by decide +kernel
theorem dX5_readsTown_21 : decode cX5_readsTown 21 = .ok (.iconst 1, 1) := by decide +kernel
theorem dX5_readsTown_22 : decode cX5_readsTown 22 = .ok (.goto 4, 3) := by decide +kernel
theorem dX5_readsTown_25 : decode cX5_readsTown 25 = .ok (.iconst 0, 1) := by decide +kernel
theorem dX5_readsTown_26 : decode cX5_readsTown 26 = .ok (.istore_n 3, 1) := by decide +kernel
theorem dX5_readsTown_27 : decode cX5_readsTown 27 = .ok (.aload_n 0, 1) := by decide +kernel
theorem dX5_readsTown_28 : decode cX5_readsTown 28 = .ok (.dup, 1) := by decide +kernel
theorem dX5_readsTown_29 : decode cX5_readsTown 29 = .ok (.getfield 83, 3) := by decide +kernel
theorem dX5_readsTown_32 : decode cX5_readsTown 32 = .ok (.iload_n 3, 1) := by decide +kernel
theorem dX5_readsTown_33 : decode cX5_readsTown 33 = .ok (.ifCond .eq 7, 3) := by decide +kernel
theorem dX5_readsTown_36 : decode cX5_readsTown 36 = .ok (.iconst 1, 1) := by decide +kernel
theorem dX5_readsTown_37 : decode cX5_readsTown 37 = .ok (.goto 4, 3) := by decide +kernel
theorem dX5_readsTown_40 : decode cX5_readsTown 40 = .ok (.iconst 0, 1) := by decide +kernel
theorem dX5_readsTown_41 : decode cX5_readsTown 41 = .ok (.iadd, 1) := by decide +kernel
theorem dX5_readsTown_42 : decode cX5_readsTown 42 = .ok (.putfield 83, 3) := by decide +kernel
theorem dX5_readsTown_45 : decode cX5_readsTown 45 = .ok (.aload_n 0, 1) := by decide +kernel
theorem dX5_readsTown_46 : decode cX5_readsTown 46 = .ok (.iload_n 3, 1) := by decide +kernel
theorem dX5_readsTown_47 : decode cX5_readsTown 47 = .ok (.ifCond .eq 15, 3) := by decide +kernel
theorem dX5_readsTown_50 : decode cX5_readsTown 50 = .ok (.aload_n 0, 1) := by decide +kernel
theorem dX5_readsTown_51 : decode cX5_readsTown 51 = .ok (.iload_n 1, 1) := by decide +kernel
theorem dX5_readsTown_52 : decode cX5_readsTown 52 = .ok (.iload_n 2, 1) := by decide +kernel
theorem dX5_readsTown_53 : decode cX5_readsTown 53 = .ok (.iconst 3, 1) := by decide +kernel
theorem dX5_readsTown_54 : decode cX5_readsTown 54 = .ok (.bipush 9, 2) := by decide +kernel
theorem dX5_readsTown_56 : decode cX5_readsTown 56 = .ok (.invokevirtual 96, 3) := by decide +kernel
theorem dX5_readsTown_59 : decode cX5_readsTown 59 = .ok (.goto 5, 3) := by decide +kernel
theorem dX5_readsTown_62 : decode cX5_readsTown 62 = .ok (.bipush (-9), 2) := by decide +kernel
theorem dX5_readsTown_64 : decode cX5_readsTown 64 = .ok (.putfield 93, 3) := by decide +kernel
theorem dX5_readsTown_67 : decode cX5_readsTown 67 = .ok (.aload_n 0, 1) := by decide +kernel
theorem dX5_readsTown_68 : decode cX5_readsTown 68 = .ok (.getfield 93, 3) := by decide +kernel
theorem dX5_readsTown_71 : decode cX5_readsTown 71 = .ok (.ifCond .le 7, 3) := by decide +kernel
theorem dX5_readsTown_74 : decode cX5_readsTown 74 = .ok (.iconst 1, 1) := by decide +kernel
theorem dX5_readsTown_75 : decode cX5_readsTown 75 = .ok (.goto 4, 3) := by decide +kernel
theorem dX5_readsTown_78 : decode cX5_readsTown 78 = .ok (.iconst 0, 1) := by decide +kernel
theorem dX5_readsTown_79 : decode cX5_readsTown 79 = .ok (.istore_n 3, 1) := by decide +kernel
theorem dX5_readsTown_80 : decode cX5_readsTown 80 = .ok (.iload_n 3, 1) := by decide +kernel
theorem dX5_readsTown_81 : decode cX5_readsTown 81 = .ok (.ifCond .eq 31, 3) := by decide +kernel
theorem dX5_readsTown_84 : decode cX5_readsTown 84 = .ok (.aload_n 0, 1) := by decide +kernel
theorem dX5_readsTown_85 : decode cX5_readsTown 85 = .ok (.getfield 90, 3) := by decide +kernel
theorem dX5_readsTown_88 : decode cX5_readsTown 88 = .ok (.ifCond .eq 14, 3) := by decide +kernel
theorem dX5_readsTown_91 : decode cX5_readsTown 91 = .ok (.aload_n 0, 1) := by decide +kernel
theorem dX5_readsTown_92 : decode cX5_readsTown 92 = .ok (.iload_n 1, 1) := by decide +kernel
theorem dX5_readsTown_93 : decode cX5_readsTown 93 = .ok (.iload_n 2, 1) := by decide +kernel
theorem dX5_readsTown_94 : decode cX5_readsTown 94 = .ok (.invokevirtual 86, 3) := by decide +kernel
theorem dX5_readsTown_97 : decode cX5_readsTown 97 = .ok (.bipush 59, 2) := by decide +kernel
theorem dX5_readsTown_99 : decode cX5_readsTown 99 = .ok (.if_icmp .ne 13, 3) := by decide +kernel
theorem dX5_readsTown_102 : decode cX5_readsTown 102 = .ok (.aload_n 0, 1) := by decide +kernel
theorem dX5_readsTown_103 : decode cX5_readsTown 103 = .ok (.iload_n 1, 1) := by decide +kernel
theorem dX5_readsTown_104 : decode cX5_readsTown 104 = .ok (.iload_n 2, 1) := by decide +kernel
theorem dX5_readsTown_105 : decode cX5_readsTown 105 = .ok (.invokevirtual 100, 3) := by decide +kernel
theorem dX5_readsTown_108 : decode cX5_readsTown 108 = .ok (.istore_n 3, 1) := by decide +kernel
theorem dX5_readsTown_109 : decode cX5_readsTown 109 = .ok (.goto (-29), 3) := by decide +kernel
theorem dX5_readsTown_112 : decode cX5_readsTown 112 = .ok (.iload_n 3, 1) := by decide +kernel
theorem dX5_readsTown_113 : decode cX5_readsTown 113 = .ok (.ifCond .eq 18, 3) := by decide +kernel
theorem dX5_readsTown_116 : decode cX5_readsTown 116 = .ok (.aload_n 0, 1) := by decide +kernel
theorem dX5_readsTown_117 : decode cX5_readsTown 117 = .ok (.iload_n 1, 1) := by decide +kernel
theorem dX5_readsTown_118 : decode cX5_readsTown 118 = .ok (.iload_n 2, 1) := by decide +kernel
theorem dX5_readsTown_119 : decode cX5_readsTown 119 = .ok (.invokevirtual 86, 3) := by decide +kernel
theorem dX5_readsTown_122 : decode cX5_readsTown 122 = .ok (.bipush 47, 2) := by decide +kernel
theorem dX5_readsTown_124 : decode cX5_readsTown 124 = .ok (.if_icmp .ne 7, 3) := by decide +kernel
theorem dX5_readsTown_127 : decode cX5_readsTown 127 = .ok (.iconst 1, 1) := by decide +kernel
theorem dX5_readsTown_128 : decode cX5_readsTown 128 = .ok (.goto 4, 3) := by decide +kernel
theorem dX5_readsTown_131 : decode cX5_readsTown 131 = .ok (.iconst 0, 1) := by decide +kernel
theorem dX5_readsTown_132 : decode cX5_readsTown 132 = .ok (.istore_n 3, 1) := by decide +kernel
theorem dX5_readsTown_133 : decode cX5_readsTown 133 = .ok (.aload_n 0, 1) := by decide +kernel
theorem dX5_readsTown_134 : decode cX5_readsTown 134 = .ok (.dup, 1) := by decide +kernel
theorem dX5_readsTown_135 : decode cX5_readsTown 135 = .ok (.getfield 83, 3) := by decide +kernel
theorem dX5_readsTown_138 : decode cX5_readsTown 138 = .ok (.iload_n 3, 1) := by decide +kernel
theorem dX5_readsTown_139 : decode cX5_readsTown 139 = .ok (.ifCond .eq 7, 3) := by decide +kernel
theorem dX5_readsTown_142 : decode cX5_readsTown 142 = .ok (.iconst 1, 1) := by decide +kernel
theorem dX5_readsTown_143 : decode cX5_readsTown 143 = .ok (.goto 4, 3) := by decide +kernel
theorem dX5_readsTown_146 : decode cX5_readsTown 146 = .ok (.iconst 0, 1) := by decide +kernel
theorem dX5_readsTown_147 : decode cX5_readsTown 147 = .ok (.iadd, 1) := by decide +kernel
theorem dX5_readsTown_148 : decode cX5_readsTown 148 = .ok (.putfield 83, 3) := by decide +kernel
theorem dX5_readsTown_151 : decode cX5_readsTown 151 = .ok (.iconst 0, 1) := by decide +kernel
theorem dX5_readsTown_152 : decode cX5_readsTown 152 = .ok (.istore 4, 2) := by decide +kernel
theorem dX5_readsTown_154 : decode cX5_readsTown 154 = .ok (.iload_n 3, 1) := by decide +kernel
theorem dX5_readsTown_155 : decode cX5_readsTown 155 = .ok (.ifCond .eq 50, 3) := by decide +kernel
theorem dX5_readsTown_158 : decode cX5_readsTown 158 = .ok (.iload 4, 2) := by decide +kernel
theorem dX5_readsTown_160 : decode cX5_readsTown 160 = .ok (.aload_n 0, 1) := by decide +kernel
theorem dX5_readsTown_161 : decode cX5_readsTown 161 = .ok (.getfield 93, 3) := by decide +kernel
theorem dX5_readsTown_164 : decode cX5_readsTown 164 = .ok (.if_icmp .ge 41, 3) := by decide +kernel
theorem dX5_readsTown_167 : decode cX5_readsTown 167 = .ok (.aload_n 0, 1) := by decide +kernel
theorem dX5_readsTown_168 : decode cX5_readsTown 168 = .ok (.getfield 22, 3) := by decide +kernel
theorem dX5_readsTown_171 : decode cX5_readsTown 171 = .ok (.iload 4, 2) := by decide +kernel
theorem dX5_readsTown_173 : decode cX5_readsTown 173 = .ok (.aload_n 0, 1) := by decide +kernel
theorem dX5_readsTown_174 : decode cX5_readsTown 174 = .ok (.iload_n 1, 1) := by decide +kernel
theorem dX5_readsTown_175 : decode cX5_readsTown 175 = .ok (.iload_n 2, 1) := by decide +kernel
theorem dX5_readsTown_176 : decode cX5_readsTown 176 = .ok (.iconst 0, 1) := by decide +kernel
theorem dX5_readsTown_177 : decode cX5_readsTown 177 = .ok (.bipush 9, 2) := by decide +kernel
theorem dX5_readsTown_179 : decode cX5_readsTown 179 = .ok (.invokevirtual 96, 3) := by decide +kernel
theorem dX5_readsTown_182 : decode cX5_readsTown 182 = .ok (.iastore, 1) := by decide +kernel
theorem dX5_readsTown_183 : decode cX5_readsTown 183 = .ok (.aload_n 0, 1) := by decide +kernel
theorem dX5_readsTown_184 : decode cX5_readsTown 184 = .ok (.getfield 22, 3) := by decide +kernel
theorem dX5_readsTown_187 : decode cX5_readsTown 187 = .ok (.iload 4, 2) := by decide +kernel
theorem dX5_readsTown_189 : decode cX5_readsTown 189 = .ok (.iaload, 1) := by decide +kernel
theorem dX5_readsTown_190 : decode cX5_readsTown 190 = .ok (.ifCond .lt 7, 3) := by decide +kernel
theorem dX5_readsTown_193 : decode cX5_readsTown 193 = .ok (.iconst 1, 1) := by decide +kernel
theorem dX5_readsTown_194 : decode cX5_readsTown 194 = .ok (.goto 4, 3) := by decide +kernel
theorem dX5_readsTown_197 : decode cX5_readsTown 197 = .ok (.iconst 0, 1) := by decide +kernel
theorem dX5_readsTown_198 : decode cX5_readsTown 198 = .ok (.istore_n 3, 1) := by decide +kernel
theorem dX5_readsTown_199 : decode cX5_readsTown 199 = .ok (.iinc 4 1, 3) := by decide +kernel
theorem dX5_readsTown_202 : decode cX5_readsTown 202 = .ok (.goto (-48), 3) := by decide +kernel
theorem dX5_readsTown_205 : decode cX5_readsTown 205 = .ok (.iload_n 3, 1) := by decide +kernel
theorem dX5_readsTown_206 : decode cX5_readsTown 206 = .ok (.ifCond .eq 15, 3) := by decide +kernel
theorem dX5_readsTown_209 : decode cX5_readsTown 209 = .ok (.aload_n 0, 1) := by decide +kernel
theorem dX5_readsTown_210 : decode cX5_readsTown 210 = .ok (.getfield 83, 3) := by decide +kernel
theorem dX5_readsTown_213 : decode cX5_readsTown 213 = .ok (.iload_n 2, 1) := by decide +kernel
theorem dX5_readsTown_214 : decode cX5_readsTown 214 = .ok (.if_icmp .ne 7, 3) := by decide +kernel
theorem dX5_readsTown_217 : decode cX5_readsTown 217 = .ok (.iconst 1, 1) := by decide +kernel
theorem dX5_readsTown_218 : decode cX5_readsTown 218 = .ok (.goto 4, 3) := by decide +kernel
theorem dX5_readsTown_221 : decode cX5_readsTown 221 = .ok (.iconst 0, 1) := by decide +kernel
theorem dX5_readsTown_222 : decode cX5_readsTown 222 = .ok (.ireturn, 1) := by decide +kernel
theorem dX5_cellsBarred_0 : decode cX5_cellsBarred 0 = .ok (.aload_n 0, 1) := by decide +kernel
theorem dX5_cellsBarred_1 : decode cX5_cellsBarred 1 = .ok (.getfield 49, 3) := by decide +kernel
theorem dX5_cellsBarred_4 : decode cX5_cellsBarred 4 = .ok (.iload_n 1, 1) := by decide +kernel
theorem dX5_cellsBarred_5 : decode cX5_cellsBarred 5 = .ok (.iaload, 1) := by decide +kernel
theorem dX5_cellsBarred_6 : decode cX5_cellsBarred 6 = .ok (.ifCond .lt 19, 3) := by decide +kernel
theorem dX5_cellsBarred_9 : decode cX5_cellsBarred 9 = .ok (.aload_n 0, 1) := by decide +kernel
theorem dX5_cellsBarred_10 : decode cX5_cellsBarred 10 = .ok (.getfield 52, 3) := by decide +kernel
theorem dX5_cellsBarred_13 : decode cX5_cellsBarred 13 = .ok (.iload_n 1, 1) := by decide +kernel
theorem dX5_cellsBarred_14 : decode cX5_cellsBarred 14 = .ok (.iaload, 1) := by decide +kernel
theorem dX5_cellsBarred_15 : decode cX5_cellsBarred 15 = .ok (.iload_n 2, 1) := by decide +kernel
theorem dX5_cellsBarred_16 : decode cX5_cellsBarred 16 = .ok (.if_icmp .eq 9, 3) := by decide +kernel
theorem dX5_cellsBarred_19 : decode cX5_cellsBarred 19 = .ok (.aload_n 0, 1) := by decide +kernel
theorem dX5_cellsBarred_20 : decode cX5_cellsBarred 20 = .ok (.iconst 2, 1) := by decide +kernel
theorem dX5_cellsBarred_21 : decode cX5_cellsBarred 21 = .ok (.invokevirtual 104, 3) := by decide +kernel
theorem dX5_cellsBarred_24 : decode cX5_cellsBarred 24 = .ok (.ireturn, 1) := by decide +kernel
theorem dX5_cellsBarred_25 : decode cX5_cellsBarred 25 = .ok (.aload_n 0, 1) := by decide +kernel
theorem dX5_cellsBarred_26 : decode cX5_cellsBarred 26 = .ok (.getfield 49, 3) := by decide +kernel
theorem dX5_cellsBarred_29 : decode cX5_cellsBarred 29 = .ok (.iload_n 1, 1) := by decide +kernel
theorem dX5_cellsBarred_30 : decode cX5_cellsBarred 30 = .ok (.iaload, 1) := by decide +kernel
theorem dX5_cellsBarred_31 : decode cX5_cellsBarred 31 = .ok (.ifCond .ge 9, 3) := by decide +kernel
theorem dX5_cellsBarred_34 : decode cX5_cellsBarred 34 = .ok (.aload_n 0, 1) := by decide +kernel
theorem dX5_cellsBarred_35 : decode cX5_cellsBarred 35 = .ok (.iconst 1, 1) := by decide +kernel
theorem dX5_cellsBarred_36 : decode cX5_cellsBarred 36 = .ok (.invokevirtual 104, 3) := by decide +kernel
theorem dX5_cellsBarred_39 : decode cX5_cellsBarred 39 = .ok (.ireturn, 1) := by decide +kernel
theorem dX5_cellsBarred_40 : decode cX5_cellsBarred 40 = .ok (.lload 4, 2) := by decide +kernel
theorem dX5_cellsBarred_42 : decode cX5_cellsBarred 42 = .ok (.lconst 0, 1) := by decide +kernel
theorem dX5_cellsBarred_43 : decode cX5_cellsBarred 43 = .ok (.lcmp, 1) := by decide +kernel
theorem dX5_cellsBarred_44 : decode cX5_cellsBarred 44 = .ok (.ifCond .ge 9, 3) := by decide +kernel
theorem dX5_cellsBarred_47 : decode cX5_cellsBarred 47 = .ok (.aload_n 0, 1) := by decide +kernel
theorem dX5_cellsBarred_48 : decode cX5_cellsBarred 48 = .ok (.iconst 4, 1) := by decide +kernel
theorem dX5_cellsBarred_49 : decode cX5_cellsBarred 49 = .ok (.invokevirtual 104, 3) := by decide +kernel
theorem dX5_cellsBarred_52 : decode cX5_cellsBarred 52 = .ok (.ireturn, 1) := by decide +kernel
theorem dX5_cellsBarred_53 : decode cX5_cellsBarred 53 = .ok (.iload_n 3, 1) := by decide +kernel
theorem dX5_cellsBarred_54 : decode cX5_cellsBarred 54 = .ok (.lload 4, 2) := by decide +kernel
theorem dX5_cellsBarred_56 : decode cX5_cellsBarred 56 = .ok (.aload_n 0, 1) := by decide +kernel
theorem dX5_cellsBarred_57 : decode cX5_cellsBarred 57 = .ok (.getfield 49, 3) := by decide +kernel
theorem dX5_cellsBarred_60 : decode cX5_cellsBarred 60 = .ok (.iload_n 1, 1) := by decide +kernel
theorem dX5_cellsBarred_61 : decode cX5_cellsBarred 61 = .ok (.iaload, 1) := by decide +kernel
theorem dX5_cellsBarred_62 : decode cX5_cellsBarred 62 = .ok (.invokestatic 108, 3) := by decide +kernel
theorem dX5_cellsBarred_65 : decode cX5_cellsBarred 65 = .ok (.ifCond .eq 11, 3) := by decide +kernel
theorem dX5_cellsBarred_68 : decode cX5_cellsBarred 68 = .ok (.aload_n 0, 1) := by decide +kernel
theorem dX5_cellsBarred_69 : decode cX5_cellsBarred 69 = .ok (.iconst 3, 1) := by decide +kernel
theorem dX5_cellsBarred_70 : decode cX5_cellsBarred 70 = .ok (.invokevirtual 104, 3) := by decide +kernel
theorem dX5_cellsBarred_73 : decode cX5_cellsBarred 73 = .ok (.goto 4, 3) := by decide +kernel
theorem dX5_cellsBarred_76 : decode cX5_cellsBarred 76 = .ok (.iconst 0, 1) := by decide +kernel
theorem dX5_cellsBarred_77 : decode cX5_cellsBarred 77 = .ok (.ireturn, 1) := by decide +kernel
theorem dX5_town_0 : decode cX5_town 0 = .ok (.iload_n 1, 1) := by decide +kernel
theorem dX5_town_1 : decode cX5_town 1 = .ok (.invokestatic 112, 3) := by decide +kernel
theorem dX5_town_4 : decode cX5_town 4 = .ok (.ifCond .eq 9, 3) := by decide +kernel
theorem dX5_town_7 : decode cX5_town 7 = .ok (.aload_n 0, 1) := by decide +kernel
theorem dX5_town_8 : decode cX5_town 8 = .ok (.iconst (-1), 1) := by decide +kernel
theorem dX5_town_9 : decode cX5_town 9 = .ok (.invokevirtual 116, 3) := by decide +kernel
theorem dX5_town_12 : decode cX5_town 12 = .ok (.ireturn, 1) := by decide +kernel
theorem dX5_town_13 : decode cX5_town 13 = .ok (.iload_n 2, 1) := by decide +kernel
theorem dX5_town_14 : decode cX5_town 14 = .ok (.i2l, 1) := by decide +kernel
theorem dX5_town_15 : decode cX5_town 15 = .ok (.lconst 0, 1) := by decide +kernel
theorem dX5_town_16 : decode cX5_town 16 = .ok (.ldc2_w 119, 3) := by decide +kernel
theorem dX5_town_19 : decode cX5_town 19 = .ok (.invokestatic 74, 3) := by decide +kernel
theorem dX5_town_22 : decode cX5_town 22 = .ok (.ifCond .ne 10, 3) := by decide +kernel
theorem dX5_town_25 : decode cX5_town 25 = .ok (.aload_n 0, 1) := by decide +kernel
theorem dX5_town_26 : decode cX5_town 26 = .ok (.bipush (-2), 2) := by decide +kernel
theorem dX5_town_28 : decode cX5_town 28 = .ok (.invokevirtual 116, 3) := by decide +kernel
theorem dX5_town_31 : decode cX5_town 31 = .ok (.ireturn, 1) := by decide +kernel
theorem dX5_town_32 : decode cX5_town 32 = .ok (.aload_n 0, 1) := by decide +kernel
theorem dX5_town_33 : decode cX5_town 33 = .ok (.iload_n 1, 1) := by decide +kernel
theorem dX5_town_34 : decode cX5_town 34 = .ok (.iload_n 2, 1) := by decide +kernel
theorem dX5_town_35 : decode cX5_town 35 = .ok (.iload_n 3, 1) := by decide +kernel
theorem dX5_town_36 : decode cX5_town 36 = .ok (.iload 4, 2) := by decide +kernel
theorem dX5_town_38 : decode cX5_town 38 = .ok (.i2l, 1) := by decide +kernel
theorem dX5_town_39 : decode cX5_town 39 = .ok (.invokevirtual 121, 3) := by decide +kernel
theorem dX5_town_42 : decode cX5_town 42 = .ok (.istore 5, 2) := by decide +kernel
theorem dX5_town_44 : decode cX5_town 44 = .ok (.iload 5, 2) := by decide +kernel
theorem dX5_town_46 : decode cX5_town 46 = .ok (.ifCond .ge 6, 3) := by decide +kernel
theorem dX5_town_49 : decode cX5_town 49 = .ok (.iload 5, 2) := by decide +kernel
theorem dX5_town_51 : decode cX5_town 51 = .ok (.ireturn, 1) := by decide +kernel
theorem dX5_town_52 : decode cX5_town 52 = .ok (.aload_n 0, 1) := by decide +kernel
theorem dX5_town_53 : decode cX5_town 53 = .ok (.bipush 60, 2) := by decide +kernel
theorem dX5_town_55 : decode cX5_town 55 = .ok (.iload_n 1, 1) := by decide +kernel
theorem dX5_town_56 : decode cX5_town 56 = .ok (.imul, 1) := by decide +kernel
theorem dX5_town_57 : decode cX5_town 57 = .ok (.iload_n 3, 1) := by decide +kernel
theorem dX5_town_58 : decode cX5_town 58 = .ok (.iadd, 1) := by decide +kernel
theorem dX5_town_59 : decode cX5_town 59 = .ok (.iload 4, 2) := by decide +kernel
theorem dX5_town_61 : decode cX5_town 61 = .ok (.invokevirtual 125, 3) := by decide +kernel
theorem dX5_town_64 : decode cX5_town 64 = .ok (.ifCond .ne 15, 3) := by decide +kernel
theorem dX5_town_67 : decode cX5_town 67 = .ok (.aload_n 0, 1) := by decide +kernel
theorem dX5_town_68 : decode cX5_town 68 = .ok (.bipush (-100), 2) := by decide +kernel
theorem dX5_town_70 : decode cX5_town 70 = .ok (.aload_n 0, 1) := by decide +kernel
theorem dX5_town_71 : decode cX5_town 71 = .ok (.getfield 83, 3) := by decide +kernel
theorem dX5_town_74 : decode cX5_town 74 = .ok (.isub, 1) := by decide +kernel
theorem dX5_town_75 : decode cX5_town 75 = .ok (.invokevirtual 116, 3) := by decide +kernel
theorem dX5_town_78 : decode cX5_town 78 = .ok (.ireturn, 1) := by decide +kernel
theorem dX5_town_79 : decode cX5_town 79 = .ok (.aload_n 0, 1) := by decide +kernel
theorem dX5_town_80 : decode cX5_town 80 = .ok (.aload_n 0, 1) := by decide +kernel
theorem dX5_town_81 : decode cX5_town 81 = .ok (.getfield 93, 3) := by decide +kernel
theorem dX5_town_84 : decode cX5_town 84 = .ok (.putfield 71, 3) := by decide +kernel
theorem dX5_town_87 : decode cX5_town 87 = .ok (.aload_n 0, 1) := by decide +kernel
theorem dX5_town_88 : decode cX5_town 88 = .ok (.aload_n 0, 1) := by decide +kernel
theorem dX5_town_89 : decode cX5_town 89 = .ok (.getfield 90, 3) := by decide +kernel
theorem dX5_town_92 : decode cX5_town 92 = .ok (.putfield 78, 3) := by decide +kernel
theorem dX5_town_95 : decode cX5_town 95 = .ok (.iconst 0, 1) := by decide +kernel
theorem dX5_town_96 : decode cX5_town 96 = .ok (.istore 6, 2) := by decide +kernel
theorem dX5_town_98 : decode cX5_town 98 = .ok (.iload 6, 2) := by decide +kernel
theorem dX5_town_100 : decode cX5_town 100 = .ok (.aload_n 0, 1) := by decide +kernel
theorem dX5_town_101 : decode cX5_town 101 = .ok (.getfield 71, 3) := by decide +kernel
theorem dX5_town_104 : decode cX5_town 104 = .ok (.if_icmp .ge 23, 3) := by decide +kernel
theorem dX5_town_107 : decode cX5_town 107 = .ok (.aload_n 0, 1) := by decide +kernel
theorem dX5_town_108 : decode cX5_town 108 = .ok (.getfield 7, 3) := by decide +kernel
theorem dX5_town_111 : decode cX5_town 111 = .ok (.iload 6, 2) := by decide +kernel
theorem dX5_town_113 : decode cX5_town 113 = .ok (.aload_n 0, 1) := by decide +kernel
theorem dX5_town_114 : decode cX5_town 114 = .ok (.getfield 22, 3) := by decide +kernel
theorem dX5_town_117 : decode cX5_town 117 = .ok (.iload 6, 2) := by decide +kernel
theorem dX5_town_119 : decode cX5_town 119 = .ok (.iaload, 1) := by decide +kernel
theorem dX5_town_120 : decode cX5_town 120 = .ok (.iastore, 1) := by decide +kernel
theorem dX5_town_121 : decode cX5_town 121 = .ok (.iinc 6 1, 3) := by decide +kernel
theorem dX5_town_124 : decode cX5_town 124 = .ok (.goto (-26), 3) := by decide +kernel
theorem dX5_town_127 : decode cX5_town 127 = .ok (.iconst 0, 1) := by decide +kernel
theorem dX5_town_128 : decode cX5_town 128 = .ok (.istore 6, 2) := by decide +kernel
theorem dX5_town_130 : decode cX5_town 130 = .ok (.iload 6, 2) := by decide +kernel
theorem dX5_town_132 : decode cX5_town 132 = .ok (.aload_n 0, 1) := by decide +kernel
theorem dX5_town_133 : decode cX5_town 133 = .ok (.getfield 78, 3) := by decide +kernel
theorem dX5_town_136 : decode cX5_town 136 = .ok (.if_icmp .ge 51, 3) := by decide +kernel
theorem dX5_town_139 : decode cX5_town 139 = .ok (.aload_n 0, 1) := by decide +kernel
theorem dX5_town_140 : decode cX5_town 140 = .ok (.getfield 13, 3) := by decide +kernel
theorem dX5_town_143 : decode cX5_town 143 = .ok (.iload 6, 2) := by decide +kernel
theorem dX5_town_145 : decode cX5_town 145 = .ok (.aload_n 0, 1) := by decide +kernel
theorem dX5_town_146 : decode cX5_town 146 = .ok (.getfield 25, 3) := by decide +kernel
theorem dX5_town_149 : decode cX5_town 149 = .ok (.iload 6, 2) := by decide +kernel
theorem dX5_town_151 : decode cX5_town 151 = .ok (.iaload, 1) := by decide +kernel
theorem dX5_town_152 : decode cX5_town 152 = .ok (.iastore, 1) := by decide +kernel
theorem dX5_town_153 : decode cX5_town 153 = .ok (.aload_n 0, 1) := by decide +kernel
theorem dX5_town_154 : decode cX5_town 154 = .ok (.getfield 16, 3) := by decide +kernel
theorem dX5_town_157 : decode cX5_town 157 = .ok (.iload 6, 2) := by decide +kernel
theorem dX5_town_159 : decode cX5_town 159 = .ok (.aload_n 0, 1) := by decide +kernel
theorem dX5_town_160 : decode cX5_town 160 = .ok (.getfield 28, 3) := by decide +kernel
theorem dX5_town_163 : decode cX5_town 163 = .ok (.iload 6, 2) := by decide +kernel
theorem dX5_town_165 : decode cX5_town 165 = .ok (.iaload, 1) := by decide +kernel
theorem dX5_town_166 : decode cX5_town 166 = .ok (.iastore, 1) := by decide +kernel
theorem dX5_town_167 : decode cX5_town 167 = .ok (.aload_n 0, 1) := by decide +kernel
theorem dX5_town_168 : decode cX5_town 168 = .ok (.getfield 19, 3) := by decide +kernel
theorem dX5_town_171 : decode cX5_town 171 = .ok (.iload 6, 2) := by decide +kernel
theorem dX5_town_173 : decode cX5_town 173 = .ok (.aload_n 0, 1) := by decide +kernel
theorem dX5_town_174 : decode cX5_town 174 = .ok (.getfield 31, 3) := by decide +kernel
theorem dX5_town_177 : decode cX5_town 177 = .ok (.iload 6, 2) := by decide +kernel
theorem dX5_town_179 : decode cX5_town 179 = .ok (.iaload, 1) := by decide +kernel
theorem dX5_town_180 : decode cX5_town 180 = .ok (.iastore, 1) := by decide +kernel
theorem dX5_town_181 : decode cX5_town 181 = .ok (.iinc 6 1, 3) := by decide +kernel
theorem dX5_town_184 : decode cX5_town 184 = .ok (.goto (-54), 3) := by decide +kernel
theorem dX5_town_187 : decode cX5_town 187 = .ok (.aload_n 0, 1) := by decide +kernel
theorem dX5_town_188 : decode cX5_town 188 = .ok (.iconst 0, 1) := by decide +kernel
theorem dX5_town_189 : decode cX5_town 189 = .ok (.putfield 128, 3) := by decide +kernel
theorem dX5_town_192 : decode cX5_town 192 = .ok (.aload_n 0, 1) := by decide +kernel
theorem dX5_town_193 : decode cX5_town 193 = .ok (.aload_n 0, 1) := by decide +kernel
theorem dX5_town_194 : decode cX5_town 194 = .ok (.getfield 78, 3) := by decide +kernel
theorem dX5_town_197 : decode cX5_town 197 = .ok (.invokevirtual 116, 3) := by decide +kernel
theorem dX5_town_200 : decode cX5_town 200 = .ok (.ireturn, 1) := by decide +kernel
theorem dX5_ofSleeper_0 : decode cX5_ofSleeper 0 = .ok (.aload_n 0, 1) := by decide +kernel
theorem dX5_ofSleeper_1 : decode cX5_ofSleeper 1 = .ok (.iload_n 1, 1) := by decide +kernel
theorem dX5_ofSleeper_2 : decode cX5_ofSleeper 2 = .ok (.invokevirtual 131, 3) := by decide +kernel
theorem dX5_ofSleeper_5 : decode cX5_ofSleeper 5 = .ok (.ifCond .eq 5, 3) := by decide +kernel
theorem dX5_ofSleeper_8 : decode cX5_ofSleeper 8 = .ok (.iconst (-1), 1) := by decide +kernel
theorem dX5_ofSleeper_9 : decode cX5_ofSleeper 9 = .ok (.ireturn, 1) := by decide +kernel
theorem dX5_ofSleeper_10 : decode cX5_ofSleeper 10 = .ok (.iload_n 2, 1) := by decide +kernel
theorem dX5_ofSleeper_11 : decode cX5_ofSleeper 11 = .ok (.ifCond .ne 12, 3) := by decide +kernel
theorem dX5_ofSleeper_14 : decode cX5_ofSleeper 14 = .ok (.aload_n 0, 1) := by decide +kernel
theorem dX5_ofSleeper_15 : decode cX5_ofSleeper 15 = .ok (.getfield 13, 3) := by decide +kernel
theorem dX5_ofSleeper_18 : decode cX5_ofSleeper 18 = .ok (.iload_n 1, 1) := by decide +kernel
theorem dX5_ofSleeper_19 : decode cX5_ofSleeper 19 = .ok (.iaload, 1) := by decide +kernel
theorem dX5_ofSleeper_20 : decode cX5_ofSleeper 20 = .ok (.goto 33, 3) := by decide +kernel
theorem dX5_ofSleeper_23 : decode cX5_ofSleeper 23 = .ok (.iload_n 2, 1) := by decide +kernel
theorem dX5_ofSleeper_24 : decode cX5_ofSleeper 24 = .ok (.iconst 1, 1) := by decide +kernel
theorem dX5_ofSleeper_25 : decode cX5_ofSleeper 25 = .ok (.if_icmp .ne 12, 3) := by decide +kernel
theorem dX5_ofSleeper_28 : decode cX5_ofSleeper 28 = .ok (.aload_n 0, 1) := by decide +kernel
theorem dX5_ofSleeper_29 : decode cX5_ofSleeper 29 = .ok (.getfield 16, 3) := by decide +kernel
theorem dX5_ofSleeper_32 : decode cX5_ofSleeper 32 = .ok (.iload_n 1, 1) := by decide +kernel
theorem dX5_ofSleeper_33 : decode cX5_ofSleeper 33 = .ok (.iaload, 1) := by decide +kernel
theorem dX5_ofSleeper_34 : decode cX5_ofSleeper 34 = .ok (.goto 19, 3) := by decide +kernel
theorem dX5_ofSleeper_37 : decode cX5_ofSleeper 37 = .ok (.iload_n 2, 1) := by decide +kernel
theorem dX5_ofSleeper_38 : decode cX5_ofSleeper 38 = .ok (.iconst 2, 1) := by decide +kernel
theorem dX5_ofSleeper_39 : decode cX5_ofSleeper 39 = .ok (.if_icmp .ne 12, 3) := by decide +kernel
theorem dX5_ofSleeper_42 : decode cX5_ofSleeper 42 = .ok (.aload_n 0, 1) := by decide +kernel
theorem dX5_ofSleeper_43 : decode cX5_ofSleeper 43 = .ok (.getfield 19, 3) := by decide +kernel
theorem dX5_ofSleeper_46 : decode cX5_ofSleeper 46 = .ok (.iload_n 1, 1) := by decide +kernel
theorem dX5_ofSleeper_47 : decode cX5_ofSleeper 47 = .ok (.iaload, 1) := by decide +kernel
theorem dX5_ofSleeper_48 : decode cX5_ofSleeper 48 = .ok (.goto 5, 3) := by decide +kernel
theorem dX5_ofSleeper_51 : decode cX5_ofSleeper 51 = .ok (.bipush (-2), 2) := by decide +kernel
theorem dX5_ofSleeper_53 : decode cX5_ofSleeper 53 = .ok (.ireturn, 1) := by decide +kernel
theorem dX5_goods_0 : decode cX5_goods 0 = .ok (.aload_n 0, 1) := by decide +kernel
theorem dX5_goods_1 : decode cX5_goods 1 = .ok (.iload_n 1, 1) := by decide +kernel
theorem dX5_goods_2 : decode cX5_goods 2 = .ok (.invokevirtual 134, 3) := by decide +kernel
theorem dX5_goods_5 : decode cX5_goods 5 = .ok (.ifCond .eq 7, 3) := by decide +kernel
theorem dX5_goods_8 : decode cX5_goods 8 = .ok (.iconst (-1), 1) := by decide +kernel
theorem dX5_goods_9 : decode cX5_goods 9 = .ok (.goto 9, 3) := by decide +kernel
theorem dX5_goods_12 : decode cX5_goods 12 = .ok (.aload_n 0, 1) := by decide +kernel
theorem dX5_goods_13 : decode cX5_goods 13 = .ok (.getfield 7, 3) := by decide +kernel
theorem dX5_goods_16 : decode cX5_goods 16 = .ok (.iload_n 1, 1) := by decide +kernel
theorem dX5_goods_17 : decode cX5_goods 17 = .ok (.iaload, 1) := by decide +kernel
theorem dX5_goods_18 : decode cX5_goods 18 = .ok (.ireturn, 1) := by decide +kernel
theorem dX5_lay_0 : decode cX5_lay 0 = .ok (.aload_n 0, 1) := by decide +kernel
theorem dX5_lay_1 : decode cX5_lay 1 = .ok (.iload_n 1, 1) := by decide +kernel
theorem dX5_lay_2 : decode cX5_lay 2 = .ok (.invokevirtual 134, 3) := by decide +kernel
theorem dX5_lay_5 : decode cX5_lay 5 = .ok (.ifCond .eq 5, 3) := by decide +kernel
theorem dX5_lay_8 : decode cX5_lay 8 = .ok (.iconst (-1), 1) := by decide +kernel
theorem dX5_lay_9 : decode cX5_lay 9 = .ok (.ireturn, 1) := by decide +kernel
theorem dX5_lay_10 : decode cX5_lay 10 = .ok (.iload_n 2, 1) := by decide +kernel
theorem dX5_lay_11 : decode cX5_lay 11 = .ok (.i2l, 1) := by decide +kernel
theorem dX5_lay_12 : decode cX5_lay 12 = .ok (.lconst 0, 1) := by decide +kernel
theorem dX5_lay_13 : decode cX5_lay 13 = .ok (.ldc2_w 137, 3) := by decide +kernel
theorem dX5_lay_16 : decode cX5_lay 16 = .ok (.invokestatic 74, 3) := by decide +kernel
theorem dX5_lay_19 : decode cX5_lay 19 = .ok (.ifCond .ne 6, 3) := by decide +kernel
theorem dX5_lay_22 : decode cX5_lay 22 = .ok (.bipush (-2), 2) := by decide +kernel
theorem dX5_lay_24 : decode cX5_lay 24 = .ok (.ireturn, 1) := by decide +kernel
theorem dX5_lay_25 : decode cX5_lay 25 = .ok (.aload_n 0, 1) := by decide +kernel
theorem dX5_lay_26 : decode cX5_lay 26 = .ok (.getfield 7, 3) := by decide +kernel
theorem dX5_lay_29 : decode cX5_lay 29 = .ok (.iload_n 1, 1) := by decide +kernel
theorem dX5_lay_30 : decode cX5_lay 30 = .ok (.iaload, 1) := by decide +kernel
theorem dX5_lay_31 : decode cX5_lay 31 = .ok (.istore_n 3, 1) := by decide +kernel
theorem dX5_lay_32 : decode cX5_lay 32 = .ok (.aload_n 0, 1) := by decide +kernel
theorem dX5_lay_33 : decode cX5_lay 33 = .ok (.getfield 7, 3) := by decide +kernel
theorem dX5_lay_36 : decode cX5_lay 36 = .ok (.iload_n 1, 1) := by decide +kernel
theorem dX5_lay_37 : decode cX5_lay 37 = .ok (.iload_n 2, 1) := by decide +kernel
theorem dX5_lay_38 : decode cX5_lay 38 = .ok (.iastore, 1) := by decide +kernel
theorem dX5_lay_39 : decode cX5_lay 39 = .ok (.iload_n 3, 1) := by decide +kernel
theorem dX5_lay_40 : decode cX5_lay 40 = .ok (.ireturn, 1) := by decide +kernel
theorem dX5_stride_0 : decode cX5_stride 0 = .ok (.aload_n 0, 1) := by decide +kernel
theorem dX5_stride_1 : decode cX5_stride 1 = .ok (.iload_n 1, 1) := by decide +kernel
theorem dX5_stride_2 : decode cX5_stride 2 = .ok (.invokevirtual 131, 3) := by decide +kernel
theorem dX5_stride_5 : decode cX5_stride 5 = .ok (.ifCond .eq 5, 3) := by decide +kernel
theorem dX5_stride_8 : decode cX5_stride 8 = .ok (.iconst (-1), 1) := by decide +kernel
theorem dX5_stride_9 : decode cX5_stride 9 = .ok (.ireturn, 1) := by decide +kernel
theorem dX5_stride_10 : decode cX5_stride 10 = .ok (.iload_n 2, 1) := by decide +kernel
theorem dX5_stride_11 : decode cX5_stride 11 = .ok (.i2l, 1) := by decide +kernel
theorem dX5_stride_12 : decode cX5_stride 12 = .ok (.lconst 0, 1) := by decide +kernel
theorem dX5_stride_13 : decode cX5_stride 13 = .ok (.ldc2_w 139, 3) := by decide +kernel
theorem dX5_stride_16 : decode cX5_stride 16 = .ok (.invokestatic 74, 3) := by decide +kernel
theorem dX5_stride_19 : decode cX5_stride 19 = .ok (.ifCond .ne 6, 3) := by decide +kernel
theorem dX5_stride_22 : decode cX5_stride 22 = .ok (.bipush (-2), 2) := by decide +kernel
theorem dX5_stride_24 : decode cX5_stride 24 = .ok (.ireturn, 1) := by decide +kernel
theorem dX5_stride_25 : decode cX5_stride 25 = .ok (.aload_n 0, 1) := by decide +kernel
theorem dX5_stride_26 : decode cX5_stride 26 = .ok (.getfield 19, 3) := by decide +kernel
theorem dX5_stride_29 : decode cX5_stride 29 = .ok (.iload_n 1, 1) := by decide +kernel
theorem dX5_stride_30 : decode cX5_stride 30 = .ok (.iaload, 1) := by decide +kernel
theorem dX5_stride_31 : decode cX5_stride 31 = .ok (.istore_n 3, 1) := by decide +kernel
theorem dX5_stride_32 : decode cX5_stride 32 = .ok (.aload_n 0, 1) := by decide +kernel
theorem dX5_stride_33 : decode cX5_stride 33 = .ok (.getfield 19, 3) := by decide +kernel
theorem dX5_stride_36 : decode cX5_stride 36 = .ok (.iload_n 1, 1) := by decide +kernel
theorem dX5_stride_37 : decode cX5_stride 37 = .ok (.iload_n 2, 1) := by decide +kernel
theorem dX5_stride_38 : decode cX5_stride 38 = .ok (.iastore, 1) := by decide +kernel
theorem dX5_stride_39 : decode cX5_stride 39 = .ok (.iload_n 3, 1) := by decide +kernel
theorem dX5_stride_40 : decode cX5_stride 40 = .ok (.ireturn, 1) := by decide +kernel
theorem dX5_whereAt_0 : decode cX5_whereAt 0 = .ok (.aload_n 0, 1) := by decide +kernel
theorem dX5_whereAt_1 : decode cX5_whereAt 1 = .ok (.getfield 19, 3) := by decide +kernel
theorem dX5_whereAt_4 : decode cX5_whereAt 4 = .ok (.iload_n 1, 1) := by decide +kernel
theorem dX5_whereAt_5 : decode cX5_whereAt 5 = .ok (.iaload, 1) := by decide +kernel
theorem dX5_whereAt_6 : decode cX5_whereAt 6 = .ok (.istore_n 3, 1) := by decide +kernel
theorem dX5_whereAt_7 : decode cX5_whereAt 7 = .ok (.iload_n 2, 1) := by decide +kernel
theorem dX5_whereAt_8 : decode cX5_whereAt 8 = .ok (.istore 4, 2) := by decide +kernel
theorem dX5_whereAt_10 : decode cX5_whereAt 10 = .ok (.aload_n 0, 1) := by decide +kernel
theorem dX5_whereAt_11 : decode cX5_whereAt 11 = .ok (.getfield 13, 3) := by decide +kernel
theorem dX5_whereAt_14 : decode cX5_whereAt 14 = .ok (.iload_n 1, 1) := by decide +kernel
theorem dX5_whereAt_15 : decode cX5_whereAt 15 = .ok (.iaload, 1) := by decide +kernel
theorem dX5_whereAt_16 : decode cX5_whereAt 16 = .ok (.iconst 1, 1) := by decide +kernel
theorem dX5_whereAt_17 : decode cX5_whereAt 17 = .ok (.if_icmp .ne 7, 3) := by decide +kernel
theorem dX5_whereAt_20 : decode cX5_whereAt 20 = .ok (.iload_n 3, 1) := by decide +kernel
theorem dX5_whereAt_21 : decode cX5_whereAt 21 = .ok (.iconst 1, 1) := by decide +kernel
theorem dX5_whereAt_22 : decode cX5_whereAt 22 = .ok (.iadd, 1) := by decide +kernel
theorem dX5_whereAt_23 : decode cX5_whereAt 23 = .ok (.istore_n 3, 1) := by decide +kernel
theorem dX5_whereAt_24 : decode cX5_whereAt 24 = .ok (.aload_n 0, 1) := by decide +kernel
theorem dX5_whereAt_25 : decode cX5_whereAt 25 = .ok (.getfield 13, 3) := by decide +kernel
theorem dX5_whereAt_28 : decode cX5_whereAt 28 = .ok (.iload_n 1, 1) := by decide +kernel
theorem dX5_whereAt_29 : decode cX5_whereAt 29 = .ok (.iaload, 1) := by decide +kernel
theorem dX5_whereAt_30 : decode cX5_whereAt 30 = .ok (.iconst 2, 1) := by decide +kernel
theorem dX5_whereAt_31 : decode cX5_whereAt 31 = .ok (.if_icmp .ne 16, 3) := by decide +kernel
theorem dX5_whereAt_34 : decode cX5_whereAt 34 = .ok (.iconst 2, 1) := by decide +kernel
theorem dX5_whereAt_35 : decode cX5_whereAt 35 = .ok (.iload_n 3, 1) := by decide +kernel
theorem dX5_whereAt_36 : decode cX5_whereAt 36 = .ok (.iconst 1, 1) := by decide +kernel
theorem dX5_whereAt_37 : decode cX5_whereAt 37 = .ok (.iadd, 1) := by decide +kernel
theorem dX5_whereAt_38 : decode cX5_whereAt 38 = .ok (.imul, 1) := by decide +kernel
theorem dX5_whereAt_39 : decode cX5_whereAt 39 = .ok (.istore_n 3, 1) := by decide +kernel
theorem dX5_whereAt_40 : decode cX5_whereAt 40 = .ok (.iload_n 2, 1) := by decide +kernel
theorem dX5_whereAt_41 : decode cX5_whereAt 41 = .ok (.iconst 1, 1) := by decide +kernel
theorem dX5_whereAt_42 : decode cX5_whereAt 42 = .ok (.iadd, 1) := by decide +kernel
theorem dX5_whereAt_43 : decode cX5_whereAt 43 = .ok (.iconst 2, 1) := by decide +kernel
theorem dX5_whereAt_44 : decode cX5_whereAt 44 = .ok (.idiv, 1) := by decide +kernel
theorem dX5_whereAt_45 : decode cX5_whereAt 45 = .ok (.istore 4, 2) := by decide +kernel
theorem dX5_whereAt_47 : decode cX5_whereAt 47 = .ok (.aload_n 0, 1) := by decide +kernel
theorem dX5_whereAt_48 : decode cX5_whereAt 48 = .ok (.getfield 16, 3) := by decide +kernel
theorem dX5_whereAt_51 : decode cX5_whereAt 51 = .ok (.iload_n 1, 1) := by decide +kernel
theorem dX5_whereAt_52 : decode cX5_whereAt 52 = .ok (.iaload, 1) := by decide +kernel
theorem dX5_whereAt_53 : decode cX5_whereAt 53 = .ok (.iload_n 3, 1) := by decide +kernel
theorem dX5_whereAt_54 : decode cX5_whereAt 54 = .ok (.iload 4, 2) := by decide +kernel
theorem dX5_whereAt_56 : decode cX5_whereAt 56 = .ok (.imul, 1) := by decide +kernel
theorem dX5_whereAt_57 : decode cX5_whereAt 57 = .ok (.iadd, 1) := by decide +kernel
theorem dX5_whereAt_58 : decode cX5_whereAt 58 = .ok (.aload_n 0, 1) := by decide +kernel
theorem dX5_whereAt_59 : decode cX5_whereAt 59 = .ok (.getfield 71, 3) := by decide +kernel
theorem dX5_whereAt_62 : decode cX5_whereAt 62 = .ok (.irem, 1) := by decide +kernel
theorem dX5_whereAt_63 : decode cX5_whereAt 63 = .ok (.ireturn, 1) := by decide +kernel
theorem dX5_where_0 : decode cX5_where 0 = .ok (.aload_n 0, 1) := by decide +kernel
theorem dX5_where_1 : decode cX5_where 1 = .ok (.iload_n 1, 1) := by decide +kernel
theorem dX5_where_2 : decode cX5_where 2 = .ok (.invokevirtual 131, 3) := by decide +kernel
theorem dX5_where_5 : decode cX5_where 5 = .ok (.ifCond .eq 5, 3) := by decide +kernel
theorem dX5_where_8 : decode cX5_where 8 = .ok (.iconst (-1), 1) := by decide +kernel
theorem dX5_where_9 : decode cX5_where 9 = .ok (.ireturn, 1) := by decide +kernel
theorem dX5_where_10 : decode cX5_where 10 = .ok (.iload_n 2, 1) := by decide +kernel
theorem dX5_where_11 : decode cX5_where 11 = .ok (.invokestatic 141, 3) := by decide +kernel
theorem dX5_where_14 : decode cX5_where 14 = .ok (.ifCond .eq 8, 3) := by decide +kernel
theorem dX5_where_17 : decode cX5_where 17 = .ok (.bipush (-2), 2) := by decide +kernel
theorem dX5_where_19 : decode cX5_where 19 = .ok (.goto 9, 3) := by decide +kernel
theorem dX5_where_22 : decode cX5_where 22 = .ok (.aload_n 0, 1) := by decide +kernel
theorem dX5_where_23 : decode cX5_where 23 = .ok (.iload_n 1, 1) := by decide +kernel
theorem dX5_where_24 : decode cX5_where 24 = .ok (.iload_n 2, 1) := by decide +kernel
theorem dX5_where_25 : decode cX5_where 25 = .ok (.invokevirtual 144, 3) := by decide +kernel
theorem dX5_where_28 : decode cX5_where 28 = .ok (.ireturn, 1) := by decide +kernel
theorem dX5_taken_0 : decode cX5_taken 0 = .ok (.aload_n 0, 1) := by decide +kernel
theorem dX5_taken_1 : decode cX5_taken 1 = .ok (.iload_n 1, 1) := by decide +kernel
theorem dX5_taken_2 : decode cX5_taken 2 = .ok (.invokevirtual 131, 3) := by decide +kernel
theorem dX5_taken_5 : decode cX5_taken 5 = .ok (.ifCond .eq 5, 3) := by decide +kernel
theorem dX5_taken_8 : decode cX5_taken 8 = .ok (.iconst (-1), 1) := by decide +kernel
theorem dX5_taken_9 : decode cX5_taken 9 = .ok (.ireturn, 1) := by decide +kernel
theorem dX5_taken_10 : decode cX5_taken 10 = .ok (.iload_n 2, 1) := by decide +kernel
theorem dX5_taken_11 : decode cX5_taken 11 = .ok (.invokestatic 141, 3) := by decide +kernel
theorem dX5_taken_14 : decode cX5_taken 14 = .ok (.ifCond .eq 6, 3) := by decide +kernel
theorem dX5_taken_17 : decode cX5_taken 17 = .ok (.bipush (-2), 2) := by decide +kernel
theorem dX5_taken_19 : decode cX5_taken 19 = .ok (.ireturn, 1) := by decide +kernel
theorem dX5_taken_20 : decode cX5_taken 20 = .ok (.iconst 0, 1) := by decide +kernel
theorem dX5_taken_21 : decode cX5_taken 21 = .ok (.istore_n 3, 1) := by decide +kernel
theorem dX5_taken_22 : decode cX5_taken 22 = .ok (.iload_n 3, 1) := by decide +kernel
theorem dX5_taken_23 : decode cX5_taken 23 = .ok (.aload_n 0, 1) := by decide +kernel
theorem dX5_taken_24 : decode cX5_taken 24 = .ok (.getfield 71, 3) := by decide +kernel
theorem dX5_taken_27 : decode cX5_taken 27 = .ok (.if_icmp .ge 21, 3) := by decide +kernel
theorem dX5_taken_30 : decode cX5_taken 30 = .ok (.aload_n 0, 1) := by decide +kernel
theorem dX5_taken_31 : decode cX5_taken 31 = .ok (.getfield 34, 3) := by decide +kernel
theorem dX5_taken_34 : decode cX5_taken 34 = .ok (.iload_n 3, 1) := by decide +kernel
theorem dX5_taken_35 : decode cX5_taken 35 = .ok (.aload_n 0, 1) := by decide +kernel
theorem dX5_taken_36 : decode cX5_taken 36 = .ok (.getfield 7, 3) := by decide +kernel
theorem dX5_taken_39 : decode cX5_taken 39 = .ok (.iload_n 3, 1) := by decide +kernel
theorem dX5_taken_40 : decode cX5_taken 40 = .ok (.iaload, 1) := by decide +kernel
theorem dX5_taken_41 : decode cX5_taken 41 = .ok (.iastore, 1) := by decide +kernel
theorem dX5_taken_42 : decode cX5_taken 42 = .ok (.iinc 3 1, 3) := by decide +kernel
theorem dX5_taken_45 : decode cX5_taken 45 = .ok (.goto (-23), 3) := by decide +kernel
theorem dX5_taken_48 : decode cX5_taken 48 = .ok (.iconst 0, 1) := by decide +kernel
theorem dX5_taken_49 : decode cX5_taken 49 = .ok (.istore_n 3, 1) := by decide +kernel
theorem dX5_taken_50 : decode cX5_taken 50 = .ok (.iconst 0, 1) := by decide +kernel
theorem dX5_taken_51 : decode cX5_taken 51 = .ok (.istore 4, 2) := by decide +kernel
theorem dX5_taken_53 : decode cX5_taken 53 = .ok (.iload 4, 2) := by decide +kernel
theorem dX5_taken_55 : decode cX5_taken 55 = .ok (.aload_n 0, 1) := by decide +kernel
theorem dX5_taken_56 : decode cX5_taken 56 = .ok (.getfield 78, 3) := by decide +kernel
theorem dX5_taken_59 : decode cX5_taken 59 = .ok (.iload_n 2, 1) := by decide +kernel
theorem dX5_taken_60 : decode cX5_taken 60 = .ok (.iconst 1, 1) := by decide +kernel
theorem dX5_taken_61 : decode cX5_taken 61 = .ok (.iadd, 1) := by decide +kernel
theorem dX5_taken_62 : decode cX5_taken 62 = .ok (.imul, 1) := by decide +kernel
theorem dX5_taken_63 : decode cX5_taken 63 = .ok (.if_icmp .ge 61, 3) := by decide +kernel
theorem dX5_taken_66 : decode cX5_taken 66 = .ok (.iload 4, 2) := by decide +kernel
theorem dX5_taken_68 : decode cX5_taken 68 = .ok (.aload_n 0, 1) := by decide +kernel
theorem dX5_taken_69 : decode cX5_taken 69 = .ok (.getfield 78, 3) := by decide +kernel
theorem dX5_taken_72 : decode cX5_taken 72 = .ok (.irem, 1) := by decide +kernel
theorem dX5_taken_73 : decode cX5_taken 73 = .ok (.istore 5, 2) := by decide +kernel
theorem dX5_taken_75 : decode cX5_taken 75 = .ok (.aload_n 0, 1) := by decide +kernel
theorem dX5_taken_76 : decode cX5_taken 76 = .ok (.iload 5, 2) := by decide +kernel
theorem dX5_taken_78 : decode cX5_taken 78 = .ok (.iload 4, 2) := by decide +kernel
theorem dX5_taken_80 : decode cX5_taken 80 = .ok (.aload_n 0, 1) := by decide +kernel
theorem dX5_taken_81 : decode cX5_taken 81 = .ok (.getfield 78, 3) := by decide +kernel
theorem dX5_taken_84 : decode cX5_taken 84 = .ok (.idiv, 1) := by decide +kernel
theorem dX5_taken_85 : decode cX5_taken 85 = .ok (.invokevirtual 144, 3) := by decide +kernel
theorem dX5_taken_88 : decode cX5_taken 88 = .ok (.istore 6, 2) := by decide +kernel
theorem dX5_taken_90 : decode cX5_taken 90 = .ok (.iload_n 3, 1) := by decide +kernel
theorem dX5_taken_91 : decode cX5_taken 91 = .ok (.iload 5, 2) := by decide +kernel
theorem dX5_taken_93 : decode cX5_taken 93 = .ok (.iload_n 1, 1) := by decide +kernel
theorem dX5_taken_94 : decode cX5_taken 94 = .ok (.if_icmp .ne 13, 3) := by decide +kernel
theorem dX5_taken_97 : decode cX5_taken 97 = .ok (.aload_n 0, 1) := by decide +kernel
theorem dX5_taken_98 : decode cX5_taken 98 = .ok (.getfield 34, 3) := by decide +kernel
theorem dX5_taken_101 : decode cX5_taken 101 = .ok (.iload 6, 2) := by decide +kernel
theorem dX5_taken_103 : decode cX5_taken 103 = .ok (.iaload, 1) := by decide +kernel
theorem dX5_taken_104 : decode cX5_taken 104 = .ok (.goto 4, 3) := by decide +kernel
theorem dX5_taken_107 : decode cX5_taken 107 = .ok (.iconst 0, 1) := by decide +kernel
theorem dX5_taken_108 : decode cX5_taken 108 = .ok (.iadd, 1) := by decide +kernel
theorem dX5_taken_109 : decode cX5_taken 109 = .ok (.istore_n 3, 1) := by decide +kernel
theorem dX5_taken_110 : decode cX5_taken 110 = .ok (.aload_n 0, 1) := by decide +kernel
theorem dX5_taken_111 : decode cX5_taken 111 = .ok (.getfield 34, 3) := by decide +kernel
theorem dX5_taken_114 : decode cX5_taken 114 = .ok (.iload 6, 2) := by decide +kernel
theorem dX5_taken_116 : decode cX5_taken 116 = .ok (.iconst 0, 1) := by decide +kernel
theorem dX5_taken_117 : decode cX5_taken 117 = .ok (.iastore, 1) := by decide +kernel
theorem dX5_taken_118 : decode cX5_taken 118 = .ok (.iinc 4 1, 3) := by decide +kernel
theorem dX5_taken_121 : decode cX5_taken 121 = .ok (.goto (-68), 3) := by decide +kernel
theorem dX5_taken_124 : decode cX5_taken 124 = .ok (.iload_n 3, 1) := by decide +kernel
theorem dX5_taken_125 : decode cX5_taken 125 = .ok (.ireturn, 1) := by decide +kernel
theorem dX5_freeAt_0 : decode cX5_freeAt 0 = .ok (.iconst 1, 1) := by decide +kernel
theorem dX5_freeAt_1 : decode cX5_freeAt 1 = .ok (.aload_n 0, 1) := by decide +kernel
theorem dX5_freeAt_2 : decode cX5_freeAt 2 = .ok (.getfield 71, 3) := by decide +kernel
theorem dX5_freeAt_5 : decode cX5_freeAt 5 = .ok (.ishl, 1) := by decide +kernel
theorem dX5_freeAt_6 : decode cX5_freeAt 6 = .ok (.iconst 1, 1) := by decide +kernel
theorem dX5_freeAt_7 : decode cX5_freeAt 7 = .ok (.isub, 1) := by decide +kernel
theorem dX5_freeAt_8 : decode cX5_freeAt 8 = .ok (.istore_n 2, 1) := by decide +kernel
theorem dX5_freeAt_9 : decode cX5_freeAt 9 = .ok (.iconst 0, 1) := by decide +kernel
theorem dX5_freeAt_10 : decode cX5_freeAt 10 = .ok (.istore_n 3, 1) := by decide +kernel
theorem dX5_freeAt_11 : decode cX5_freeAt 11 = .ok (.iload_n 3, 1) := by decide +kernel
theorem dX5_freeAt_12 : decode cX5_freeAt 12 = .ok (.aload_n 0, 1) := by decide +kernel
theorem dX5_freeAt_13 : decode cX5_freeAt 13 = .ok (.getfield 78, 3) := by decide +kernel
theorem dX5_freeAt_16 : decode cX5_freeAt 16 = .ok (.if_icmp .ge 37, 3) := by decide +kernel
theorem dX5_freeAt_19 : decode cX5_freeAt 19 = .ok (.iload_n 2, 1) := by decide +kernel
theorem dX5_freeAt_20 : decode cX5_freeAt 20 = .ok (.aload_n 0, 1) := by decide +kernel
theorem dX5_freeAt_21 : decode cX5_freeAt 21 = .ok (.getfield 147, 3) := by decide +kernel
theorem dX5_freeAt_24 : decode cX5_freeAt 24 = .ok (.iload_n 3, 1) := by decide +kernel
theorem dX5_freeAt_25 : decode cX5_freeAt 25 = .ok (.invokestatic 150, 3) := by decide +kernel
theorem dX5_freeAt_28 : decode cX5_freeAt 28 = .ok (.ifCond .eq 7, 3) := by decide +kernel
theorem dX5_freeAt_31 : decode cX5_freeAt 31 = .ok (.iconst (-1), 1) := by decide +kernel
theorem dX5_freeAt_32 : decode cX5_freeAt 32 = .ok (.goto 13, 3) := by decide +kernel
theorem dX5_freeAt_35 : decode cX5_freeAt 35 = .ok (.iconst 1, 1) := by decide +kernel
theorem dX5_freeAt_36 : decode cX5_freeAt 36 = .ok (.aload_n 0, 1) := by decide +kernel
theorem dX5_freeAt_37 : decode cX5_freeAt 37 = .ok (.iload_n 3, 1) := by decide +kernel
theorem dX5_freeAt_38 : decode cX5_freeAt 38 = .ok (.iload_n 1, 1) := by decide +kernel
theorem dX5_freeAt_39 : decode cX5_freeAt 39 = .ok (.invokevirtual 144, 3) := by decide +kernel
theorem dX5_freeAt_42 : decode cX5_freeAt 42 = .ok (.ishl, 1) := by decide +kernel
theorem dX5_freeAt_43 : decode cX5_freeAt 43 = .ok (.iconst (-1), 1) := by decide +kernel
theorem dX5_freeAt_44 : decode cX5_freeAt 44 = .ok (.ixor, 1) := by decide +kernel
theorem dX5_freeAt_45 : decode cX5_freeAt 45 = .ok (.iand, 1) := by decide +kernel
theorem dX5_freeAt_46 : decode cX5_freeAt 46 = .ok (.istore_n 2, 1) := by decide +kernel
theorem dX5_freeAt_47 : decode cX5_freeAt 47 = .ok (.iinc 3 1, 3) := by decide +kernel
theorem dX5_freeAt_50 : decode cX5_freeAt 50 = .ok (.goto (-39), 3) := by decide +kernel
theorem dX5_freeAt_53 : decode cX5_freeAt 53 = .ok (.iload_n 2, 1) := by decide +kernel
theorem dX5_freeAt_54 : decode cX5_freeAt 54 = .ok (.ireturn, 1) := by decide +kernel
theorem dX5_free_0 : decode cX5_free 0 = .ok (.iload_n 1, 1) := by decide +kernel
theorem dX5_free_1 : decode cX5_free 1 = .ok (.invokestatic 141, 3) := by decide +kernel
theorem dX5_free_4 : decode cX5_free 4 = .ok (.ifCond .eq 6, 3) := by decide +kernel
theorem dX5_free_7 : decode cX5_free 7 = .ok (.bipush (-2), 2) := by decide +kernel
theorem dX5_free_9 : decode cX5_free 9 = .ok (.ireturn, 1) := by decide +kernel
theorem dX5_free_10 : decode cX5_free 10 = .ok (.aload_n 0, 1) := by decide +kernel
theorem dX5_free_11 : decode cX5_free 11 = .ok (.getfield 78, 3) := by decide +kernel
theorem dX5_free_14 : decode cX5_free 14 = .ok (.ifCond .ne 8, 3) := by decide +kernel
theorem dX5_free_17 : decode cX5_free 17 = .ok (.bipush (-3), 2) := by decide +kernel
theorem dX5_free_19 : decode cX5_free 19 = .ok (.goto 8, 3) := by decide +kernel
theorem dX5_free_22 : decode cX5_free 22 = .ok (.aload_n 0, 1) := by decide +kernel
theorem dX5_free_23 : decode cX5_free 23 = .ok (.iload_n 1, 1) := by decide +kernel
theorem dX5_free_24 : decode cX5_free 24 = .ok (.invokevirtual 153, 3) := by decide +kernel
theorem dX5_free_27 : decode cX5_free 27 = .ok (.ireturn, 1) := by decide +kernel
theorem dX5_meet_0 : decode cX5_meet 0 = .ok (.aload_n 0, 1) := by decide +kernel
theorem dX5_meet_1 : decode cX5_meet 1 = .ok (.iload_n 1, 1) := by decide +kernel
theorem dX5_meet_2 : decode cX5_meet 2 = .ok (.invokevirtual 131, 3) := by decide +kernel
theorem dX5_meet_5 : decode cX5_meet 5 = .ok (.ifCond .ne 16, 3) := by decide +kernel
theorem dX5_meet_8 : decode cX5_meet 8 = .ok (.aload_n 0, 1) := by decide +kernel
theorem dX5_meet_9 : decode cX5_meet 9 = .ok (.iload_n 2, 1) := by decide +kernel
theorem dX5_meet_10 : decode cX5_meet 10 = .ok (.invokevirtual 131, 3) := by decide +kernel
theorem dX5_meet_13 : decode cX5_meet 13 = .ok (.ifCond .ne 8, 3) := by decide +kernel
theorem dX5_meet_16 : decode cX5_meet 16 = .ok (.iload_n 1, 1) := by decide +kernel
theorem dX5_meet_17 : decode cX5_meet 17 = .ok (.iload_n 2, 1) := by decide +kernel
theorem dX5_meet_18 : decode cX5_meet 18 = .ok (.if_icmp .ne 5, 3) := by decide +kernel
theorem dX5_meet_21 : decode cX5_meet 21 = .ok (.iconst (-1), 1) := by decide +kernel
theorem dX5_meet_22 : decode cX5_meet 22 = .ok (.ireturn, 1) := by decide +kernel
theorem dX5_meet_23 : decode cX5_meet 23 = .ok (.iconst 0, 1) := by decide +kernel
theorem dX5_meet_24 : decode cX5_meet 24 = .ok (.istore_n 3, 1) := by decide +kernel
theorem dX5_meet_25 : decode cX5_meet 25 = .ok (.iload_n 3, 1) := by decide +kernel
theorem dX5_meet_26 : decode cX5_meet 26 = .ok (.bipush 60, 2) := by decide +kernel
theorem dX5_meet_28 : decode cX5_meet 28 = .ok (.if_icmp .gt 26, 3) := by decide +kernel
theorem dX5_meet_31 : decode cX5_meet 31 = .ok (.aload_n 0, 1) := by decide +kernel
theorem dX5_meet_32 : decode cX5_meet 32 = .ok (.iload_n 1, 1) := by decide +kernel
theorem dX5_meet_33 : decode cX5_meet 33 = .ok (.iload_n 3, 1) := by decide +kernel
theorem dX5_meet_34 : decode cX5_meet 34 = .ok (.invokevirtual 144, 3) := by decide +kernel
theorem dX5_meet_37 : decode cX5_meet 37 = .ok (.aload_n 0, 1) := by decide +kernel
theorem dX5_meet_38 : decode cX5_meet 38 = .ok (.iload_n 2, 1) := by decide +kernel
theorem dX5_meet_39 : decode cX5_meet 39 = .ok (.iload_n 3, 1) := by decide +kernel
theorem dX5_meet_40 : decode cX5_meet 40 = .ok (.invokevirtual 144, 3) := by decide +kernel
theorem dX5_meet_43 : decode cX5_meet 43 = .ok (.if_icmp .ne 5, 3) := by decide +kernel
theorem dX5_meet_46 : decode cX5_meet 46 = .ok (.iload_n 3, 1) := by decide +kernel
theorem dX5_meet_47 : decode cX5_meet 47 = .ok (.ireturn, 1) := by decide +kernel
theorem dX5_meet_48 : decode cX5_meet 48 = .ok (.iinc 3 1, 3) := by decide +kernel
theorem dX5_meet_51 : decode cX5_meet 51 = .ok (.goto (-26), 3) := by decide +kernel
theorem dX5_meet_54 : decode cX5_meet 54 = .ok (.bipush (-9), 2) := by decide +kernel
theorem dX5_meet_56 : decode cX5_meet 56 = .ok (.ireturn, 1) := by decide +kernel
theorem dX5_behind_0 : decode cX5_behind 0 = .ok (.iload_n 2, 1) := by decide +kernel
theorem dX5_behind_1 : decode cX5_behind 1 = .ok (.ifCond .ne 7, 3) := by decide +kernel
theorem dX5_behind_4 : decode cX5_behind 4 = .ok (.iload_n 1, 1) := by decide +kernel
theorem dX5_behind_5 : decode cX5_behind 5 = .ok (.goto 32, 3) := by decide +kernel
theorem dX5_behind_8 : decode cX5_behind 8 = .ok (.iload_n 2, 1) := by decide +kernel
theorem dX5_behind_9 : decode cX5_behind 9 = .ok (.iconst 1, 1) := by decide +kernel
theorem dX5_behind_10 : decode cX5_behind 10 = .ok (.if_icmp .ne 14, 3) := by decide +kernel
theorem dX5_behind_13 : decode cX5_behind 13 = .ok (.iload_n 1, 1) := by decide +kernel
theorem dX5_behind_14 : decode cX5_behind 14 = .ok (.iconst 1, 1) := by decide +kernel
theorem dX5_behind_15 : decode cX5_behind 15 = .ok (.iadd, 1) := by decide +kernel
theorem dX5_behind_16 : decode cX5_behind 16 = .ok (.aload_n 0, 1) := by decide +kernel
theorem dX5_behind_17 : decode cX5_behind 17 = .ok (.getfield 71, 3) := by decide +kernel
theorem dX5_behind_20 : decode cX5_behind 20 = .ok (.irem, 1) := by decide +kernel
theorem dX5_behind_21 : decode cX5_behind 21 = .ok (.goto 16, 3) := by decide +kernel
theorem dX5_behind_24 : decode cX5_behind 24 = .ok (.iload_n 1, 1) := by decide +kernel
theorem dX5_behind_25 : decode cX5_behind 25 = .ok (.aload_n 0, 1) := by decide +kernel
theorem dX5_behind_26 : decode cX5_behind 26 = .ok (.getfield 71, 3) := by decide +kernel
theorem dX5_behind_29 : decode cX5_behind 29 = .ok (.iadd, 1) := by decide +kernel
theorem dX5_behind_30 : decode cX5_behind 30 = .ok (.iconst 1, 1) := by decide +kernel
theorem dX5_behind_31 : decode cX5_behind 31 = .ok (.isub, 1) := by decide +kernel
theorem dX5_behind_32 : decode cX5_behind 32 = .ok (.aload_n 0, 1) := by decide +kernel
theorem dX5_behind_33 : decode cX5_behind 33 = .ok (.getfield 71, 3) := by decide +kernel
theorem dX5_behind_36 : decode cX5_behind 36 = .ok (.irem, 1) := by decide +kernel
theorem dX5_behind_37 : decode cX5_behind 37 = .ok (.ireturn, 1) := by decide +kernel
theorem dX5_goWalk_0 : decode cX5_goWalk 0 = .ok (.aload_n 0, 1) := by decide +kernel
theorem dX5_goWalk_1 : decode cX5_goWalk 1 = .ok (.bipush (-9), 2) := by decide +kernel
theorem dX5_goWalk_3 : decode cX5_goWalk 3 = .ok (.putfield 156, 3) := by decide +kernel
theorem dX5_goWalk_6 : decode cX5_goWalk 6 = .ok (.aload_n 0, 1) := by decide +kernel
theorem dX5_goWalk_7 : decode cX5_goWalk 7 = .ok (.iload_n 1, 1) := by decide +kernel
theorem dX5_goWalk_8 : decode cX5_goWalk 8 = .ok (.putfield 159, 3) := by decide +kernel
theorem dX5_goWalk_11 : decode cX5_goWalk 11 = .ok (.aload_n 0, 1) := by decide +kernel
theorem dX5_goWalk_12 : decode cX5_goWalk 12 = .ok (.iconst 1, 1) := by decide +kernel
theorem dX5_goWalk_13 : decode cX5_goWalk 13 = .ok (.iload_n 1, 1) := by decide +kernel
theorem dX5_goWalk_14 : decode cX5_goWalk 14 = .ok (.ishl, 1) := by decide +kernel
theorem dX5_goWalk_15 : decode cX5_goWalk 15 = .ok (.putfield 162, 3) := by decide +kernel
theorem dX5_goWalk_18 : decode cX5_goWalk 18 = .ok (.aload_n 0, 1) := by decide +kernel
theorem dX5_goWalk_19 : decode cX5_goWalk 19 = .ok (.iconst 0, 1) := by decide +kernel
theorem dX5_goWalk_20 : decode cX5_goWalk 20 = .ok (.putfield 165, 3) := by decide +kernel
theorem dX5_goWalk_23 : decode cX5_goWalk 23 = .ok (.iconst 0, 1) := by decide +kernel
theorem dX5_goWalk_24 : decode cX5_goWalk 24 = .ok (.istore 4, 2) := by decide +kernel
theorem dX5_goWalk_26 : decode cX5_goWalk 26 = .ok (.iload 4, 2) := by decide +kernel
theorem dX5_goWalk_28 : decode cX5_goWalk 28 = .ok (.iload_n 3, 1) := by decide +kernel
theorem dX5_goWalk_29 : decode cX5_goWalk 29 = .ok (.if_icmp .ge 102, 3) := by decide +kernel
theorem dX5_goWalk_32 : decode cX5_goWalk 32 = .ok (.aload_n 0, 1) := by decide +kernel
theorem dX5_goWalk_33 : decode cX5_goWalk 33 = .ok (.getfield 156, 3) := by decide +kernel
theorem dX5_goWalk_36 : decode cX5_goWalk 36 = .ok (.ifCond .ge 95, 3) := by decide +kernel
theorem dX5_goWalk_39 : decode cX5_goWalk 39 = .ok (.aload_n 0, 1) := by decide +kernel
theorem dX5_goWalk_40 : decode cX5_goWalk 40 = .ok (.getfield 55, 3) := by decide +kernel
theorem dX5_goWalk_43 : decode cX5_goWalk 43 = .ok (.iload_n 2, 1) := by decide +kernel
theorem dX5_goWalk_44 : decode cX5_goWalk 44 = .ok (.iload 4, 2) := by decide +kernel
theorem dX5_goWalk_46 : decode cX5_goWalk 46 = .ok (.iadd, 1) := by decide +kernel
theorem dX5_goWalk_47 : decode cX5_goWalk 47 = .ok (.iaload, 1) := by decide +kernel
theorem dX5_goWalk_48 : decode cX5_goWalk 48 = .ok (.istore 5, 2) := by decide +kernel
theorem dX5_goWalk_50 : decode cX5_goWalk 50 = .ok (.aload_n 0, 1) := by decide +kernel
theorem dX5_goWalk_51 : decode cX5_goWalk 51 = .ok (.aload_n 0, 1) := by decide +kernel
theorem dX5_goWalk_52 : decode cX5_goWalk 52 = .ok (.getfield 159, 3) := by decide +kernel
theorem dX5_goWalk_55 : decode cX5_goWalk 55 = .ok (.iload 5, 2) := by decide +kernel
theorem dX5_goWalk_57 : decode cX5_goWalk 57 = .ok (.invokevirtual 168, 3) := by decide +kernel
theorem dX5_goWalk_60 : decode cX5_goWalk 60 = .ok (.istore 6, 2) := by decide +kernel
theorem dX5_goWalk_62 : decode cX5_goWalk 62 = .ok (.aload_n 0, 1) := by decide +kernel
theorem dX5_goWalk_63 : decode cX5_goWalk 63 = .ok (.iload 4, 2) := by decide +kernel
theorem dX5_goWalk_65 : decode cX5_goWalk 65 = .ok (.iconst 1, 1) := by decide +kernel
theorem dX5_goWalk_66 : decode cX5_goWalk 66 = .ok (.iadd, 1) := by decide +kernel
theorem dX5_goWalk_67 : decode cX5_goWalk 67 = .ok (.invokevirtual 153, 3) := by decide +kernel
theorem dX5_goWalk_70 : decode cX5_goWalk 70 = .ok (.iload 6, 2) := by decide +kernel
theorem dX5_goWalk_72 : decode cX5_goWalk 72 = .ok (.invokestatic 150, 3) := by decide +kernel
theorem dX5_goWalk_75 : decode cX5_goWalk 75 = .ok (.ifCond .eq 44, 3) := by decide +kernel
theorem dX5_goWalk_78 : decode cX5_goWalk 78 = .ok (.aload_n 0, 1) := by decide +kernel
theorem dX5_goWalk_79 : decode cX5_goWalk 79 = .ok (.iload 6, 2) := by decide +kernel
theorem dX5_goWalk_81 : decode cX5_goWalk 81 = .ok (.putfield 159, 3) := by decide +kernel
theorem dX5_goWalk_84 : decode cX5_goWalk 84 = .ok (.aload_n 0, 1) := by decide +kernel
theorem dX5_goWalk_85 : decode cX5_goWalk 85 = .ok (.dup, 1) := by decide +kernel
theorem dX5_goWalk_86 : decode cX5_goWalk 86 = .ok (.getfield 162, 3) := by decide +kernel
theorem dX5_goWalk_89 : decode cX5_goWalk 89 = .ok (.iconst 1, 1) := by decide +kernel
theorem dX5_goWalk_90 : decode cX5_goWalk 90 = .ok (.iload 6, 2) := by decide +kernel
theorem dX5_goWalk_92 : decode cX5_goWalk 92 = .ok (.ishl, 1) := by decide +kernel
theorem dX5_goWalk_93 : decode cX5_goWalk 93 = .ok (.ior, 1) := by decide +kernel
theorem dX5_goWalk_94 : decode cX5_goWalk 94 = .ok (.putfield 162, 3) := by decide +kernel
theorem dX5_goWalk_97 : decode cX5_goWalk 97 = .ok (.aload_n 0, 1) := by decide +kernel
theorem dX5_goWalk_98 : decode cX5_goWalk 98 = .ok (.dup, 1) := by decide +kernel
theorem dX5_goWalk_99 : decode cX5_goWalk 99 = .ok (.getfield 165, 3) := by decide +kernel
theorem dX5_goWalk_102 : decode cX5_goWalk 102 = .ok (.iload 5, 2) := by decide +kernel
theorem dX5_goWalk_104 : decode cX5_goWalk 104 = .ok (.ifCond .ne 7, 3) := by decide +kernel
theorem dX5_goWalk_107 : decode cX5_goWalk 107 = .ok (.iconst 1, 1) := by decide +kernel
theorem dX5_goWalk_108 : decode cX5_goWalk 108 = .ok (.goto 4, 3) := by decide +kernel
theorem dX5_goWalk_111 : decode cX5_goWalk 111 = .ok (.iconst 0, 1) := by decide +kernel
theorem dX5_goWalk_112 : decode cX5_goWalk 112 = .ok (.iadd, 1) := by decide +kernel
theorem dX5_goWalk_113 : decode cX5_goWalk 113 = .ok (.putfield 165, 3) := by decide +kernel
theorem dX5_goWalk_116 : decode cX5_goWalk 116 = .ok (.goto 9, 3) := by decide +kernel
theorem dX5_goWalk_119 : decode cX5_goWalk 119 = .ok (.aload_n 0, 1) := by decide +kernel
theorem dX5_goWalk_120 : decode cX5_goWalk 120 = .ok (.iload 4, 2) := by decide +kernel
theorem dX5_goWalk_122 : decode cX5_goWalk 122 = .ok (.putfield 156, 3) := by decide +kernel
theorem dX5_goWalk_125 : decode cX5_goWalk 125 = .ok (.iinc 4 1, 3) := by decide +kernel
theorem dX5_goWalk_128 : decode cX5_goWalk 128 = .ok (.goto (-102), 3) := by decide +kernel
theorem dX5_goWalk_131 : decode cX5_goWalk 131 = .ok (.return_, 1) := by decide +kernel
theorem dX5_walk_0 : decode cX5_walk 0 = .ok (.aload_n 0, 1) := by decide +kernel
theorem dX5_walk_1 : decode cX5_walk 1 = .ok (.iload_n 1, 1) := by decide +kernel
theorem dX5_walk_2 : decode cX5_walk 2 = .ok (.invokevirtual 134, 3) := by decide +kernel
theorem dX5_walk_5 : decode cX5_walk 5 = .ok (.ifCond .ne 10, 3) := by decide +kernel
theorem dX5_walk_8 : decode cX5_walk 8 = .ok (.iload_n 2, 1) := by decide +kernel
theorem dX5_walk_9 : decode cX5_walk 9 = .ok (.invokestatic 112, 3) := by decide +kernel
theorem dX5_walk_12 : decode cX5_walk 12 = .ok (.ifCond .eq 9, 3) := by decide +kernel
theorem dX5_walk_15 : decode cX5_walk 15 = .ok (.aload_n 0, 1) := by decide +kernel
theorem dX5_walk_16 : decode cX5_walk 16 = .ok (.iconst (-1), 1) := by decide +kernel
theorem dX5_walk_17 : decode cX5_walk 17 = .ok (.invokevirtual 116, 3) := by decide +kernel
theorem dX5_walk_20 : decode cX5_walk 20 = .ok (.ireturn, 1) := by decide +kernel
theorem dX5_walk_21 : decode cX5_walk 21 = .ok (.iload_n 3, 1) := by decide +kernel
theorem dX5_walk_22 : decode cX5_walk 22 = .ok (.i2l, 1) := by decide +kernel
theorem dX5_walk_23 : decode cX5_walk 23 = .ok (.lconst 0, 1) := by decide +kernel
theorem dX5_walk_24 : decode cX5_walk 24 = .ok (.ldc2_w 119, 3) := by decide +kernel
theorem dX5_walk_27 : decode cX5_walk 27 = .ok (.invokestatic 74, 3) := by decide +kernel
theorem dX5_walk_30 : decode cX5_walk 30 = .ok (.ifCond .eq 29, 3) := by decide +kernel
theorem dX5_walk_33 : decode cX5_walk 33 = .ok (.iload 5, 2) := by decide +kernel
theorem dX5_walk_35 : decode cX5_walk 35 = .ok (.i2l, 1) := by decide +kernel
theorem dX5_walk_36 : decode cX5_walk 36 = .ok (.lconst 0, 1) := by decide +kernel
theorem dX5_walk_37 : decode cX5_walk 37 = .ok (.ldc2_w 171, 3) := by decide +kernel
theorem dX5_walk_40 : decode cX5_walk 40 = .ok (.invokestatic 74, 3) := by decide +kernel
theorem dX5_walk_43 : decode cX5_walk 43 = .ok (.ifCond .eq 16, 3) := by decide +kernel
theorem dX5_walk_46 : decode cX5_walk 46 = .ok (.iload 6, 2) := by decide +kernel
theorem dX5_walk_48 : decode cX5_walk 48 = .ok (.i2l, 1) := by decide +kernel
theorem dX5_walk_49 : decode cX5_walk 49 = .ok (.lconst 0, 1) := by decide +kernel
theorem dX5_walk_50 : decode cX5_walk 50 = .ok (.ldc2_w 139, 3) := by decide +kernel
theorem dX5_walk_53 : decode cX5_walk 53 = .ok (.invokestatic 74, 3) := by decide +kernel
theorem dX5_walk_56 : decode cX5_walk 56 = .ok (.ifCond .ne 10, 3) := by decide +kernel
theorem dX5_walk_59 : decode cX5_walk 59 = .ok (.aload_n 0, 1) := by decide +kernel
theorem dX5_walk_60 : decode cX5_walk 60 = .ok (.bipush (-2), 2) := by decide +kernel
theorem dX5_walk_62 : decode cX5_walk 62 = .ok (.invokevirtual 116, 3) := by decide +kernel
theorem dX5_walk_65 : decode cX5_walk 65 = .ok (.ireturn, 1) := by decide +kernel
theorem dX5_walk_66 : decode cX5_walk 66 = .ok (.aload_n 0, 1) := by decide +kernel
theorem dX5_walk_67 : decode cX5_walk 67 = .ok (.iconst 0, 1) := by decide +kernel
theorem dX5_walk_68 : decode cX5_walk 68 = .ok (.invokevirtual 153, 3) := by decide +kernel
theorem dX5_walk_71 : decode cX5_walk 71 = .ok (.iload_n 1, 1) := by decide +kernel
theorem dX5_walk_72 : decode cX5_walk 72 = .ok (.invokestatic 150, 3) := by decide +kernel
theorem dX5_walk_75 : decode cX5_walk 75 = .ok (.ifCond .ne 10, 3) := by decide +kernel
theorem dX5_walk_78 : decode cX5_walk 78 = .ok (.aload_n 0, 1) := by decide +kernel
theorem dX5_walk_79 : decode cX5_walk 79 = .ok (.bipush (-3), 2) := by decide +kernel
theorem dX5_walk_81 : decode cX5_walk 81 = .ok (.invokevirtual 116, 3) := by decide +kernel
theorem dX5_walk_84 : decode cX5_walk 84 = .ok (.ireturn, 1) := by decide +kernel
theorem dX5_walk_85 : decode cX5_walk 85 = .ok (.aload_n 0, 1) := by decide +kernel
theorem dX5_walk_86 : decode cX5_walk 86 = .ok (.iload_n 2, 1) := by decide +kernel
theorem dX5_walk_87 : decode cX5_walk 87 = .ok (.iload_n 3, 1) := by decide +kernel
theorem dX5_walk_88 : decode cX5_walk 88 = .ok (.iload 4, 2) := by decide +kernel
theorem dX5_walk_90 : decode cX5_walk 90 = .ok (.iload 5, 2) := by decide +kernel
theorem dX5_walk_92 : decode cX5_walk 92 = .ok (.i2l, 1) := by decide +kernel
theorem dX5_walk_93 : decode cX5_walk 93 = .ok (.invokevirtual 121, 3) := by decide +kernel
theorem dX5_walk_96 : decode cX5_walk 96 = .ok (.istore 7, 2) := by decide +kernel
theorem dX5_walk_98 : decode cX5_walk 98 = .ok (.iload 7, 2) := by decide +kernel
theorem dX5_walk_100 : decode cX5_walk 100 = .ok (.ifCond .ge 6, 3) := by decide +kernel
theorem dX5_walk_103 : decode cX5_walk 103 = .ok (.iload 7, 2) := by decide +kernel
theorem dX5_walk_105 : decode cX5_walk 105 = .ok (.ireturn, 1) := by decide +kernel
theorem dX5_walk_106 : decode cX5_walk 106 = .ok (.iconst 0, 1) := by decide +kernel
theorem dX5_walk_107 : decode cX5_walk 107 = .ok (.istore 8, 2) := by decide +kernel
theorem dX5_walk_109 : decode cX5_walk 109 = .ok (.iload 8, 2) := by decide +kernel
theorem dX5_walk_111 : decode cX5_walk 111 = .ok (.iload 5, 2) := by decide +kernel
theorem dX5_walk_113 : decode cX5_walk 113 = .ok (.if_icmp .ge 42, 3) := by decide +kernel
theorem dX5_walk_116 : decode cX5_walk 116 = .ok (.aload_n 0, 1) := by decide +kernel
theorem dX5_walk_117 : decode cX5_walk 117 = .ok (.getfield 55, 3) := by decide +kernel
theorem dX5_walk_120 : decode cX5_walk 120 = .ok (.bipush 60, 2) := by decide +kernel
theorem dX5_walk_122 : decode cX5_walk 122 = .ok (.iload_n 2, 1) := by decide +kernel
theorem dX5_walk_123 : decode cX5_walk 123 = .ok (.imul, 1) := by decide +kernel
theorem dX5_walk_124 : decode cX5_walk 124 = .ok (.iload 4, 2) := by decide +kernel
theorem dX5_walk_126 : decode cX5_walk 126 = .ok (.iadd, 1) := by decide +kernel
theorem dX5_walk_127 : decode cX5_walk 127 = .ok (.iload 8, 2) := by decide +kernel
theorem dX5_walk_129 : decode cX5_walk 129 = .ok (.iadd, 1) := by decide +kernel
theorem dX5_walk_130 : decode cX5_walk 130 = .ok (.iaload, 1) := by decide +kernel
theorem dX5_walk_131 : decode cX5_walk 131 = .ok (.i2l, 1) := by decide +kernel
theorem dX5_walk_132 : decode cX5_walk 132 = .ok (.lconst 0, 1) := by decide +kernel
theorem dX5_walk_133 : decode cX5_walk 133 = .ok (.ldc2_w 119, 3) := by decide +kernel
theorem dX5_walk_136 : decode cX5_walk 136 = .ok (.invokestatic 74, 3) := by decide +kernel
theorem dX5_walk_139 : decode cX5_walk 139 = .ok (.ifCond .ne 10, 3) := by decide +kernel
theorem dX5_walk_142 : decode cX5_walk 142 = .ok (.aload_n 0, 1) := by decide +kernel
theorem dX5_walk_143 : decode cX5_walk 143 = .ok (.bipush (-2), 2) := by decide +kernel
theorem dX5_walk_145 : decode cX5_walk 145 = .ok (.invokevirtual 116, 3) := by decide +kernel
theorem dX5_walk_148 : decode cX5_walk 148 = .ok (.ireturn, 1) := by decide +kernel
theorem dX5_walk_149 : decode cX5_walk 149 = .ok (.iinc 8 1, 3) := by decide +kernel
theorem dX5_walk_152 : decode cX5_walk 152 = .ok (.goto (-43), 3) := by decide +kernel
theorem dX5_walk_155 : decode cX5_walk 155 = .ok (.aload_n 0, 1) := by decide +kernel
theorem dX5_walk_156 : decode cX5_walk 156 = .ok (.iload_n 1, 1) := by decide +kernel
theorem dX5_walk_157 : decode cX5_walk 157 = .ok (.bipush 60, 2) := by decide +kernel
theorem dX5_walk_159 : decode cX5_walk 159 = .ok (.iload_n 2, 1) := by decide +kernel
theorem dX5_walk_160 : decode cX5_walk 160 = .ok (.imul, 1) := by decide +kernel
theorem dX5_walk_161 : decode cX5_walk 161 = .ok (.iload 4, 2) := by decide +kernel
theorem dX5_walk_163 : decode cX5_walk 163 = .ok (.iadd, 1) := by decide +kernel
theorem dX5_walk_164 : decode cX5_walk 164 = .ok (.iload 5, 2) := by decide +kernel
theorem dX5_walk_166 : decode cX5_walk 166 = .ok (.invokevirtual 173, 3) := by decide +kernel
theorem dX5_walk_169 : decode cX5_walk 169 = .ok (.iload 6, 2) := by decide +kernel
theorem dX5_walk_171 : decode cX5_walk 171 = .ok (.iconst 1, 1) := by decide +kernel
theorem dX5_walk_172 : decode cX5_walk 172 = .ok (.if_icmp .ne 12, 3) := by decide +kernel
theorem dX5_walk_175 : decode cX5_walk 175 = .ok (.aload_n 0, 1) := by decide +kernel
theorem dX5_walk_176 : decode cX5_walk 176 = .ok (.aload_n 0, 1) := by decide +kernel
theorem dX5_walk_177 : decode cX5_walk 177 = .ok (.getfield 156, 3) := by decide +kernel
theorem dX5_walk_180 : decode cX5_walk 180 = .ok (.invokevirtual 116, 3) := by decide +kernel
theorem dX5_walk_183 : decode cX5_walk 183 = .ok (.ireturn, 1) := by decide +kernel
theorem dX5_walk_184 : decode cX5_walk 184 = .ok (.aload_n 0, 1) := by decide +kernel
theorem dX5_walk_185 : decode cX5_walk 185 = .ok (.getfield 156, 3) := by decide +kernel
theorem dX5_walk_188 : decode cX5_walk 188 = .ok (.ifCond .lt 15, 3) := by decide +kernel
theorem dX5_walk_191 : decode cX5_walk 191 = .ok (.aload_n 0, 1) := by decide +kernel
theorem dX5_walk_192 : decode cX5_walk 192 = .ok (.bipush (-100), 2) := by decide +kernel
theorem dX5_walk_194 : decode cX5_walk 194 = .ok (.aload_n 0, 1) := by decide +kernel
theorem dX5_walk_195 : decode cX5_walk 195 = .ok (.getfield 156, 3) := by decide +kernel
theorem dX5_walk_198 : decode cX5_walk 198 = .ok (.isub, 1) := by decide +kernel
theorem dX5_walk_199 : decode cX5_walk 199 = .ok (.invokevirtual 116, 3) := by decide +kernel
theorem dX5_walk_202 : decode cX5_walk 202 = .ok (.ireturn, 1) := by decide +kernel
theorem dX5_walk_203 : decode cX5_walk 203 = .ok (.aload_n 0, 1) := by decide +kernel
theorem dX5_walk_204 : decode cX5_walk 204 = .ok (.iload 6, 2) := by decide +kernel
theorem dX5_walk_206 : decode cX5_walk 206 = .ok (.ifCond .ne 10, 3) := by decide +kernel
theorem dX5_walk_209 : decode cX5_walk 209 = .ok (.aload_n 0, 1) := by decide +kernel
theorem dX5_walk_210 : decode cX5_walk 210 = .ok (.getfield 159, 3) := by decide +kernel
theorem dX5_walk_213 : decode cX5_walk 213 = .ok (.goto 20, 3) := by decide +kernel
theorem dX5_walk_216 : decode cX5_walk 216 = .ok (.iload 6, 2) := by decide +kernel
theorem dX5_walk_218 : decode cX5_walk 218 = .ok (.iconst 2, 1) := by decide +kernel
theorem dX5_walk_219 : decode cX5_walk 219 = .ok (.if_icmp .ne 10, 3) := by decide +kernel
theorem dX5_walk_222 : decode cX5_walk 222 = .ok (.aload_n 0, 1) := by decide +kernel
theorem dX5_walk_223 : decode cX5_walk 223 = .ok (.getfield 162, 3) := by decide +kernel
theorem dX5_walk_226 : decode cX5_walk 226 = .ok (.goto 7, 3) := by decide +kernel
theorem dX5_walk_229 : decode cX5_walk 229 = .ok (.aload_n 0, 1) := by decide +kernel
theorem dX5_walk_230 : decode cX5_walk 230 = .ok (.getfield 165, 3) := by decide +kernel
theorem dX5_walk_233 : decode cX5_walk 233 = .ok (.invokevirtual 116, 3) := by decide +kernel
theorem dX5_walk_236 : decode cX5_walk 236 = .ok (.ireturn, 1) := by decide +kernel
theorem dX5_setBehind_0 : decode cX5_setBehind 0 = .ok (.iconst 0, 1) := by decide +kernel
theorem dX5_setBehind_1 : decode cX5_setBehind 1 = .ok (.istore_n 3, 1) := by decide +kernel
theorem dX5_setBehind_2 : decode cX5_setBehind 2 = .ok (.iconst 0, 1) := by decide +kernel
theorem dX5_setBehind_3 : decode cX5_setBehind 3 = .ok (.istore 4, 2) := by decide +kernel
theorem dX5_setBehind_5 : decode cX5_setBehind 5 = .ok (.iload 4, 2) := by decide +kernel
theorem dX5_setBehind_7 : decode cX5_setBehind 7 = .ok (.aload_n 0, 1) := by decide +kernel
theorem dX5_setBehind_8 : decode cX5_setBehind 8 = .ok (.getfield 71, 3) := by decide +kernel
theorem dX5_setBehind_11 : decode cX5_setBehind 11 = .ok (.if_icmp .ge 49, 3) := by decide +kernel
theorem dX5_setBehind_14 : decode cX5_setBehind 14 = .ok (.iload_n 3, 1) := by decide +kernel
theorem dX5_setBehind_15 : decode cX5_setBehind 15 = .ok (.iload_n 1, 1) := by decide +kernel
theorem dX5_setBehind_16 : decode cX5_setBehind 16 = .ok (.iload 4, 2) := by decide +kernel
theorem dX5_setBehind_18 : decode cX5_setBehind 18 = .ok (.invokestatic 150, 3) := by decide +kernel
theorem dX5_setBehind_21 : decode cX5_setBehind 21 = .ok (.ifCond .eq 30, 3) := by decide +kernel
theorem dX5_setBehind_24 : decode cX5_setBehind 24 = .ok (.iconst 1, 1) := by decide +kernel
theorem dX5_setBehind_25 : decode cX5_setBehind 25 = .ok (.iload 4, 2) := by decide +kernel
theorem dX5_setBehind_27 : decode cX5_setBehind 27 = .ok (.ishl, 1) := by decide +kernel
theorem dX5_setBehind_28 : decode cX5_setBehind 28 = .ok (.iconst 1, 1) := by decide +kernel
theorem dX5_setBehind_29 : decode cX5_setBehind 29 = .ok (.aload_n 0, 1) := by decide +kernel
theorem dX5_setBehind_30 : decode cX5_setBehind 30 = .ok (.iload 4, 2) := by decide +kernel
theorem dX5_setBehind_32 : decode cX5_setBehind 32 = .ok (.iconst 1, 1) := by decide +kernel
theorem dX5_setBehind_33 : decode cX5_setBehind 33 = .ok (.invokevirtual 168, 3) := by decide +kernel
theorem dX5_setBehind_36 : decode cX5_setBehind 36 = .ok (.ishl, 1) := by decide +kernel
theorem dX5_setBehind_37 : decode cX5_setBehind 37 = .ok (.ior, 1) := by decide +kernel
theorem dX5_setBehind_38 : decode cX5_setBehind 38 = .ok (.iconst 1, 1) := by decide +kernel
theorem dX5_setBehind_39 : decode cX5_setBehind 39 = .ok (.aload_n 0, 1) := by decide +kernel
theorem dX5_setBehind_40 : decode cX5_setBehind 40 = .ok (.iload 4, 2) := by decide +kernel
theorem dX5_setBehind_42 : decode cX5_setBehind 42 = .ok (.iconst 2, 1) := by decide +kernel
theorem dX5_setBehind_43 : decode cX5_setBehind 43 = .ok (.invokevirtual 168, 3) := by decide +kernel
theorem dX5_setBehind_46 : decode cX5_setBehind 46 = .ok (.ishl, 1) := by decide +kernel
theorem dX5_setBehind_47 : decode cX5_setBehind 47 = .ok (.ior, 1) := by decide +kernel
theorem dX5_setBehind_48 : decode cX5_setBehind 48 = .ok (.goto 4, 3) := by decide +kernel
theorem dX5_setBehind_51 : decode cX5_setBehind 51 = .ok (.iconst 0, 1) := by decide +kernel
theorem dX5_setBehind_52 : decode cX5_setBehind 52 = .ok (.ior, 1) := by decide +kernel
theorem dX5_setBehind_53 : decode cX5_setBehind 53 = .ok (.istore_n 3, 1) := by decide +kernel
theorem dX5_setBehind_54 : decode cX5_setBehind 54 = .ok (.iinc 4 1, 3) := by decide +kernel
theorem dX5_setBehind_57 : decode cX5_setBehind 57 = .ok (.goto (-52), 3) := by decide +kernel
theorem dX5_setBehind_60 : decode cX5_setBehind 60 = .ok (.iload_n 3, 1) := by decide +kernel
theorem dX5_setBehind_61 : decode cX5_setBehind 61 = .ok (.aload_n 0, 1) := by decide +kernel
theorem dX5_setBehind_62 : decode cX5_setBehind 62 = .ok (.iload_n 2, 1) := by decide +kernel
theorem dX5_setBehind_63 : decode cX5_setBehind 63 = .ok (.iconst 1, 1) := by decide +kernel
theorem dX5_setBehind_64 : decode cX5_setBehind 64 = .ok (.iadd, 1) := by decide +kernel
theorem dX5_setBehind_65 : decode cX5_setBehind 65 = .ok (.invokevirtual 153, 3) := by decide +kernel
theorem dX5_setBehind_68 : decode cX5_setBehind 68 = .ok (.iand, 1) := by decide +kernel
theorem dX5_setBehind_69 : decode cX5_setBehind 69 = .ok (.ireturn, 1) := by decide +kernel
theorem dX5_soonestOf_0 : decode cX5_soonestOf 0 = .ok (.iconst 1, 1) := by decide +kernel
theorem dX5_soonestOf_1 : decode cX5_soonestOf 1 = .ok (.iload_n 1, 1) := by decide +kernel
theorem dX5_soonestOf_2 : decode cX5_soonestOf 2 = .ok (.ishl, 1) := by decide +kernel
theorem dX5_soonestOf_3 : decode cX5_soonestOf 3 = .ok (.aload_n 0, 1) := by decide +kernel
theorem dX5_soonestOf_4 : decode cX5_soonestOf 4 = .ok (.iconst 0, 1) := by decide +kernel
theorem dX5_soonestOf_5 : decode cX5_soonestOf 5 = .ok (.invokevirtual 153, 3) := by decide +kernel
theorem dX5_soonestOf_8 : decode cX5_soonestOf 8 = .ok (.iand, 1) := by decide +kernel
theorem dX5_soonestOf_9 : decode cX5_soonestOf 9 = .ok (.istore 4, 2) := by decide +kernel
theorem dX5_soonestOf_11 : decode cX5_soonestOf 11 = .ok (.iconst 0, 1) := by decide +kernel
theorem dX5_soonestOf_12 : decode cX5_soonestOf 12 = .ok (.istore 5, 2) := by decide +kernel
theorem dX5_soonestOf_14 : decode cX5_soonestOf 14 = .ok (.iload 5, 2) := by decide +kernel
theorem dX5_soonestOf_16 : decode cX5_soonestOf 16 = .ok (.iload_n 3, 1) := by decide +kernel
theorem dX5_soonestOf_17 : decode cX5_soonestOf 17 = .ok (.if_icmp .gt 31, 3) := by decide +kernel
theorem dX5_soonestOf_20 : decode cX5_soonestOf 20 = .ok (.iload 4, 2) := by decide +kernel
theorem dX5_soonestOf_22 : decode cX5_soonestOf 22 = .ok (.iload_n 2, 1) := by decide +kernel
theorem dX5_soonestOf_23 : decode cX5_soonestOf 23 = .ok (.invokestatic 150, 3) := by decide +kernel
theorem dX5_soonestOf_26 : decode cX5_soonestOf 26 = .ok (.ifCond .eq 6, 3) := by decide +kernel
theorem dX5_soonestOf_29 : decode cX5_soonestOf 29 = .ok (.iload 5, 2) := by decide +kernel
theorem dX5_soonestOf_31 : decode cX5_soonestOf 31 = .ok (.ireturn, 1) := by decide +kernel
theorem dX5_soonestOf_32 : decode cX5_soonestOf 32 = .ok (.aload_n 0, 1) := by decide +kernel
theorem dX5_soonestOf_33 : decode cX5_soonestOf 33 = .ok (.iload 4, 2) := by decide +kernel
theorem dX5_soonestOf_35 : decode cX5_soonestOf 35 = .ok (.iload 5, 2) := by decide +kernel
theorem dX5_soonestOf_37 : decode cX5_soonestOf 37 = .ok (.invokevirtual 177, 3) := by decide +kernel
theorem dX5_soonestOf_40 : decode cX5_soonestOf 40 = .ok (.istore 4, 2) := by decide +kernel
theorem dX5_soonestOf_42 : decode cX5_soonestOf 42 = .ok (.iinc 5 1, 3) := by decide +kernel
theorem dX5_soonestOf_45 : decode cX5_soonestOf 45 = .ok (.goto (-31), 3) := by decide +kernel
theorem dX5_soonestOf_48 : decode cX5_soonestOf 48 = .ok (.bipush (-9), 2) := by decide +kernel
theorem dX5_soonestOf_50 : decode cX5_soonestOf 50 = .ok (.ireturn, 1) := by decide +kernel
theorem dX5_goBack_0 : decode cX5_goBack 0 = .ok (.aload_n 0, 1) := by decide +kernel
theorem dX5_goBack_1 : decode cX5_goBack 1 = .ok (.getfield 37, 3) := by decide +kernel
theorem dX5_goBack_4 : decode cX5_goBack 4 = .ok (.iload_n 2, 1) := by decide +kernel
theorem dX5_goBack_5 : decode cX5_goBack 5 = .ok (.iconst 1, 1) := by decide +kernel
theorem dX5_goBack_6 : decode cX5_goBack 6 = .ok (.iload_n 1, 1) := by decide +kernel
theorem dX5_goBack_7 : decode cX5_goBack 7 = .ok (.ishl, 1) := by decide +kernel
theorem dX5_goBack_8 : decode cX5_goBack 8 = .ok (.iastore, 1) := by decide +kernel
theorem dX5_goBack_9 : decode cX5_goBack 9 = .ok (.iload_n 2, 1) := by decide +kernel
theorem dX5_goBack_10 : decode cX5_goBack 10 = .ok (.iconst 1, 1) := by decide +kernel
theorem dX5_goBack_11 : decode cX5_goBack 11 = .ok (.isub, 1) := by decide +kernel
theorem dX5_goBack_12 : decode cX5_goBack 12 = .ok (.istore_n 3, 1) := by decide +kernel
theorem dX5_goBack_13 : decode cX5_goBack 13 = .ok (.iload_n 3, 1) := by decide +kernel
theorem dX5_goBack_14 : decode cX5_goBack 14 = .ok (.ifCond .lt 97, 3) := by decide +kernel
theorem dX5_goBack_17 : decode cX5_goBack 17 = .ok (.iconst 0, 1) := by decide +kernel
theorem dX5_goBack_18 : decode cX5_goBack 18 = .ok (.istore 4, 2) := by decide +kernel
theorem dX5_goBack_20 : decode cX5_goBack 20 = .ok (.iconst 0, 1) := by decide +kernel
theorem dX5_goBack_21 : decode cX5_goBack 21 = .ok (.istore 5, 2) := by decide +kernel
theorem dX5_goBack_23 : decode cX5_goBack 23 = .ok (.iload 5, 2) := by decide +kernel
theorem dX5_goBack_25 : decode cX5_goBack 25 = .ok (.aload_n 0, 1) := by decide +kernel
theorem dX5_goBack_26 : decode cX5_goBack 26 = .ok (.getfield 71, 3) := by decide +kernel
theorem dX5_goBack_29 : decode cX5_goBack 29 = .ok (.if_icmp .ge 62, 3) := by decide +kernel
theorem dX5_goBack_32 : decode cX5_goBack 32 = .ok (.iconst 1, 1) := by decide +kernel
theorem dX5_goBack_33 : decode cX5_goBack 33 = .ok (.iload 5, 2) := by decide +kernel
theorem dX5_goBack_35 : decode cX5_goBack 35 = .ok (.ishl, 1) := by decide +kernel
theorem dX5_goBack_36 : decode cX5_goBack 36 = .ok (.iconst 1, 1) := by decide +kernel
theorem dX5_goBack_37 : decode cX5_goBack 37 = .ok (.aload_n 0, 1) := by decide +kernel
theorem dX5_goBack_38 : decode cX5_goBack 38 = .ok (.iload 5, 2) := by decide +kernel
theorem dX5_goBack_40 : decode cX5_goBack 40 = .ok (.iconst 1, 1) := by decide +kernel
theorem dX5_goBack_41 : decode cX5_goBack 41 = .ok (.invokevirtual 168, 3) := by decide +kernel
theorem dX5_goBack_44 : decode cX5_goBack 44 = .ok (.ishl, 1) := by decide +kernel
theorem dX5_goBack_45 : decode cX5_goBack 45 = .ok (.ior, 1) := by decide +kernel
theorem dX5_goBack_46 : decode cX5_goBack 46 = .ok (.iconst 1, 1) := by decide +kernel
theorem dX5_goBack_47 : decode cX5_goBack 47 = .ok (.aload_n 0, 1) := by decide +kernel
theorem dX5_goBack_48 : decode cX5_goBack 48 = .ok (.iload 5, 2) := by decide +kernel
theorem dX5_goBack_50 : decode cX5_goBack 50 = .ok (.iconst 2, 1) := by decide +kernel
theorem dX5_goBack_51 : decode cX5_goBack 51 = .ok (.invokevirtual 168, 3) := by decide +kernel
theorem dX5_goBack_54 : decode cX5_goBack 54 = .ok (.ishl, 1) := by decide +kernel
theorem dX5_goBack_55 : decode cX5_goBack 55 = .ok (.ior, 1) := by decide +kernel
theorem dX5_goBack_56 : decode cX5_goBack 56 = .ok (.istore 6, 2) := by decide +kernel
theorem dX5_goBack_58 : decode cX5_goBack 58 = .ok (.iload 4, 2) := by decide +kernel
theorem dX5_goBack_60 : decode cX5_goBack 60 = .ok (.iload 6, 2) := by decide +kernel
theorem dX5_goBack_62 : decode cX5_goBack 62 = .ok (.aload_n 0, 1) := by decide +kernel
theorem dX5_goBack_63 : decode cX5_goBack 63 = .ok (.getfield 37, 3) := by decide +kernel
theorem dX5_goBack_66 : decode cX5_goBack 66 = .ok (.iload_n 3, 1) := by decide +kernel
theorem dX5_goBack_67 : decode cX5_goBack 67 = .ok (.iconst 1, 1) := by decide +kernel
theorem dX5_goBack_68 : decode cX5_goBack 68 = .ok (.iadd, 1) := by decide +kernel
theorem dX5_goBack_69 : decode cX5_goBack 69 = .ok (.iaload, 1) := by decide +kernel
theorem dX5_goBack_70 : decode cX5_goBack 70 = .ok (.iand, 1) := by decide +kernel
theorem dX5_goBack_71 : decode cX5_goBack 71 = .ok (.ifCond .eq 10, 3) := by decide +kernel
theorem dX5_goBack_74 : decode cX5_goBack 74 = .ok (.iconst 1, 1) := by decide +kernel
theorem dX5_goBack_75 : decode cX5_goBack 75 = .ok (.iload 5, 2) := by decide +kernel
theorem dX5_goBack_77 : decode cX5_goBack 77 = .ok (.ishl, 1) := by decide +kernel
theorem dX5_goBack_78 : decode cX5_goBack 78 = .ok (.goto 4, 3) := by decide +kernel
theorem dX5_goBack_81 : decode cX5_goBack 81 = .ok (.iconst 0, 1) := by decide +kernel
theorem dX5_goBack_82 : decode cX5_goBack 82 = .ok (.ior, 1) := by decide +kernel
theorem dX5_goBack_83 : decode cX5_goBack 83 = .ok (.istore 4, 2) := by decide +kernel
theorem dX5_goBack_85 : decode cX5_goBack 85 = .ok (.iinc 5 1, 3) := by decide +kernel
theorem dX5_goBack_88 : decode cX5_goBack 88 = .ok (.goto (-65), 3) := by decide +kernel
theorem dX5_goBack_91 : decode cX5_goBack 91 = .ok (.aload_n 0, 1) := by decide +kernel
theorem dX5_goBack_92 : decode cX5_goBack 92 = .ok (.getfield 37, 3) := by decide +kernel
theorem dX5_goBack_95 : decode cX5_goBack 95 = .ok (.iload_n 3, 1) := by decide +kernel
theorem dX5_goBack_96 : decode cX5_goBack 96 = .ok (.iload 4, 2) := by decide +kernel
theorem dX5_goBack_98 : decode cX5_goBack 98 = .ok (.aload_n 0, 1) := by decide +kernel
theorem dX5_goBack_99 : decode cX5_goBack 99 = .ok (.iload_n 3, 1) := by decide +kernel
theorem dX5_goBack_100 : decode cX5_goBack 100 = .ok (.invokevirtual 153, 3) := by decide +kernel
theorem dX5_goBack_103 : decode cX5_goBack 103 = .ok (.iand, 1) := by decide +kernel
theorem dX5_goBack_104 : decode cX5_goBack 104 = .ok (.iastore, 1) := by decide +kernel
theorem dX5_goBack_105 : decode cX5_goBack 105 = .ok (.iinc 3 (-1), 3) := by decide +kernel
theorem dX5_goBack_108 : decode cX5_goBack 108 = .ok (.goto (-95), 3) := by decide +kernel
theorem dX5_goBack_111 : decode cX5_goBack 111 = .ok (.return_, 1) := by decide +kernel
theorem dX5_soonest_0 : decode cX5_soonest 0 = .ok (.aload_n 0, 1) := by decide +kernel
theorem dX5_soonest_1 : decode cX5_soonest 1 = .ok (.iload_n 1, 1) := by decide +kernel
theorem dX5_soonest_2 : decode cX5_soonest 2 = .ok (.invokevirtual 134, 3) := by decide +kernel
theorem dX5_soonest_5 : decode cX5_soonest 5 = .ok (.ifCond .ne 11, 3) := by decide +kernel
theorem dX5_soonest_8 : decode cX5_soonest 8 = .ok (.aload_n 0, 1) := by decide +kernel
theorem dX5_soonest_9 : decode cX5_soonest 9 = .ok (.iload_n 2, 1) := by decide +kernel
theorem dX5_soonest_10 : decode cX5_soonest 10 = .ok (.invokevirtual 134, 3) := by decide +kernel
theorem dX5_soonest_13 : decode cX5_soonest 13 = .ok (.ifCond .eq 5, 3) := by decide +kernel
theorem dX5_soonest_16 : decode cX5_soonest 16 = .ok (.iconst (-1), 1) := by decide +kernel
theorem dX5_soonest_17 : decode cX5_soonest 17 = .ok (.ireturn, 1) := by decide +kernel
theorem dX5_soonest_18 : decode cX5_soonest 18 = .ok (.iload_n 3, 1) := by decide +kernel
theorem dX5_soonest_19 : decode cX5_soonest 19 = .ok (.i2l, 1) := by decide +kernel
theorem dX5_soonest_20 : decode cX5_soonest 20 = .ok (.ldc2_w 180, 3) := by decide +kernel
theorem dX5_soonest_23 : decode cX5_soonest 23 = .ok (.ldc2_w 182, 3) := by decide +kernel
theorem dX5_soonest_26 : decode cX5_soonest 26 = .ok (.invokestatic 74, 3) := by decide +kernel
theorem dX5_soonest_29 : decode cX5_soonest 29 = .ok (.ifCond .ne 6, 3) := by decide +kernel
theorem dX5_soonest_32 : decode cX5_soonest 32 = .ok (.bipush (-2), 2) := by decide +kernel
theorem dX5_soonest_34 : decode cX5_soonest 34 = .ok (.ireturn, 1) := by decide +kernel
theorem dX5_soonest_35 : decode cX5_soonest 35 = .ok (.aload_n 0, 1) := by decide +kernel
theorem dX5_soonest_36 : decode cX5_soonest 36 = .ok (.iconst 0, 1) := by decide +kernel
theorem dX5_soonest_37 : decode cX5_soonest 37 = .ok (.invokevirtual 153, 3) := by decide +kernel
theorem dX5_soonest_40 : decode cX5_soonest 40 = .ok (.iload_n 1, 1) := by decide +kernel
theorem dX5_soonest_41 : decode cX5_soonest 41 = .ok (.invokestatic 150, 3) := by decide +kernel
theorem dX5_soonest_44 : decode cX5_soonest 44 = .ok (.ifCond .ne 6, 3) := by decide +kernel
theorem dX5_soonest_47 : decode cX5_soonest 47 = .ok (.bipush (-3), 2) := by decide +kernel
theorem dX5_soonest_49 : decode cX5_soonest 49 = .ok (.ireturn, 1) := by decide +kernel
theorem dX5_soonest_50 : decode cX5_soonest 50 = .ok (.aload_n 0, 1) := by decide +kernel
theorem dX5_soonest_51 : decode cX5_soonest 51 = .ok (.iload_n 1, 1) := by decide +kernel
theorem dX5_soonest_52 : decode cX5_soonest 52 = .ok (.iload_n 2, 1) := by decide +kernel
theorem dX5_soonest_53 : decode cX5_soonest 53 = .ok (.bipush 60, 2) := by decide +kernel
theorem dX5_soonest_55 : decode cX5_soonest 55 = .ok (.invokevirtual 184, 3) := by decide +kernel
theorem dX5_soonest_58 : decode cX5_soonest 58 = .ok (.istore 4, 2) := by decide +kernel
theorem dX5_soonest_60 : decode cX5_soonest 60 = .ok (.iload_n 3, 1) := by decide +kernel
theorem dX5_soonest_61 : decode cX5_soonest 61 = .ok (.ifCond .lt 9, 3) := by decide +kernel
theorem dX5_soonest_64 : decode cX5_soonest 64 = .ok (.iload_n 3, 1) := by decide +kernel
theorem dX5_soonest_65 : decode cX5_soonest 65 = .ok (.iload 4, 2) := by decide +kernel
theorem dX5_soonest_67 : decode cX5_soonest 67 = .ok (.if_icmp .lt 15, 3) := by decide +kernel
theorem dX5_soonest_70 : decode cX5_soonest 70 = .ok (.iload_n 3, 1) := by decide +kernel
theorem dX5_soonest_71 : decode cX5_soonest 71 = .ok (.ifCond .ge 8, 3) := by decide +kernel
theorem dX5_soonest_74 : decode cX5_soonest 74 = .ok (.iload 4, 2) := by decide +kernel
theorem dX5_soonest_76 : decode cX5_soonest 76 = .ok (.goto 5, 3) := by decide +kernel
theorem dX5_soonest_79 : decode cX5_soonest 79 = .ok (.bipush (-9), 2) := by decide +kernel
theorem dX5_soonest_81 : decode cX5_soonest 81 = .ok (.ireturn, 1) := by decide +kernel
theorem dX5_soonest_82 : decode cX5_soonest 82 = .ok (.aload_n 0, 1) := by decide +kernel
theorem dX5_soonest_83 : decode cX5_soonest 83 = .ok (.iload_n 2, 1) := by decide +kernel
theorem dX5_soonest_84 : decode cX5_soonest 84 = .ok (.iload 4, 2) := by decide +kernel
theorem dX5_soonest_86 : decode cX5_soonest 86 = .ok (.invokevirtual 188, 3) := by decide +kernel
theorem dX5_soonest_89 : decode cX5_soonest 89 = .ok (.iload_n 1, 1) := by decide +kernel
theorem dX5_soonest_90 : decode cX5_soonest 90 = .ok (.istore 5, 2) := by decide +kernel
theorem dX5_soonest_92 : decode cX5_soonest 92 = .ok (.bipush (-9), 2) := by decide +kernel
theorem dX5_soonest_94 : decode cX5_soonest 94 = .ok (.istore 6, 2) := by decide +kernel
theorem dX5_soonest_96 : decode cX5_soonest 96 = .ok (.iconst 0, 1) := by decide +kernel
theorem dX5_soonest_97 : decode cX5_soonest 97 = .ok (.istore 7, 2) := by decide +kernel
theorem dX5_soonest_99 : decode cX5_soonest 99 = .ok (.iload 7, 2) := by decide +kernel
theorem dX5_soonest_101 : decode cX5_soonest 101 = .ok (.iload_n 3, 1) := by decide +kernel
theorem dX5_soonest_102 : decode cX5_soonest 102 = .ok (.if_icmp .gt 80, 3) := by decide +kernel
theorem dX5_soonest_105 : decode cX5_soonest 105 = .ok (.iconst 2, 1) := by decide +kernel
theorem dX5_soonest_106 : decode cX5_soonest 106 = .ok (.istore 8, 2) := by decide +kernel
theorem dX5_soonest_108 : decode cX5_soonest 108 = .ok (.iload 8, 2) := by decide +kernel
theorem dX5_soonest_110 : decode cX5_soonest 110 = .ok (.ifCond .lt 41, 3) := by decide +kernel
theorem dX5_soonest_113 : decode cX5_soonest 113 = .ok (.aload_n 0, 1) := by decide +kernel
theorem dX5_soonest_114 : decode cX5_soonest 114 = .ok (.getfield 37, 3) := by decide +kernel
theorem dX5_soonest_117 : decode cX5_soonest 117 = .ok (.iload 7, 2) := by decide +kernel
theorem dX5_soonest_119 : decode cX5_soonest 119 = .ok (.iconst 1, 1) := by decide +kernel
theorem dX5_soonest_120 : decode cX5_soonest 120 = .ok (.iadd, 1) := by decide +kernel
theorem dX5_soonest_121 : decode cX5_soonest 121 = .ok (.iaload, 1) := by decide +kernel
theorem dX5_soonest_122 : decode cX5_soonest 122 = .ok (.aload_n 0, 1) := by decide +kernel
theorem dX5_soonest_123 : decode cX5_soonest 123 = .ok (.iload 5, 2) := by decide +kernel
theorem dX5_soonest_125 : decode cX5_soonest 125 = .ok (.iload 8, 2) := by decide +kernel
theorem dX5_soonest_127 : decode cX5_soonest 127 = .ok (.invokevirtual 168, 3) := by decide +kernel
theorem dX5_soonest_130 : decode cX5_soonest 130 = .ok (.invokestatic 150, 3) := by decide +kernel
theorem dX5_soonest_133 : decode cX5_soonest 133 = .ok (.ifCond .eq 8, 3) := by decide +kernel
theorem dX5_soonest_136 : decode cX5_soonest 136 = .ok (.iload 8, 2) := by decide +kernel
theorem dX5_soonest_138 : decode cX5_soonest 138 = .ok (.goto 5, 3) := by decide +kernel
theorem dX5_soonest_141 : decode cX5_soonest 141 = .ok (.iload 6, 2) := by decide +kernel
theorem dX5_soonest_143 : decode cX5_soonest 143 = .ok (.istore 6, 2) := by decide +kernel
theorem dX5_soonest_145 : decode cX5_soonest 145 = .ok (.iinc 8 (-1), 3) := by decide +kernel
theorem dX5_soonest_148 : decode cX5_soonest 148 = .ok (.goto (-40), 3) := by decide +kernel
theorem dX5_soonest_151 : decode cX5_soonest 151 = .ok (.aload_n 0, 1) := by decide +kernel
theorem dX5_soonest_152 : decode cX5_soonest 152 = .ok (.iload 5, 2) := by decide +kernel
theorem dX5_soonest_154 : decode cX5_soonest 154 = .ok (.iload 6, 2) := by decide +kernel
theorem dX5_soonest_156 : decode cX5_soonest 156 = .ok (.invokevirtual 168, 3) := by decide +kernel
theorem dX5_soonest_159 : decode cX5_soonest 159 = .ok (.istore 5, 2) := by decide +kernel
theorem dX5_soonest_161 : decode cX5_soonest 161 = .ok (.iload 7, 2) := by decide +kernel
theorem dX5_soonest_163 : decode cX5_soonest 163 = .ok (.iload_n 3, 1) := by decide +kernel
theorem dX5_soonest_164 : decode cX5_soonest 164 = .ok (.if_icmp .ge 8, 3) := by decide +kernel
theorem dX5_soonest_167 : decode cX5_soonest 167 = .ok (.bipush (-9), 2) := by decide +kernel
theorem dX5_soonest_169 : decode cX5_soonest 169 = .ok (.goto 5, 3) := by decide +kernel
theorem dX5_soonest_172 : decode cX5_soonest 172 = .ok (.iload 6, 2) := by decide +kernel
theorem dX5_soonest_174 : decode cX5_soonest 174 = .ok (.istore 6, 2) := by decide +kernel
theorem dX5_soonest_176 : decode cX5_soonest 176 = .ok (.iinc 7 1, 3) := by decide +kernel
theorem dX5_soonest_179 : decode cX5_soonest 179 = .ok (.goto (-80), 3) := by decide +kernel
theorem dX5_soonest_182 : decode cX5_soonest 182 = .ok (.iload 6, 2) := by decide +kernel
theorem dX5_soonest_184 : decode cX5_soonest 184 = .ok (.ireturn, 1) := by decide +kernel
theorem dX5_steer_0 : decode cX5_steer 0 = .ok (.aload_n 0, 1) := by decide +kernel
theorem dX5_steer_1 : decode cX5_steer 1 = .ok (.iload_n 1, 1) := by decide +kernel
theorem dX5_steer_2 : decode cX5_steer 2 = .ok (.invokevirtual 131, 3) := by decide +kernel
theorem dX5_steer_5 : decode cX5_steer 5 = .ok (.ifCond .ne 11, 3) := by decide +kernel
theorem dX5_steer_8 : decode cX5_steer 8 = .ok (.aload_n 0, 1) := by decide +kernel
theorem dX5_steer_9 : decode cX5_steer 9 = .ok (.iload_n 2, 1) := by decide +kernel
theorem dX5_steer_10 : decode cX5_steer 10 = .ok (.invokevirtual 134, 3) := by decide +kernel
theorem dX5_steer_13 : decode cX5_steer 13 = .ok (.ifCond .eq 5, 3) := by decide +kernel
theorem dX5_steer_16 : decode cX5_steer 16 = .ok (.iconst (-1), 1) := by decide +kernel
theorem dX5_steer_17 : decode cX5_steer 17 = .ok (.ireturn, 1) := by decide +kernel
theorem dX5_steer_18 : decode cX5_steer 18 = .ok (.iload_n 3, 1) := by decide +kernel
theorem dX5_steer_19 : decode cX5_steer 19 = .ok (.invokestatic 141, 3) := by decide +kernel
theorem dX5_steer_22 : decode cX5_steer 22 = .ok (.ifCond .eq 6, 3) := by decide +kernel
theorem dX5_steer_25 : decode cX5_steer 25 = .ok (.bipush (-2), 2) := by decide +kernel
theorem dX5_steer_27 : decode cX5_steer 27 = .ok (.ireturn, 1) := by decide +kernel
theorem dX5_steer_28 : decode cX5_steer 28 = .ok (.aload_n 0, 1) := by decide +kernel
theorem dX5_steer_29 : decode cX5_steer 29 = .ok (.getfield 19, 3) := by decide +kernel
theorem dX5_steer_32 : decode cX5_steer 32 = .ok (.iload_n 1, 1) := by decide +kernel
theorem dX5_steer_33 : decode cX5_steer 33 = .ok (.iaload, 1) := by decide +kernel
theorem dX5_steer_34 : decode cX5_steer 34 = .ok (.istore 4, 2) := by decide +kernel
theorem dX5_steer_36 : decode cX5_steer 36 = .ok (.bipush (-9), 2) := by decide +kernel
theorem dX5_steer_38 : decode cX5_steer 38 = .ok (.istore 5, 2) := by decide +kernel
theorem dX5_steer_40 : decode cX5_steer 40 = .ok (.bipush 9, 2) := by decide +kernel
theorem dX5_steer_42 : decode cX5_steer 42 = .ok (.istore 6, 2) := by decide +kernel
theorem dX5_steer_44 : decode cX5_steer 44 = .ok (.iconst 0, 1) := by decide +kernel
theorem dX5_steer_45 : decode cX5_steer 45 = .ok (.istore 7, 2) := by decide +kernel
theorem dX5_steer_47 : decode cX5_steer 47 = .ok (.iload 7, 2) := by decide +kernel
theorem dX5_steer_49 : decode cX5_steer 49 = .ok (.iconst 4, 1) := by decide +kernel
theorem dX5_steer_50 : decode cX5_steer 50 = .ok (.if_icmp .ge 91, 3) := by decide +kernel
theorem dX5_steer_53 : decode cX5_steer 53 = .ok (.aload_n 0, 1) := by decide +kernel
theorem dX5_steer_54 : decode cX5_steer 54 = .ok (.getfield 19, 3) := by decide +kernel
theorem dX5_steer_57 : decode cX5_steer 57 = .ok (.iload_n 1, 1) := by decide +kernel
theorem dX5_steer_58 : decode cX5_steer 58 = .ok (.iload 7, 2) := by decide +kernel
theorem dX5_steer_60 : decode cX5_steer 60 = .ok (.iastore, 1) := by decide +kernel
theorem dX5_steer_61 : decode cX5_steer 61 = .ok (.iload 7, 2) := by decide +kernel
theorem dX5_steer_63 : decode cX5_steer 63 = .ok (.iload 4, 2) := by decide +kernel
theorem dX5_steer_65 : decode cX5_steer 65 = .ok (.if_icmp .ge 11, 3) := by decide +kernel
theorem dX5_steer_68 : decode cX5_steer 68 = .ok (.iload 4, 2) := by decide +kernel
theorem dX5_steer_70 : decode cX5_steer 70 = .ok (.iload 7, 2) := by decide +kernel
theorem dX5_steer_72 : decode cX5_steer 72 = .ok (.isub, 1) := by decide +kernel
theorem dX5_steer_73 : decode cX5_steer 73 = .ok (.goto 8, 3) := by decide +kernel
theorem dX5_steer_76 : decode cX5_steer 76 = .ok (.iload 7, 2) := by decide +kernel
theorem dX5_steer_78 : decode cX5_steer 78 = .ok (.iload 4, 2) := by decide +kernel
theorem dX5_steer_80 : decode cX5_steer 80 = .ok (.isub, 1) := by decide +kernel
theorem dX5_steer_81 : decode cX5_steer 81 = .ok (.istore 8, 2) := by decide +kernel
theorem dX5_steer_83 : decode cX5_steer 83 = .ok (.aload_n 0, 1) := by decide +kernel
theorem dX5_steer_84 : decode cX5_steer 84 = .ok (.iload_n 1, 1) := by decide +kernel
theorem dX5_steer_85 : decode cX5_steer 85 = .ok (.iload_n 3, 1) := by decide +kernel
theorem dX5_steer_86 : decode cX5_steer 86 = .ok (.invokevirtual 144, 3) := by decide +kernel
theorem dX5_steer_89 : decode cX5_steer 89 = .ok (.iload_n 2, 1) := by decide +kernel
theorem dX5_steer_90 : decode cX5_steer 90 = .ok (.if_icmp .ne 14, 3) := by decide +kernel
theorem dX5_steer_93 : decode cX5_steer 93 = .ok (.iload 8, 2) := by decide +kernel
theorem dX5_steer_95 : decode cX5_steer 95 = .ok (.iload 6, 2) := by decide +kernel
theorem dX5_steer_97 : decode cX5_steer 97 = .ok (.if_icmp .ge 7, 3) := by decide +kernel
theorem dX5_steer_100 : decode cX5_steer 100 = .ok (.iconst 1, 1) := by decide +kernel
theorem dX5_steer_101 : decode cX5_steer 101 = .ok (.goto 4, 3) := by decide +kernel
theorem dX5_steer_104 : decode cX5_steer 104 = .ok (.iconst 0, 1) := by decide +kernel
theorem dX5_steer_105 : decode cX5_steer 105 = .ok (.istore 9, 2) := by decide +kernel
theorem dX5_steer_107 : decode cX5_steer 107 = .ok (.iload 9, 2) := by decide +kernel
theorem dX5_steer_109 : decode cX5_steer 109 = .ok (.ifCond .eq 8, 3) := by decide +kernel
theorem dX5_steer_112 : decode cX5_steer 112 = .ok (.iload 7, 2) := by decide +kernel
theorem dX5_steer_114 : decode cX5_steer 114 = .ok (.goto 5, 3) := by decide +kernel
theorem dX5_steer_117 : decode cX5_steer 117 = .ok (.iload 5, 2) := by decide +kernel
theorem dX5_steer_119 : decode cX5_steer 119 = .ok (.istore 5, 2) := by decide +kernel
theorem dX5_steer_121 : decode cX5_steer 121 = .ok (.iload 9, 2) := by decide +kernel
theorem dX5_steer_123 : decode cX5_steer 123 = .ok (.ifCond .eq 8, 3) := by decide +kernel
theorem dX5_steer_126 : decode cX5_steer 126 = .ok (.iload 8, 2) := by decide +kernel
theorem dX5_steer_128 : decode cX5_steer 128 = .ok (.goto 5, 3) := by decide +kernel
theorem dX5_steer_131 : decode cX5_steer 131 = .ok (.iload 6, 2) := by decide +kernel
theorem dX5_steer_133 : decode cX5_steer 133 = .ok (.istore 6, 2) := by decide +kernel
theorem dX5_steer_135 : decode cX5_steer 135 = .ok (.iinc 7 1, 3) := by decide +kernel
theorem dX5_steer_138 : decode cX5_steer 138 = .ok (.goto (-91), 3) := by decide +kernel
theorem dX5_steer_141 : decode cX5_steer 141 = .ok (.aload_n 0, 1) := by decide +kernel
theorem dX5_steer_142 : decode cX5_steer 142 = .ok (.getfield 19, 3) := by decide +kernel
theorem dX5_steer_145 : decode cX5_steer 145 = .ok (.iload_n 1, 1) := by decide +kernel
theorem dX5_steer_146 : decode cX5_steer 146 = .ok (.iload 4, 2) := by decide +kernel
theorem dX5_steer_148 : decode cX5_steer 148 = .ok (.iastore, 1) := by decide +kernel
theorem dX5_steer_149 : decode cX5_steer 149 = .ok (.iload 5, 2) := by decide +kernel
theorem dX5_steer_151 : decode cX5_steer 151 = .ok (.ireturn, 1) := by decide +kernel
theorem dX5_guardedAt_0 : decode cX5_guardedAt 0 = .ok (.iconst 0, 1) := by decide +kernel
theorem dX5_guardedAt_1 : decode cX5_guardedAt 1 = .ok (.istore_n 2, 1) := by decide +kernel
theorem dX5_guardedAt_2 : decode cX5_guardedAt 2 = .ok (.iconst 0, 1) := by decide +kernel
theorem dX5_guardedAt_3 : decode cX5_guardedAt 3 = .ok (.istore_n 3, 1) := by decide +kernel
theorem dX5_guardedAt_4 : decode cX5_guardedAt 4 = .ok (.iload_n 3, 1) := by decide +kernel
theorem dX5_guardedAt_5 : decode cX5_guardedAt 5 = .ok (.aload_n 0, 1) := by decide +kernel
theorem dX5_guardedAt_6 : decode cX5_guardedAt 6 = .ok (.getfield 78, 3) := by decide +kernel
theorem dX5_guardedAt_9 : decode cX5_guardedAt 9 = .ok (.bipush 61, 2) := by decide +kernel
theorem dX5_guardedAt_11 : decode cX5_guardedAt 11 = .ok (.imul, 1) := by decide +kernel
theorem dX5_guardedAt_12 : decode cX5_guardedAt 12 = .ok (.if_icmp .ge 44, 3) := by decide +kernel
theorem dX5_guardedAt_15 : decode cX5_guardedAt 15 = .ok (.iload_n 3, 1) := by decide +kernel
theorem dX5_guardedAt_16 : decode cX5_guardedAt 16 = .ok (.aload_n 0, 1) := by decide +kernel
theorem dX5_guardedAt_17 : decode cX5_guardedAt 17 = .ok (.getfield 78, 3) := by decide +kernel
theorem dX5_guardedAt_20 : decode cX5_guardedAt 20 = .ok (.irem, 1) := by decide +kernel
theorem dX5_guardedAt_21 : decode cX5_guardedAt 21 = .ok (.istore 4, 2) := by decide +kernel
theorem dX5_guardedAt_23 : decode cX5_guardedAt 23 = .ok (.iload_n 2, 1) := by decide +kernel
theorem dX5_guardedAt_24 : decode cX5_guardedAt 24 = .ok (.aload_n 0, 1) := by decide +kernel
theorem dX5_guardedAt_25 : decode cX5_guardedAt 25 = .ok (.iload 4, 2) := by decide +kernel
theorem dX5_guardedAt_27 : decode cX5_guardedAt 27 = .ok (.iload_n 3, 1) := by decide +kernel
theorem dX5_guardedAt_28 : decode cX5_guardedAt 28 = .ok (.aload_n 0, 1) := by decide +kernel
theorem dX5_guardedAt_29 : decode cX5_guardedAt 29 = .ok (.getfield 78, 3) := by decide +kernel
theorem dX5_guardedAt_32 : decode cX5_guardedAt 32 = .ok (.idiv, 1) := by decide +kernel
theorem dX5_guardedAt_33 : decode cX5_guardedAt 33 = .ok (.invokevirtual 144, 3) := by decide +kernel
theorem dX5_guardedAt_36 : decode cX5_guardedAt 36 = .ok (.iload_n 1, 1) := by decide +kernel
theorem dX5_guardedAt_37 : decode cX5_guardedAt 37 = .ok (.if_icmp .ne 10, 3) := by decide +kernel
theorem dX5_guardedAt_40 : decode cX5_guardedAt 40 = .ok (.iconst 1, 1) := by decide +kernel
theorem dX5_guardedAt_41 : decode cX5_guardedAt 41 = .ok (.iload 4, 2) := by decide +kernel
theorem dX5_guardedAt_43 : decode cX5_guardedAt 43 = .ok (.ishl, 1) := by decide +kernel
theorem dX5_guardedAt_44 : decode cX5_guardedAt 44 = .ok (.goto 4, 3) := by decide +kernel
theorem dX5_guardedAt_47 : decode cX5_guardedAt 47 = .ok (.iconst 0, 1) := by decide +kernel
theorem dX5_guardedAt_48 : decode cX5_guardedAt 48 = .ok (.ior, 1) := by decide +kernel
theorem dX5_guardedAt_49 : decode cX5_guardedAt 49 = .ok (.istore_n 2, 1) := by decide +kernel
theorem dX5_guardedAt_50 : decode cX5_guardedAt 50 = .ok (.iinc 3 1, 3) := by decide +kernel
theorem dX5_guardedAt_53 : decode cX5_guardedAt 53 = .ok (.goto (-49), 3) := by decide +kernel
theorem dX5_guardedAt_56 : decode cX5_guardedAt 56 = .ok (.iconst 0, 1) := by decide +kernel
theorem dX5_guardedAt_57 : decode cX5_guardedAt 57 = .ok (.istore_n 3, 1) := by decide +kernel
theorem dX5_guardedAt_58 : decode cX5_guardedAt 58 = .ok (.iconst 0, 1) := by decide +kernel
theorem dX5_guardedAt_59 : decode cX5_guardedAt 59 = .ok (.istore 4, 2) := by decide +kernel
theorem dX5_guardedAt_61 : decode cX5_guardedAt 61 = .ok (.iload 4, 2) := by decide +kernel
theorem dX5_guardedAt_63 : decode cX5_guardedAt 63 = .ok (.aload_n 0, 1) := by decide +kernel
theorem dX5_guardedAt_64 : decode cX5_guardedAt 64 = .ok (.getfield 78, 3) := by decide +kernel
theorem dX5_guardedAt_67 : decode cX5_guardedAt 67 = .ok (.if_icmp .ge 18, 3) := by decide +kernel
theorem dX5_guardedAt_70 : decode cX5_guardedAt 70 = .ok (.iload_n 3, 1) := by decide +kernel
theorem dX5_guardedAt_71 : decode cX5_guardedAt 71 = .ok (.iload_n 2, 1) := by decide +kernel
theorem dX5_guardedAt_72 : decode cX5_guardedAt 72 = .ok (.iload 4, 2) := by decide +kernel
theorem dX5_guardedAt_74 : decode cX5_guardedAt 74 = .ok (.ishr, 1) := by decide +kernel
theorem dX5_guardedAt_75 : decode cX5_guardedAt 75 = .ok (.iconst 1, 1) := by decide +kernel
theorem dX5_guardedAt_76 : decode cX5_guardedAt 76 = .ok (.iand, 1) := by decide +kernel
theorem dX5_guardedAt_77 : decode cX5_guardedAt 77 = .ok (.iadd, 1) := by decide +kernel
theorem dX5_guardedAt_78 : decode cX5_guardedAt 78 = .ok (.istore_n 3, 1) := by decide +kernel
theorem dX5_guardedAt_79 : decode cX5_guardedAt 79 = .ok (.iinc 4 1, 3) := by decide +kernel
theorem dX5_guardedAt_82 : decode cX5_guardedAt 82 = .ok (.goto (-21), 3) := by decide +kernel
theorem dX5_guardedAt_85 : decode cX5_guardedAt 85 = .ok (.iload_n 3, 1) := by decide +kernel
theorem dX5_guardedAt_86 : decode cX5_guardedAt 86 = .ok (.ireturn, 1) := by decide +kernel
theorem dX5_guard_0 : decode cX5_guard 0 = .ok (.aload_n 0, 1) := by decide +kernel
theorem dX5_guard_1 : decode cX5_guard 1 = .ok (.getfield 78, 3) := by decide +kernel
theorem dX5_guard_4 : decode cX5_guard 4 = .ok (.ifCond .ne 6, 3) := by decide +kernel
theorem dX5_guard_7 : decode cX5_guard 7 = .ok (.bipush (-3), 2) := by decide +kernel
theorem dX5_guard_9 : decode cX5_guard 9 = .ok (.ireturn, 1) := by decide +kernel
theorem dX5_guard_10 : decode cX5_guard 10 = .ok (.bipush (-9), 2) := by decide +kernel
theorem dX5_guard_12 : decode cX5_guard 12 = .ok (.istore_n 1, 1) := by decide +kernel
theorem dX5_guard_13 : decode cX5_guard 13 = .ok (.iconst 0, 1) := by decide +kernel
theorem dX5_guard_14 : decode cX5_guard 14 = .ok (.istore_n 2, 1) := by decide +kernel
theorem dX5_guard_15 : decode cX5_guard 15 = .ok (.iconst 0, 1) := by decide +kernel
theorem dX5_guard_16 : decode cX5_guard 16 = .ok (.istore_n 3, 1) := by decide +kernel
theorem dX5_guard_17 : decode cX5_guard 17 = .ok (.iload_n 3, 1) := by decide +kernel
theorem dX5_guard_18 : decode cX5_guard 18 = .ok (.aload_n 0, 1) := by decide +kernel
theorem dX5_guard_19 : decode cX5_guard 19 = .ok (.getfield 71, 3) := by decide +kernel
theorem dX5_guard_22 : decode cX5_guard 22 = .ok (.if_icmp .ge 41, 3) := by decide +kernel
theorem dX5_guard_25 : decode cX5_guard 25 = .ok (.aload_n 0, 1) := by decide +kernel
theorem dX5_guard_26 : decode cX5_guard 26 = .ok (.iload_n 3, 1) := by decide +kernel
theorem dX5_guard_27 : decode cX5_guard 27 = .ok (.invokevirtual 192, 3) := by decide +kernel
theorem dX5_guard_30 : decode cX5_guard 30 = .ok (.istore 4, 2) := by decide +kernel
theorem dX5_guard_32 : decode cX5_guard 32 = .ok (.iload 4, 2) := by decide +kernel
theorem dX5_guard_34 : decode cX5_guard 34 = .ok (.iload_n 2, 1) := by decide +kernel
theorem dX5_guard_35 : decode cX5_guard 35 = .ok (.if_icmp .le 7, 3) := by decide +kernel
theorem dX5_guard_38 : decode cX5_guard 38 = .ok (.iload_n 3, 1) := by decide +kernel
theorem dX5_guard_39 : decode cX5_guard 39 = .ok (.goto 4, 3) := by decide +kernel
theorem dX5_guard_42 : decode cX5_guard 42 = .ok (.iload_n 1, 1) := by decide +kernel
theorem dX5_guard_43 : decode cX5_guard 43 = .ok (.istore_n 1, 1) := by decide +kernel
theorem dX5_guard_44 : decode cX5_guard 44 = .ok (.iload 4, 2) := by decide +kernel
theorem dX5_guard_46 : decode cX5_guard 46 = .ok (.iload_n 2, 1) := by decide +kernel
theorem dX5_guard_47 : decode cX5_guard 47 = .ok (.if_icmp .le 8, 3) := by decide +kernel
theorem dX5_guard_50 : decode cX5_guard 50 = .ok (.iload 4, 2) := by decide +kernel
theorem dX5_guard_52 : decode cX5_guard 52 = .ok (.goto 4, 3) := by decide +kernel
theorem dX5_guard_55 : decode cX5_guard 55 = .ok (.iload_n 2, 1) := by decide +kernel
theorem dX5_guard_56 : decode cX5_guard 56 = .ok (.istore_n 2, 1) := by decide +kernel
theorem dX5_guard_57 : decode cX5_guard 57 = .ok (.iinc 3 1, 3) := by decide +kernel
theorem dX5_guard_60 : decode cX5_guard 60 = .ok (.goto (-43), 3) := by decide +kernel
theorem dX5_guard_63 : decode cX5_guard 63 = .ok (.iload_n 1, 1) := by decide +kernel
theorem dX5_guard_64 : decode cX5_guard 64 = .ok (.ireturn, 1) := by decide +kernel
theorem dX5_reading_0 : decode cX5_reading 0 = .ok (.aload_n 0, 1) := by decide +kernel
theorem dX5_reading_1 : decode cX5_reading 1 = .ok (.iload_n 1, 1) := by decide +kernel
theorem dX5_reading_2 : decode cX5_reading 2 = .ok (.invokevirtual 131, 3) := by decide +kernel
theorem dX5_reading_5 : decode cX5_reading 5 = .ok (.ifCond .ne 11, 3) := by decide +kernel
theorem dX5_reading_8 : decode cX5_reading 8 = .ok (.aload_n 0, 1) := by decide +kernel
theorem dX5_reading_9 : decode cX5_reading 9 = .ok (.iload_n 3, 1) := by decide +kernel
theorem dX5_reading_10 : decode cX5_reading 10 = .ok (.invokevirtual 134, 3) := by decide +kernel
theorem dX5_reading_13 : decode cX5_reading 13 = .ok (.ifCond .eq 5, 3) := by decide +kernel
theorem dX5_reading_16 : decode cX5_reading 16 = .ok (.iconst (-1), 1) := by decide +kernel
theorem dX5_reading_17 : decode cX5_reading 17 = .ok (.ireturn, 1) := by decide +kernel
theorem dX5_reading_18 : decode cX5_reading 18 = .ok (.iload_n 2, 1) := by decide +kernel
theorem dX5_reading_19 : decode cX5_reading 19 = .ok (.invokestatic 141, 3) := by decide +kernel
theorem dX5_reading_22 : decode cX5_reading 22 = .ok (.ifCond .eq 6, 3) := by decide +kernel
theorem dX5_reading_25 : decode cX5_reading 25 = .ok (.bipush (-2), 2) := by decide +kernel
theorem dX5_reading_27 : decode cX5_reading 27 = .ok (.ireturn, 1) := by decide +kernel
theorem dX5_reading_28 : decode cX5_reading 28 = .ok (.aload_n 0, 1) := by decide +kernel
theorem dX5_reading_29 : decode cX5_reading 29 = .ok (.getfield 128, 3) := by decide +kernel
theorem dX5_reading_32 : decode cX5_reading 32 = .ok (.bipush 8, 2) := by decide +kernel
theorem dX5_reading_34 : decode cX5_reading 34 = .ok (.if_icmp .ne 6, 3) := by decide +kernel
theorem dX5_reading_37 : decode cX5_reading 37 = .ok (.bipush (-4), 2) := by decide +kernel
theorem dX5_reading_39 : decode cX5_reading 39 = .ok (.ireturn, 1) := by decide +kernel
theorem dX5_reading_40 : decode cX5_reading 40 = .ok (.aload_n 0, 1) := by decide +kernel
theorem dX5_reading_41 : decode cX5_reading 41 = .ok (.getfield 40, 3) := by decide +kernel
theorem dX5_reading_44 : decode cX5_reading 44 = .ok (.aload_n 0, 1) := by decide +kernel
theorem dX5_reading_45 : decode cX5_reading 45 = .ok (.getfield 128, 3) := by decide +kernel
theorem dX5_reading_48 : decode cX5_reading 48 = .ok (.iload_n 1, 1) := by decide +kernel
theorem dX5_reading_49 : decode cX5_reading 49 = .ok (.iastore, 1) := by decide +kernel
theorem dX5_reading_50 : decode cX5_reading 50 = .ok (.aload_n 0, 1) := by decide +kernel
theorem dX5_reading_51 : decode cX5_reading 51 = .ok (.getfield 43, 3) := by decide +kernel
theorem dX5_reading_54 : decode cX5_reading 54 = .ok (.aload_n 0, 1) := by decide +kernel
theorem dX5_reading_55 : decode cX5_reading 55 = .ok (.getfield 128, 3) := by decide +kernel
theorem dX5_reading_58 : decode cX5_reading 58 = .ok (.iload_n 2, 1) := by decide +kernel
theorem dX5_reading_59 : decode cX5_reading 59 = .ok (.iastore, 1) := by decide +kernel
theorem dX5_reading_60 : decode cX5_reading 60 = .ok (.aload_n 0, 1) := by decide +kernel
theorem dX5_reading_61 : decode cX5_reading 61 = .ok (.getfield 46, 3) := by decide +kernel
theorem dX5_reading_64 : decode cX5_reading 64 = .ok (.aload_n 0, 1) := by decide +kernel
theorem dX5_reading_65 : decode cX5_reading 65 = .ok (.getfield 128, 3) := by decide +kernel
theorem dX5_reading_68 : decode cX5_reading 68 = .ok (.iload_n 3, 1) := by decide +kernel
theorem dX5_reading_69 : decode cX5_reading 69 = .ok (.iastore, 1) := by decide +kernel
theorem dX5_reading_70 : decode cX5_reading 70 = .ok (.aload_n 0, 1) := by decide +kernel
theorem dX5_reading_71 : decode cX5_reading 71 = .ok (.dup, 1) := by decide +kernel
theorem dX5_reading_72 : decode cX5_reading 72 = .ok (.getfield 128, 3) := by decide +kernel
theorem dX5_reading_75 : decode cX5_reading 75 = .ok (.iconst 1, 1) := by decide +kernel
theorem dX5_reading_76 : decode cX5_reading 76 = .ok (.iadd, 1) := by decide +kernel
theorem dX5_reading_77 : decode cX5_reading 77 = .ok (.putfield 128, 3) := by decide +kernel
theorem dX5_reading_80 : decode cX5_reading 80 = .ok (.aload_n 0, 1) := by decide +kernel
theorem dX5_reading_81 : decode cX5_reading 81 = .ok (.getfield 128, 3) := by decide +kernel
theorem dX5_reading_84 : decode cX5_reading 84 = .ok (.iconst 1, 1) := by decide +kernel
theorem dX5_reading_85 : decode cX5_reading 85 = .ok (.isub, 1) := by decide +kernel
theorem dX5_reading_86 : decode cX5_reading 86 = .ok (.ireturn, 1) := by decide +kernel
theorem dX5_back_0 : decode cX5_back 0 = .ok (.iload_n 1, 1) := by decide +kernel
theorem dX5_back_1 : decode cX5_back 1 = .ok (.i2l, 1) := by decide +kernel
theorem dX5_back_2 : decode cX5_back 2 = .ok (.lconst 0, 1) := by decide +kernel
theorem dX5_back_3 : decode cX5_back 3 = .ok (.aload_n 0, 1) := by decide +kernel
theorem dX5_back_4 : decode cX5_back 4 = .ok (.getfield 128, 3) := by decide +kernel
theorem dX5_back_7 : decode cX5_back 7 = .ok (.i2l, 1) := by decide +kernel
theorem dX5_back_8 : decode cX5_back 8 = .ok (.invokestatic 74, 3) := by decide +kernel
theorem dX5_back_11 : decode cX5_back 11 = .ok (.ifCond .ne 6, 3) := by decide +kernel
theorem dX5_back_14 : decode cX5_back 14 = .ok (.bipush (-2), 2) := by decide +kernel
theorem dX5_back_16 : decode cX5_back 16 = .ok (.ireturn, 1) := by decide +kernel
theorem dX5_back_17 : decode cX5_back 17 = .ok (.aload_n 0, 1) := by decide +kernel
theorem dX5_back_18 : decode cX5_back 18 = .ok (.dup, 1) := by decide +kernel
theorem dX5_back_19 : decode cX5_back 19 = .ok (.getfield 128, 3) := by decide +kernel
theorem dX5_back_22 : decode cX5_back 22 = .ok (.iload_n 1, 1) := by decide +kernel
theorem dX5_back_23 : decode cX5_back 23 = .ok (.isub, 1) := by decide +kernel
theorem dX5_back_24 : decode cX5_back 24 = .ok (.putfield 128, 3) := by decide +kernel
theorem dX5_back_27 : decode cX5_back 27 = .ok (.aload_n 0, 1) := by decide +kernel
theorem dX5_back_28 : decode cX5_back 28 = .ok (.getfield 128, 3) := by decide +kernel
theorem dX5_back_31 : decode cX5_back 31 = .ok (.ireturn, 1) := by decide +kernel
theorem dX5_areSo_0 : decode cX5_areSo 0 = .ok (.iconst 1, 1) := by decide +kernel
theorem dX5_areSo_1 : decode cX5_areSo 1 = .ok (.istore_n 1, 1) := by decide +kernel
theorem dX5_areSo_2 : decode cX5_areSo 2 = .ok (.iconst 0, 1) := by decide +kernel
theorem dX5_areSo_3 : decode cX5_areSo 3 = .ok (.istore_n 2, 1) := by decide +kernel
theorem dX5_areSo_4 : decode cX5_areSo 4 = .ok (.iload_n 2, 1) := by decide +kernel
theorem dX5_areSo_5 : decode cX5_areSo 5 = .ok (.aload_n 0, 1) := by decide +kernel
theorem dX5_areSo_6 : decode cX5_areSo 6 = .ok (.getfield 128, 3) := by decide +kernel
theorem dX5_areSo_9 : decode cX5_areSo 9 = .ok (.if_icmp .ge 44, 3) := by decide +kernel
theorem dX5_areSo_12 : decode cX5_areSo 12 = .ok (.iload_n 1, 1) := by decide +kernel
theorem dX5_areSo_13 : decode cX5_areSo 13 = .ok (.ifCond .eq 32, 3) := by decide +kernel
theorem dX5_areSo_16 : decode cX5_areSo 16 = .ok (.aload_n 0, 1) := by decide +kernel
theorem dX5_areSo_17 : decode cX5_areSo 17 = .ok (.aload_n 0, 1) := by decide +kernel
theorem dX5_areSo_18 : decode cX5_areSo 18 = .ok (.getfield 40, 3) := by decide +kernel
theorem dX5_areSo_21 : decode cX5_areSo 21 = .ok (.iload_n 2, 1) := by decide +kernel
theorem dX5_areSo_22 : decode cX5_areSo 22 = .ok (.iaload, 1) := by decide +kernel
theorem dX5_areSo_23 : decode cX5_areSo 23 = .ok (.aload_n 0, 1) := by decide +kernel
theorem dX5_areSo_24 : decode cX5_areSo 24 = .ok (.getfield 43, 3) := by decide +kernel
theorem dX5_areSo_27 : decode cX5_areSo 27 = .ok (.iload_n 2, 1) := by decide +kernel
theorem dX5_areSo_28 : decode cX5_areSo 28 = .ok (.iaload, 1) := by decide +kernel
theorem dX5_areSo_29 : decode cX5_areSo 29 = .ok (.invokevirtual 144, 3) := by decide +kernel
theorem dX5_areSo_32 : decode cX5_areSo 32 = .ok (.aload_n 0, 1) := by decide +kernel
theorem dX5_areSo_33 : decode cX5_areSo 33 = .ok (.getfield 46, 3) := by decide +kernel
theorem dX5_areSo_36 : decode cX5_areSo 36 = .ok (.iload_n 2, 1) := by decide +kernel
theorem dX5_areSo_37 : decode cX5_areSo 37 = .ok (.iaload, 1) := by decide +kernel
theorem dX5_areSo_38 : decode cX5_areSo 38 = .ok (.if_icmp .ne 7, 3) := by decide +kernel
theorem dX5_areSo_41 : decode cX5_areSo 41 = .ok (.iconst 1, 1) := by decide +kernel
theorem dX5_areSo_42 : decode cX5_areSo 42 = .ok (.goto 4, 3) := by decide +kernel
theorem dX5_areSo_45 : decode cX5_areSo 45 = .ok (.iconst 0, 1) := by decide +kernel
theorem dX5_areSo_46 : decode cX5_areSo 46 = .ok (.istore_n 1, 1) := by decide +kernel
theorem dX5_areSo_47 : decode cX5_areSo 47 = .ok (.iinc 2 1, 3) := by decide +kernel
theorem dX5_areSo_50 : decode cX5_areSo 50 = .ok (.goto (-46), 3) := by decide +kernel
theorem dX5_areSo_53 : decode cX5_areSo 53 = .ok (.iload_n 1, 1) := by decide +kernel
theorem dX5_areSo_54 : decode cX5_areSo 54 = .ok (.ireturn, 1) := by decide +kernel
theorem dX5_strides_0 : decode cX5_strides 0 = .ok (.aload_n 0, 1) := by decide +kernel
theorem dX5_strides_1 : decode cX5_strides 1 = .ok (.iload_n 1, 1) := by decide +kernel
theorem dX5_strides_2 : decode cX5_strides 2 = .ok (.invokevirtual 131, 3) := by decide +kernel
theorem dX5_strides_5 : decode cX5_strides 5 = .ok (.ifCond .eq 5, 3) := by decide +kernel
theorem dX5_strides_8 : decode cX5_strides 8 = .ok (.iconst (-1), 1) := by decide +kernel
theorem dX5_strides_9 : decode cX5_strides 9 = .ok (.ireturn, 1) := by decide +kernel
theorem dX5_strides_10 : decode cX5_strides 10 = .ok (.aload_n 0, 1) := by decide +kernel
theorem dX5_strides_11 : decode cX5_strides 11 = .ok (.getfield 19, 3) := by decide +kernel
theorem dX5_strides_14 : decode cX5_strides 14 = .ok (.iload_n 1, 1) := by decide +kernel
theorem dX5_strides_15 : decode cX5_strides 15 = .ok (.iaload, 1) := by decide +kernel
theorem dX5_strides_16 : decode cX5_strides 16 = .ok (.istore_n 2, 1) := by decide +kernel
theorem dX5_strides_17 : decode cX5_strides 17 = .ok (.iconst 0, 1) := by decide +kernel
theorem dX5_strides_18 : decode cX5_strides 18 = .ok (.istore_n 3, 1) := by decide +kernel
theorem dX5_strides_19 : decode cX5_strides 19 = .ok (.iconst 0, 1) := by decide +kernel
theorem dX5_strides_20 : decode cX5_strides 20 = .ok (.istore 4, 2) := by decide +kernel
theorem dX5_strides_22 : decode cX5_strides 22 = .ok (.iload 4, 2) := by decide +kernel
theorem dX5_strides_24 : decode cX5_strides 24 = .ok (.iconst 4, 1) := by decide +kernel
theorem dX5_strides_25 : decode cX5_strides 25 = .ok (.if_icmp .ge 35, 3) := by decide +kernel
theorem dX5_strides_28 : decode cX5_strides 28 = .ok (.aload_n 0, 1) := by decide +kernel
theorem dX5_strides_29 : decode cX5_strides 29 = .ok (.getfield 19, 3) := by decide +kernel
theorem dX5_strides_32 : decode cX5_strides 32 = .ok (.iload_n 1, 1) := by decide +kernel
theorem dX5_strides_33 : decode cX5_strides 33 = .ok (.iload 4, 2) := by decide +kernel
theorem dX5_strides_35 : decode cX5_strides 35 = .ok (.iastore, 1) := by decide +kernel
theorem dX5_strides_36 : decode cX5_strides 36 = .ok (.iload_n 3, 1) := by decide +kernel
theorem dX5_strides_37 : decode cX5_strides 37 = .ok (.aload_n 0, 1) := by decide +kernel
theorem dX5_strides_38 : decode cX5_strides 38 = .ok (.invokevirtual 195, 3) := by decide +kernel
theorem dX5_strides_41 : decode cX5_strides 41 = .ok (.ifCond .eq 10, 3) := by decide +kernel
theorem dX5_strides_44 : decode cX5_strides 44 = .ok (.iconst 1, 1) := by decide +kernel
theorem dX5_strides_45 : decode cX5_strides 45 = .ok (.iload 4, 2) := by decide +kernel
theorem dX5_strides_47 : decode cX5_strides 47 = .ok (.ishl, 1) := by decide +kernel
theorem dX5_strides_48 : decode cX5_strides 48 = .ok (.goto 4, 3) := by decide +kernel
theorem dX5_strides_51 : decode cX5_strides 51 = .ok (.iconst 0, 1) := by decide +kernel
theorem dX5_strides_52 : decode cX5_strides 52 = .ok (.ior, 1) := by decide +kernel
theorem dX5_strides_53 : decode cX5_strides 53 = .ok (.istore_n 3, 1) := by decide +kernel
theorem dX5_strides_54 : decode cX5_strides 54 = .ok (.iinc 4 1, 3) := by decide +kernel
theorem dX5_strides_57 : decode cX5_strides 57 = .ok (.goto (-35), 3) := by decide +kernel
theorem dX5_strides_60 : decode cX5_strides 60 = .ok (.aload_n 0, 1) := by decide +kernel
theorem dX5_strides_61 : decode cX5_strides 61 = .ok (.getfield 19, 3) := by decide +kernel
theorem dX5_strides_64 : decode cX5_strides 64 = .ok (.iload_n 1, 1) := by decide +kernel
theorem dX5_strides_65 : decode cX5_strides 65 = .ok (.iload_n 2, 1) := by decide +kernel
theorem dX5_strides_66 : decode cX5_strides 66 = .ok (.iastore, 1) := by decide +kernel
theorem dX5_strides_67 : decode cX5_strides 67 = .ok (.iload_n 3, 1) := by decide +kernel
theorem dX5_strides_68 : decode cX5_strides 68 = .ok (.ireturn, 1) := by decide +kernel
theorem dX5_kinds_0 : decode cX5_kinds 0 = .ok (.aload_n 0, 1) := by decide +kernel
theorem dX5_kinds_1 : decode cX5_kinds 1 = .ok (.iload_n 1, 1) := by decide +kernel
theorem dX5_kinds_2 : decode cX5_kinds 2 = .ok (.invokevirtual 131, 3) := by decide +kernel
theorem dX5_kinds_5 : decode cX5_kinds 5 = .ok (.ifCond .eq 5, 3) := by decide +kernel
theorem dX5_kinds_8 : decode cX5_kinds 8 = .ok (.iconst (-1), 1) := by decide +kernel
theorem dX5_kinds_9 : decode cX5_kinds 9 = .ok (.ireturn, 1) := by decide +kernel
theorem dX5_kinds_10 : decode cX5_kinds 10 = .ok (.aload_n 0, 1) := by decide +kernel
theorem dX5_kinds_11 : decode cX5_kinds 11 = .ok (.getfield 13, 3) := by decide +kernel
theorem dX5_kinds_14 : decode cX5_kinds 14 = .ok (.iload_n 1, 1) := by decide +kernel
theorem dX5_kinds_15 : decode cX5_kinds 15 = .ok (.iaload, 1) := by decide +kernel
theorem dX5_kinds_16 : decode cX5_kinds 16 = .ok (.istore_n 2, 1) := by decide +kernel
theorem dX5_kinds_17 : decode cX5_kinds 17 = .ok (.iconst 0, 1) := by decide +kernel
theorem dX5_kinds_18 : decode cX5_kinds 18 = .ok (.istore_n 3, 1) := by decide +kernel
theorem dX5_kinds_19 : decode cX5_kinds 19 = .ok (.iconst 0, 1) := by decide +kernel
theorem dX5_kinds_20 : decode cX5_kinds 20 = .ok (.istore 4, 2) := by decide +kernel
theorem dX5_kinds_22 : decode cX5_kinds 22 = .ok (.iload 4, 2) := by decide +kernel
theorem dX5_kinds_24 : decode cX5_kinds 24 = .ok (.iconst 3, 1) := by decide +kernel
theorem dX5_kinds_25 : decode cX5_kinds 25 = .ok (.if_icmp .ge 35, 3) := by decide +kernel
theorem dX5_kinds_28 : decode cX5_kinds 28 = .ok (.aload_n 0, 1) := by decide +kernel
theorem dX5_kinds_29 : decode cX5_kinds 29 = .ok (.getfield 13, 3) := by decide +kernel
theorem dX5_kinds_32 : decode cX5_kinds 32 = .ok (.iload_n 1, 1) := by decide +kernel
theorem dX5_kinds_33 : decode cX5_kinds 33 = .ok (.iload 4, 2) := by decide +kernel
theorem dX5_kinds_35 : decode cX5_kinds 35 = .ok (.iastore, 1) := by decide +kernel
theorem dX5_kinds_36 : decode cX5_kinds 36 = .ok (.iload_n 3, 1) := by decide +kernel
theorem dX5_kinds_37 : decode cX5_kinds 37 = .ok (.aload_n 0, 1) := by decide +kernel
theorem dX5_kinds_38 : decode cX5_kinds 38 = .ok (.invokevirtual 195, 3) := by decide +kernel
theorem dX5_kinds_41 : decode cX5_kinds 41 = .ok (.ifCond .eq 10, 3) := by decide +kernel
theorem dX5_kinds_44 : decode cX5_kinds 44 = .ok (.iconst 1, 1) := by decide +kernel
theorem dX5_kinds_45 : decode cX5_kinds 45 = .ok (.iload 4, 2) := by decide +kernel
theorem dX5_kinds_47 : decode cX5_kinds 47 = .ok (.ishl, 1) := by decide +kernel
theorem dX5_kinds_48 : decode cX5_kinds 48 = .ok (.goto 4, 3) := by decide +kernel
theorem dX5_kinds_51 : decode cX5_kinds 51 = .ok (.iconst 0, 1) := by decide +kernel
theorem dX5_kinds_52 : decode cX5_kinds 52 = .ok (.ior, 1) := by decide +kernel
theorem dX5_kinds_53 : decode cX5_kinds 53 = .ok (.istore_n 3, 1) := by decide +kernel
theorem dX5_kinds_54 : decode cX5_kinds 54 = .ok (.iinc 4 1, 3) := by decide +kernel
theorem dX5_kinds_57 : decode cX5_kinds 57 = .ok (.goto (-35), 3) := by decide +kernel
theorem dX5_kinds_60 : decode cX5_kinds 60 = .ok (.aload_n 0, 1) := by decide +kernel
theorem dX5_kinds_61 : decode cX5_kinds 61 = .ok (.getfield 13, 3) := by decide +kernel
theorem dX5_kinds_64 : decode cX5_kinds 64 = .ok (.iload_n 1, 1) := by decide +kernel
theorem dX5_kinds_65 : decode cX5_kinds 65 = .ok (.iload_n 2, 1) := by decide +kernel
theorem dX5_kinds_66 : decode cX5_kinds 66 = .ok (.iastore, 1) := by decide +kernel
theorem dX5_kinds_67 : decode cX5_kinds 67 = .ok (.iload_n 3, 1) := by decide +kernel
theorem dX5_kinds_68 : decode cX5_kinds 68 = .ok (.ireturn, 1) := by decide +kernel
theorem dX5_starts_0 : decode cX5_starts 0 = .ok (.aload_n 0, 1) := by decide +kernel
theorem dX5_starts_1 : decode cX5_starts 1 = .ok (.iload_n 1, 1) := by decide +kernel
theorem dX5_starts_2 : decode cX5_starts 2 = .ok (.invokevirtual 131, 3) := by decide +kernel
theorem dX5_starts_5 : decode cX5_starts 5 = .ok (.ifCond .eq 5, 3) := by decide +kernel
theorem dX5_starts_8 : decode cX5_starts 8 = .ok (.iconst (-1), 1) := by decide +kernel
theorem dX5_starts_9 : decode cX5_starts 9 = .ok (.ireturn, 1) := by decide +kernel
theorem dX5_starts_10 : decode cX5_starts 10 = .ok (.aload_n 0, 1) := by decide +kernel
theorem dX5_starts_11 : decode cX5_starts 11 = .ok (.getfield 16, 3) := by decide +kernel
theorem dX5_starts_14 : decode cX5_starts 14 = .ok (.iload_n 1, 1) := by decide +kernel
theorem dX5_starts_15 : decode cX5_starts 15 = .ok (.iaload, 1) := by decide +kernel
theorem dX5_starts_16 : decode cX5_starts 16 = .ok (.istore_n 2, 1) := by decide +kernel
theorem dX5_starts_17 : decode cX5_starts 17 = .ok (.iconst 0, 1) := by decide +kernel
theorem dX5_starts_18 : decode cX5_starts 18 = .ok (.istore_n 3, 1) := by decide +kernel
theorem dX5_starts_19 : decode cX5_starts 19 = .ok (.iconst 0, 1) := by decide +kernel
theorem dX5_starts_20 : decode cX5_starts 20 = .ok (.istore 4, 2) := by decide +kernel
theorem dX5_starts_22 : decode cX5_starts 22 = .ok (.iload 4, 2) := by decide +kernel
theorem dX5_starts_24 : decode cX5_starts 24 = .ok (.aload_n 0, 1) := by decide +kernel
theorem dX5_starts_25 : decode cX5_starts 25 = .ok (.getfield 71, 3) := by decide +kernel
theorem dX5_starts_28 : decode cX5_starts 28 = .ok (.if_icmp .ge 35, 3) := by decide +kernel
theorem dX5_starts_31 : decode cX5_starts 31 = .ok (.aload_n 0, 1) := by decide +kernel
theorem dX5_starts_32 : decode cX5_starts 32 = .ok (.getfield 16, 3) := by decide +kernel
theorem dX5_starts_35 : decode cX5_starts 35 = .ok (.iload_n 1, 1) := by decide +kernel
theorem dX5_starts_36 : decode cX5_starts 36 = .ok (.iload 4, 2) := by decide +kernel
theorem dX5_starts_38 : decode cX5_starts 38 = .ok (.iastore, 1) := by decide +kernel
theorem dX5_starts_39 : decode cX5_starts 39 = .ok (.iload_n 3, 1) := by decide +kernel
theorem dX5_starts_40 : decode cX5_starts 40 = .ok (.aload_n 0, 1) := by decide +kernel
theorem dX5_starts_41 : decode cX5_starts 41 = .ok (.invokevirtual 195, 3) := by decide +kernel
theorem dX5_starts_44 : decode cX5_starts 44 = .ok (.ifCond .eq 10, 3) := by decide +kernel
theorem dX5_starts_47 : decode cX5_starts 47 = .ok (.iconst 1, 1) := by decide +kernel
theorem dX5_starts_48 : decode cX5_starts 48 = .ok (.iload 4, 2) := by decide +kernel
theorem dX5_starts_50 : decode cX5_starts 50 = .ok (.ishl, 1) := by decide +kernel
theorem dX5_starts_51 : decode cX5_starts 51 = .ok (.goto 4, 3) := by decide +kernel
theorem dX5_starts_54 : decode cX5_starts 54 = .ok (.iconst 0, 1) := by decide +kernel
theorem dX5_starts_55 : decode cX5_starts 55 = .ok (.ior, 1) := by decide +kernel
theorem dX5_starts_56 : decode cX5_starts 56 = .ok (.istore_n 3, 1) := by decide +kernel
theorem dX5_starts_57 : decode cX5_starts 57 = .ok (.iinc 4 1, 3) := by decide +kernel
theorem dX5_starts_60 : decode cX5_starts 60 = .ok (.goto (-38), 3) := by decide +kernel
theorem dX5_starts_63 : decode cX5_starts 63 = .ok (.aload_n 0, 1) := by decide +kernel
theorem dX5_starts_64 : decode cX5_starts 64 = .ok (.getfield 16, 3) := by decide +kernel
theorem dX5_starts_67 : decode cX5_starts 67 = .ok (.iload_n 1, 1) := by decide +kernel
theorem dX5_starts_68 : decode cX5_starts 68 = .ok (.iload_n 2, 1) := by decide +kernel
theorem dX5_starts_69 : decode cX5_starts 69 = .ok (.iastore, 1) := by decide +kernel
theorem dX5_starts_70 : decode cX5_starts 70 = .ok (.iload_n 3, 1) := by decide +kernel
theorem dX5_starts_71 : decode cX5_starts 71 = .ok (.ireturn, 1) := by decide +kernel
theorem dX5_odds_0 : decode cX5_odds 0 = .ok (.aload_n 0, 1) := by decide +kernel
theorem dX5_odds_1 : decode cX5_odds 1 = .ok (.iload_n 1, 1) := by decide +kernel
theorem dX5_odds_2 : decode cX5_odds 2 = .ok (.invokevirtual 134, 3) := by decide +kernel
theorem dX5_odds_5 : decode cX5_odds 5 = .ok (.ifCond .ne 29, 3) := by decide +kernel
theorem dX5_odds_8 : decode cX5_odds 8 = .ok (.aload_n 0, 1) := by decide +kernel
theorem dX5_odds_9 : decode cX5_odds 9 = .ok (.iload_n 2, 1) := by decide +kernel
theorem dX5_odds_10 : decode cX5_odds 10 = .ok (.invokevirtual 134, 3) := by decide +kernel
theorem dX5_odds_13 : decode cX5_odds 13 = .ok (.ifCond .ne 21, 3) := by decide +kernel
theorem dX5_odds_16 : decode cX5_odds 16 = .ok (.iload_n 3, 1) := by decide +kernel
theorem dX5_odds_17 : decode cX5_odds 17 = .ok (.invokestatic 141, 3) := by decide +kernel
theorem dX5_odds_20 : decode cX5_odds 20 = .ok (.ifCond .ne 14, 3) := by decide +kernel
theorem dX5_odds_23 : decode cX5_odds 23 = .ok (.iload 4, 2) := by decide +kernel
theorem dX5_odds_25 : decode cX5_odds 25 = .ok (.i2l, 1) := by decide +kernel
theorem dX5_odds_26 : decode cX5_odds 26 = .ok (.lconst 0, 1) := by decide +kernel
theorem dX5_odds_27 : decode cX5_odds 27 = .ok (.lconst 1, 1) := by decide +kernel
theorem dX5_odds_28 : decode cX5_odds 28 = .ok (.invokestatic 74, 3) := by decide +kernel
theorem dX5_odds_31 : decode cX5_odds 31 = .ok (.ifCond .ne 7, 3) := by decide +kernel
theorem dX5_odds_34 : decode cX5_odds 34 = .ok (.invokestatic 67, 3) := by decide +kernel
theorem dX5_odds_37 : decode cX5_odds 37 = .ok (.lreturn, 1) := by decide +kernel
theorem dX5_odds_38 : decode cX5_odds 38 = .ok (.lconst 0, 1) := by decide +kernel
theorem dX5_odds_39 : decode cX5_odds 39 = .ok (.lstore 5, 2) := by decide +kernel
theorem dX5_odds_41 : decode cX5_odds 41 = .ok (.iconst 0, 1) := by decide +kernel
theorem dX5_odds_42 : decode cX5_odds 42 = .ok (.istore 7, 2) := by decide +kernel
theorem dX5_odds_44 : decode cX5_odds 44 = .ok (.iload 7, 2) := by decide +kernel
theorem dX5_odds_46 : decode cX5_odds 46 = .ok (.iconst 1, 1) := by decide +kernel
theorem dX5_odds_47 : decode cX5_odds 47 = .ok (.aload_n 0, 1) := by decide +kernel
theorem dX5_odds_48 : decode cX5_odds 48 = .ok (.getfield 78, 3) := by decide +kernel
theorem dX5_odds_51 : decode cX5_odds 51 = .ok (.ishl, 1) := by decide +kernel
theorem dX5_odds_52 : decode cX5_odds 52 = .ok (.if_icmp .ge 35, 3) := by decide +kernel
theorem dX5_odds_55 : decode cX5_odds 55 = .ok (.aload_n 0, 1) := by decide +kernel
theorem dX5_odds_56 : decode cX5_odds 56 = .ok (.iload 7, 2) := by decide +kernel
theorem dX5_odds_58 : decode cX5_odds 58 = .ok (.putfield 147, 3) := by decide +kernel
theorem dX5_odds_61 : decode cX5_odds 61 = .ok (.lload 5, 2) := by decide +kernel
theorem dX5_odds_63 : decode cX5_odds 63 = .ok (.aload_n 0, 1) := by decide +kernel
theorem dX5_odds_64 : decode cX5_odds 64 = .ok (.iload_n 1, 1) := by decide +kernel
theorem dX5_odds_65 : decode cX5_odds 65 = .ok (.iload_n 2, 1) := by decide +kernel
theorem dX5_odds_66 : decode cX5_odds 66 = .ok (.iload_n 3, 1) := by decide +kernel
theorem dX5_odds_67 : decode cX5_odds 67 = .ok (.invokevirtual 184, 3) := by decide +kernel
theorem dX5_odds_70 : decode cX5_odds 70 = .ok (.ifCond .lt 7, 3) := by decide +kernel
theorem dX5_odds_73 : decode cX5_odds 73 = .ok (.lconst 1, 1) := by decide +kernel
theorem dX5_odds_74 : decode cX5_odds 74 = .ok (.goto 4, 3) := by decide +kernel
theorem dX5_odds_77 : decode cX5_odds 77 = .ok (.lconst 0, 1) := by decide +kernel
theorem dX5_odds_78 : decode cX5_odds 78 = .ok (.ladd, 1) := by decide +kernel
theorem dX5_odds_79 : decode cX5_odds 79 = .ok (.lstore 5, 2) := by decide +kernel
theorem dX5_odds_81 : decode cX5_odds 81 = .ok (.iinc 7 1, 3) := by decide +kernel
theorem dX5_odds_84 : decode cX5_odds 84 = .ok (.goto (-40), 3) := by decide +kernel
theorem dX5_odds_87 : decode cX5_odds 87 = .ok (.aload_n 0, 1) := by decide +kernel
theorem dX5_odds_88 : decode cX5_odds 88 = .ok (.iconst 0, 1) := by decide +kernel
theorem dX5_odds_89 : decode cX5_odds 89 = .ok (.putfield 147, 3) := by decide +kernel
theorem dX5_odds_92 : decode cX5_odds 92 = .ok (.lload 5, 2) := by decide +kernel
theorem dX5_odds_94 : decode cX5_odds 94 = .ok (.lconst 1, 1) := by decide +kernel
theorem dX5_odds_95 : decode cX5_odds 95 = .ok (.aload_n 0, 1) := by decide +kernel
theorem dX5_odds_96 : decode cX5_odds 96 = .ok (.getfield 78, 3) := by decide +kernel
theorem dX5_odds_99 : decode cX5_odds 99 = .ok (.lshl, 1) := by decide +kernel
theorem dX5_odds_100 : decode cX5_odds 100 = .ok (.iload 4, 2) := by decide +kernel
theorem dX5_odds_102 : decode cX5_odds 102 = .ok (.invokestatic 199, 3) := by decide +kernel
theorem dX5_odds_105 : decode cX5_odds 105 = .ok (.lreturn, 1) := by decide +kernel
theorem dX5_noSheet_0 : decode cX5_noSheet 0 = .ok (.iload_n 0, 1) := by decide +kernel
theorem dX5_noSheet_1 : decode cX5_noSheet 1 = .ok (.i2l, 1) := by decide +kernel
theorem dX5_noSheet_2 : decode cX5_noSheet 2 = .ok (.lconst 0, 1) := by decide +kernel
theorem dX5_noSheet_3 : decode cX5_noSheet 3 = .ok (.ldc2_w 139, 3) := by decide +kernel
theorem dX5_noSheet_6 : decode cX5_noSheet 6 = .ok (.invokestatic 74, 3) := by decide +kernel
theorem dX5_noSheet_9 : decode cX5_noSheet 9 = .ok (.ifCond .ne 7, 3) := by decide +kernel
theorem dX5_noSheet_12 : decode cX5_noSheet 12 = .ok (.iconst 1, 1) := by decide +kernel
theorem dX5_noSheet_13 : decode cX5_noSheet 13 = .ok (.goto 4, 3) := by decide +kernel
theorem dX5_noSheet_16 : decode cX5_noSheet 16 = .ok (.iconst 0, 1) := by decide +kernel
theorem dX5_noSheet_17 : decode cX5_noSheet 17 = .ok (.ireturn, 1) := by decide +kernel
theorem dX5_sheet_0 : decode cX5_sheet 0 = .ok (.iload_n 1, 1) := by decide +kernel
theorem dX5_sheet_1 : decode cX5_sheet 1 = .ok (.invokestatic 112, 3) := by decide +kernel
theorem dX5_sheet_4 : decode cX5_sheet 4 = .ok (.ifCond .eq 9, 3) := by decide +kernel
theorem dX5_sheet_7 : decode cX5_sheet 7 = .ok (.aload_n 0, 1) := by decide +kernel
theorem dX5_sheet_8 : decode cX5_sheet 8 = .ok (.iconst (-1), 1) := by decide +kernel
theorem dX5_sheet_9 : decode cX5_sheet 9 = .ok (.invokevirtual 116, 3) := by decide +kernel
theorem dX5_sheet_12 : decode cX5_sheet 12 = .ok (.ireturn, 1) := by decide +kernel
theorem dX5_sheet_13 : decode cX5_sheet 13 = .ok (.iload_n 2, 1) := by decide +kernel
theorem dX5_sheet_14 : decode cX5_sheet 14 = .ok (.i2l, 1) := by decide +kernel
theorem dX5_sheet_15 : decode cX5_sheet 15 = .ok (.lconst 0, 1) := by decide +kernel
theorem dX5_sheet_16 : decode cX5_sheet 16 = .ok (.ldc2_w 119, 3) := by decide +kernel
theorem dX5_sheet_19 : decode cX5_sheet 19 = .ok (.invokestatic 74, 3) := by decide +kernel
theorem dX5_sheet_22 : decode cX5_sheet 22 = .ok (.ifCond .eq 9, 3) := by decide +kernel
theorem dX5_sheet_25 : decode cX5_sheet 25 = .ok (.iload_n 3, 1) := by decide +kernel
theorem dX5_sheet_26 : decode cX5_sheet 26 = .ok (.bipush 60, 2) := by decide +kernel
theorem dX5_sheet_28 : decode cX5_sheet 28 = .ok (.if_icmp .le 10, 3) := by decide +kernel
theorem dX5_sheet_31 : decode cX5_sheet 31 = .ok (.aload_n 0, 1) := by decide +kernel
theorem dX5_sheet_32 : decode cX5_sheet 32 = .ok (.bipush (-2), 2) := by decide +kernel
theorem dX5_sheet_34 : decode cX5_sheet 34 = .ok (.invokevirtual 116, 3) := by decide +kernel
theorem dX5_sheet_37 : decode cX5_sheet 37 = .ok (.ireturn, 1) := by decide +kernel
theorem dX5_sheet_38 : decode cX5_sheet 38 = .ok (.iload_n 3, 1) := by decide +kernel
theorem dX5_sheet_39 : decode cX5_sheet 39 = .ok (.ifCond .ge 9, 3) := by decide +kernel
theorem dX5_sheet_42 : decode cX5_sheet 42 = .ok (.aload_n 0, 1) := by decide +kernel
theorem dX5_sheet_43 : decode cX5_sheet 43 = .ok (.iconst 4, 1) := by decide +kernel
theorem dX5_sheet_44 : decode cX5_sheet 44 = .ok (.invokevirtual 104, 3) := by decide +kernel
theorem dX5_sheet_47 : decode cX5_sheet 47 = .ok (.ireturn, 1) := by decide +kernel
theorem dX5_sheet_48 : decode cX5_sheet 48 = .ok (.aload_n 0, 1) := by decide +kernel
theorem dX5_sheet_49 : decode cX5_sheet 49 = .ok (.getfield 49, 3) := by decide +kernel
theorem dX5_sheet_52 : decode cX5_sheet 52 = .ok (.iload_n 1, 1) := by decide +kernel
theorem dX5_sheet_53 : decode cX5_sheet 53 = .ok (.iload_n 3, 1) := by decide +kernel
theorem dX5_sheet_54 : decode cX5_sheet 54 = .ok (.iastore, 1) := by decide +kernel
theorem dX5_sheet_55 : decode cX5_sheet 55 = .ok (.aload_n 0, 1) := by decide +kernel
theorem dX5_sheet_56 : decode cX5_sheet 56 = .ok (.getfield 52, 3) := by decide +kernel
theorem dX5_sheet_59 : decode cX5_sheet 59 = .ok (.iload_n 1, 1) := by decide +kernel
theorem dX5_sheet_60 : decode cX5_sheet 60 = .ok (.iload_n 2, 1) := by decide +kernel
theorem dX5_sheet_61 : decode cX5_sheet 61 = .ok (.iastore, 1) := by decide +kernel
theorem dX5_sheet_62 : decode cX5_sheet 62 = .ok (.iconst 0, 1) := by decide +kernel
theorem dX5_sheet_63 : decode cX5_sheet 63 = .ok (.istore 4, 2) := by decide +kernel
theorem dX5_sheet_65 : decode cX5_sheet 65 = .ok (.iload 4, 2) := by decide +kernel
theorem dX5_sheet_67 : decode cX5_sheet 67 = .ok (.iload_n 3, 1) := by decide +kernel
theorem dX5_sheet_68 : decode cX5_sheet 68 = .ok (.if_icmp .ge 22, 3) := by decide +kernel
theorem dX5_sheet_71 : decode cX5_sheet 71 = .ok (.aload_n 0, 1) := by decide +kernel
theorem dX5_sheet_72 : decode cX5_sheet 72 = .ok (.getfield 55, 3) := by decide +kernel
theorem dX5_sheet_75 : decode cX5_sheet 75 = .ok (.bipush 60, 2) := by decide +kernel
theorem dX5_sheet_77 : decode cX5_sheet 77 = .ok (.iload_n 1, 1) := by decide +kernel
theorem dX5_sheet_78 : decode cX5_sheet 78 = .ok (.imul, 1) := by decide +kernel
theorem dX5_sheet_79 : decode cX5_sheet 79 = .ok (.iload 4, 2) := by decide +kernel
theorem dX5_sheet_81 : decode cX5_sheet 81 = .ok (.iadd, 1) := by decide +kernel
theorem dX5_sheet_82 : decode cX5_sheet 82 = .ok (.iconst 0, 1) := by decide +kernel
theorem dX5_sheet_83 : decode cX5_sheet 83 = .ok (.iastore, 1) := by decide +kernel
theorem dX5_sheet_84 : decode cX5_sheet 84 = .ok (.iinc 4 1, 3) := by decide +kernel
theorem dX5_sheet_87 : decode cX5_sheet 87 = .ok (.goto (-22), 3) := by decide +kernel
theorem dX5_sheet_90 : decode cX5_sheet 90 = .ok (.aload_n 0, 1) := by decide +kernel
theorem dX5_sheet_91 : decode cX5_sheet 91 = .ok (.iconst 1, 1) := by decide +kernel
theorem dX5_sheet_92 : decode cX5_sheet 92 = .ok (.invokevirtual 116, 3) := by decide +kernel
theorem dX5_sheet_95 : decode cX5_sheet 95 = .ok (.ireturn, 1) := by decide +kernel
theorem dX5_lose_0 : decode cX5_lose 0 = .ok (.iload_n 1, 1) := by decide +kernel
theorem dX5_lose_1 : decode cX5_lose 1 = .ok (.invokestatic 112, 3) := by decide +kernel
theorem dX5_lose_4 : decode cX5_lose 4 = .ok (.ifCond .eq 5, 3) := by decide +kernel
theorem dX5_lose_7 : decode cX5_lose 7 = .ok (.iconst (-1), 1) := by decide +kernel
theorem dX5_lose_8 : decode cX5_lose 8 = .ok (.ireturn, 1) := by decide +kernel
theorem dX5_lose_9 : decode cX5_lose 9 = .ok (.aload_n 0, 1) := by decide +kernel
theorem dX5_lose_10 : decode cX5_lose 10 = .ok (.getfield 49, 3) := by decide +kernel
theorem dX5_lose_13 : decode cX5_lose 13 = .ok (.iload_n 1, 1) := by decide +kernel
theorem dX5_lose_14 : decode cX5_lose 14 = .ok (.iaload, 1) := by decide +kernel
theorem dX5_lose_15 : decode cX5_lose 15 = .ok (.ifCond .ge 7, 3) := by decide +kernel
theorem dX5_lose_18 : decode cX5_lose 18 = .ok (.iconst 0, 1) := by decide +kernel
theorem dX5_lose_19 : decode cX5_lose 19 = .ok (.goto 4, 3) := by decide +kernel
theorem dX5_lose_22 : decode cX5_lose 22 = .ok (.iconst 1, 1) := by decide +kernel
theorem dX5_lose_23 : decode cX5_lose 23 = .ok (.istore_n 2, 1) := by decide +kernel
theorem dX5_lose_24 : decode cX5_lose 24 = .ok (.aload_n 0, 1) := by decide +kernel
theorem dX5_lose_25 : decode cX5_lose 25 = .ok (.getfield 49, 3) := by decide +kernel
theorem dX5_lose_28 : decode cX5_lose 28 = .ok (.iload_n 1, 1) := by decide +kernel
theorem dX5_lose_29 : decode cX5_lose 29 = .ok (.iconst (-1), 1) := by decide +kernel
theorem dX5_lose_30 : decode cX5_lose 30 = .ok (.iastore, 1) := by decide +kernel
theorem dX5_lose_31 : decode cX5_lose 31 = .ok (.iload_n 2, 1) := by decide +kernel
theorem dX5_lose_32 : decode cX5_lose 32 = .ok (.ireturn, 1) := by decide +kernel
theorem dX5_noCell_0 : decode cX5_noCell 0 = .ok (.aload_n 0, 1) := by decide +kernel
theorem dX5_noCell_1 : decode cX5_noCell 1 = .ok (.getfield 49, 3) := by decide +kernel
theorem dX5_noCell_4 : decode cX5_noCell 4 = .ok (.iload_n 1, 1) := by decide +kernel
theorem dX5_noCell_5 : decode cX5_noCell 5 = .ok (.iaload, 1) := by decide +kernel
theorem dX5_noCell_6 : decode cX5_noCell 6 = .ok (.ifCond .ge 7, 3) := by decide +kernel
theorem dX5_noCell_9 : decode cX5_noCell 9 = .ok (.iconst 1, 1) := by decide +kernel
theorem dX5_noCell_10 : decode cX5_noCell 10 = .ok (.goto 26, 3) := by decide +kernel
theorem dX5_noCell_13 : decode cX5_noCell 13 = .ok (.iload_n 2, 1) := by decide +kernel
theorem dX5_noCell_14 : decode cX5_noCell 14 = .ok (.i2l, 1) := by decide +kernel
theorem dX5_noCell_15 : decode cX5_noCell 15 = .ok (.lconst 0, 1) := by decide +kernel
theorem dX5_noCell_16 : decode cX5_noCell 16 = .ok (.aload_n 0, 1) := by decide +kernel
theorem dX5_noCell_17 : decode cX5_noCell 17 = .ok (.getfield 49, 3) := by decide +kernel
theorem dX5_noCell_20 : decode cX5_noCell 20 = .ok (.iload_n 1, 1) := by decide +kernel
theorem dX5_noCell_21 : decode cX5_noCell 21 = .ok (.iaload, 1) := by decide +kernel
theorem dX5_noCell_22 : decode cX5_noCell 22 = .ok (.i2l, 1) := by decide +kernel
theorem dX5_noCell_23 : decode cX5_noCell 23 = .ok (.lconst 1, 1) := by decide +kernel
theorem dX5_noCell_24 : decode cX5_noCell 24 = .ok (.lsub, 1) := by decide +kernel
theorem dX5_noCell_25 : decode cX5_noCell 25 = .ok (.invokestatic 74, 3) := by decide +kernel
theorem dX5_noCell_28 : decode cX5_noCell 28 = .ok (.ifCond .eq 7, 3) := by decide +kernel
theorem dX5_noCell_31 : decode cX5_noCell 31 = .ok (.iconst 0, 1) := by decide +kernel
theorem dX5_noCell_32 : decode cX5_noCell 32 = .ok (.goto 4, 3) := by decide +kernel
theorem dX5_noCell_35 : decode cX5_noCell 35 = .ok (.iconst 3, 1) := by decide +kernel
theorem dX5_noCell_36 : decode cX5_noCell 36 = .ok (.ireturn, 1) := by decide +kernel
theorem dX5_put_0 : decode cX5_put 0 = .ok (.iload_n 1, 1) := by decide +kernel
theorem dX5_put_1 : decode cX5_put 1 = .ok (.invokestatic 112, 3) := by decide +kernel
theorem dX5_put_4 : decode cX5_put 4 = .ok (.ifCond .eq 9, 3) := by decide +kernel
theorem dX5_put_7 : decode cX5_put 7 = .ok (.aload_n 0, 1) := by decide +kernel
theorem dX5_put_8 : decode cX5_put 8 = .ok (.iconst (-1), 1) := by decide +kernel
theorem dX5_put_9 : decode cX5_put 9 = .ok (.invokevirtual 116, 3) := by decide +kernel
theorem dX5_put_12 : decode cX5_put 12 = .ok (.ireturn, 1) := by decide +kernel
theorem dX5_put_13 : decode cX5_put 13 = .ok (.aload_n 0, 1) := by decide +kernel
theorem dX5_put_14 : decode cX5_put 14 = .ok (.iload_n 1, 1) := by decide +kernel
theorem dX5_put_15 : decode cX5_put 15 = .ok (.iload_n 2, 1) := by decide +kernel
theorem dX5_put_16 : decode cX5_put 16 = .ok (.invokevirtual 203, 3) := by decide +kernel
theorem dX5_put_19 : decode cX5_put 19 = .ok (.ifCond .le 14, 3) := by decide +kernel
theorem dX5_put_22 : decode cX5_put 22 = .ok (.aload_n 0, 1) := by decide +kernel
theorem dX5_put_23 : decode cX5_put 23 = .ok (.aload_n 0, 1) := by decide +kernel
theorem dX5_put_24 : decode cX5_put 24 = .ok (.iload_n 1, 1) := by decide +kernel
theorem dX5_put_25 : decode cX5_put 25 = .ok (.iload_n 2, 1) := by decide +kernel
theorem dX5_put_26 : decode cX5_put 26 = .ok (.invokevirtual 203, 3) := by decide +kernel
theorem dX5_put_29 : decode cX5_put 29 = .ok (.invokevirtual 104, 3) := by decide +kernel
theorem dX5_put_32 : decode cX5_put 32 = .ok (.ireturn, 1) := by decide +kernel
theorem dX5_put_33 : decode cX5_put 33 = .ok (.aload_n 0, 1) := by decide +kernel
theorem dX5_put_34 : decode cX5_put 34 = .ok (.getfield 55, 3) := by decide +kernel
theorem dX5_put_37 : decode cX5_put 37 = .ok (.bipush 60, 2) := by decide +kernel
theorem dX5_put_39 : decode cX5_put 39 = .ok (.iload_n 1, 1) := by decide +kernel
theorem dX5_put_40 : decode cX5_put 40 = .ok (.imul, 1) := by decide +kernel
theorem dX5_put_41 : decode cX5_put 41 = .ok (.iload_n 2, 1) := by decide +kernel
theorem dX5_put_42 : decode cX5_put 42 = .ok (.iadd, 1) := by decide +kernel
theorem dX5_put_43 : decode cX5_put 43 = .ok (.aload_n 0, 1) := by decide +kernel
theorem dX5_put_44 : decode cX5_put 44 = .ok (.getfield 52, 3) := by decide +kernel
theorem dX5_put_47 : decode cX5_put 47 = .ok (.iload_n 1, 1) := by decide +kernel
theorem dX5_put_48 : decode cX5_put 48 = .ok (.iaload, 1) := by decide +kernel
theorem dX5_put_49 : decode cX5_put 49 = .ok (.ifCond .ne 8, 3) := by decide +kernel
theorem dX5_put_52 : decode cX5_put 52 = .ok (.iload_n 3, 1) := by decide +kernel
theorem dX5_put_53 : decode cX5_put 53 = .ok (.i2b, 1) := by decide +kernel
theorem dX5_put_54 : decode cX5_put 54 = .ok (.goto 19, 3) := by decide +kernel
theorem dX5_put_57 : decode cX5_put 57 = .ok (.aload_n 0, 1) := by decide +kernel
theorem dX5_put_58 : decode cX5_put 58 = .ok (.getfield 52, 3) := by decide +kernel
theorem dX5_put_61 : decode cX5_put 61 = .ok (.iload_n 1, 1) := by decide +kernel
theorem dX5_put_62 : decode cX5_put 62 = .ok (.iaload, 1) := by decide +kernel
theorem dX5_put_63 : decode cX5_put 63 = .ok (.iconst 1, 1) := by decide +kernel
theorem dX5_put_64 : decode cX5_put 64 = .ok (.if_icmp .ne 8, 3) := by decide +kernel
theorem dX5_put_67 : decode cX5_put 67 = .ok (.iload_n 3, 1) := by decide +kernel
theorem dX5_put_68 : decode cX5_put 68 = .ok (.i2s, 1) := by decide +kernel
theorem dX5_put_69 : decode cX5_put 69 = .ok (.goto 4, 3) := by decide +kernel
theorem dX5_put_72 : decode cX5_put 72 = .ok (.iload_n 3, 1) := by decide +kernel
theorem dX5_put_73 : decode cX5_put 73 = .ok (.iastore, 1) := by decide +kernel
theorem dX5_put_74 : decode cX5_put 74 = .ok (.aload_n 0, 1) := by decide +kernel
theorem dX5_put_75 : decode cX5_put 75 = .ok (.iconst 1, 1) := by decide +kernel
theorem dX5_put_76 : decode cX5_put 76 = .ok (.invokevirtual 116, 3) := by decide +kernel
theorem dX5_put_79 : decode cX5_put 79 = .ok (.ireturn, 1) := by decide +kernel
theorem dX5_cell_0 : decode cX5_cell 0 = .ok (.aload_n 0, 1) := by decide +kernel
theorem dX5_cell_1 : decode cX5_cell 1 = .ok (.iconst 0, 1) := by decide +kernel
theorem dX5_cell_2 : decode cX5_cell 2 = .ok (.putfield 63, 3) := by decide +kernel
theorem dX5_cell_5 : decode cX5_cell 5 = .ok (.iload_n 1, 1) := by decide +kernel
theorem dX5_cell_6 : decode cX5_cell 6 = .ok (.invokestatic 112, 3) := by decide +kernel
theorem dX5_cell_9 : decode cX5_cell 9 = .ok (.ifCond .ne 15, 3) := by decide +kernel
theorem dX5_cell_12 : decode cX5_cell 12 = .ok (.iload_n 3, 1) := by decide +kernel
theorem dX5_cell_13 : decode cX5_cell 13 = .ok (.i2l, 1) := by decide +kernel
theorem dX5_cell_14 : decode cX5_cell 14 = .ok (.lconst 0, 1) := by decide +kernel
theorem dX5_cell_15 : decode cX5_cell 15 = .ok (.ldc2_w 119, 3) := by decide +kernel
theorem dX5_cell_18 : decode cX5_cell 18 = .ok (.invokestatic 74, 3) := by decide +kernel
theorem dX5_cell_21 : decode cX5_cell 21 = .ok (.ifCond .ne 7, 3) := by decide +kernel
theorem dX5_cell_24 : decode cX5_cell 24 = .ok (.invokestatic 67, 3) := by decide +kernel
theorem dX5_cell_27 : decode cX5_cell 27 = .ok (.lreturn, 1) := by decide +kernel
theorem dX5_cell_28 : decode cX5_cell 28 = .ok (.aload_n 0, 1) := by decide +kernel
theorem dX5_cell_29 : decode cX5_cell 29 = .ok (.getfield 49, 3) := by decide +kernel
theorem dX5_cell_32 : decode cX5_cell 32 = .ok (.iload_n 1, 1) := by decide +kernel
theorem dX5_cell_33 : decode cX5_cell 33 = .ok (.iaload, 1) := by decide +kernel
theorem dX5_cell_34 : decode cX5_cell 34 = .ok (.ifCond .lt 19, 3) := by decide +kernel
theorem dX5_cell_37 : decode cX5_cell 37 = .ok (.aload_n 0, 1) := by decide +kernel
theorem dX5_cell_38 : decode cX5_cell 38 = .ok (.getfield 52, 3) := by decide +kernel
theorem dX5_cell_41 : decode cX5_cell 41 = .ok (.iload_n 1, 1) := by decide +kernel
theorem dX5_cell_42 : decode cX5_cell 42 = .ok (.iaload, 1) := by decide +kernel
theorem dX5_cell_43 : decode cX5_cell 43 = .ok (.iload_n 3, 1) := by decide +kernel
theorem dX5_cell_44 : decode cX5_cell 44 = .ok (.if_icmp .eq 9, 3) := by decide +kernel
theorem dX5_cell_47 : decode cX5_cell 47 = .ok (.aload_n 0, 1) := by decide +kernel
theorem dX5_cell_48 : decode cX5_cell 48 = .ok (.iconst 2, 1) := by decide +kernel
theorem dX5_cell_49 : decode cX5_cell 49 = .ok (.invokevirtual 206, 3) := by decide +kernel
theorem dX5_cell_52 : decode cX5_cell 52 = .ok (.lreturn, 1) := by decide +kernel
theorem dX5_cell_53 : decode cX5_cell 53 = .ok (.aload_n 0, 1) := by decide +kernel
theorem dX5_cell_54 : decode cX5_cell 54 = .ok (.iload_n 1, 1) := by decide +kernel
theorem dX5_cell_55 : decode cX5_cell 55 = .ok (.iload_n 2, 1) := by decide +kernel
theorem dX5_cell_56 : decode cX5_cell 56 = .ok (.invokevirtual 203, 3) := by decide +kernel
theorem dX5_cell_59 : decode cX5_cell 59 = .ok (.ifCond .le 16, 3) := by decide +kernel
theorem dX5_cell_62 : decode cX5_cell 62 = .ok (.aload_n 0, 1) := by decide +kernel
theorem dX5_cell_63 : decode cX5_cell 63 = .ok (.aload_n 0, 1) := by decide +kernel
theorem dX5_cell_64 : decode cX5_cell 64 = .ok (.iload_n 1, 1) := by decide +kernel
theorem dX5_cell_65 : decode cX5_cell 65 = .ok (.iload_n 2, 1) := by decide +kernel
theorem dX5_cell_66 : decode cX5_cell 66 = .ok (.invokevirtual 203, 3) := by decide +kernel
theorem dX5_cell_69 : decode cX5_cell 69 = .ok (.invokevirtual 206, 3) := by decide +kernel
theorem dX5_cell_72 : decode cX5_cell 72 = .ok (.goto 15, 3) := by decide +kernel
theorem dX5_cell_75 : decode cX5_cell 75 = .ok (.aload_n 0, 1) := by decide +kernel
theorem dX5_cell_76 : decode cX5_cell 76 = .ok (.getfield 55, 3) := by decide +kernel
theorem dX5_cell_79 : decode cX5_cell 79 = .ok (.bipush 60, 2) := by decide +kernel
theorem dX5_cell_81 : decode cX5_cell 81 = .ok (.iload_n 1, 1) := by decide +kernel
theorem dX5_cell_82 : decode cX5_cell 82 = .ok (.imul, 1) := by decide +kernel
theorem dX5_cell_83 : decode cX5_cell 83 = .ok (.iload_n 2, 1) := by decide +kernel
theorem dX5_cell_84 : decode cX5_cell 84 = .ok (.iadd, 1) := by decide +kernel
theorem dX5_cell_85 : decode cX5_cell 85 = .ok (.iaload, 1) := by decide +kernel
theorem dX5_cell_86 : decode cX5_cell 86 = .ok (.i2l, 1) := by decide +kernel
theorem dX5_cell_87 : decode cX5_cell 87 = .ok (.lreturn, 1) := by decide +kernel
theorem dX5_isBeyond_0 : decode cX5_isBeyond 0 = .ok (.iload_n 0, 1) := by decide +kernel
theorem dX5_isBeyond_1 : decode cX5_isBeyond 1 = .ok (.ifCond .lt 19, 3) := by decide +kernel
theorem dX5_isBeyond_4 : decode cX5_isBeyond 4 = .ok (.lload_n 1, 1) := by decide +kernel
theorem dX5_isBeyond_5 : decode cX5_isBeyond 5 = .ok (.lconst 0, 1) := by decide +kernel
theorem dX5_isBeyond_6 : decode cX5_isBeyond 6 = .ok (.lcmp, 1) := by decide +kernel
theorem dX5_isBeyond_7 : decode cX5_isBeyond 7 = .ok (.ifCond .lt 13, 3) := by decide +kernel
theorem dX5_isBeyond_10 : decode cX5_isBeyond 10 = .ok (.iload_n 0, 1) := by decide +kernel
theorem dX5_isBeyond_11 : decode cX5_isBeyond 11 = .ok (.i2l, 1) := by decide +kernel
theorem dX5_isBeyond_12 : decode cX5_isBeyond 12 = .ok (.lload_n 1, 1) := by decide +kernel
theorem dX5_isBeyond_13 : decode cX5_isBeyond 13 = .ok (.ladd, 1) := by decide +kernel
theorem dX5_isBeyond_14 : decode cX5_isBeyond 14 = .ok (.iload_n 3, 1) := by decide +kernel
theorem dX5_isBeyond_15 : decode cX5_isBeyond 15 = .ok (.i2l, 1) := by decide +kernel
theorem dX5_isBeyond_16 : decode cX5_isBeyond 16 = .ok (.lcmp, 1) := by decide +kernel
theorem dX5_isBeyond_17 : decode cX5_isBeyond 17 = .ok (.ifCond .le 7, 3) := by decide +kernel
theorem dX5_isBeyond_20 : decode cX5_isBeyond 20 = .ok (.iconst 1, 1) := by decide +kernel
theorem dX5_isBeyond_21 : decode cX5_isBeyond 21 = .ok (.goto 4, 3) := by decide +kernel
theorem dX5_isBeyond_24 : decode cX5_isBeyond 24 = .ok (.iconst 0, 1) := by decide +kernel
theorem dX5_isBeyond_25 : decode cX5_isBeyond 25 = .ok (.ireturn, 1) := by decide +kernel
theorem dX5_copy_0 : decode cX5_copy 0 = .ok (.iload_n 1, 1) := by decide +kernel
theorem dX5_copy_1 : decode cX5_copy 1 = .ok (.invokestatic 112, 3) := by decide +kernel
theorem dX5_copy_4 : decode cX5_copy 4 = .ok (.ifCond .ne 10, 3) := by decide +kernel
theorem dX5_copy_7 : decode cX5_copy 7 = .ok (.iload_n 3, 1) := by decide +kernel
theorem dX5_copy_8 : decode cX5_copy 8 = .ok (.invokestatic 112, 3) := by decide +kernel
theorem dX5_copy_11 : decode cX5_copy 11 = .ok (.ifCond .eq 9, 3) := by decide +kernel
theorem dX5_copy_14 : decode cX5_copy 14 = .ok (.aload_n 0, 1) := by decide +kernel
theorem dX5_copy_15 : decode cX5_copy 15 = .ok (.iconst (-1), 1) := by decide +kernel
theorem dX5_copy_16 : decode cX5_copy 16 = .ok (.invokevirtual 116, 3) := by decide +kernel
theorem dX5_copy_19 : decode cX5_copy 19 = .ok (.ireturn, 1) := by decide +kernel
theorem dX5_copy_20 : decode cX5_copy 20 = .ok (.aload_n 0, 1) := by decide +kernel
theorem dX5_copy_21 : decode cX5_copy 21 = .ok (.getfield 49, 3) := by decide +kernel
theorem dX5_copy_24 : decode cX5_copy 24 = .ok (.iload_n 1, 1) := by decide +kernel
theorem dX5_copy_25 : decode cX5_copy 25 = .ok (.iaload, 1) := by decide +kernel
theorem dX5_copy_26 : decode cX5_copy 26 = .ok (.ifCond .lt 12, 3) := by decide +kernel
theorem dX5_copy_29 : decode cX5_copy 29 = .ok (.aload_n 0, 1) := by decide +kernel
theorem dX5_copy_30 : decode cX5_copy 30 = .ok (.getfield 49, 3) := by decide +kernel
theorem dX5_copy_33 : decode cX5_copy 33 = .ok (.iload_n 3, 1) := by decide +kernel
theorem dX5_copy_34 : decode cX5_copy 34 = .ok (.iaload, 1) := by decide +kernel
theorem dX5_copy_35 : decode cX5_copy 35 = .ok (.ifCond .ge 9, 3) := by decide +kernel
theorem dX5_copy_38 : decode cX5_copy 38 = .ok (.aload_n 0, 1) := by decide +kernel
theorem dX5_copy_39 : decode cX5_copy 39 = .ok (.iconst 1, 1) := by decide +kernel
theorem dX5_copy_40 : decode cX5_copy 40 = .ok (.invokevirtual 104, 3) := by decide +kernel
theorem dX5_copy_43 : decode cX5_copy 43 = .ok (.ireturn, 1) := by decide +kernel
theorem dX5_copy_44 : decode cX5_copy 44 = .ok (.aload_n 0, 1) := by decide +kernel
theorem dX5_copy_45 : decode cX5_copy 45 = .ok (.getfield 52, 3) := by decide +kernel
theorem dX5_copy_48 : decode cX5_copy 48 = .ok (.iload_n 1, 1) := by decide +kernel
theorem dX5_copy_49 : decode cX5_copy 49 = .ok (.iaload, 1) := by decide +kernel
theorem dX5_copy_50 : decode cX5_copy 50 = .ok (.aload_n 0, 1) := by decide +kernel
theorem dX5_copy_51 : decode cX5_copy 51 = .ok (.getfield 52, 3) := by decide +kernel
theorem dX5_copy_54 : decode cX5_copy 54 = .ok (.iload_n 3, 1) := by decide +kernel
theorem dX5_copy_55 : decode cX5_copy 55 = .ok (.iaload, 1) := by decide +kernel
theorem dX5_copy_56 : decode cX5_copy 56 = .ok (.if_icmp .eq 9, 3) := by decide +kernel
theorem dX5_copy_59 : decode cX5_copy 59 = .ok (.aload_n 0, 1) := by decide +kernel
theorem dX5_copy_60 : decode cX5_copy 60 = .ok (.iconst 2, 1) := by decide +kernel
theorem dX5_copy_61 : decode cX5_copy 61 = .ok (.invokevirtual 104, 3) := by decide +kernel
theorem dX5_copy_64 : decode cX5_copy 64 = .ok (.ireturn, 1) := by decide +kernel
theorem dX5_copy_65 : decode cX5_copy 65 = .ok (.iload_n 2, 1) := by decide +kernel
theorem dX5_copy_66 : decode cX5_copy 66 = .ok (.iload 5, 2) := by decide +kernel
theorem dX5_copy_68 : decode cX5_copy 68 = .ok (.i2l, 1) := by decide +kernel
theorem dX5_copy_69 : decode cX5_copy 69 = .ok (.aload_n 0, 1) := by decide +kernel
theorem dX5_copy_70 : decode cX5_copy 70 = .ok (.getfield 49, 3) := by decide +kernel
theorem dX5_copy_73 : decode cX5_copy 73 = .ok (.iload_n 1, 1) := by decide +kernel
theorem dX5_copy_74 : decode cX5_copy 74 = .ok (.iaload, 1) := by decide +kernel
theorem dX5_copy_75 : decode cX5_copy 75 = .ok (.invokestatic 108, 3) := by decide +kernel
theorem dX5_copy_78 : decode cX5_copy 78 = .ok (.ifCond .ne 20, 3) := by decide +kernel
theorem dX5_copy_81 : decode cX5_copy 81 = .ok (.iload 4, 2) := by decide +kernel
theorem dX5_copy_83 : decode cX5_copy 83 = .ok (.iload 5, 2) := by decide +kernel
theorem dX5_copy_85 : decode cX5_copy 85 = .ok (.i2l, 1) := by decide +kernel
theorem dX5_copy_86 : decode cX5_copy 86 = .ok (.aload_n 0, 1) := by decide +kernel
theorem dX5_copy_87 : decode cX5_copy 87 = .ok (.getfield 49, 3) := by decide +kernel
theorem dX5_copy_90 : decode cX5_copy 90 = .ok (.iload_n 3, 1) := by decide +kernel
theorem dX5_copy_91 : decode cX5_copy 91 = .ok (.iaload, 1) := by decide +kernel
theorem dX5_copy_92 : decode cX5_copy 92 = .ok (.invokestatic 108, 3) := by decide +kernel
theorem dX5_copy_95 : decode cX5_copy 95 = .ok (.ifCond .eq 9, 3) := by decide +kernel
theorem dX5_copy_98 : decode cX5_copy 98 = .ok (.aload_n 0, 1) := by decide +kernel
theorem dX5_copy_99 : decode cX5_copy 99 = .ok (.iconst 3, 1) := by decide +kernel
theorem dX5_copy_100 : decode cX5_copy 100 = .ok (.invokevirtual 104, 3) := by decide +kernel
theorem dX5_copy_103 : decode cX5_copy 103 = .ok (.ireturn, 1) := by decide +kernel
theorem dX5_copy_104 : decode cX5_copy 104 = .ok (.iconst 0, 1) := by decide +kernel
theorem dX5_copy_105 : decode cX5_copy 105 = .ok (.istore 6, 2) := by decide +kernel
theorem dX5_copy_107 : decode cX5_copy 107 = .ok (.iload 6, 2) := by decide +kernel
theorem dX5_copy_109 : decode cX5_copy 109 = .ok (.iload 5, 2) := by decide +kernel
theorem dX5_copy_111 : decode cX5_copy 111 = .ok (.if_icmp .ge 30, 3) := by decide +kernel
theorem dX5_copy_114 : decode cX5_copy 114 = .ok (.aload_n 0, 1) := by decide +kernel
theorem dX5_copy_115 : decode cX5_copy 115 = .ok (.getfield 58, 3) := by decide +kernel
theorem dX5_copy_118 : decode cX5_copy 118 = .ok (.iload 6, 2) := by decide +kernel
theorem dX5_copy_120 : decode cX5_copy 120 = .ok (.aload_n 0, 1) := by decide +kernel
theorem dX5_copy_121 : decode cX5_copy 121 = .ok (.getfield 55, 3) := by decide +kernel
theorem dX5_copy_124 : decode cX5_copy 124 = .ok (.bipush 60, 2) := by decide +kernel
theorem dX5_copy_126 : decode cX5_copy 126 = .ok (.iload_n 1, 1) := by decide +kernel
theorem dX5_copy_127 : decode cX5_copy 127 = .ok (.imul, 1) := by decide +kernel
theorem dX5_copy_128 : decode cX5_copy 128 = .ok (.iload_n 2, 1) := by decide +kernel
theorem dX5_copy_129 : decode cX5_copy 129 = .ok (.iadd, 1) := by decide +kernel
theorem dX5_copy_130 : decode cX5_copy 130 = .ok (.iload 6, 2) := by decide +kernel
theorem dX5_copy_132 : decode cX5_copy 132 = .ok (.iadd, 1) := by decide +kernel
theorem dX5_copy_133 : decode cX5_copy 133 = .ok (.iaload, 1) := by decide +kernel
theorem dX5_copy_134 : decode cX5_copy 134 = .ok (.iastore, 1) := by decide +kernel
theorem dX5_copy_135 : decode cX5_copy 135 = .ok (.iinc 6 1, 3) := by decide +kernel
theorem dX5_copy_138 : decode cX5_copy 138 = .ok (.goto (-31), 3) := by decide +kernel
theorem dX5_copy_141 : decode cX5_copy 141 = .ok (.iconst 0, 1) := by decide +kernel
theorem dX5_copy_142 : decode cX5_copy 142 = .ok (.istore 6, 2) := by decide +kernel
theorem dX5_copy_144 : decode cX5_copy 144 = .ok (.iload 6, 2) := by decide +kernel
theorem dX5_copy_146 : decode cX5_copy 146 = .ok (.iload 5, 2) := by decide +kernel
theorem dX5_copy_148 : decode cX5_copy 148 = .ok (.if_icmp .ge 31, 3) := by decide +kernel
theorem dX5_copy_151 : decode cX5_copy 151 = .ok (.aload_n 0, 1) := by decide +kernel
theorem dX5_copy_152 : decode cX5_copy 152 = .ok (.getfield 55, 3) := by decide +kernel
theorem dX5_copy_155 : decode cX5_copy 155 = .ok (.bipush 60, 2) := by decide +kernel
theorem dX5_copy_157 : decode cX5_copy 157 = .ok (.iload_n 3, 1) := by decide +kernel
theorem dX5_copy_158 : decode cX5_copy 158 = .ok (.imul, 1) := by decide +kernel
theorem dX5_copy_159 : decode cX5_copy 159 = .ok (.iload 4, 2) := by decide +kernel
theorem dX5_copy_161 : decode cX5_copy 161 = .ok (.iadd, 1) := by decide +kernel
theorem dX5_copy_162 : decode cX5_copy 162 = .ok (.iload 6, 2) := by decide +kernel
theorem dX5_copy_164 : decode cX5_copy 164 = .ok (.iadd, 1) := by decide +kernel
theorem dX5_copy_165 : decode cX5_copy 165 = .ok (.aload_n 0, 1) := by decide +kernel
theorem dX5_copy_166 : decode cX5_copy 166 = .ok (.getfield 58, 3) := by decide +kernel
theorem dX5_copy_169 : decode cX5_copy 169 = .ok (.iload 6, 2) := by decide +kernel
theorem dX5_copy_171 : decode cX5_copy 171 = .ok (.iaload, 1) := by decide +kernel
theorem dX5_copy_172 : decode cX5_copy 172 = .ok (.iastore, 1) := by decide +kernel
theorem dX5_copy_173 : decode cX5_copy 173 = .ok (.iinc 6 1, 3) := by decide +kernel
theorem dX5_copy_176 : decode cX5_copy 176 = .ok (.goto (-32), 3) := by decide +kernel
theorem dX5_copy_179 : decode cX5_copy 179 = .ok (.aload_n 0, 1) := by decide +kernel
theorem dX5_copy_180 : decode cX5_copy 180 = .ok (.iload 5, 2) := by decide +kernel
theorem dX5_copy_182 : decode cX5_copy 182 = .ok (.invokevirtual 116, 3) := by decide +kernel
theorem dX5_copy_185 : decode cX5_copy 185 = .ok (.ireturn, 1) := by decide +kernel
theorem dX5_traced_0 : decode cX5_traced 0 = .ok (.aload_n 0, 1) := by decide +kernel
theorem dX5_traced_1 : decode cX5_traced 1 = .ok (.bipush 31, 2) := by decide +kernel
theorem dX5_traced_3 : decode cX5_traced 3 = .ok (.aload_n 0, 1) := by decide +kernel
theorem dX5_traced_4 : decode cX5_traced 4 = .ok (.getfield 210, 3) := by decide +kernel
theorem dX5_traced_7 : decode cX5_traced 7 = .ok (.imul, 1) := by decide +kernel
theorem dX5_traced_8 : decode cX5_traced 8 = .ok (.iload_n 1, 1) := by decide +kernel
theorem dX5_traced_9 : decode cX5_traced 9 = .ok (.iadd, 1) := by decide +kernel
theorem dX5_traced_10 : decode cX5_traced 10 = .ok (.putfield 210, 3) := by decide +kernel
theorem dX5_traced_13 : decode cX5_traced 13 = .ok (.return_, 1) := by decide +kernel
theorem dX5_tell_0 : decode cX5_tell 0 = .ok (.aload_n 0, 1) := by decide +kernel
theorem dX5_tell_1 : decode cX5_tell 1 = .ok (.iload_n 1, 1) := by decide +kernel
theorem dX5_tell_2 : decode cX5_tell 2 = .ok (.invokevirtual 131, 3) := by decide +kernel
theorem dX5_tell_5 : decode cX5_tell 5 = .ok (.ifCond .eq 5, 3) := by decide +kernel
theorem dX5_tell_8 : decode cX5_tell 8 = .ok (.iconst (-1), 1) := by decide +kernel
theorem dX5_tell_9 : decode cX5_tell 9 = .ok (.ireturn, 1) := by decide +kernel
theorem dX5_tell_10 : decode cX5_tell 10 = .ok (.aload_n 0, 1) := by decide +kernel
theorem dX5_tell_11 : decode cX5_tell 11 = .ok (.getfield 13, 3) := by decide +kernel
theorem dX5_tell_14 : decode cX5_tell 14 = .ok (.iload_n 1, 1) := by decide +kernel
theorem dX5_tell_15 : decode cX5_tell 15 = .ok (.iaload, 1) := by decide +kernel
theorem dX5_tell_16 : decode cX5_tell 16 = .ok (.istore_n 2, 1) := by decide +kernel
theorem dX5_tell_17 : decode cX5_tell 17 = .ok (.iload_n 2, 1) := by decide +kernel
theorem dX5_tell_18 : decode cX5_tell 18 = .ok (.iconst 2, 1) := by decide +kernel
theorem dX5_tell_19 : decode cX5_tell 19 = .ok (.if_icmp .ne 8, 3) := by decide +kernel
theorem dX5_tell_22 : decode cX5_tell 22 = .ok (.aload_n 0, 1) := by decide +kernel
theorem dX5_tell_23 : decode cX5_tell 23 = .ok (.iconst 3, 1) := by decide +kernel
theorem dX5_tell_24 : decode cX5_tell 24 = .ok (.invokevirtual 213, 3) := by decide +kernel
theorem dX5_tell_27 : decode cX5_tell 27 = .ok (.iload_n 2, 1) := by decide +kernel
theorem dX5_tell_28 : decode cX5_tell 28 = .ok (.ifCond .le 8, 3) := by decide +kernel
theorem dX5_tell_31 : decode cX5_tell 31 = .ok (.aload_n 0, 1) := by decide +kernel
theorem dX5_tell_32 : decode cX5_tell 32 = .ok (.iconst 2, 1) := by decide +kernel
theorem dX5_tell_33 : decode cX5_tell 33 = .ok (.invokevirtual 213, 3) := by decide +kernel
theorem dX5_tell_36 : decode cX5_tell 36 = .ok (.aload_n 0, 1) := by decide +kernel
theorem dX5_tell_37 : decode cX5_tell 37 = .ok (.iconst 1, 1) := by decide +kernel
theorem dX5_tell_38 : decode cX5_tell 38 = .ok (.invokevirtual 213, 3) := by decide +kernel
theorem dX5_tell_41 : decode cX5_tell 41 = .ok (.iload_n 2, 1) := by decide +kernel
theorem dX5_tell_42 : decode cX5_tell 42 = .ok (.iconst 2, 1) := by decide +kernel
theorem dX5_tell_43 : decode cX5_tell 43 = .ok (.if_icmp .ne 8, 3) := by decide +kernel
theorem dX5_tell_46 : decode cX5_tell 46 = .ok (.aload_n 0, 1) := by decide +kernel
theorem dX5_tell_47 : decode cX5_tell 47 = .ok (.iconst 1, 1) := by decide +kernel
theorem dX5_tell_48 : decode cX5_tell 48 = .ok (.invokevirtual 213, 3) := by decide +kernel
theorem dX5_tell_51 : decode cX5_tell 51 = .ok (.aload_n 0, 1) := by decide +kernel
theorem dX5_tell_52 : decode cX5_tell 52 = .ok (.getfield 19, 3) := by decide +kernel
theorem dX5_tell_55 : decode cX5_tell 55 = .ok (.iload_n 1, 1) := by decide +kernel
theorem dX5_tell_56 : decode cX5_tell 56 = .ok (.iaload, 1) := by decide +kernel
theorem dX5_tell_57 : decode cX5_tell 57 = .ok (.istore_n 3, 1) := by decide +kernel
theorem dX5_tell_58 : decode cX5_tell 58 = .ok (.iload_n 2, 1) := by decide +kernel
theorem dX5_tell_59 : decode cX5_tell 59 = .ok (.ifCond .ne 7, 3) := by decide +kernel
theorem dX5_tell_62 : decode cX5_tell 62 = .ok (.iload_n 3, 1) := by decide +kernel
theorem dX5_tell_63 : decode cX5_tell 63 = .ok (.goto 21, 3) := by decide +kernel
theorem dX5_tell_66 : decode cX5_tell 66 = .ok (.iload_n 2, 1) := by decide +kernel
theorem dX5_tell_67 : decode cX5_tell 67 = .ok (.iconst 1, 1) := by decide +kernel
theorem dX5_tell_68 : decode cX5_tell 68 = .ok (.if_icmp .ne 10, 3) := by decide +kernel
theorem dX5_tell_71 : decode cX5_tell 71 = .ok (.iload_n 3, 1) := by decide +kernel
theorem dX5_tell_72 : decode cX5_tell 72 = .ok (.bipush 100, 2) := by decide +kernel
theorem dX5_tell_74 : decode cX5_tell 74 = .ok (.iadd, 1) := by decide +kernel
theorem dX5_tell_75 : decode cX5_tell 75 = .ok (.goto 9, 3) := by decide +kernel
theorem dX5_tell_78 : decode cX5_tell 78 = .ok (.iconst 2, 1) := by decide +kernel
theorem dX5_tell_79 : decode cX5_tell 79 = .ok (.iload_n 3, 1) := by decide +kernel
theorem dX5_tell_80 : decode cX5_tell 80 = .ok (.imul, 1) := by decide +kernel
theorem dX5_tell_81 : decode cX5_tell 81 = .ok (.bipush 100, 2) := by decide +kernel
theorem dX5_tell_83 : decode cX5_tell 83 = .ok (.iadd, 1) := by decide +kernel
theorem dX5_tell_84 : decode cX5_tell 84 = .ok (.ireturn, 1) := by decide +kernel
theorem dX5_waken_0 : decode cX5_waken 0 = .ok (.aload_n 0, 1) := by decide +kernel
theorem dX5_waken_1 : decode cX5_waken 1 = .ok (.iload_n 1, 1) := by decide +kernel
theorem dX5_waken_2 : decode cX5_waken 2 = .ok (.invokevirtual 131, 3) := by decide +kernel
theorem dX5_waken_5 : decode cX5_waken 5 = .ok (.ifCond .eq 5, 3) := by decide +kernel
theorem dX5_waken_8 : decode cX5_waken 8 = .ok (.iconst (-1), 1) := by decide +kernel
theorem dX5_waken_9 : decode cX5_waken 9 = .ok (.ireturn, 1) := by decide +kernel
theorem dX5_waken_10 : decode cX5_waken 10 = .ok (.aload_n 0, 1) := by decide +kernel
theorem dX5_waken_11 : decode cX5_waken 11 = .ok (.aload_n 0, 1) := by decide +kernel
theorem dX5_waken_12 : decode cX5_waken 12 = .ok (.getfield 13, 3) := by decide +kernel
theorem dX5_waken_15 : decode cX5_waken 15 = .ok (.iload_n 1, 1) := by decide +kernel
theorem dX5_waken_16 : decode cX5_waken 16 = .ok (.iaload, 1) := by decide +kernel
theorem dX5_waken_17 : decode cX5_waken 17 = .ok (.iconst 2, 1) := by decide +kernel
theorem dX5_waken_18 : decode cX5_waken 18 = .ok (.if_icmp .ne 7, 3) := by decide +kernel
theorem dX5_waken_21 : decode cX5_waken 21 = .ok (.iconst 5, 1) := by decide +kernel
theorem dX5_waken_22 : decode cX5_waken 22 = .ok (.goto 4, 3) := by decide +kernel
theorem dX5_waken_25 : decode cX5_waken 25 = .ok (.iconst 4, 1) := by decide +kernel
theorem dX5_waken_26 : decode cX5_waken 26 = .ok (.invokevirtual 213, 3) := by decide +kernel
theorem dX5_waken_29 : decode cX5_waken 29 = .ok (.aload_n 0, 1) := by decide +kernel
theorem dX5_waken_30 : decode cX5_waken 30 = .ok (.getfield 13, 3) := by decide +kernel
theorem dX5_waken_33 : decode cX5_waken 33 = .ok (.iload_n 1, 1) := by decide +kernel
theorem dX5_waken_34 : decode cX5_waken 34 = .ok (.iaload, 1) := by decide +kernel
theorem dX5_waken_35 : decode cX5_waken 35 = .ok (.iconst 2, 1) := by decide +kernel
theorem dX5_waken_36 : decode cX5_waken 36 = .ok (.if_icmp .ne 8, 3) := by decide +kernel
theorem dX5_waken_39 : decode cX5_waken 39 = .ok (.bipush 90, 2) := by decide +kernel
theorem dX5_waken_41 : decode cX5_waken 41 = .ok (.goto 4, 3) := by decide +kernel
theorem dX5_waken_44 : decode cX5_waken 44 = .ok (.iload_n 1, 1) := by decide +kernel
theorem dX5_waken_45 : decode cX5_waken 45 = .ok (.ireturn, 1) := by decide +kernel
theorem dX5_as_0 : decode cX5_as 0 = .ok (.aload_n 0, 1) := by decide +kernel
theorem dX5_as_1 : decode cX5_as 1 = .ok (.iload_n 1, 1) := by decide +kernel
theorem dX5_as_2 : decode cX5_as 2 = .ok (.invokevirtual 131, 3) := by decide +kernel
theorem dX5_as_5 : decode cX5_as 5 = .ok (.ifCond .eq 9, 3) := by decide +kernel
theorem dX5_as_8 : decode cX5_as 8 = .ok (.aload_n 0, 1) := by decide +kernel
theorem dX5_as_9 : decode cX5_as 9 = .ok (.iconst (-1), 1) := by decide +kernel
theorem dX5_as_10 : decode cX5_as 10 = .ok (.invokevirtual 116, 3) := by decide +kernel
theorem dX5_as_13 : decode cX5_as 13 = .ok (.ireturn, 1) := by decide +kernel
theorem dX5_as_14 : decode cX5_as 14 = .ok (.iload_n 2, 1) := by decide +kernel
theorem dX5_as_15 : decode cX5_as 15 = .ok (.i2l, 1) := by decide +kernel
theorem dX5_as_16 : decode cX5_as 16 = .ok (.lconst 0, 1) := by decide +kernel
theorem dX5_as_17 : decode cX5_as 17 = .ok (.ldc2_w 119, 3) := by decide +kernel
theorem dX5_as_20 : decode cX5_as 20 = .ok (.invokestatic 74, 3) := by decide +kernel
theorem dX5_as_23 : decode cX5_as 23 = .ok (.ifCond .ne 10, 3) := by decide +kernel
theorem dX5_as_26 : decode cX5_as 26 = .ok (.aload_n 0, 1) := by decide +kernel
theorem dX5_as_27 : decode cX5_as 27 = .ok (.bipush (-2), 2) := by decide +kernel
theorem dX5_as_29 : decode cX5_as 29 = .ok (.invokevirtual 116, 3) := by decide +kernel
theorem dX5_as_32 : decode cX5_as 32 = .ok (.ireturn, 1) := by decide +kernel
theorem dX5_as_33 : decode cX5_as 33 = .ok (.aload_n 0, 1) := by decide +kernel
theorem dX5_as_34 : decode cX5_as 34 = .ok (.getfield 13, 3) := by decide +kernel
theorem dX5_as_37 : decode cX5_as 37 = .ok (.iload_n 1, 1) := by decide +kernel
theorem dX5_as_38 : decode cX5_as 38 = .ok (.iaload, 1) := by decide +kernel
theorem dX5_as_39 : decode cX5_as 39 = .ok (.iload_n 2, 1) := by decide +kernel
theorem dX5_as_40 : decode cX5_as 40 = .ok (.if_icmp .lt 11, 3) := by decide +kernel
theorem dX5_as_43 : decode cX5_as 43 = .ok (.aload_n 0, 1) := by decide +kernel
theorem dX5_as_44 : decode cX5_as 44 = .ok (.iconst 1, 1) := by decide +kernel
theorem dX5_as_45 : decode cX5_as 45 = .ok (.invokevirtual 116, 3) := by decide +kernel
theorem dX5_as_48 : decode cX5_as 48 = .ok (.goto 8, 3) := by decide +kernel
theorem dX5_as_51 : decode cX5_as 51 = .ok (.aload_n 0, 1) := by decide +kernel
theorem dX5_as_52 : decode cX5_as 52 = .ok (.iconst 2, 1) := by decide +kernel
theorem dX5_as_53 : decode cX5_as 53 = .ok (.invokevirtual 104, 3) := by decide +kernel
theorem dX5_as_56 : decode cX5_as 56 = .ok (.ireturn, 1) := by decide +kernel
theorem dX5_trace_0 : decode cX5_trace 0 = .ok (.aload_n 0, 1) := by decide +kernel
theorem dX5_trace_1 : decode cX5_trace 1 = .ok (.getfield 210, 3) := by decide +kernel
theorem dX5_trace_4 : decode cX5_trace 4 = .ok (.ireturn, 1) := by decide +kernel
theorem dX5_fault_0 : decode cX5_fault 0 = .ok (.aload_n 0, 1) := by decide +kernel
theorem dX5_fault_1 : decode cX5_fault 1 = .ok (.getfield 63, 3) := by decide +kernel
theorem dX5_fault_4 : decode cX5_fault 4 = .ok (.ireturn, 1) := by decide +kernel
theorem dX5_goodsNow_0 : decode cX5_goodsNow 0 = .ok (.iconst 0, 1) := by decide +kernel
theorem dX5_goodsNow_1 : decode cX5_goodsNow 1 = .ok (.istore_n 1, 1) := by decide +kernel
theorem dX5_goodsNow_2 : decode cX5_goodsNow 2 = .ok (.iconst 0, 1) := by decide +kernel
theorem dX5_goodsNow_3 : decode cX5_goodsNow 3 = .ok (.istore_n 2, 1) := by decide +kernel
theorem dX5_goodsNow_4 : decode cX5_goodsNow 4 = .ok (.iload_n 2, 1) := by decide +kernel
theorem dX5_goodsNow_5 : decode cX5_goodsNow 5 = .ok (.aload_n 0, 1) := by decide +kernel
theorem dX5_goodsNow_6 : decode cX5_goodsNow 6 = .ok (.getfield 71, 3) := by decide +kernel
theorem dX5_goodsNow_9 : decode cX5_goodsNow 9 = .ok (.if_icmp .ge 18, 3) := by decide +kernel
theorem dX5_goodsNow_12 : decode cX5_goodsNow 12 = .ok (.iload_n 1, 1) := by decide +kernel
theorem dX5_goodsNow_13 : decode cX5_goodsNow 13 = .ok (.aload_n 0, 1) := by decide +kernel
theorem dX5_goodsNow_14 : decode cX5_goodsNow 14 = .ok (.getfield 7, 3) := by decide +kernel
theorem dX5_goodsNow_17 : decode cX5_goodsNow 17 = .ok (.iload_n 2, 1) := by decide +kernel
theorem dX5_goodsNow_18 : decode cX5_goodsNow 18 = .ok (.iaload, 1) := by decide +kernel
theorem dX5_goodsNow_19 : decode cX5_goodsNow 19 = .ok (.iadd, 1) := by decide +kernel
theorem dX5_goodsNow_20 : decode cX5_goodsNow 20 = .ok (.istore_n 1, 1) := by decide +kernel
theorem dX5_goodsNow_21 : decode cX5_goodsNow 21 = .ok (.iinc 2 1, 3) := by decide +kernel
theorem dX5_goodsNow_24 : decode cX5_goodsNow 24 = .ok (.goto (-20), 3) := by decide +kernel
theorem dX5_goodsNow_27 : decode cX5_goodsNow 27 = .ok (.iload_n 1, 1) := by decide +kernel
theorem dX5_goodsNow_28 : decode cX5_goodsNow 28 = .ok (.ireturn, 1) := by decide +kernel
theorem dX5_many_0 : decode cX5_many 0 = .ok (.iload_n 1, 1) := by decide +kernel
theorem dX5_many_1 : decode cX5_many 1 = .ok (.tableswitch 51 0 3 #[31, 36, 41, 46], 31) := by decide +kernel
theorem dX5_many_32 : decode cX5_many 32 = .ok (.aload_n 0, 1) := by decide +kernel
theorem dX5_many_33 : decode cX5_many 33 = .ok (.getfield 78, 3) := by decide +kernel
theorem dX5_many_36 : decode cX5_many 36 = .ok (.ireturn, 1) := by decide +kernel
theorem dX5_many_37 : decode cX5_many 37 = .ok (.aload_n 0, 1) := by decide +kernel
theorem dX5_many_38 : decode cX5_many 38 = .ok (.getfield 71, 3) := by decide +kernel
theorem dX5_many_41 : decode cX5_many 41 = .ok (.ireturn, 1) := by decide +kernel
theorem dX5_many_42 : decode cX5_many 42 = .ok (.aload_n 0, 1) := by decide +kernel
theorem dX5_many_43 : decode cX5_many 43 = .ok (.invokevirtual 217, 3) := by decide +kernel
theorem dX5_many_46 : decode cX5_many 46 = .ok (.ireturn, 1) := by decide +kernel
theorem dX5_many_47 : decode cX5_many 47 = .ok (.aload_n 0, 1) := by decide +kernel
theorem dX5_many_48 : decode cX5_many 48 = .ok (.getfield 128, 3) := by decide +kernel
theorem dX5_many_51 : decode cX5_many 51 = .ok (.ireturn, 1) := by decide +kernel
theorem dX5_many_52 : decode cX5_many 52 = .ok (.bipush (-2), 2) := by decide +kernel
theorem dX5_many_54 : decode cX5_many 54 = .ok (.ireturn, 1) := by decide +kernel
theorem dJ9_abs_0f7a4_0 : decode cJ9_abs_0f7a4 0 = .ok (.iload_n 0, 1) := by decide +kernel
theorem dJ9_abs_0f7a4_1 : decode cJ9_abs_0f7a4 1 = .ok (.ifCond .ge 8, 3) := by decide +kernel
theorem dJ9_abs_0f7a4_4 : decode cJ9_abs_0f7a4 4 = .ok (.iload_n 0, 1) := by decide +kernel
theorem dJ9_abs_0f7a4_5 : decode cJ9_abs_0f7a4 5 = .ok (.ineg, 1) := by decide +kernel
theorem dJ9_abs_0f7a4_6 : decode cJ9_abs_0f7a4 6 = .ok (.goto 4, 3) := by decide +kernel
theorem dJ9_abs_0f7a4_9 : decode cJ9_abs_0f7a4 9 = .ok (.iload_n 0, 1) := by decide +kernel
theorem dJ9_abs_0f7a4_10 : decode cJ9_abs_0f7a4 10 = .ok (.ireturn, 1) := by decide +kernel
theorem dJ9_min_7cf53_0 : decode cJ9_min_7cf53 0 = .ok (.iload_n 0, 1) := by decide +kernel
theorem dJ9_min_7cf53_1 : decode cJ9_min_7cf53 1 = .ok (.iload_n 1, 1) := by decide +kernel
theorem dJ9_min_7cf53_2 : decode cJ9_min_7cf53 2 = .ok (.if_icmp .gt 7, 3) := by decide +kernel
theorem dJ9_min_7cf53_5 : decode cJ9_min_7cf53 5 = .ok (.iload_n 0, 1) := by decide +kernel
theorem dJ9_min_7cf53_6 : decode cJ9_min_7cf53 6 = .ok (.goto 4, 3) := by decide +kernel
theorem dJ9_min_7cf53_9 : decode cJ9_min_7cf53 9 = .ok (.iload_n 1, 1) := by decide +kernel
theorem dJ9_min_7cf53_10 : decode cJ9_min_7cf53 10 = .ok (.ireturn, 1) := by decide +kernel
theorem dJ7_fill_53178_0 : decode cJ7_fill_53178 0 = .ok (.iconst 0, 1) := by decide +kernel
theorem dJ7_fill_53178_1 : decode cJ7_fill_53178 1 = .ok (.istore_n 2, 1) := by decide +kernel
theorem dJ7_fill_53178_2 : decode cJ7_fill_53178 2 = .ok (.aload_n 0, 1) := by decide +kernel
theorem dJ7_fill_53178_3 : decode cJ7_fill_53178 3 = .ok (.arraylength, 1) := by decide +kernel
theorem dJ7_fill_53178_4 : decode cJ7_fill_53178 4 = .ok (.istore_n 3, 1) := by decide +kernel
theorem dJ7_fill_53178_5 : decode cJ7_fill_53178 5 = .ok (.iload_n 2, 1) := by decide +kernel
theorem dJ7_fill_53178_6 : decode cJ7_fill_53178 6 = .ok (.iload_n 3, 1) := by decide +kernel
theorem dJ7_fill_53178_7 : decode cJ7_fill_53178 7 = .ok (.if_icmp .ge 13, 3) := by decide +kernel
theorem dJ7_fill_53178_10 : decode cJ7_fill_53178 10 = .ok (.aload_n 0, 1) := by decide +kernel
theorem dJ7_fill_53178_11 : decode cJ7_fill_53178 11 = .ok (.iload_n 2, 1) := by decide +kernel
theorem dJ7_fill_53178_12 : decode cJ7_fill_53178 12 = .ok (.iload_n 1, 1) := by decide +kernel
theorem dJ7_fill_53178_13 : decode cJ7_fill_53178 13 = .ok (.iastore, 1) := by decide +kernel
theorem dJ7_fill_53178_14 : decode cJ7_fill_53178 14 = .ok (.iinc 2 1, 3) := by decide +kernel
theorem dJ7_fill_53178_17 : decode cJ7_fill_53178 17 = .ok (.goto (-12), 3) := by decide +kernel
theorem dJ7_fill_53178_20 : decode cJ7_fill_53178 20 = .ok (.return_, 1) := by decide +kernel
theorem dL_law_0 : decode cL_law 0 = .ok (.new 7, 3) := by decide +kernel
theorem dL_law_3 : decode cL_law 3 = .ok (.dup, 1) := by decide +kernel
theorem dL_law_4 : decode cL_law 4 = .ok (.invokespecial 9, 3) := by decide +kernel
theorem dL_law_7 : decode cL_law 7 = .ok (.astore_n 1, 1) := by decide +kernel
theorem dL_law_8 : decode cL_law 8 = .ok (.new 10, 3) := by decide +kernel
theorem dL_law_11 : decode cL_law 11 = .ok (.dup, 1) := by decide +kernel
theorem dL_law_12 : decode cL_law 12 = .ok (.invokespecial 12, 3) := by decide +kernel
theorem dL_law_15 : decode cL_law 15 = .ok (.astore_n 2, 1) := by decide +kernel
theorem dL_law_16 : decode cL_law 16 = .ok (.iconst 0, 1) := by decide +kernel
theorem dL_law_17 : decode cL_law 17 = .ok (.istore_n 3, 1) := by decide +kernel
theorem dL_law_18 : decode cL_law 18 = .ok (.iload_n 3, 1) := by decide +kernel
theorem dL_law_19 : decode cL_law 19 = .ok (.aload_n 0, 1) := by decide +kernel
theorem dL_law_20 : decode cL_law 20 = .ok (.arraylength, 1) := by decide +kernel
theorem dL_law_21 : decode cL_law 21 = .ok (.bipush 7, 2) := by decide +kernel
theorem dL_law_23 : decode cL_law 23 = .ok (.isub, 1) := by decide +kernel
theorem dL_law_24 : decode cL_law 24 = .ok (.if_icmp .gt 1154, 3) := by decide +kernel
theorem dL_law_27 : decode cL_law 27 = .ok (.aload_n 0, 1) := by decide +kernel
theorem dL_law_28 : decode cL_law 28 = .ok (.iload_n 3, 1) := by decide +kernel
theorem dL_law_29 : decode cL_law 29 = .ok (.iaload, 1) := by decide +kernel
theorem dL_law_30 : decode cL_law 30 = .ok (.bipush 31, 2) := by decide +kernel
theorem dL_law_32 : decode cL_law 32 = .ok (.iand, 1) := by decide +kernel
theorem dL_law_33 : decode cL_law 33 = .ok (.tableswitch 1139 0 29 #[135, 188, 221, 244, 277, 310, 343, 376, 399, 432, 507, 550, 593, 606, 649, 672, 695, 718, 741, 795, 838, 861, 904, 948, 1011, 1034, 1057, 1090, 1103, 1116], 135) := by decide +kernel
theorem dL_law_168 : decode cL_law 168 = .ok (.aload_n 1, 1) := by decide +kernel
theorem dL_law_169 : decode cL_law 169 = .ok (.aload_n 0, 1) := by decide +kernel
theorem dL_law_170 : decode cL_law 170 = .ok (.iload_n 3, 1) := by decide +kernel
theorem dL_law_171 : decode cL_law 171 = .ok (.iconst 1, 1) := by decide +kernel
theorem dL_law_172 : decode cL_law 172 = .ok (.iadd, 1) := by decide +kernel
theorem dL_law_173 : decode cL_law 173 = .ok (.iaload, 1) := by decide +kernel
theorem dL_law_174 : decode cL_law 174 = .ok (.aload_n 0, 1) := by decide +kernel
theorem dL_law_175 : decode cL_law 175 = .ok (.iload_n 3, 1) := by decide +kernel
theorem dL_law_176 : decode cL_law 176 = .ok (.iconst 2, 1) := by decide +kernel
theorem dL_law_177 : decode cL_law 177 = .ok (.iadd, 1) := by decide +kernel
theorem dL_law_178 : decode cL_law 178 = .ok (.iaload, 1) := by decide +kernel
theorem dL_law_179 : decode cL_law 179 = .ok (.aload_n 0, 1) := by decide +kernel
theorem dL_law_180 : decode cL_law 180 = .ok (.iload_n 3, 1) := by decide +kernel
theorem dL_law_181 : decode cL_law 181 = .ok (.iconst 3, 1) := by decide +kernel
theorem dL_law_182 : decode cL_law 182 = .ok (.iadd, 1) := by decide +kernel
theorem dL_law_183 : decode cL_law 183 = .ok (.iaload, 1) := by decide +kernel
theorem dL_law_184 : decode cL_law 184 = .ok (.aload_n 0, 1) := by decide +kernel
theorem dL_law_185 : decode cL_law 185 = .ok (.iload_n 3, 1) := by decide +kernel
theorem dL_law_186 : decode cL_law 186 = .ok (.iconst 4, 1) := by decide +kernel
theorem dL_law_187 : decode cL_law 187 = .ok (.iadd, 1) := by decide +kernel
theorem dL_law_188 : decode cL_law 188 = .ok (.iaload, 1) := by decide +kernel
theorem dL_law_189 : decode cL_law 189 = .ok (.invokevirtual 13, 3) := by decide +kernel
theorem dL_law_192 : decode cL_law 192 = .ok (.aload_n 2, 1) := by decide +kernel
theorem dL_law_193 : decode cL_law 193 = .ok (.aload_n 0, 1) := by decide +kernel
theorem dL_law_194 : decode cL_law 194 = .ok (.iload_n 3, 1) := by decide +kernel
theorem dL_law_195 : decode cL_law 195 = .ok (.iconst 1, 1) := by decide +kernel
theorem dL_law_196 : decode cL_law 196 = .ok (.iadd, 1) := by decide +kernel
theorem dL_law_197 : decode cL_law 197 = .ok (.iaload, 1) := by decide +kernel
theorem dL_law_198 : decode cL_law 198 = .ok (.aload_n 0, 1) := by decide +kernel
theorem dL_law_199 : decode cL_law 199 = .ok (.iload_n 3, 1) := by decide +kernel
theorem dL_law_200 : decode cL_law 200 = .ok (.iconst 2, 1) := by decide +kernel
theorem dL_law_201 : decode cL_law 201 = .ok (.iadd, 1) := by decide +kernel
theorem dL_law_202 : decode cL_law 202 = .ok (.iaload, 1) := by decide +kernel
theorem dL_law_203 : decode cL_law 203 = .ok (.aload_n 0, 1) := by decide +kernel
theorem dL_law_204 : decode cL_law 204 = .ok (.iload_n 3, 1) := by decide +kernel
theorem dL_law_205 : decode cL_law 205 = .ok (.iconst 3, 1) := by decide +kernel
theorem dL_law_206 : decode cL_law 206 = .ok (.iadd, 1) := by decide +kernel
theorem dL_law_207 : decode cL_law 207 = .ok (.iaload, 1) := by decide +kernel
theorem dL_law_208 : decode cL_law 208 = .ok (.aload_n 0, 1) := by decide +kernel
theorem dL_law_209 : decode cL_law 209 = .ok (.iload_n 3, 1) := by decide +kernel
theorem dL_law_210 : decode cL_law 210 = .ok (.iconst 4, 1) := by decide +kernel
theorem dL_law_211 : decode cL_law 211 = .ok (.iadd, 1) := by decide +kernel
theorem dL_law_212 : decode cL_law 212 = .ok (.iaload, 1) := by decide +kernel
theorem dL_law_213 : decode cL_law 213 = .ok (.invokevirtual 17, 3) := by decide +kernel
theorem dL_law_216 : decode cL_law 216 = .ok (.if_icmp .eq 956, 3) := by decide +kernel
theorem dL_law_219 : decode cL_law 219 = .ok (.iconst 0, 1) := by decide +kernel
theorem dL_law_220 : decode cL_law 220 = .ok (.ireturn, 1) := by decide +kernel
theorem dL_law_221 : decode cL_law 221 = .ok (.aload_n 1, 1) := by decide +kernel
theorem dL_law_222 : decode cL_law 222 = .ok (.aload_n 0, 1) := by decide +kernel
theorem dL_law_223 : decode cL_law 223 = .ok (.iload_n 3, 1) := by decide +kernel
theorem dL_law_224 : decode cL_law 224 = .ok (.iconst 1, 1) := by decide +kernel
theorem dL_law_225 : decode cL_law 225 = .ok (.iadd, 1) := by decide +kernel
theorem dL_law_226 : decode cL_law 226 = .ok (.iaload, 1) := by decide +kernel
theorem dL_law_227 : decode cL_law 227 = .ok (.aload_n 0, 1) := by decide +kernel
theorem dL_law_228 : decode cL_law 228 = .ok (.iload_n 3, 1) := by decide +kernel
theorem dL_law_229 : decode cL_law 229 = .ok (.iconst 2, 1) := by decide +kernel
theorem dL_law_230 : decode cL_law 230 = .ok (.iadd, 1) := by decide +kernel
theorem dL_law_231 : decode cL_law 231 = .ok (.iaload, 1) := by decide +kernel
theorem dL_law_232 : decode cL_law 232 = .ok (.invokevirtual 18, 3) := by decide +kernel
theorem dL_law_235 : decode cL_law 235 = .ok (.aload_n 2, 1) := by decide +kernel
theorem dL_law_236 : decode cL_law 236 = .ok (.aload_n 0, 1) := by decide +kernel
theorem dL_law_237 : decode cL_law 237 = .ok (.iload_n 3, 1) := by decide +kernel
theorem dL_law_238 : decode cL_law 238 = .ok (.iconst 1, 1) := by decide +kernel
theorem dL_law_239 : decode cL_law 239 = .ok (.iadd, 1) := by decide +kernel
theorem dL_law_240 : decode cL_law 240 = .ok (.iaload, 1) := by decide +kernel
theorem dL_law_241 : decode cL_law 241 = .ok (.aload_n 0, 1) := by decide +kernel
theorem dL_law_242 : decode cL_law 242 = .ok (.iload_n 3, 1) := by decide +kernel
theorem dL_law_243 : decode cL_law 243 = .ok (.iconst 2, 1) := by decide +kernel
theorem dL_law_244 : decode cL_law 244 = .ok (.iadd, 1) := by decide +kernel
theorem dL_law_245 : decode cL_law 245 = .ok (.iaload, 1) := by decide +kernel
theorem dL_law_246 : decode cL_law 246 = .ok (.invokevirtual 22, 3) := by decide +kernel
theorem dL_law_249 : decode cL_law 249 = .ok (.if_icmp .eq 923, 3) := by decide +kernel
theorem dL_law_252 : decode cL_law 252 = .ok (.iconst 0, 1) := by decide +kernel
theorem dL_law_253 : decode cL_law 253 = .ok (.ireturn, 1) := by decide +kernel
theorem dL_law_254 : decode cL_law 254 = .ok (.aload_n 1, 1) := by decide +kernel
theorem dL_law_255 : decode cL_law 255 = .ok (.aload_n 0, 1) := by decide +kernel
theorem dL_law_256 : decode cL_law 256 = .ok (.iload_n 3, 1) := by decide +kernel
theorem dL_law_257 : decode cL_law 257 = .ok (.iconst 1, 1) := by decide +kernel
theorem dL_law_258 : decode cL_law 258 = .ok (.iadd, 1) := by decide +kernel
theorem dL_law_259 : decode cL_law 259 = .ok (.iaload, 1) := by decide +kernel
theorem dL_law_260 : decode cL_law 260 = .ok (.invokevirtual 23, 3) := by decide +kernel
theorem dL_law_263 : decode cL_law 263 = .ok (.aload_n 2, 1) := by decide +kernel
theorem dL_law_264 : decode cL_law 264 = .ok (.aload_n 0, 1) := by decide +kernel
theorem dL_law_265 : decode cL_law 265 = .ok (.iload_n 3, 1) := by decide +kernel
theorem dL_law_266 : decode cL_law 266 = .ok (.iconst 1, 1) := by decide +kernel
theorem dL_law_267 : decode cL_law 267 = .ok (.iadd, 1) := by decide +kernel
theorem dL_law_268 : decode cL_law 268 = .ok (.iaload, 1) := by decide +kernel
theorem dL_law_269 : decode cL_law 269 = .ok (.invokevirtual 27, 3) := by decide +kernel
theorem dL_law_272 : decode cL_law 272 = .ok (.if_icmp .eq 900, 3) := by decide +kernel
theorem dL_law_275 : decode cL_law 275 = .ok (.iconst 0, 1) := by decide +kernel
theorem dL_law_276 : decode cL_law 276 = .ok (.ireturn, 1) := by decide +kernel
theorem dL_law_277 : decode cL_law 277 = .ok (.aload_n 1, 1) := by decide +kernel
theorem dL_law_278 : decode cL_law 278 = .ok (.aload_n 0, 1) := by decide +kernel
theorem dL_law_279 : decode cL_law 279 = .ok (.iload_n 3, 1) := by decide +kernel
theorem dL_law_280 : decode cL_law 280 = .ok (.iconst 1, 1) := by decide +kernel
theorem dL_law_281 : decode cL_law 281 = .ok (.iadd, 1) := by decide +kernel
theorem dL_law_282 : decode cL_law 282 = .ok (.iaload, 1) := by decide +kernel
theorem dL_law_283 : decode cL_law 283 = .ok (.aload_n 0, 1) := by decide +kernel
theorem dL_law_284 : decode cL_law 284 = .ok (.iload_n 3, 1) := by decide +kernel
theorem dL_law_285 : decode cL_law 285 = .ok (.iconst 2, 1) := by decide +kernel
theorem dL_law_286 : decode cL_law 286 = .ok (.iadd, 1) := by decide +kernel
theorem dL_law_287 : decode cL_law 287 = .ok (.iaload, 1) := by decide +kernel
theorem dL_law_288 : decode cL_law 288 = .ok (.invokevirtual 28, 3) := by decide +kernel
theorem dL_law_291 : decode cL_law 291 = .ok (.aload_n 2, 1) := by decide +kernel
theorem dL_law_292 : decode cL_law 292 = .ok (.aload_n 0, 1) := by decide +kernel
theorem dL_law_293 : decode cL_law 293 = .ok (.iload_n 3, 1) := by decide +kernel
theorem dL_law_294 : decode cL_law 294 = .ok (.iconst 1, 1) := by decide +kernel
theorem dL_law_295 : decode cL_law 295 = .ok (.iadd, 1) := by decide +kernel
theorem dL_law_296 : decode cL_law 296 = .ok (.iaload, 1) := by decide +kernel
theorem dL_law_297 : decode cL_law 297 = .ok (.aload_n 0, 1) := by decide +kernel
theorem dL_law_298 : decode cL_law 298 = .ok (.iload_n 3, 1) := by decide +kernel
theorem dL_law_299 : decode cL_law 299 = .ok (.iconst 2, 1) := by decide +kernel
theorem dL_law_300 : decode cL_law 300 = .ok (.iadd, 1) := by decide +kernel
theorem dL_law_301 : decode cL_law 301 = .ok (.iaload, 1) := by decide +kernel
theorem dL_law_302 : decode cL_law 302 = .ok (.invokevirtual 31, 3) := by decide +kernel
theorem dL_law_305 : decode cL_law 305 = .ok (.if_icmp .eq 867, 3) := by decide +kernel
theorem dL_law_308 : decode cL_law 308 = .ok (.iconst 0, 1) := by decide +kernel
theorem dL_law_309 : decode cL_law 309 = .ok (.ireturn, 1) := by decide +kernel
theorem dL_law_310 : decode cL_law 310 = .ok (.aload_n 1, 1) := by decide +kernel
theorem dL_law_311 : decode cL_law 311 = .ok (.aload_n 0, 1) := by decide +kernel
theorem dL_law_312 : decode cL_law 312 = .ok (.iload_n 3, 1) := by decide +kernel
theorem dL_law_313 : decode cL_law 313 = .ok (.iconst 1, 1) := by decide +kernel
theorem dL_law_314 : decode cL_law 314 = .ok (.iadd, 1) := by decide +kernel
theorem dL_law_315 : decode cL_law 315 = .ok (.iaload, 1) := by decide +kernel
theorem dL_law_316 : decode cL_law 316 = .ok (.aload_n 0, 1) := by decide +kernel
theorem dL_law_317 : decode cL_law 317 = .ok (.iload_n 3, 1) := by decide +kernel
theorem dL_law_318 : decode cL_law 318 = .ok (.iconst 2, 1) := by decide +kernel
theorem dL_law_319 : decode cL_law 319 = .ok (.iadd, 1) := by decide +kernel
theorem dL_law_320 : decode cL_law 320 = .ok (.iaload, 1) := by decide +kernel
theorem dL_law_321 : decode cL_law 321 = .ok (.invokevirtual 32, 3) := by decide +kernel
theorem dL_law_324 : decode cL_law 324 = .ok (.aload_n 2, 1) := by decide +kernel
theorem dL_law_325 : decode cL_law 325 = .ok (.aload_n 0, 1) := by decide +kernel
theorem dL_law_326 : decode cL_law 326 = .ok (.iload_n 3, 1) := by decide +kernel
theorem dL_law_327 : decode cL_law 327 = .ok (.iconst 1, 1) := by decide +kernel
theorem dL_law_328 : decode cL_law 328 = .ok (.iadd, 1) := by decide +kernel
theorem dL_law_329 : decode cL_law 329 = .ok (.iaload, 1) := by decide +kernel
theorem dL_law_330 : decode cL_law 330 = .ok (.aload_n 0, 1) := by decide +kernel
theorem dL_law_331 : decode cL_law 331 = .ok (.iload_n 3, 1) := by decide +kernel
theorem dL_law_332 : decode cL_law 332 = .ok (.iconst 2, 1) := by decide +kernel
theorem dL_law_333 : decode cL_law 333 = .ok (.iadd, 1) := by decide +kernel
theorem dL_law_334 : decode cL_law 334 = .ok (.iaload, 1) := by decide +kernel
theorem dL_law_335 : decode cL_law 335 = .ok (.invokevirtual 35, 3) := by decide +kernel
theorem dL_law_338 : decode cL_law 338 = .ok (.if_icmp .eq 834, 3) := by decide +kernel
theorem dL_law_341 : decode cL_law 341 = .ok (.iconst 0, 1) := by decide +kernel
theorem dL_law_342 : decode cL_law 342 = .ok (.ireturn, 1) := by decide +kernel
theorem dL_law_343 : decode cL_law 343 = .ok (.aload_n 1, 1) := by decide +kernel
theorem dL_law_344 : decode cL_law 344 = .ok (.aload_n 0, 1) := by decide +kernel
theorem dL_law_345 : decode cL_law 345 = .ok (.iload_n 3, 1) := by decide +kernel
theorem dL_law_346 : decode cL_law 346 = .ok (.iconst 1, 1) := by decide +kernel
theorem dL_law_347 : decode cL_law 347 = .ok (.iadd, 1) := by decide +kernel
theorem dL_law_348 : decode cL_law 348 = .ok (.iaload, 1) := by decide +kernel
theorem dL_law_349 : decode cL_law 349 = .ok (.aload_n 0, 1) := by decide +kernel
theorem dL_law_350 : decode cL_law 350 = .ok (.iload_n 3, 1) := by decide +kernel
theorem dL_law_351 : decode cL_law 351 = .ok (.iconst 2, 1) := by decide +kernel
theorem dL_law_352 : decode cL_law 352 = .ok (.iadd, 1) := by decide +kernel
theorem dL_law_353 : decode cL_law 353 = .ok (.iaload, 1) := by decide +kernel
theorem dL_law_354 : decode cL_law 354 = .ok (.invokevirtual 36, 3) := by decide +kernel
theorem dL_law_357 : decode cL_law 357 = .ok (.aload_n 2, 1) := by decide +kernel
theorem dL_law_358 : decode cL_law 358 = .ok (.aload_n 0, 1) := by decide +kernel
theorem dL_law_359 : decode cL_law 359 = .ok (.iload_n 3, 1) := by decide +kernel
theorem dL_law_360 : decode cL_law 360 = .ok (.iconst 1, 1) := by decide +kernel
theorem dL_law_361 : decode cL_law 361 = .ok (.iadd, 1) := by decide +kernel
theorem dL_law_362 : decode cL_law 362 = .ok (.iaload, 1) := by decide +kernel
theorem dL_law_363 : decode cL_law 363 = .ok (.aload_n 0, 1) := by decide +kernel
theorem dL_law_364 : decode cL_law 364 = .ok (.iload_n 3, 1) := by decide +kernel
theorem dL_law_365 : decode cL_law 365 = .ok (.iconst 2, 1) := by decide +kernel
theorem dL_law_366 : decode cL_law 366 = .ok (.iadd, 1) := by decide +kernel
theorem dL_law_367 : decode cL_law 367 = .ok (.iaload, 1) := by decide +kernel
theorem dL_law_368 : decode cL_law 368 = .ok (.invokevirtual 39, 3) := by decide +kernel
theorem dL_law_371 : decode cL_law 371 = .ok (.if_icmp .eq 801, 3) := by decide +kernel
theorem dL_law_374 : decode cL_law 374 = .ok (.iconst 0, 1) := by decide +kernel
theorem dL_law_375 : decode cL_law 375 = .ok (.ireturn, 1) := by decide +kernel
theorem dL_law_376 : decode cL_law 376 = .ok (.aload_n 1, 1) := by decide +kernel
theorem dL_law_377 : decode cL_law 377 = .ok (.aload_n 0, 1) := by decide +kernel
theorem dL_law_378 : decode cL_law 378 = .ok (.iload_n 3, 1) := by decide +kernel
theorem dL_law_379 : decode cL_law 379 = .ok (.iconst 1, 1) := by decide +kernel
theorem dL_law_380 : decode cL_law 380 = .ok (.iadd, 1) := by decide +kernel
theorem dL_law_381 : decode cL_law 381 = .ok (.iaload, 1) := by decide +kernel
theorem dL_law_382 : decode cL_law 382 = .ok (.aload_n 0, 1) := by decide +kernel
theorem dL_law_383 : decode cL_law 383 = .ok (.iload_n 3, 1) := by decide +kernel
theorem dL_law_384 : decode cL_law 384 = .ok (.iconst 2, 1) := by decide +kernel
theorem dL_law_385 : decode cL_law 385 = .ok (.iadd, 1) := by decide +kernel
theorem dL_law_386 : decode cL_law 386 = .ok (.iaload, 1) := by decide +kernel
theorem dL_law_387 : decode cL_law 387 = .ok (.invokevirtual 40, 3) := by decide +kernel
theorem dL_law_390 : decode cL_law 390 = .ok (.aload_n 2, 1) := by decide +kernel
theorem dL_law_391 : decode cL_law 391 = .ok (.aload_n 0, 1) := by decide +kernel
theorem dL_law_392 : decode cL_law 392 = .ok (.iload_n 3, 1) := by decide +kernel
theorem dL_law_393 : decode cL_law 393 = .ok (.iconst 1, 1) := by decide +kernel
theorem dL_law_394 : decode cL_law 394 = .ok (.iadd, 1) := by decide +kernel
theorem dL_law_395 : decode cL_law 395 = .ok (.iaload, 1) := by decide +kernel
theorem dL_law_396 : decode cL_law 396 = .ok (.aload_n 0, 1) := by decide +kernel
theorem dL_law_397 : decode cL_law 397 = .ok (.iload_n 3, 1) := by decide +kernel
theorem dL_law_398 : decode cL_law 398 = .ok (.iconst 2, 1) := by decide +kernel
theorem dL_law_399 : decode cL_law 399 = .ok (.iadd, 1) := by decide +kernel
theorem dL_law_400 : decode cL_law 400 = .ok (.iaload, 1) := by decide +kernel
theorem dL_law_401 : decode cL_law 401 = .ok (.invokevirtual 43, 3) := by decide +kernel
theorem dL_law_404 : decode cL_law 404 = .ok (.if_icmp .eq 768, 3) := by decide +kernel
theorem dL_law_407 : decode cL_law 407 = .ok (.iconst 0, 1) := by decide +kernel
theorem dL_law_408 : decode cL_law 408 = .ok (.ireturn, 1) := by decide +kernel
theorem dL_law_409 : decode cL_law 409 = .ok (.aload_n 1, 1) := by decide +kernel
theorem dL_law_410 : decode cL_law 410 = .ok (.aload_n 0, 1) := by decide +kernel
theorem dL_law_411 : decode cL_law 411 = .ok (.iload_n 3, 1) := by decide +kernel
theorem dL_law_412 : decode cL_law 412 = .ok (.iconst 1, 1) := by decide +kernel
theorem dL_law_413 : decode cL_law 413 = .ok (.iadd, 1) := by decide +kernel
theorem dL_law_414 : decode cL_law 414 = .ok (.iaload, 1) := by decide +kernel
theorem dL_law_415 : decode cL_law 415 = .ok (.invokevirtual 44, 3) := by decide +kernel
theorem dL_law_418 : decode cL_law 418 = .ok (.aload_n 2, 1) := by decide +kernel
theorem dL_law_419 : decode cL_law 419 = .ok (.aload_n 0, 1) := by decide +kernel
theorem dL_law_420 : decode cL_law 420 = .ok (.iload_n 3, 1) := by decide +kernel
theorem dL_law_421 : decode cL_law 421 = .ok (.iconst 1, 1) := by decide +kernel
theorem dL_law_422 : decode cL_law 422 = .ok (.iadd, 1) := by decide +kernel
theorem dL_law_423 : decode cL_law 423 = .ok (.iaload, 1) := by decide +kernel
theorem dL_law_424 : decode cL_law 424 = .ok (.invokevirtual 47, 3) := by decide +kernel
theorem dL_law_427 : decode cL_law 427 = .ok (.if_icmp .eq 745, 3) := by decide +kernel
theorem dL_law_430 : decode cL_law 430 = .ok (.iconst 0, 1) := by decide +kernel
theorem dL_law_431 : decode cL_law 431 = .ok (.ireturn, 1) := by decide +kernel
theorem dL_law_432 : decode cL_law 432 = .ok (.aload_n 1, 1) := by decide +kernel
theorem dL_law_433 : decode cL_law 433 = .ok (.aload_n 0, 1) := by decide +kernel
theorem dL_law_434 : decode cL_law 434 = .ok (.iload_n 3, 1) := by decide +kernel
theorem dL_law_435 : decode cL_law 435 = .ok (.iconst 1, 1) := by decide +kernel
theorem dL_law_436 : decode cL_law 436 = .ok (.iadd, 1) := by decide +kernel
theorem dL_law_437 : decode cL_law 437 = .ok (.iaload, 1) := by decide +kernel
theorem dL_law_438 : decode cL_law 438 = .ok (.aload_n 0, 1) := by decide +kernel
theorem dL_law_439 : decode cL_law 439 = .ok (.iload_n 3, 1) := by decide +kernel
theorem dL_law_440 : decode cL_law 440 = .ok (.iconst 2, 1) := by decide +kernel
theorem dL_law_441 : decode cL_law 441 = .ok (.iadd, 1) := by decide +kernel
theorem dL_law_442 : decode cL_law 442 = .ok (.iaload, 1) := by decide +kernel
theorem dL_law_443 : decode cL_law 443 = .ok (.invokevirtual 48, 3) := by decide +kernel
theorem dL_law_446 : decode cL_law 446 = .ok (.aload_n 2, 1) := by decide +kernel
theorem dL_law_447 : decode cL_law 447 = .ok (.aload_n 0, 1) := by decide +kernel
theorem dL_law_448 : decode cL_law 448 = .ok (.iload_n 3, 1) := by decide +kernel
theorem dL_law_449 : decode cL_law 449 = .ok (.iconst 1, 1) := by decide +kernel
theorem dL_law_450 : decode cL_law 450 = .ok (.iadd, 1) := by decide +kernel
theorem dL_law_451 : decode cL_law 451 = .ok (.iaload, 1) := by decide +kernel
theorem dL_law_452 : decode cL_law 452 = .ok (.aload_n 0, 1) := by decide +kernel
theorem dL_law_453 : decode cL_law 453 = .ok (.iload_n 3, 1) := by decide +kernel
theorem dL_law_454 : decode cL_law 454 = .ok (.iconst 2, 1) := by decide +kernel
theorem dL_law_455 : decode cL_law 455 = .ok (.iadd, 1) := by decide +kernel
theorem dL_law_456 : decode cL_law 456 = .ok (.iaload, 1) := by decide +kernel
theorem dL_law_457 : decode cL_law 457 = .ok (.invokevirtual 51, 3) := by decide +kernel
theorem dL_law_460 : decode cL_law 460 = .ok (.if_icmp .eq 712, 3) := by decide +kernel
theorem dL_law_463 : decode cL_law 463 = .ok (.iconst 0, 1) := by decide +kernel
theorem dL_law_464 : decode cL_law 464 = .ok (.ireturn, 1) := by decide +kernel
theorem dL_law_465 : decode cL_law 465 = .ok (.aload_n 1, 1) := by decide +kernel
theorem dL_law_466 : decode cL_law 466 = .ok (.aload_n 0, 1) := by decide +kernel
theorem dL_law_467 : decode cL_law 467 = .ok (.iload_n 3, 1) := by decide +kernel
theorem dL_law_468 : decode cL_law 468 = .ok (.iconst 1, 1) := by decide +kernel
theorem dL_law_469 : decode cL_law 469 = .ok (.iadd, 1) := by decide +kernel
theorem dL_law_470 : decode cL_law 470 = .ok (.iaload, 1) := by decide +kernel
theorem dL_law_471 : decode cL_law 471 = .ok (.aload_n 0, 1) := by decide +kernel
theorem dL_law_472 : decode cL_law 472 = .ok (.iload_n 3, 1) := by decide +kernel
theorem dL_law_473 : decode cL_law 473 = .ok (.iconst 2, 1) := by decide +kernel
theorem dL_law_474 : decode cL_law 474 = .ok (.iadd, 1) := by decide +kernel
theorem dL_law_475 : decode cL_law 475 = .ok (.iaload, 1) := by decide +kernel
theorem dL_law_476 : decode cL_law 476 = .ok (.aload_n 0, 1) := by decide +kernel
theorem dL_law_477 : decode cL_law 477 = .ok (.iload_n 3, 1) := by decide +kernel
theorem dL_law_478 : decode cL_law 478 = .ok (.iconst 3, 1) := by decide +kernel
theorem dL_law_479 : decode cL_law 479 = .ok (.iadd, 1) := by decide +kernel
theorem dL_law_480 : decode cL_law 480 = .ok (.iaload, 1) := by decide +kernel
theorem dL_law_481 : decode cL_law 481 = .ok (.aload_n 0, 1) := by decide +kernel
theorem dL_law_482 : decode cL_law 482 = .ok (.iload_n 3, 1) := by decide +kernel
theorem dL_law_483 : decode cL_law 483 = .ok (.iconst 4, 1) := by decide +kernel
theorem dL_law_484 : decode cL_law 484 = .ok (.iadd, 1) := by decide +kernel
theorem dL_law_485 : decode cL_law 485 = .ok (.iaload, 1) := by decide +kernel
theorem dL_law_486 : decode cL_law 486 = .ok (.aload_n 0, 1) := by decide +kernel
theorem dL_law_487 : decode cL_law 487 = .ok (.iload_n 3, 1) := by decide +kernel
theorem dL_law_488 : decode cL_law 488 = .ok (.iconst 5, 1) := by decide +kernel
theorem dL_law_489 : decode cL_law 489 = .ok (.iadd, 1) := by decide +kernel
theorem dL_law_490 : decode cL_law 490 = .ok (.iaload, 1) := by decide +kernel
theorem dL_law_491 : decode cL_law 491 = .ok (.aload_n 0, 1) := by decide +kernel
theorem dL_law_492 : decode cL_law 492 = .ok (.iload_n 3, 1) := by decide +kernel
theorem dL_law_493 : decode cL_law 493 = .ok (.bipush 6, 2) := by decide +kernel
theorem dL_law_495 : decode cL_law 495 = .ok (.iadd, 1) := by decide +kernel
theorem dL_law_496 : decode cL_law 496 = .ok (.iaload, 1) := by decide +kernel
theorem dL_law_497 : decode cL_law 497 = .ok (.invokevirtual 52, 3) := by decide +kernel
theorem dL_law_500 : decode cL_law 500 = .ok (.aload_n 2, 1) := by decide +kernel
theorem dL_law_501 : decode cL_law 501 = .ok (.aload_n 0, 1) := by decide +kernel
theorem dL_law_502 : decode cL_law 502 = .ok (.iload_n 3, 1) := by decide +kernel
theorem dL_law_503 : decode cL_law 503 = .ok (.iconst 1, 1) := by decide +kernel
theorem dL_law_504 : decode cL_law 504 = .ok (.iadd, 1) := by decide +kernel
theorem dL_law_505 : decode cL_law 505 = .ok (.iaload, 1) := by decide +kernel
theorem dL_law_506 : decode cL_law 506 = .ok (.aload_n 0, 1) := by decide +kernel
theorem dL_law_507 : decode cL_law 507 = .ok (.iload_n 3, 1) := by decide +kernel
theorem dL_law_508 : decode cL_law 508 = .ok (.iconst 2, 1) := by decide +kernel
theorem dL_law_509 : decode cL_law 509 = .ok (.iadd, 1) := by decide +kernel
theorem dL_law_510 : decode cL_law 510 = .ok (.iaload, 1) := by decide +kernel
theorem dL_law_511 : decode cL_law 511 = .ok (.aload_n 0, 1) := by decide +kernel
theorem dL_law_512 : decode cL_law 512 = .ok (.iload_n 3, 1) := by decide +kernel
theorem dL_law_513 : decode cL_law 513 = .ok (.iconst 3, 1) := by decide +kernel
theorem dL_law_514 : decode cL_law 514 = .ok (.iadd, 1) := by decide +kernel
theorem dL_law_515 : decode cL_law 515 = .ok (.iaload, 1) := by decide +kernel
theorem dL_law_516 : decode cL_law 516 = .ok (.aload_n 0, 1) := by decide +kernel
theorem dL_law_517 : decode cL_law 517 = .ok (.iload_n 3, 1) := by decide +kernel
theorem dL_law_518 : decode cL_law 518 = .ok (.iconst 4, 1) := by decide +kernel
theorem dL_law_519 : decode cL_law 519 = .ok (.iadd, 1) := by decide +kernel
theorem dL_law_520 : decode cL_law 520 = .ok (.iaload, 1) := by decide +kernel
theorem dL_law_521 : decode cL_law 521 = .ok (.aload_n 0, 1) := by decide +kernel
theorem dL_law_522 : decode cL_law 522 = .ok (.iload_n 3, 1) := by decide +kernel
theorem dL_law_523 : decode cL_law 523 = .ok (.iconst 5, 1) := by decide +kernel
theorem dL_law_524 : decode cL_law 524 = .ok (.iadd, 1) := by decide +kernel
theorem dL_law_525 : decode cL_law 525 = .ok (.iaload, 1) := by decide +kernel
theorem dL_law_526 : decode cL_law 526 = .ok (.aload_n 0, 1) := by decide +kernel
theorem dL_law_527 : decode cL_law 527 = .ok (.iload_n 3, 1) := by decide +kernel
theorem dL_law_528 : decode cL_law 528 = .ok (.bipush 6, 2) := by decide +kernel
theorem dL_law_530 : decode cL_law 530 = .ok (.iadd, 1) := by decide +kernel
theorem dL_law_531 : decode cL_law 531 = .ok (.iaload, 1) := by decide +kernel
theorem dL_law_532 : decode cL_law 532 = .ok (.invokevirtual 56, 3) := by decide +kernel
theorem dL_law_535 : decode cL_law 535 = .ok (.if_icmp .eq 637, 3) := by decide +kernel
theorem dL_law_538 : decode cL_law 538 = .ok (.iconst 0, 1) := by decide +kernel
theorem dL_law_539 : decode cL_law 539 = .ok (.ireturn, 1) := by decide +kernel
theorem dL_law_540 : decode cL_law 540 = .ok (.aload_n 1, 1) := by decide +kernel
theorem dL_law_541 : decode cL_law 541 = .ok (.aload_n 0, 1) := by decide +kernel
theorem dL_law_542 : decode cL_law 542 = .ok (.iload_n 3, 1) := by decide +kernel
theorem dL_law_543 : decode cL_law 543 = .ok (.iconst 1, 1) := by decide +kernel
theorem dL_law_544 : decode cL_law 544 = .ok (.iadd, 1) := by decide +kernel
theorem dL_law_545 : decode cL_law 545 = .ok (.iaload, 1) := by decide +kernel
theorem dL_law_546 : decode cL_law 546 = .ok (.aload_n 0, 1) := by decide +kernel
theorem dL_law_547 : decode cL_law 547 = .ok (.iload_n 3, 1) := by decide +kernel
theorem dL_law_548 : decode cL_law 548 = .ok (.iconst 2, 1) := by decide +kernel
theorem dL_law_549 : decode cL_law 549 = .ok (.iadd, 1) := by decide +kernel
theorem dL_law_550 : decode cL_law 550 = .ok (.iaload, 1) := by decide +kernel
theorem dL_law_551 : decode cL_law 551 = .ok (.aload_n 0, 1) := by decide +kernel
theorem dL_law_552 : decode cL_law 552 = .ok (.iload_n 3, 1) := by decide +kernel
theorem dL_law_553 : decode cL_law 553 = .ok (.iconst 3, 1) := by decide +kernel
theorem dL_law_554 : decode cL_law 554 = .ok (.iadd, 1) := by decide +kernel
theorem dL_law_555 : decode cL_law 555 = .ok (.iaload, 1) := by decide +kernel
theorem dL_law_556 : decode cL_law 556 = .ok (.invokevirtual 57, 3) := by decide +kernel
theorem dL_law_559 : decode cL_law 559 = .ok (.aload_n 2, 1) := by decide +kernel
theorem dL_law_560 : decode cL_law 560 = .ok (.aload_n 0, 1) := by decide +kernel
theorem dL_law_561 : decode cL_law 561 = .ok (.iload_n 3, 1) := by decide +kernel
theorem dL_law_562 : decode cL_law 562 = .ok (.iconst 1, 1) := by decide +kernel
theorem dL_law_563 : decode cL_law 563 = .ok (.iadd, 1) := by decide +kernel
theorem dL_law_564 : decode cL_law 564 = .ok (.iaload, 1) := by decide +kernel
theorem dL_law_565 : decode cL_law 565 = .ok (.aload_n 0, 1) := by decide +kernel
theorem dL_law_566 : decode cL_law 566 = .ok (.iload_n 3, 1) := by decide +kernel
theorem dL_law_567 : decode cL_law 567 = .ok (.iconst 2, 1) := by decide +kernel
theorem dL_law_568 : decode cL_law 568 = .ok (.iadd, 1) := by decide +kernel
theorem dL_law_569 : decode cL_law 569 = .ok (.iaload, 1) := by decide +kernel
theorem dL_law_570 : decode cL_law 570 = .ok (.aload_n 0, 1) := by decide +kernel
theorem dL_law_571 : decode cL_law 571 = .ok (.iload_n 3, 1) := by decide +kernel
theorem dL_law_572 : decode cL_law 572 = .ok (.iconst 3, 1) := by decide +kernel
theorem dL_law_573 : decode cL_law 573 = .ok (.iadd, 1) := by decide +kernel
theorem dL_law_574 : decode cL_law 574 = .ok (.iaload, 1) := by decide +kernel
theorem dL_law_575 : decode cL_law 575 = .ok (.invokevirtual 61, 3) := by decide +kernel
theorem dL_law_578 : decode cL_law 578 = .ok (.if_icmp .eq 594, 3) := by decide +kernel
theorem dL_law_581 : decode cL_law 581 = .ok (.iconst 0, 1) := by decide +kernel
theorem dL_law_582 : decode cL_law 582 = .ok (.ireturn, 1) := by decide +kernel
theorem dL_law_583 : decode cL_law 583 = .ok (.aload_n 1, 1) := by decide +kernel
theorem dL_law_584 : decode cL_law 584 = .ok (.aload_n 0, 1) := by decide +kernel
theorem dL_law_585 : decode cL_law 585 = .ok (.iload_n 3, 1) := by decide +kernel
theorem dL_law_586 : decode cL_law 586 = .ok (.iconst 1, 1) := by decide +kernel
theorem dL_law_587 : decode cL_law 587 = .ok (.iadd, 1) := by decide +kernel
theorem dL_law_588 : decode cL_law 588 = .ok (.iaload, 1) := by decide +kernel
theorem dL_law_589 : decode cL_law 589 = .ok (.aload_n 0, 1) := by decide +kernel
theorem dL_law_590 : decode cL_law 590 = .ok (.iload_n 3, 1) := by decide +kernel
theorem dL_law_591 : decode cL_law 591 = .ok (.iconst 2, 1) := by decide +kernel
theorem dL_law_592 : decode cL_law 592 = .ok (.iadd, 1) := by decide +kernel
theorem dL_law_593 : decode cL_law 593 = .ok (.iaload, 1) := by decide +kernel
theorem dL_law_594 : decode cL_law 594 = .ok (.aload_n 0, 1) := by decide +kernel
theorem dL_law_595 : decode cL_law 595 = .ok (.iload_n 3, 1) := by decide +kernel
theorem dL_law_596 : decode cL_law 596 = .ok (.iconst 3, 1) := by decide +kernel
theorem dL_law_597 : decode cL_law 597 = .ok (.iadd, 1) := by decide +kernel
theorem dL_law_598 : decode cL_law 598 = .ok (.iaload, 1) := by decide +kernel
theorem dL_law_599 : decode cL_law 599 = .ok (.invokevirtual 62, 3) := by decide +kernel
theorem dL_law_602 : decode cL_law 602 = .ok (.aload_n 2, 1) := by decide +kernel
theorem dL_law_603 : decode cL_law 603 = .ok (.aload_n 0, 1) := by decide +kernel
theorem dL_law_604 : decode cL_law 604 = .ok (.iload_n 3, 1) := by decide +kernel
theorem dL_law_605 : decode cL_law 605 = .ok (.iconst 1, 1) := by decide +kernel
theorem dL_law_606 : decode cL_law 606 = .ok (.iadd, 1) := by decide +kernel
theorem dL_law_607 : decode cL_law 607 = .ok (.iaload, 1) := by decide +kernel
theorem dL_law_608 : decode cL_law 608 = .ok (.aload_n 0, 1) := by decide +kernel
theorem dL_law_609 : decode cL_law 609 = .ok (.iload_n 3, 1) := by decide +kernel
theorem dL_law_610 : decode cL_law 610 = .ok (.iconst 2, 1) := by decide +kernel
theorem dL_law_611 : decode cL_law 611 = .ok (.iadd, 1) := by decide +kernel
theorem dL_law_612 : decode cL_law 612 = .ok (.iaload, 1) := by decide +kernel
theorem dL_law_613 : decode cL_law 613 = .ok (.aload_n 0, 1) := by decide +kernel
theorem dL_law_614 : decode cL_law 614 = .ok (.iload_n 3, 1) := by decide +kernel
theorem dL_law_615 : decode cL_law 615 = .ok (.iconst 3, 1) := by decide +kernel
theorem dL_law_616 : decode cL_law 616 = .ok (.iadd, 1) := by decide +kernel
theorem dL_law_617 : decode cL_law 617 = .ok (.iaload, 1) := by decide +kernel
theorem dL_law_618 : decode cL_law 618 = .ok (.invokevirtual 65, 3) := by decide +kernel
theorem dL_law_621 : decode cL_law 621 = .ok (.if_icmp .eq 551, 3) := by decide +kernel
theorem dL_law_624 : decode cL_law 624 = .ok (.iconst 0, 1) := by decide +kernel
theorem dL_law_625 : decode cL_law 625 = .ok (.ireturn, 1) := by decide +kernel
theorem dL_law_626 : decode cL_law 626 = .ok (.aload_n 1, 1) := by decide +kernel
theorem dL_law_627 : decode cL_law 627 = .ok (.invokevirtual 66, 3) := by decide +kernel
theorem dL_law_630 : decode cL_law 630 = .ok (.aload_n 2, 1) := by decide +kernel
theorem dL_law_631 : decode cL_law 631 = .ok (.invokevirtual 70, 3) := by decide +kernel
theorem dL_law_634 : decode cL_law 634 = .ok (.if_icmp .eq 538, 3) := by decide +kernel
theorem dL_law_637 : decode cL_law 637 = .ok (.iconst 0, 1) := by decide +kernel
theorem dL_law_638 : decode cL_law 638 = .ok (.ireturn, 1) := by decide +kernel
theorem dL_law_639 : decode cL_law 639 = .ok (.aload_n 1, 1) := by decide +kernel
theorem dL_law_640 : decode cL_law 640 = .ok (.aload_n 0, 1) := by decide +kernel
theorem dL_law_641 : decode cL_law 641 = .ok (.iload_n 3, 1) := by decide +kernel
theorem dL_law_642 : decode cL_law 642 = .ok (.iconst 1, 1) := by decide +kernel
theorem dL_law_643 : decode cL_law 643 = .ok (.iadd, 1) := by decide +kernel
theorem dL_law_644 : decode cL_law 644 = .ok (.iaload, 1) := by decide +kernel
theorem dL_law_645 : decode cL_law 645 = .ok (.aload_n 0, 1) := by decide +kernel
theorem dL_law_646 : decode cL_law 646 = .ok (.iload_n 3, 1) := by decide +kernel
theorem dL_law_647 : decode cL_law 647 = .ok (.iconst 2, 1) := by decide +kernel
theorem dL_law_648 : decode cL_law 648 = .ok (.iadd, 1) := by decide +kernel
theorem dL_law_649 : decode cL_law 649 = .ok (.iaload, 1) := by decide +kernel
theorem dL_law_650 : decode cL_law 650 = .ok (.aload_n 0, 1) := by decide +kernel
theorem dL_law_651 : decode cL_law 651 = .ok (.iload_n 3, 1) := by decide +kernel
theorem dL_law_652 : decode cL_law 652 = .ok (.iconst 3, 1) := by decide +kernel
theorem dL_law_653 : decode cL_law 653 = .ok (.iadd, 1) := by decide +kernel
theorem dL_law_654 : decode cL_law 654 = .ok (.iaload, 1) := by decide +kernel
theorem dL_law_655 : decode cL_law 655 = .ok (.invokevirtual 71, 3) := by decide +kernel
theorem dL_law_658 : decode cL_law 658 = .ok (.aload_n 2, 1) := by decide +kernel
theorem dL_law_659 : decode cL_law 659 = .ok (.aload_n 0, 1) := by decide +kernel
theorem dL_law_660 : decode cL_law 660 = .ok (.iload_n 3, 1) := by decide +kernel
theorem dL_law_661 : decode cL_law 661 = .ok (.iconst 1, 1) := by decide +kernel
theorem dL_law_662 : decode cL_law 662 = .ok (.iadd, 1) := by decide +kernel
theorem dL_law_663 : decode cL_law 663 = .ok (.iaload, 1) := by decide +kernel
theorem dL_law_664 : decode cL_law 664 = .ok (.aload_n 0, 1) := by decide +kernel
theorem dL_law_665 : decode cL_law 665 = .ok (.iload_n 3, 1) := by decide +kernel
theorem dL_law_666 : decode cL_law 666 = .ok (.iconst 2, 1) := by decide +kernel
theorem dL_law_667 : decode cL_law 667 = .ok (.iadd, 1) := by decide +kernel
theorem dL_law_668 : decode cL_law 668 = .ok (.iaload, 1) := by decide +kernel
theorem dL_law_669 : decode cL_law 669 = .ok (.aload_n 0, 1) := by decide +kernel
theorem dL_law_670 : decode cL_law 670 = .ok (.iload_n 3, 1) := by decide +kernel
theorem dL_law_671 : decode cL_law 671 = .ok (.iconst 3, 1) := by decide +kernel
theorem dL_law_672 : decode cL_law 672 = .ok (.iadd, 1) := by decide +kernel
theorem dL_law_673 : decode cL_law 673 = .ok (.iaload, 1) := by decide +kernel
theorem dL_law_674 : decode cL_law 674 = .ok (.invokevirtual 74, 3) := by decide +kernel
theorem dL_law_677 : decode cL_law 677 = .ok (.if_icmp .eq 495, 3) := by decide +kernel
theorem dL_law_680 : decode cL_law 680 = .ok (.iconst 0, 1) := by decide +kernel
theorem dL_law_681 : decode cL_law 681 = .ok (.ireturn, 1) := by decide +kernel
theorem dL_law_682 : decode cL_law 682 = .ok (.aload_n 1, 1) := by decide +kernel
theorem dL_law_683 : decode cL_law 683 = .ok (.aload_n 0, 1) := by decide +kernel
theorem dL_law_684 : decode cL_law 684 = .ok (.iload_n 3, 1) := by decide +kernel
theorem dL_law_685 : decode cL_law 685 = .ok (.iconst 1, 1) := by decide +kernel
theorem dL_law_686 : decode cL_law 686 = .ok (.iadd, 1) := by decide +kernel
theorem dL_law_687 : decode cL_law 687 = .ok (.iaload, 1) := by decide +kernel
theorem dL_law_688 : decode cL_law 688 = .ok (.invokevirtual 75, 3) := by decide +kernel
theorem dL_law_691 : decode cL_law 691 = .ok (.aload_n 2, 1) := by decide +kernel
theorem dL_law_692 : decode cL_law 692 = .ok (.aload_n 0, 1) := by decide +kernel
theorem dL_law_693 : decode cL_law 693 = .ok (.iload_n 3, 1) := by decide +kernel
theorem dL_law_694 : decode cL_law 694 = .ok (.iconst 1, 1) := by decide +kernel
theorem dL_law_695 : decode cL_law 695 = .ok (.iadd, 1) := by decide +kernel
theorem dL_law_696 : decode cL_law 696 = .ok (.iaload, 1) := by decide +kernel
theorem dL_law_697 : decode cL_law 697 = .ok (.invokevirtual 78, 3) := by decide +kernel
theorem dL_law_700 : decode cL_law 700 = .ok (.if_icmp .eq 472, 3) := by decide +kernel
theorem dL_law_703 : decode cL_law 703 = .ok (.iconst 0, 1) := by decide +kernel
theorem dL_law_704 : decode cL_law 704 = .ok (.ireturn, 1) := by decide +kernel
theorem dL_law_705 : decode cL_law 705 = .ok (.aload_n 1, 1) := by decide +kernel
theorem dL_law_706 : decode cL_law 706 = .ok (.aload_n 0, 1) := by decide +kernel
theorem dL_law_707 : decode cL_law 707 = .ok (.iload_n 3, 1) := by decide +kernel
theorem dL_law_708 : decode cL_law 708 = .ok (.iconst 1, 1) := by decide +kernel
theorem dL_law_709 : decode cL_law 709 = .ok (.iadd, 1) := by decide +kernel
theorem dL_law_710 : decode cL_law 710 = .ok (.iaload, 1) := by decide +kernel
theorem dL_law_711 : decode cL_law 711 = .ok (.invokevirtual 79, 3) := by decide +kernel
theorem dL_law_714 : decode cL_law 714 = .ok (.aload_n 2, 1) := by decide +kernel
theorem dL_law_715 : decode cL_law 715 = .ok (.aload_n 0, 1) := by decide +kernel
theorem dL_law_716 : decode cL_law 716 = .ok (.iload_n 3, 1) := by decide +kernel
theorem dL_law_717 : decode cL_law 717 = .ok (.iconst 1, 1) := by decide +kernel
theorem dL_law_718 : decode cL_law 718 = .ok (.iadd, 1) := by decide +kernel
theorem dL_law_719 : decode cL_law 719 = .ok (.iaload, 1) := by decide +kernel
theorem dL_law_720 : decode cL_law 720 = .ok (.invokevirtual 82, 3) := by decide +kernel
theorem dL_law_723 : decode cL_law 723 = .ok (.if_icmp .eq 449, 3) := by decide +kernel
theorem dL_law_726 : decode cL_law 726 = .ok (.iconst 0, 1) := by decide +kernel
theorem dL_law_727 : decode cL_law 727 = .ok (.ireturn, 1) := by decide +kernel
theorem dL_law_728 : decode cL_law 728 = .ok (.aload_n 1, 1) := by decide +kernel
theorem dL_law_729 : decode cL_law 729 = .ok (.aload_n 0, 1) := by decide +kernel
theorem dL_law_730 : decode cL_law 730 = .ok (.iload_n 3, 1) := by decide +kernel
theorem dL_law_731 : decode cL_law 731 = .ok (.iconst 1, 1) := by decide +kernel
theorem dL_law_732 : decode cL_law 732 = .ok (.iadd, 1) := by decide +kernel
theorem dL_law_733 : decode cL_law 733 = .ok (.iaload, 1) := by decide +kernel
theorem dL_law_734 : decode cL_law 734 = .ok (.invokevirtual 83, 3) := by decide +kernel
theorem dL_law_737 : decode cL_law 737 = .ok (.aload_n 2, 1) := by decide +kernel
theorem dL_law_738 : decode cL_law 738 = .ok (.aload_n 0, 1) := by decide +kernel
theorem dL_law_739 : decode cL_law 739 = .ok (.iload_n 3, 1) := by decide +kernel
theorem dL_law_740 : decode cL_law 740 = .ok (.iconst 1, 1) := by decide +kernel
theorem dL_law_741 : decode cL_law 741 = .ok (.iadd, 1) := by decide +kernel
theorem dL_law_742 : decode cL_law 742 = .ok (.iaload, 1) := by decide +kernel
theorem dL_law_743 : decode cL_law 743 = .ok (.invokevirtual 86, 3) := by decide +kernel
theorem dL_law_746 : decode cL_law 746 = .ok (.if_icmp .eq 426, 3) := by decide +kernel
theorem dL_law_749 : decode cL_law 749 = .ok (.iconst 0, 1) := by decide +kernel
theorem dL_law_750 : decode cL_law 750 = .ok (.ireturn, 1) := by decide +kernel
theorem dL_law_751 : decode cL_law 751 = .ok (.aload_n 1, 1) := by decide +kernel
theorem dL_law_752 : decode cL_law 752 = .ok (.aload_n 0, 1) := by decide +kernel
theorem dL_law_753 : decode cL_law 753 = .ok (.iload_n 3, 1) := by decide +kernel
theorem dL_law_754 : decode cL_law 754 = .ok (.iconst 1, 1) := by decide +kernel
theorem dL_law_755 : decode cL_law 755 = .ok (.iadd, 1) := by decide +kernel
theorem dL_law_756 : decode cL_law 756 = .ok (.iaload, 1) := by decide +kernel
theorem dL_law_757 : decode cL_law 757 = .ok (.invokevirtual 87, 3) := by decide +kernel
theorem dL_law_760 : decode cL_law 760 = .ok (.aload_n 2, 1) := by decide +kernel
theorem dL_law_761 : decode cL_law 761 = .ok (.aload_n 0, 1) := by decide +kernel
theorem dL_law_762 : decode cL_law 762 = .ok (.iload_n 3, 1) := by decide +kernel
theorem dL_law_763 : decode cL_law 763 = .ok (.iconst 1, 1) := by decide +kernel
theorem dL_law_764 : decode cL_law 764 = .ok (.iadd, 1) := by decide +kernel
theorem dL_law_765 : decode cL_law 765 = .ok (.iaload, 1) := by decide +kernel
theorem dL_law_766 : decode cL_law 766 = .ok (.invokevirtual 90, 3) := by decide +kernel
theorem dL_law_769 : decode cL_law 769 = .ok (.if_icmp .eq 403, 3) := by decide +kernel
theorem dL_law_772 : decode cL_law 772 = .ok (.iconst 0, 1) := by decide +kernel
theorem dL_law_773 : decode cL_law 773 = .ok (.ireturn, 1) := by decide +kernel
theorem dL_law_774 : decode cL_law 774 = .ok (.aload_n 1, 1) := by decide +kernel
theorem dL_law_775 : decode cL_law 775 = .ok (.aload_n 0, 1) := by decide +kernel
theorem dL_law_776 : decode cL_law 776 = .ok (.iload_n 3, 1) := by decide +kernel
theorem dL_law_777 : decode cL_law 777 = .ok (.iconst 1, 1) := by decide +kernel
theorem dL_law_778 : decode cL_law 778 = .ok (.iadd, 1) := by decide +kernel
theorem dL_law_779 : decode cL_law 779 = .ok (.iaload, 1) := by decide +kernel
theorem dL_law_780 : decode cL_law 780 = .ok (.aload_n 0, 1) := by decide +kernel
theorem dL_law_781 : decode cL_law 781 = .ok (.iload_n 3, 1) := by decide +kernel
theorem dL_law_782 : decode cL_law 782 = .ok (.iconst 2, 1) := by decide +kernel
theorem dL_law_783 : decode cL_law 783 = .ok (.iadd, 1) := by decide +kernel
theorem dL_law_784 : decode cL_law 784 = .ok (.iaload, 1) := by decide +kernel
theorem dL_law_785 : decode cL_law 785 = .ok (.aload_n 0, 1) := by decide +kernel
theorem dL_law_786 : decode cL_law 786 = .ok (.iload_n 3, 1) := by decide +kernel
theorem dL_law_787 : decode cL_law 787 = .ok (.iconst 3, 1) := by decide +kernel
theorem dL_law_788 : decode cL_law 788 = .ok (.iadd, 1) := by decide +kernel
theorem dL_law_789 : decode cL_law 789 = .ok (.iaload, 1) := by decide +kernel
theorem dL_law_790 : decode cL_law 790 = .ok (.aload_n 0, 1) := by decide +kernel
theorem dL_law_791 : decode cL_law 791 = .ok (.iload_n 3, 1) := by decide +kernel
theorem dL_law_792 : decode cL_law 792 = .ok (.iconst 4, 1) := by decide +kernel
theorem dL_law_793 : decode cL_law 793 = .ok (.iadd, 1) := by decide +kernel
theorem dL_law_794 : decode cL_law 794 = .ok (.iaload, 1) := by decide +kernel
theorem dL_law_795 : decode cL_law 795 = .ok (.invokevirtual 91, 3) := by decide +kernel
theorem dL_law_798 : decode cL_law 798 = .ok (.aload_n 2, 1) := by decide +kernel
theorem dL_law_799 : decode cL_law 799 = .ok (.aload_n 0, 1) := by decide +kernel
theorem dL_law_800 : decode cL_law 800 = .ok (.iload_n 3, 1) := by decide +kernel
theorem dL_law_801 : decode cL_law 801 = .ok (.iconst 1, 1) := by decide +kernel
theorem dL_law_802 : decode cL_law 802 = .ok (.iadd, 1) := by decide +kernel
theorem dL_law_803 : decode cL_law 803 = .ok (.iaload, 1) := by decide +kernel
theorem dL_law_804 : decode cL_law 804 = .ok (.aload_n 0, 1) := by decide +kernel
theorem dL_law_805 : decode cL_law 805 = .ok (.iload_n 3, 1) := by decide +kernel
theorem dL_law_806 : decode cL_law 806 = .ok (.iconst 2, 1) := by decide +kernel
theorem dL_law_807 : decode cL_law 807 = .ok (.iadd, 1) := by decide +kernel
theorem dL_law_808 : decode cL_law 808 = .ok (.iaload, 1) := by decide +kernel
theorem dL_law_809 : decode cL_law 809 = .ok (.aload_n 0, 1) := by decide +kernel
theorem dL_law_810 : decode cL_law 810 = .ok (.iload_n 3, 1) := by decide +kernel
theorem dL_law_811 : decode cL_law 811 = .ok (.iconst 3, 1) := by decide +kernel
theorem dL_law_812 : decode cL_law 812 = .ok (.iadd, 1) := by decide +kernel
theorem dL_law_813 : decode cL_law 813 = .ok (.iaload, 1) := by decide +kernel
theorem dL_law_814 : decode cL_law 814 = .ok (.aload_n 0, 1) := by decide +kernel
theorem dL_law_815 : decode cL_law 815 = .ok (.iload_n 3, 1) := by decide +kernel
theorem dL_law_816 : decode cL_law 816 = .ok (.iconst 4, 1) := by decide +kernel
theorem dL_law_817 : decode cL_law 817 = .ok (.iadd, 1) := by decide +kernel
theorem dL_law_818 : decode cL_law 818 = .ok (.iaload, 1) := by decide +kernel
theorem dL_law_819 : decode cL_law 819 = .ok (.invokevirtual 95, 3) := by decide +kernel
theorem dL_law_822 : decode cL_law 822 = .ok (.lcmp, 1) := by decide +kernel
theorem dL_law_823 : decode cL_law 823 = .ok (.ifCond .eq 349, 3) := by decide +kernel
theorem dL_law_826 : decode cL_law 826 = .ok (.iconst 0, 1) := by decide +kernel
theorem dL_law_827 : decode cL_law 827 = .ok (.ireturn, 1) := by decide +kernel
theorem dL_law_828 : decode cL_law 828 = .ok (.aload_n 1, 1) := by decide +kernel
theorem dL_law_829 : decode cL_law 829 = .ok (.aload_n 0, 1) := by decide +kernel
theorem dL_law_830 : decode cL_law 830 = .ok (.iload_n 3, 1) := by decide +kernel
theorem dL_law_831 : decode cL_law 831 = .ok (.iconst 1, 1) := by decide +kernel
theorem dL_law_832 : decode cL_law 832 = .ok (.iadd, 1) := by decide +kernel
theorem dL_law_833 : decode cL_law 833 = .ok (.iaload, 1) := by decide +kernel
theorem dL_law_834 : decode cL_law 834 = .ok (.aload_n 0, 1) := by decide +kernel
theorem dL_law_835 : decode cL_law 835 = .ok (.iload_n 3, 1) := by decide +kernel
theorem dL_law_836 : decode cL_law 836 = .ok (.iconst 2, 1) := by decide +kernel
theorem dL_law_837 : decode cL_law 837 = .ok (.iadd, 1) := by decide +kernel
theorem dL_law_838 : decode cL_law 838 = .ok (.iaload, 1) := by decide +kernel
theorem dL_law_839 : decode cL_law 839 = .ok (.aload_n 0, 1) := by decide +kernel
theorem dL_law_840 : decode cL_law 840 = .ok (.iload_n 3, 1) := by decide +kernel
theorem dL_law_841 : decode cL_law 841 = .ok (.iconst 3, 1) := by decide +kernel
theorem dL_law_842 : decode cL_law 842 = .ok (.iadd, 1) := by decide +kernel
theorem dL_law_843 : decode cL_law 843 = .ok (.iaload, 1) := by decide +kernel
theorem dL_law_844 : decode cL_law 844 = .ok (.invokevirtual 96, 3) := by decide +kernel
theorem dL_law_847 : decode cL_law 847 = .ok (.aload_n 2, 1) := by decide +kernel
theorem dL_law_848 : decode cL_law 848 = .ok (.aload_n 0, 1) := by decide +kernel
theorem dL_law_849 : decode cL_law 849 = .ok (.iload_n 3, 1) := by decide +kernel
theorem dL_law_850 : decode cL_law 850 = .ok (.iconst 1, 1) := by decide +kernel
theorem dL_law_851 : decode cL_law 851 = .ok (.iadd, 1) := by decide +kernel
theorem dL_law_852 : decode cL_law 852 = .ok (.iaload, 1) := by decide +kernel
theorem dL_law_853 : decode cL_law 853 = .ok (.aload_n 0, 1) := by decide +kernel
theorem dL_law_854 : decode cL_law 854 = .ok (.iload_n 3, 1) := by decide +kernel
theorem dL_law_855 : decode cL_law 855 = .ok (.iconst 2, 1) := by decide +kernel
theorem dL_law_856 : decode cL_law 856 = .ok (.iadd, 1) := by decide +kernel
theorem dL_law_857 : decode cL_law 857 = .ok (.iaload, 1) := by decide +kernel
theorem dL_law_858 : decode cL_law 858 = .ok (.aload_n 0, 1) := by decide +kernel
theorem dL_law_859 : decode cL_law 859 = .ok (.iload_n 3, 1) := by decide +kernel
theorem dL_law_860 : decode cL_law 860 = .ok (.iconst 3, 1) := by decide +kernel
theorem dL_law_861 : decode cL_law 861 = .ok (.iadd, 1) := by decide +kernel
theorem dL_law_862 : decode cL_law 862 = .ok (.iaload, 1) := by decide +kernel
theorem dL_law_863 : decode cL_law 863 = .ok (.invokevirtual 99, 3) := by decide +kernel
theorem dL_law_866 : decode cL_law 866 = .ok (.if_icmp .eq 306, 3) := by decide +kernel
theorem dL_law_869 : decode cL_law 869 = .ok (.iconst 0, 1) := by decide +kernel
theorem dL_law_870 : decode cL_law 870 = .ok (.ireturn, 1) := by decide +kernel
theorem dL_law_871 : decode cL_law 871 = .ok (.aload_n 1, 1) := by decide +kernel
theorem dL_law_872 : decode cL_law 872 = .ok (.aload_n 0, 1) := by decide +kernel
theorem dL_law_873 : decode cL_law 873 = .ok (.iload_n 3, 1) := by decide +kernel
theorem dL_law_874 : decode cL_law 874 = .ok (.iconst 1, 1) := by decide +kernel
theorem dL_law_875 : decode cL_law 875 = .ok (.iadd, 1) := by decide +kernel
theorem dL_law_876 : decode cL_law 876 = .ok (.iaload, 1) := by decide +kernel
theorem dL_law_877 : decode cL_law 877 = .ok (.invokevirtual 100, 3) := by decide +kernel
theorem dL_law_880 : decode cL_law 880 = .ok (.aload_n 2, 1) := by decide +kernel
theorem dL_law_881 : decode cL_law 881 = .ok (.aload_n 0, 1) := by decide +kernel
theorem dL_law_882 : decode cL_law 882 = .ok (.iload_n 3, 1) := by decide +kernel
theorem dL_law_883 : decode cL_law 883 = .ok (.iconst 1, 1) := by decide +kernel
theorem dL_law_884 : decode cL_law 884 = .ok (.iadd, 1) := by decide +kernel
theorem dL_law_885 : decode cL_law 885 = .ok (.iaload, 1) := by decide +kernel
theorem dL_law_886 : decode cL_law 886 = .ok (.invokevirtual 103, 3) := by decide +kernel
theorem dL_law_889 : decode cL_law 889 = .ok (.if_icmp .eq 283, 3) := by decide +kernel
theorem dL_law_892 : decode cL_law 892 = .ok (.iconst 0, 1) := by decide +kernel
theorem dL_law_893 : decode cL_law 893 = .ok (.ireturn, 1) := by decide +kernel
theorem dL_law_894 : decode cL_law 894 = .ok (.aload_n 1, 1) := by decide +kernel
theorem dL_law_895 : decode cL_law 895 = .ok (.aload_n 0, 1) := by decide +kernel
theorem dL_law_896 : decode cL_law 896 = .ok (.iload_n 3, 1) := by decide +kernel
theorem dL_law_897 : decode cL_law 897 = .ok (.iconst 1, 1) := by decide +kernel
theorem dL_law_898 : decode cL_law 898 = .ok (.iadd, 1) := by decide +kernel
theorem dL_law_899 : decode cL_law 899 = .ok (.iaload, 1) := by decide +kernel
theorem dL_law_900 : decode cL_law 900 = .ok (.aload_n 0, 1) := by decide +kernel
theorem dL_law_901 : decode cL_law 901 = .ok (.iload_n 3, 1) := by decide +kernel
theorem dL_law_902 : decode cL_law 902 = .ok (.iconst 2, 1) := by decide +kernel
theorem dL_law_903 : decode cL_law 903 = .ok (.iadd, 1) := by decide +kernel
theorem dL_law_904 : decode cL_law 904 = .ok (.iaload, 1) := by decide +kernel
theorem dL_law_905 : decode cL_law 905 = .ok (.aload_n 0, 1) := by decide +kernel
theorem dL_law_906 : decode cL_law 906 = .ok (.iload_n 3, 1) := by decide +kernel
theorem dL_law_907 : decode cL_law 907 = .ok (.iconst 3, 1) := by decide +kernel
theorem dL_law_908 : decode cL_law 908 = .ok (.iadd, 1) := by decide +kernel
theorem dL_law_909 : decode cL_law 909 = .ok (.iaload, 1) := by decide +kernel
theorem dL_law_910 : decode cL_law 910 = .ok (.invokevirtual 104, 3) := by decide +kernel
theorem dL_law_913 : decode cL_law 913 = .ok (.aload_n 2, 1) := by decide +kernel
theorem dL_law_914 : decode cL_law 914 = .ok (.aload_n 0, 1) := by decide +kernel
theorem dL_law_915 : decode cL_law 915 = .ok (.iload_n 3, 1) := by decide +kernel
theorem dL_law_916 : decode cL_law 916 = .ok (.iconst 1, 1) := by decide +kernel
theorem dL_law_917 : decode cL_law 917 = .ok (.iadd, 1) := by decide +kernel
theorem dL_law_918 : decode cL_law 918 = .ok (.iaload, 1) := by decide +kernel
theorem dL_law_919 : decode cL_law 919 = .ok (.aload_n 0, 1) := by decide +kernel
theorem dL_law_920 : decode cL_law 920 = .ok (.iload_n 3, 1) := by decide +kernel
theorem dL_law_921 : decode cL_law 921 = .ok (.iconst 2, 1) := by decide +kernel
theorem dL_law_922 : decode cL_law 922 = .ok (.iadd, 1) := by decide +kernel
theorem dL_law_923 : decode cL_law 923 = .ok (.iaload, 1) := by decide +kernel
theorem dL_law_924 : decode cL_law 924 = .ok (.aload_n 0, 1) := by decide +kernel
theorem dL_law_925 : decode cL_law 925 = .ok (.iload_n 3, 1) := by decide +kernel
theorem dL_law_926 : decode cL_law 926 = .ok (.iconst 3, 1) := by decide +kernel
theorem dL_law_927 : decode cL_law 927 = .ok (.iadd, 1) := by decide +kernel
theorem dL_law_928 : decode cL_law 928 = .ok (.iaload, 1) := by decide +kernel
theorem dL_law_929 : decode cL_law 929 = .ok (.invokevirtual 107, 3) := by decide +kernel
theorem dL_law_932 : decode cL_law 932 = .ok (.if_icmp .eq 240, 3) := by decide +kernel
theorem dL_law_935 : decode cL_law 935 = .ok (.iconst 0, 1) := by decide +kernel
theorem dL_law_936 : decode cL_law 936 = .ok (.ireturn, 1) := by decide +kernel
theorem dL_law_937 : decode cL_law 937 = .ok (.aload_n 1, 1) := by decide +kernel
theorem dL_law_938 : decode cL_law 938 = .ok (.aload_n 0, 1) := by decide +kernel
theorem dL_law_939 : decode cL_law 939 = .ok (.iload_n 3, 1) := by decide +kernel
theorem dL_law_940 : decode cL_law 940 = .ok (.iconst 1, 1) := by decide +kernel
theorem dL_law_941 : decode cL_law 941 = .ok (.iadd, 1) := by decide +kernel
theorem dL_law_942 : decode cL_law 942 = .ok (.iaload, 1) := by decide +kernel
theorem dL_law_943 : decode cL_law 943 = .ok (.aload_n 0, 1) := by decide +kernel
theorem dL_law_944 : decode cL_law 944 = .ok (.iload_n 3, 1) := by decide +kernel
theorem dL_law_945 : decode cL_law 945 = .ok (.iconst 2, 1) := by decide +kernel
theorem dL_law_946 : decode cL_law 946 = .ok (.iadd, 1) := by decide +kernel
theorem dL_law_947 : decode cL_law 947 = .ok (.iaload, 1) := by decide +kernel
theorem dL_law_948 : decode cL_law 948 = .ok (.aload_n 0, 1) := by decide +kernel
theorem dL_law_949 : decode cL_law 949 = .ok (.iload_n 3, 1) := by decide +kernel
theorem dL_law_950 : decode cL_law 950 = .ok (.iconst 3, 1) := by decide +kernel
theorem dL_law_951 : decode cL_law 951 = .ok (.iadd, 1) := by decide +kernel
theorem dL_law_952 : decode cL_law 952 = .ok (.iaload, 1) := by decide +kernel
theorem dL_law_953 : decode cL_law 953 = .ok (.invokevirtual 108, 3) := by decide +kernel
theorem dL_law_956 : decode cL_law 956 = .ok (.aload_n 2, 1) := by decide +kernel
theorem dL_law_957 : decode cL_law 957 = .ok (.aload_n 0, 1) := by decide +kernel
theorem dL_law_958 : decode cL_law 958 = .ok (.iload_n 3, 1) := by decide +kernel
theorem dL_law_959 : decode cL_law 959 = .ok (.iconst 1, 1) := by decide +kernel
theorem dL_law_960 : decode cL_law 960 = .ok (.iadd, 1) := by decide +kernel
theorem dL_law_961 : decode cL_law 961 = .ok (.iaload, 1) := by decide +kernel
theorem dL_law_962 : decode cL_law 962 = .ok (.aload_n 0, 1) := by decide +kernel
theorem dL_law_963 : decode cL_law 963 = .ok (.iload_n 3, 1) := by decide +kernel
theorem dL_law_964 : decode cL_law 964 = .ok (.iconst 2, 1) := by decide +kernel
theorem dL_law_965 : decode cL_law 965 = .ok (.iadd, 1) := by decide +kernel
theorem dL_law_966 : decode cL_law 966 = .ok (.iaload, 1) := by decide +kernel
theorem dL_law_967 : decode cL_law 967 = .ok (.aload_n 0, 1) := by decide +kernel
theorem dL_law_968 : decode cL_law 968 = .ok (.iload_n 3, 1) := by decide +kernel
theorem dL_law_969 : decode cL_law 969 = .ok (.iconst 3, 1) := by decide +kernel
theorem dL_law_970 : decode cL_law 970 = .ok (.iadd, 1) := by decide +kernel
theorem dL_law_971 : decode cL_law 971 = .ok (.iaload, 1) := by decide +kernel
theorem dL_law_972 : decode cL_law 972 = .ok (.invokevirtual 112, 3) := by decide +kernel
theorem dL_law_975 : decode cL_law 975 = .ok (.lcmp, 1) := by decide +kernel
theorem dL_law_976 : decode cL_law 976 = .ok (.ifCond .eq 196, 3) := by decide +kernel
theorem dL_law_979 : decode cL_law 979 = .ok (.iconst 0, 1) := by decide +kernel
theorem dL_law_980 : decode cL_law 980 = .ok (.ireturn, 1) := by decide +kernel
theorem dL_law_981 : decode cL_law 981 = .ok (.aload_n 1, 1) := by decide +kernel
theorem dL_law_982 : decode cL_law 982 = .ok (.aload_n 0, 1) := by decide +kernel
theorem dL_law_983 : decode cL_law 983 = .ok (.iload_n 3, 1) := by decide +kernel
theorem dL_law_984 : decode cL_law 984 = .ok (.iconst 1, 1) := by decide +kernel
theorem dL_law_985 : decode cL_law 985 = .ok (.iadd, 1) := by decide +kernel
theorem dL_law_986 : decode cL_law 986 = .ok (.iaload, 1) := by decide +kernel
theorem dL_law_987 : decode cL_law 987 = .ok (.aload_n 0, 1) := by decide +kernel
theorem dL_law_988 : decode cL_law 988 = .ok (.iload_n 3, 1) := by decide +kernel
theorem dL_law_989 : decode cL_law 989 = .ok (.iconst 2, 1) := by decide +kernel
theorem dL_law_990 : decode cL_law 990 = .ok (.iadd, 1) := by decide +kernel
theorem dL_law_991 : decode cL_law 991 = .ok (.iaload, 1) := by decide +kernel
theorem dL_law_992 : decode cL_law 992 = .ok (.aload_n 0, 1) := by decide +kernel
theorem dL_law_993 : decode cL_law 993 = .ok (.iload_n 3, 1) := by decide +kernel
theorem dL_law_994 : decode cL_law 994 = .ok (.iconst 3, 1) := by decide +kernel
theorem dL_law_995 : decode cL_law 995 = .ok (.iadd, 1) := by decide +kernel
theorem dL_law_996 : decode cL_law 996 = .ok (.iaload, 1) := by decide +kernel
theorem dL_law_997 : decode cL_law 997 = .ok (.aload_n 0, 1) := by decide +kernel
theorem dL_law_998 : decode cL_law 998 = .ok (.iload_n 3, 1) := by decide +kernel
theorem dL_law_999 : decode cL_law 999 = .ok (.iconst 4, 1) := by decide +kernel
theorem dL_law_1000 : decode cL_law 1000 = .ok (.iadd, 1) := by decide +kernel
theorem dL_law_1001 : decode cL_law 1001 = .ok (.iaload, 1) := by decide +kernel
theorem dL_law_1002 : decode cL_law 1002 = .ok (.aload_n 0, 1) := by decide +kernel
theorem dL_law_1003 : decode cL_law 1003 = .ok (.iload_n 3, 1) := by decide +kernel
theorem dL_law_1004 : decode cL_law 1004 = .ok (.iconst 5, 1) := by decide +kernel
theorem dL_law_1005 : decode cL_law 1005 = .ok (.iadd, 1) := by decide +kernel
theorem dL_law_1006 : decode cL_law 1006 = .ok (.iaload, 1) := by decide +kernel
theorem dL_law_1007 : decode cL_law 1007 = .ok (.invokevirtual 113, 3) := by decide +kernel
theorem dL_law_1010 : decode cL_law 1010 = .ok (.aload_n 2, 1) := by decide +kernel
theorem dL_law_1011 : decode cL_law 1011 = .ok (.aload_n 0, 1) := by decide +kernel
theorem dL_law_1012 : decode cL_law 1012 = .ok (.iload_n 3, 1) := by decide +kernel
theorem dL_law_1013 : decode cL_law 1013 = .ok (.iconst 1, 1) := by decide +kernel
theorem dL_law_1014 : decode cL_law 1014 = .ok (.iadd, 1) := by decide +kernel
theorem dL_law_1015 : decode cL_law 1015 = .ok (.iaload, 1) := by decide +kernel
theorem dL_law_1016 : decode cL_law 1016 = .ok (.aload_n 0, 1) := by decide +kernel
theorem dL_law_1017 : decode cL_law 1017 = .ok (.iload_n 3, 1) := by decide +kernel
theorem dL_law_1018 : decode cL_law 1018 = .ok (.iconst 2, 1) := by decide +kernel
theorem dL_law_1019 : decode cL_law 1019 = .ok (.iadd, 1) := by decide +kernel
theorem dL_law_1020 : decode cL_law 1020 = .ok (.iaload, 1) := by decide +kernel
theorem dL_law_1021 : decode cL_law 1021 = .ok (.aload_n 0, 1) := by decide +kernel
theorem dL_law_1022 : decode cL_law 1022 = .ok (.iload_n 3, 1) := by decide +kernel
theorem dL_law_1023 : decode cL_law 1023 = .ok (.iconst 3, 1) := by decide +kernel
theorem dL_law_1024 : decode cL_law 1024 = .ok (.iadd, 1) := by decide +kernel
theorem dL_law_1025 : decode cL_law 1025 = .ok (.iaload, 1) := by decide +kernel
theorem dL_law_1026 : decode cL_law 1026 = .ok (.aload_n 0, 1) := by decide +kernel
theorem dL_law_1027 : decode cL_law 1027 = .ok (.iload_n 3, 1) := by decide +kernel
theorem dL_law_1028 : decode cL_law 1028 = .ok (.iconst 4, 1) := by decide +kernel
theorem dL_law_1029 : decode cL_law 1029 = .ok (.iadd, 1) := by decide +kernel
theorem dL_law_1030 : decode cL_law 1030 = .ok (.iaload, 1) := by decide +kernel
theorem dL_law_1031 : decode cL_law 1031 = .ok (.aload_n 0, 1) := by decide +kernel
theorem dL_law_1032 : decode cL_law 1032 = .ok (.iload_n 3, 1) := by decide +kernel
theorem dL_law_1033 : decode cL_law 1033 = .ok (.iconst 5, 1) := by decide +kernel
theorem dL_law_1034 : decode cL_law 1034 = .ok (.iadd, 1) := by decide +kernel
theorem dL_law_1035 : decode cL_law 1035 = .ok (.iaload, 1) := by decide +kernel
theorem dL_law_1036 : decode cL_law 1036 = .ok (.invokevirtual 117, 3) := by decide +kernel
theorem dL_law_1039 : decode cL_law 1039 = .ok (.if_icmp .eq 133, 3) := by decide +kernel
theorem dL_law_1042 : decode cL_law 1042 = .ok (.iconst 0, 1) := by decide +kernel
theorem dL_law_1043 : decode cL_law 1043 = .ok (.ireturn, 1) := by decide +kernel
theorem dL_law_1044 : decode cL_law 1044 = .ok (.aload_n 1, 1) := by decide +kernel
theorem dL_law_1045 : decode cL_law 1045 = .ok (.aload_n 0, 1) := by decide +kernel
theorem dL_law_1046 : decode cL_law 1046 = .ok (.iload_n 3, 1) := by decide +kernel
theorem dL_law_1047 : decode cL_law 1047 = .ok (.iconst 1, 1) := by decide +kernel
theorem dL_law_1048 : decode cL_law 1048 = .ok (.iadd, 1) := by decide +kernel
theorem dL_law_1049 : decode cL_law 1049 = .ok (.iaload, 1) := by decide +kernel
theorem dL_law_1050 : decode cL_law 1050 = .ok (.invokevirtual 118, 3) := by decide +kernel
theorem dL_law_1053 : decode cL_law 1053 = .ok (.aload_n 2, 1) := by decide +kernel
theorem dL_law_1054 : decode cL_law 1054 = .ok (.aload_n 0, 1) := by decide +kernel
theorem dL_law_1055 : decode cL_law 1055 = .ok (.iload_n 3, 1) := by decide +kernel
theorem dL_law_1056 : decode cL_law 1056 = .ok (.iconst 1, 1) := by decide +kernel
theorem dL_law_1057 : decode cL_law 1057 = .ok (.iadd, 1) := by decide +kernel
theorem dL_law_1058 : decode cL_law 1058 = .ok (.iaload, 1) := by decide +kernel
theorem dL_law_1059 : decode cL_law 1059 = .ok (.invokevirtual 121, 3) := by decide +kernel
theorem dL_law_1062 : decode cL_law 1062 = .ok (.if_icmp .eq 110, 3) := by decide +kernel
theorem dL_law_1065 : decode cL_law 1065 = .ok (.iconst 0, 1) := by decide +kernel
theorem dL_law_1066 : decode cL_law 1066 = .ok (.ireturn, 1) := by decide +kernel
theorem dL_law_1067 : decode cL_law 1067 = .ok (.aload_n 1, 1) := by decide +kernel
theorem dL_law_1068 : decode cL_law 1068 = .ok (.aload_n 0, 1) := by decide +kernel
theorem dL_law_1069 : decode cL_law 1069 = .ok (.iload_n 3, 1) := by decide +kernel
theorem dL_law_1070 : decode cL_law 1070 = .ok (.iconst 1, 1) := by decide +kernel
theorem dL_law_1071 : decode cL_law 1071 = .ok (.iadd, 1) := by decide +kernel
theorem dL_law_1072 : decode cL_law 1072 = .ok (.iaload, 1) := by decide +kernel
theorem dL_law_1073 : decode cL_law 1073 = .ok (.invokevirtual 122, 3) := by decide +kernel
theorem dL_law_1076 : decode cL_law 1076 = .ok (.aload_n 2, 1) := by decide +kernel
theorem dL_law_1077 : decode cL_law 1077 = .ok (.aload_n 0, 1) := by decide +kernel
theorem dL_law_1078 : decode cL_law 1078 = .ok (.iload_n 3, 1) := by decide +kernel
theorem dL_law_1079 : decode cL_law 1079 = .ok (.iconst 1, 1) := by decide +kernel
theorem dL_law_1080 : decode cL_law 1080 = .ok (.iadd, 1) := by decide +kernel
theorem dL_law_1081 : decode cL_law 1081 = .ok (.iaload, 1) := by decide +kernel
theorem dL_law_1082 : decode cL_law 1082 = .ok (.invokevirtual 125, 3) := by decide +kernel
theorem dL_law_1085 : decode cL_law 1085 = .ok (.if_icmp .eq 87, 3) := by decide +kernel
theorem dL_law_1088 : decode cL_law 1088 = .ok (.iconst 0, 1) := by decide +kernel
theorem dL_law_1089 : decode cL_law 1089 = .ok (.ireturn, 1) := by decide +kernel
theorem dL_law_1090 : decode cL_law 1090 = .ok (.aload_n 1, 1) := by decide +kernel
theorem dL_law_1091 : decode cL_law 1091 = .ok (.aload_n 0, 1) := by decide +kernel
theorem dL_law_1092 : decode cL_law 1092 = .ok (.iload_n 3, 1) := by decide +kernel
theorem dL_law_1093 : decode cL_law 1093 = .ok (.iconst 1, 1) := by decide +kernel
theorem dL_law_1094 : decode cL_law 1094 = .ok (.iadd, 1) := by decide +kernel
theorem dL_law_1095 : decode cL_law 1095 = .ok (.iaload, 1) := by decide +kernel
theorem dL_law_1096 : decode cL_law 1096 = .ok (.aload_n 0, 1) := by decide +kernel
theorem dL_law_1097 : decode cL_law 1097 = .ok (.iload_n 3, 1) := by decide +kernel
theorem dL_law_1098 : decode cL_law 1098 = .ok (.iconst 2, 1) := by decide +kernel
theorem dL_law_1099 : decode cL_law 1099 = .ok (.iadd, 1) := by decide +kernel
theorem dL_law_1100 : decode cL_law 1100 = .ok (.iaload, 1) := by decide +kernel
theorem dL_law_1101 : decode cL_law 1101 = .ok (.invokevirtual 126, 3) := by decide +kernel
theorem dL_law_1104 : decode cL_law 1104 = .ok (.aload_n 2, 1) := by decide +kernel
theorem dL_law_1105 : decode cL_law 1105 = .ok (.aload_n 0, 1) := by decide +kernel
theorem dL_law_1106 : decode cL_law 1106 = .ok (.iload_n 3, 1) := by decide +kernel
theorem dL_law_1107 : decode cL_law 1107 = .ok (.iconst 1, 1) := by decide +kernel
theorem dL_law_1108 : decode cL_law 1108 = .ok (.iadd, 1) := by decide +kernel
theorem dL_law_1109 : decode cL_law 1109 = .ok (.iaload, 1) := by decide +kernel
theorem dL_law_1110 : decode cL_law 1110 = .ok (.aload_n 0, 1) := by decide +kernel
theorem dL_law_1111 : decode cL_law 1111 = .ok (.iload_n 3, 1) := by decide +kernel
theorem dL_law_1112 : decode cL_law 1112 = .ok (.iconst 2, 1) := by decide +kernel
theorem dL_law_1113 : decode cL_law 1113 = .ok (.iadd, 1) := by decide +kernel
theorem dL_law_1114 : decode cL_law 1114 = .ok (.iaload, 1) := by decide +kernel
theorem dL_law_1115 : decode cL_law 1115 = .ok (.invokevirtual 129, 3) := by decide +kernel
theorem dL_law_1118 : decode cL_law 1118 = .ok (.if_icmp .eq 54, 3) := by decide +kernel
theorem dL_law_1121 : decode cL_law 1121 = .ok (.iconst 0, 1) := by decide +kernel
theorem dL_law_1122 : decode cL_law 1122 = .ok (.ireturn, 1) := by decide +kernel
theorem dL_law_1123 : decode cL_law 1123 = .ok (.aload_n 1, 1) := by decide +kernel
theorem dL_law_1124 : decode cL_law 1124 = .ok (.invokevirtual 130, 3) := by decide +kernel
theorem dL_law_1127 : decode cL_law 1127 = .ok (.aload_n 2, 1) := by decide +kernel
theorem dL_law_1128 : decode cL_law 1128 = .ok (.invokevirtual 133, 3) := by decide +kernel
theorem dL_law_1131 : decode cL_law 1131 = .ok (.if_icmp .eq 41, 3) := by decide +kernel
theorem dL_law_1134 : decode cL_law 1134 = .ok (.iconst 0, 1) := by decide +kernel
theorem dL_law_1135 : decode cL_law 1135 = .ok (.ireturn, 1) := by decide +kernel
theorem dL_law_1136 : decode cL_law 1136 = .ok (.aload_n 1, 1) := by decide +kernel
theorem dL_law_1137 : decode cL_law 1137 = .ok (.invokevirtual 134, 3) := by decide +kernel
theorem dL_law_1140 : decode cL_law 1140 = .ok (.aload_n 2, 1) := by decide +kernel
theorem dL_law_1141 : decode cL_law 1141 = .ok (.invokevirtual 137, 3) := by decide +kernel
theorem dL_law_1144 : decode cL_law 1144 = .ok (.if_icmp .eq 28, 3) := by decide +kernel
theorem dL_law_1147 : decode cL_law 1147 = .ok (.iconst 0, 1) := by decide +kernel
theorem dL_law_1148 : decode cL_law 1148 = .ok (.ireturn, 1) := by decide +kernel
theorem dL_law_1149 : decode cL_law 1149 = .ok (.aload_n 1, 1) := by decide +kernel
theorem dL_law_1150 : decode cL_law 1150 = .ok (.aload_n 0, 1) := by decide +kernel
theorem dL_law_1151 : decode cL_law 1151 = .ok (.iload_n 3, 1) := by decide +kernel
theorem dL_law_1152 : decode cL_law 1152 = .ok (.iconst 1, 1) := by decide +kernel
theorem dL_law_1153 : decode cL_law 1153 = .ok (.iadd, 1) := by decide +kernel
theorem dL_law_1154 : decode cL_law 1154 = .ok (.iaload, 1) := by decide +kernel
theorem dL_law_1155 : decode cL_law 1155 = .ok (.invokevirtual 138, 3) := by decide +kernel
theorem dL_law_1158 : decode cL_law 1158 = .ok (.aload_n 2, 1) := by decide +kernel
theorem dL_law_1159 : decode cL_law 1159 = .ok (.aload_n 0, 1) := by decide +kernel
theorem dL_law_1160 : decode cL_law 1160 = .ok (.iload_n 3, 1) := by decide +kernel
theorem dL_law_1161 : decode cL_law 1161 = .ok (.iconst 1, 1) := by decide +kernel
theorem dL_law_1162 : decode cL_law 1162 = .ok (.iadd, 1) := by decide +kernel
theorem dL_law_1163 : decode cL_law 1163 = .ok (.iaload, 1) := by decide +kernel
theorem dL_law_1164 : decode cL_law 1164 = .ok (.invokevirtual 141, 3) := by decide +kernel
theorem dL_law_1167 : decode cL_law 1167 = .ok (.if_icmp .eq 5, 3) := by decide +kernel
theorem dL_law_1170 : decode cL_law 1170 = .ok (.iconst 0, 1) := by decide +kernel
theorem dL_law_1171 : decode cL_law 1171 = .ok (.ireturn, 1) := by decide +kernel
theorem dL_law_1172 : decode cL_law 1172 = .ok (.iinc 3 7, 3) := by decide +kernel
theorem dL_law_1175 : decode cL_law 1175 = .ok (.goto (-1157), 3) := by decide +kernel
theorem dL_law_1178 : decode cL_law 1178 = .ok (.iconst 1, 1) := by decide +kernel
theorem dL_law_1179 : decode cL_law 1179 = .ok (.ireturn, 1) := by decide +kernel
end
section
def GL (own : String) (idx ci k : Nat) : Prop := ∃ (C : String) (T : u_T) (N : Nat), Cond.fieldLink own idx C (T k).2.1 (T k).2.2.1 ∈ TB ∧ (∀ w ∈ u_ws C T N, w ∈ TB) ∧ vwCl[ci]? = some (C, T, N) ∧ k < N ∧ ∀ {s : State} x, s.fieldFound? (T k).1 (T k).2.1 (T k).2.2.1 = some x → s.fieldFound? C (T k).2.1 (T k).2.2.1 = some x
def PL (own : String) (idx ci k : Nat) : Prop := ∃ (C : String) (T : u_T) (N : Nat) (t0 : Nat → FieldType), Cond.fieldLink own idx C (T k).2.1 (T k).2.2.1 ∈ TB ∧ (∀ w ∈ u_ws C T N, w ∈ TB) ∧ vwCl[ci]? = some (C, T, N) ∧ k < N ∧ (∀ {s : State} x, s.fieldFound? (T k).1 (T k).2.1 (T k).2.2.1 = some x → s.fieldFound? C (T k).2.1 (T k).2.2.1 = some x) ∧ (∀ k, k < N → parseFieldDescriptor (T k).2.2.1 = some (t0 k)) ∧ (∀ a, a < N → ∀ b, b < N → a ≠ b → (T a).2.1 ≠ (T b).2.1) ∧ (T k).2.2.2 = false ∧ parseFieldDescriptor (T k).2.2.1 = some .int
def nmh (y : MethodName) (n : Nat) : Prop := y.cls ≠ "java/lang/invoke/MethodHandle" ∧ y.cls ≠ "java/lang/invoke/VarHandle" ∧ (parseMethodDescriptor y.desc).map (fun d => d.parameters.length) = some n
def CLV (own : String) (idx : Nat) (y : MethodName) (bytes : ByteArray) (maxL : Nat) (ret : Option FieldType) (n : Nat) : Prop := Cond.methodLink own idx y ∈ TB ∧ Cond.instanceMethod y ∈ TB ∧ Cond.selects y.cls y y ∈ TB ∧ Cond.initialized y.cls ∈ TB ∧ Cond.code y bytes maxL ret ∈ TB ∧ nmh y n
def CLS (own : String) (idx : Nat) (y : MethodName) (bytes : ByteArray) (maxL : Nat) (ret : Option FieldType) (n : Nat) : Prop := Cond.methodLink own idx y ∈ TB ∧ Cond.static y ∈ TB ∧ Cond.initialized y.cls ∈ TB ∧ Cond.code y bytes maxL ret ∈ TB ∧ nmh y n
def CLT (y : MethodName) (bytes : ByteArray) (maxL : Nat) (ret : Option FieldType) (n : Nat) : Prop := Cond.static y ∈ TB ∧ Cond.initialized y.cls ∈ TB ∧ Cond.code y bytes maxL ret ∈ TB ∧ nmh y n
def CLI (own : String) (idx : Nat) (y : MethodName) (bytes : ByteArray) (maxL : Nat) (ret : Option FieldType) (n : Nat) : Prop := Cond.methodLink own idx y ∈ TB ∧ Cond.instanceMethod y ∈ TB ∧ Cond.initialized y.cls ∈ TB ∧ Cond.code y bytes maxL ret ∈ TB ∧ nmh y n ∧ y.name = "<init>"
def CLJ (y : MethodName) (bytes : ByteArray) (maxL : Nat) (ret : Option FieldType) (n : Nat) : Prop := Cond.instanceMethod y ∈ TB ∧ Cond.initialized y.cls ∈ TB ∧ Cond.code y bytes maxL ret ∈ TB ∧ nmh y n ∧ y.name = "<init>"
/-- what the tables say of members of nest mates (no word that a call carries) -/
def NZ (U : State) : Prop := va_Nw (.fieldLinkNest RX4 194 RX1 "cells" "[I" RX4) U ∧ va_Nw (.fieldLinkNest RX4 191 RX1 "lane" "I" RX4) U ∧ va_Nw (.methodLinkNest RX3 37 yX2_init RX4) U ∧ va_Nw (.methodLinkNest RX4 23 yX0_init RX4) U ∧ va_Nw (.methodLinkNest RX4 41 yX1_init RX4) U ∧ va_Nw (.methodLinkNest RX3 110 yX4_isIn RX4) U ∧ va_Nw (.methodLinkNest RX3 114 yX4_bit RX4) U
theorem NZ.same {u U : State} (h : u.vm = U.vm) (z : NZ u) : NZ U := by
  obtain ⟨h0, h1, h2, h3, h4, h5, h6⟩ := z
  exact ⟨h0.same rfl h, h1.same rfl h, h2.same rfl h, h3.same rfl h, h4.same rfl h, h5.same rfl h, h6.same rfl h⟩
theorem NZ.warm {s U : State} (hW : s.WarmedH U.vm) (z : NZ s) : NZ U := by
  obtain ⟨h0, h1, h2, h3, h4, h5, h6⟩ := z
  exact ⟨va_Nw.warmF hW h0, va_Nw.warmF hW h1, va_Nw.warmM hW h2, va_Nw.warmM hW h3, va_Nw.warmM hW h4, va_Nw.warmM hW h5, va_Nw.warmM hW h6⟩
theorem fw_X0 : ∀ w ∈ u_ws RX0 TX0 4, w ∈ TB := by decide +kernel
theorem fw_X1 : ∀ w ∈ u_ws RX1 TX1 3, w ∈ TB := by decide +kernel
theorem fw_X2 : ∀ w ∈ u_ws RX2 TX2 3, w ∈ TB := by decide +kernel
theorem fw_X3 : ∀ w ∈ u_ws RX3 TX3 7, w ∈ TB := by decide +kernel
theorem fw_X4 : ∀ w ∈ u_ws RX4 TX4 6, w ∈ TB := by decide +kernel
theorem fw_X5 : ∀ w ∈ u_ws RX5 TX5 30, w ∈ TB := by decide +kernel
theorem gl_X4_77 : GL RX4 77 2 0 := ⟨RX2, TX2, 3, (tb_t 31 (by decide +kernel) rfl), fw_X2, rfl, by decide, fun _ h => h⟩
theorem pl_X4_77 : PL RX4 77 2 0 := ⟨RX2, TX2, 3, tyX2, (tb_t 31 (by decide +kernel) rfl), fw_X2, rfl, by decide, fun _ h => h, tyX2_ok, nmX2, rfl, by decide +kernel⟩
theorem gl_X3_76 : GL RX3 76 2 0 := ⟨RX2, TX2, 3, (tb_t 32 (by decide +kernel) rfl), fw_X2, rfl, by decide, fun _ h => h⟩
theorem pl_X3_76 : PL RX3 76 2 0 := ⟨RX2, TX2, 3, tyX2, (tb_t 32 (by decide +kernel) rfl), fw_X2, rfl, by decide, fun _ h => h, tyX2_ok, nmX2, rfl, by decide +kernel⟩
theorem gl_X4_82 : GL RX4 82 2 1 := ⟨RX2, TX2, 3, (tb_t 33 (by decide +kernel) rfl), fw_X2, rfl, by decide, fun _ h => h⟩
theorem pl_X4_82 : PL RX4 82 2 1 := ⟨RX2, TX2, 3, tyX2, (tb_t 33 (by decide +kernel) rfl), fw_X2, rfl, by decide, fun _ h => h, tyX2_ok, nmX2, rfl, by decide +kernel⟩
theorem gl_X3_82 : GL RX3 82 2 1 := ⟨RX2, TX2, 3, (tb_t 34 (by decide +kernel) rfl), fw_X2, rfl, by decide, fun _ h => h⟩
theorem pl_X3_82 : PL RX3 82 2 1 := ⟨RX2, TX2, 3, tyX2, (tb_t 34 (by decide +kernel) rfl), fw_X2, rfl, by decide, fun _ h => h, tyX2_ok, nmX2, rfl, by decide +kernel⟩
theorem gl_X4_85 : GL RX4 85 2 2 := ⟨RX2, TX2, 3, (tb_t 35 (by decide +kernel) rfl), fw_X2, rfl, by decide, fun _ h => h⟩
theorem pl_X4_85 : PL RX4 85 2 2 := ⟨RX2, TX2, 3, tyX2, (tb_t 35 (by decide +kernel) rfl), fw_X2, rfl, by decide, fun _ h => h, tyX2_ok, nmX2, rfl, by decide +kernel⟩
theorem gl_X3_85 : GL RX3 85 2 2 := ⟨RX2, TX2, 3, (tb_t 36 (by decide +kernel) rfl), fw_X2, rfl, by decide, fun _ h => h⟩
theorem pl_X3_85 : PL RX3 85 2 2 := ⟨RX2, TX2, 3, tyX2, (tb_t 36 (by decide +kernel) rfl), fw_X2, rfl, by decide, fun _ h => h, tyX2_ok, nmX2, rfl, by decide +kernel⟩
theorem gl_X3_11 : GL RX3 11 3 0 := ⟨RX3, TX3, 7, (tb_t 45 (by decide +kernel) rfl), fw_X3, rfl, by decide, fun _ h => h⟩
theorem gl_X3_17 : GL RX3 17 3 1 := ⟨RX3, TX3, 7, (tb_t 46 (by decide +kernel) rfl), fw_X3, rfl, by decide, fun _ h => h⟩
theorem gl_X3_21 : GL RX3 21 3 2 := ⟨RX3, TX3, 7, (tb_t 47 (by decide +kernel) rfl), fw_X3, rfl, by decide, fun _ h => h⟩
theorem gl_X3_24 : GL RX3 24 3 3 := ⟨RX3, TX3, 7, (tb_t 48 (by decide +kernel) rfl), fw_X3, rfl, by decide, fun _ h => h⟩
theorem pl_X3_24 : PL RX3 24 3 3 := ⟨RX3, TX3, 7, tyX3, (tb_t 48 (by decide +kernel) rfl), fw_X3, rfl, by decide, fun _ h => h, tyX3_ok, nmX3, rfl, by decide +kernel⟩
theorem gl_X3_28 : GL RX3 28 3 4 := ⟨RX3, TX3, 7, (tb_t 49 (by decide +kernel) rfl), fw_X3, rfl, by decide, fun _ h => h⟩
theorem pl_X3_28 : PL RX3 28 3 4 := ⟨RX3, TX3, 7, tyX3, (tb_t 49 (by decide +kernel) rfl), fw_X3, rfl, by decide, fun _ h => h, tyX3_ok, nmX3, rfl, by decide +kernel⟩
theorem gl_X3_31 : GL RX3 31 3 5 := ⟨RX3, TX3, 7, (tb_t 50 (by decide +kernel) rfl), fw_X3, rfl, by decide, fun _ h => h⟩
theorem pl_X3_31 : PL RX3 31 3 5 := ⟨RX3, TX3, 7, tyX3, (tb_t 50 (by decide +kernel) rfl), fw_X3, rfl, by decide, fun _ h => h, tyX3_ok, nmX3, rfl, by decide +kernel⟩
theorem gl_X3_34 : GL RX3 34 3 6 := ⟨RX3, TX3, 7, (tb_t 51 (by decide +kernel) rfl), fw_X3, rfl, by decide, fun _ h => h⟩
theorem pl_X3_34 : PL RX3 34 3 6 := ⟨RX3, TX3, 7, tyX3, (tb_t 51 (by decide +kernel) rfl), fw_X3, rfl, by decide, fun _ h => h, tyX3_ok, nmX3, rfl, by decide +kernel⟩
theorem gl_X0_9 : GL RX0 9 0 0 := ⟨RX0, TX0, 4, (tb_t 73 (by decide +kernel) rfl), fw_X0, rfl, by decide, fun _ h => h⟩
theorem gl_X0_15 : GL RX0 15 0 1 := ⟨RX0, TX0, 4, (tb_t 74 (by decide +kernel) rfl), fw_X0, rfl, by decide, fun _ h => h⟩
theorem gl_X0_18 : GL RX0 18 0 2 := ⟨RX0, TX0, 4, (tb_t 75 (by decide +kernel) rfl), fw_X0, rfl, by decide, fun _ h => h⟩
theorem gl_X0_21 : GL RX0 21 0 3 := ⟨RX0, TX0, 4, (tb_t 76 (by decide +kernel) rfl), fw_X0, rfl, by decide, fun _ h => h⟩
theorem pl_X0_21 : PL RX0 21 0 3 := ⟨RX0, TX0, 4, tyX0, (tb_t 76 (by decide +kernel) rfl), fw_X0, rfl, by decide, fun _ h => h, tyX0_ok, nmX0, rfl, by decide +kernel⟩
theorem gl_X1_9 : GL RX1 9 1 0 := ⟨RX1, TX1, 3, (tb_t 93 (by decide +kernel) rfl), fw_X1, rfl, by decide, fun _ h => h⟩
theorem gl_X1_15 : GL RX1 15 1 1 := ⟨RX1, TX1, 3, (tb_t 95 (by decide +kernel) rfl), fw_X1, rfl, by decide, fun _ h => h⟩
theorem pl_X1_15 : PL RX1 15 1 1 := ⟨RX1, TX1, 3, tyX1, (tb_t 95 (by decide +kernel) rfl), fw_X1, rfl, by decide, fun _ h => h, tyX1_ok, nmX1, rfl, by decide +kernel⟩
theorem gl_X1_19 : GL RX1 19 1 2 := ⟨RX1, TX1, 3, (tb_t 97 (by decide +kernel) rfl), fw_X1, rfl, by decide, fun _ h => h⟩
theorem pl_X1_19 : PL RX1 19 1 2 := ⟨RX1, TX1, 3, tyX1, (tb_t 97 (by decide +kernel) rfl), fw_X1, rfl, by decide, fun _ h => h, tyX1_ok, nmX1, rfl, by decide +kernel⟩
theorem gl_X4_14 : GL RX4 14 4 0 := ⟨RX4, TX4, 6, (tb_t 105 (by decide +kernel) rfl), fw_X4, rfl, by decide, fun _ h => h⟩
theorem gl_X4_18 : GL RX4 18 4 1 := ⟨RX4, TX4, 6, (tb_t 106 (by decide +kernel) rfl), fw_X4, rfl, by decide, fun _ h => h⟩
theorem gl_X4_24 : GL RX4 24 4 2 := ⟨RX4, TX4, 6, (tb_t 107 (by decide +kernel) rfl), fw_X4, rfl, by decide, fun _ h => h⟩
theorem gl_X4_30 : GL RX4 30 4 3 := ⟨RX4, TX4, 6, (tb_t 108 (by decide +kernel) rfl), fw_X4, rfl, by decide, fun _ h => h⟩
theorem gl_X4_34 : GL RX4 34 4 4 := ⟨RX4, TX4, 6, (tb_t 109 (by decide +kernel) rfl), fw_X4, rfl, by decide, fun _ h => h⟩
theorem pl_X4_34 : PL RX4 34 4 4 := ⟨RX4, TX4, 6, tyX4, (tb_t 109 (by decide +kernel) rfl), fw_X4, rfl, by decide, fun _ h => h, tyX4_ok, nmX4, rfl, by decide +kernel⟩
theorem gl_X4_38 : GL RX4 38 4 5 := ⟨RX4, TX4, 6, (tb_t 110 (by decide +kernel) rfl), fw_X4, rfl, by decide, fun _ h => h⟩
theorem pl_X4_38 : PL RX4 38 4 5 := ⟨RX4, TX4, 6, tyX4, (tb_t 110 (by decide +kernel) rfl), fw_X4, rfl, by decide, fun _ h => h, tyX4_ok, nmX4, rfl, by decide +kernel⟩
theorem gl_X5_63 : GL RX5 63 5 0 := ⟨RX5, TX5, 30, (tb_t 512 (by decide +kernel) rfl), fw_X5, rfl, by decide, fun _ h => h⟩
theorem pl_X5_63 : PL RX5 63 5 0 := ⟨RX5, TX5, 30, tyX5, (tb_t 512 (by decide +kernel) rfl), fw_X5, rfl, by decide, fun _ h => h, tyX5_ok, nmX5, rfl, by decide +kernel⟩
theorem gl_X5_71 : GL RX5 71 5 1 := ⟨RX5, TX5, 30, (tb_t 513 (by decide +kernel) rfl), fw_X5, rfl, by decide, fun _ h => h⟩
theorem pl_X5_71 : PL RX5 71 5 1 := ⟨RX5, TX5, 30, tyX5, (tb_t 513 (by decide +kernel) rfl), fw_X5, rfl, by decide, fun _ h => h, tyX5_ok, nmX5, rfl, by decide +kernel⟩
theorem gl_X5_7 : GL RX5 7 5 2 := ⟨RX5, TX5, 30, (tb_t 514 (by decide +kernel) rfl), fw_X5, rfl, by decide, fun _ h => h⟩
theorem gl_X5_78 : GL RX5 78 5 3 := ⟨RX5, TX5, 30, (tb_t 515 (by decide +kernel) rfl), fw_X5, rfl, by decide, fun _ h => h⟩
theorem pl_X5_78 : PL RX5 78 5 3 := ⟨RX5, TX5, 30, tyX5, (tb_t 515 (by decide +kernel) rfl), fw_X5, rfl, by decide, fun _ h => h, tyX5_ok, nmX5, rfl, by decide +kernel⟩
theorem gl_X5_13 : GL RX5 13 5 4 := ⟨RX5, TX5, 30, (tb_t 516 (by decide +kernel) rfl), fw_X5, rfl, by decide, fun _ h => h⟩
theorem gl_X5_16 : GL RX5 16 5 5 := ⟨RX5, TX5, 30, (tb_t 517 (by decide +kernel) rfl), fw_X5, rfl, by decide, fun _ h => h⟩
theorem gl_X5_19 : GL RX5 19 5 6 := ⟨RX5, TX5, 30, (tb_t 518 (by decide +kernel) rfl), fw_X5, rfl, by decide, fun _ h => h⟩
theorem gl_X5_147 : GL RX5 147 5 7 := ⟨RX5, TX5, 30, (tb_t 519 (by decide +kernel) rfl), fw_X5, rfl, by decide, fun _ h => h⟩
theorem pl_X5_147 : PL RX5 147 5 7 := ⟨RX5, TX5, 30, tyX5, (tb_t 519 (by decide +kernel) rfl), fw_X5, rfl, by decide, fun _ h => h, tyX5_ok, nmX5, rfl, by decide +kernel⟩
theorem gl_X5_83 : GL RX5 83 5 8 := ⟨RX5, TX5, 30, (tb_t 520 (by decide +kernel) rfl), fw_X5, rfl, by decide, fun _ h => h⟩
theorem pl_X5_83 : PL RX5 83 5 8 := ⟨RX5, TX5, 30, tyX5, (tb_t 520 (by decide +kernel) rfl), fw_X5, rfl, by decide, fun _ h => h, tyX5_ok, nmX5, rfl, by decide +kernel⟩
theorem gl_X5_93 : GL RX5 93 5 9 := ⟨RX5, TX5, 30, (tb_t 521 (by decide +kernel) rfl), fw_X5, rfl, by decide, fun _ h => h⟩
theorem pl_X5_93 : PL RX5 93 5 9 := ⟨RX5, TX5, 30, tyX5, (tb_t 521 (by decide +kernel) rfl), fw_X5, rfl, by decide, fun _ h => h, tyX5_ok, nmX5, rfl, by decide +kernel⟩
theorem gl_X5_90 : GL RX5 90 5 10 := ⟨RX5, TX5, 30, (tb_t 522 (by decide +kernel) rfl), fw_X5, rfl, by decide, fun _ h => h⟩
theorem pl_X5_90 : PL RX5 90 5 10 := ⟨RX5, TX5, 30, tyX5, (tb_t 522 (by decide +kernel) rfl), fw_X5, rfl, by decide, fun _ h => h, tyX5_ok, nmX5, rfl, by decide +kernel⟩
theorem gl_X5_22 : GL RX5 22 5 11 := ⟨RX5, TX5, 30, (tb_t 523 (by decide +kernel) rfl), fw_X5, rfl, by decide, fun _ h => h⟩
theorem gl_X5_25 : GL RX5 25 5 12 := ⟨RX5, TX5, 30, (tb_t 524 (by decide +kernel) rfl), fw_X5, rfl, by decide, fun _ h => h⟩
theorem gl_X5_28 : GL RX5 28 5 13 := ⟨RX5, TX5, 30, (tb_t 525 (by decide +kernel) rfl), fw_X5, rfl, by decide, fun _ h => h⟩
theorem gl_X5_31 : GL RX5 31 5 14 := ⟨RX5, TX5, 30, (tb_t 526 (by decide +kernel) rfl), fw_X5, rfl, by decide, fun _ h => h⟩
theorem gl_X5_34 : GL RX5 34 5 15 := ⟨RX5, TX5, 30, (tb_t 527 (by decide +kernel) rfl), fw_X5, rfl, by decide, fun _ h => h⟩
theorem gl_X5_156 : GL RX5 156 5 16 := ⟨RX5, TX5, 30, (tb_t 528 (by decide +kernel) rfl), fw_X5, rfl, by decide, fun _ h => h⟩
theorem pl_X5_156 : PL RX5 156 5 16 := ⟨RX5, TX5, 30, tyX5, (tb_t 528 (by decide +kernel) rfl), fw_X5, rfl, by decide, fun _ h => h, tyX5_ok, nmX5, rfl, by decide +kernel⟩
theorem gl_X5_159 : GL RX5 159 5 17 := ⟨RX5, TX5, 30, (tb_t 529 (by decide +kernel) rfl), fw_X5, rfl, by decide, fun _ h => h⟩
theorem pl_X5_159 : PL RX5 159 5 17 := ⟨RX5, TX5, 30, tyX5, (tb_t 529 (by decide +kernel) rfl), fw_X5, rfl, by decide, fun _ h => h, tyX5_ok, nmX5, rfl, by decide +kernel⟩
theorem gl_X5_162 : GL RX5 162 5 18 := ⟨RX5, TX5, 30, (tb_t 530 (by decide +kernel) rfl), fw_X5, rfl, by decide, fun _ h => h⟩
theorem pl_X5_162 : PL RX5 162 5 18 := ⟨RX5, TX5, 30, tyX5, (tb_t 530 (by decide +kernel) rfl), fw_X5, rfl, by decide, fun _ h => h, tyX5_ok, nmX5, rfl, by decide +kernel⟩
theorem gl_X5_165 : GL RX5 165 5 19 := ⟨RX5, TX5, 30, (tb_t 531 (by decide +kernel) rfl), fw_X5, rfl, by decide, fun _ h => h⟩
theorem pl_X5_165 : PL RX5 165 5 19 := ⟨RX5, TX5, 30, tyX5, (tb_t 531 (by decide +kernel) rfl), fw_X5, rfl, by decide, fun _ h => h, tyX5_ok, nmX5, rfl, by decide +kernel⟩
theorem gl_X5_37 : GL RX5 37 5 20 := ⟨RX5, TX5, 30, (tb_t 532 (by decide +kernel) rfl), fw_X5, rfl, by decide, fun _ h => h⟩
theorem gl_X5_128 : GL RX5 128 5 21 := ⟨RX5, TX5, 30, (tb_t 533 (by decide +kernel) rfl), fw_X5, rfl, by decide, fun _ h => h⟩
theorem pl_X5_128 : PL RX5 128 5 21 := ⟨RX5, TX5, 30, tyX5, (tb_t 533 (by decide +kernel) rfl), fw_X5, rfl, by decide, fun _ h => h, tyX5_ok, nmX5, rfl, by decide +kernel⟩
theorem gl_X5_40 : GL RX5 40 5 22 := ⟨RX5, TX5, 30, (tb_t 534 (by decide +kernel) rfl), fw_X5, rfl, by decide, fun _ h => h⟩
theorem gl_X5_43 : GL RX5 43 5 23 := ⟨RX5, TX5, 30, (tb_t 535 (by decide +kernel) rfl), fw_X5, rfl, by decide, fun _ h => h⟩
theorem gl_X5_46 : GL RX5 46 5 24 := ⟨RX5, TX5, 30, (tb_t 536 (by decide +kernel) rfl), fw_X5, rfl, by decide, fun _ h => h⟩
theorem gl_X5_49 : GL RX5 49 5 25 := ⟨RX5, TX5, 30, (tb_t 537 (by decide +kernel) rfl), fw_X5, rfl, by decide, fun _ h => h⟩
theorem gl_X5_52 : GL RX5 52 5 26 := ⟨RX5, TX5, 30, (tb_t 538 (by decide +kernel) rfl), fw_X5, rfl, by decide, fun _ h => h⟩
theorem gl_X5_55 : GL RX5 55 5 27 := ⟨RX5, TX5, 30, (tb_t 539 (by decide +kernel) rfl), fw_X5, rfl, by decide, fun _ h => h⟩
theorem gl_X5_58 : GL RX5 58 5 28 := ⟨RX5, TX5, 30, (tb_t 540 (by decide +kernel) rfl), fw_X5, rfl, by decide, fun _ h => h⟩
theorem gl_X5_210 : GL RX5 210 5 29 := ⟨RX5, TX5, 30, (tb_t 541 (by decide +kernel) rfl), fw_X5, rfl, by decide, fun _ h => h⟩
theorem pl_X5_210 : PL RX5 210 5 29 := ⟨RX5, TX5, 30, tyX5, (tb_t 541 (by decide +kernel) rfl), fw_X5, rfl, by decide, fun _ h => h, tyX5_ok, nmX5, rfl, by decide +kernel⟩
theorem cl_L_9 : CLI RL 9 yX4_init cX4_init 2 none 0 := ⟨(tb_t 12 (by decide +kernel) rfl), (tb_t 13 (by decide +kernel) rfl), (tb_t 1 (by decide +kernel) rfl), (tb_t 14 (by decide +kernel) rfl), ⟨by decide +kernel, by decide +kernel, by decide +kernel⟩, rfl⟩
theorem cl_X4_13 : CLI RX4 13 yX3_init cX3_init 2 none 0 := ⟨(tb_t 20 (by decide +kernel) rfl), (tb_t 21 (by decide +kernel) rfl), (tb_t 2 (by decide +kernel) rfl), (tb_t 22 (by decide +kernel) rfl), ⟨by decide +kernel, by decide +kernel, by decide +kernel⟩, rfl⟩
theorem cl_X3_37 : CLJ yX2_init cX2_init 1 none 0 := ⟨(tb_t 28 (by decide +kernel) rfl), (tb_t 3 (by decide +kernel) rfl), (tb_t 29 (by decide +kernel) rfl), ⟨by decide +kernel, by decide +kernel, by decide +kernel⟩, rfl⟩
theorem cl_X4_23 : CLJ yX0_init cX0_init 1 none 0 := ⟨(tb_t 70 (by decide +kernel) rfl), (tb_t 4 (by decide +kernel) rfl), (tb_t 71 (by decide +kernel) rfl), ⟨by decide +kernel, by decide +kernel, by decide +kernel⟩, rfl⟩
theorem cl_X4_41 : CLJ yX1_init cX1_init 1 none 0 := ⟨(tb_t 90 (by decide +kernel) rfl), (tb_t 5 (by decide +kernel) rfl), (tb_t 91 (by decide +kernel) rfl), ⟨by decide +kernel, by decide +kernel, by decide +kernel⟩, rfl⟩
theorem cl_L_13 : CLV RL 13 yX4_town cX4_town 8 (some .int) 4 := ⟨(tb_t 124 (by decide +kernel) rfl), (tb_t 125 (by decide +kernel) rfl), (tb_t 126 (by decide +kernel) rfl), (tb_t 1 (by decide +kernel) rfl), (tb_t 127 (by decide +kernel) rfl), by decide +kernel, by decide +kernel, by decide +kernel⟩
theorem cl_X4_42 : CLV RX4 42 yX4_sheetOrNull cX4_sheetOrNull 2 (some (.object "SleepRoads$Sheet")) 1 := ⟨(tb_t 128 (by decide +kernel) rfl), (tb_t 130 (by decide +kernel) rfl), (tb_s 0 (by decide +kernel) rfl), (tb_t 1 (by decide +kernel) rfl), (tb_t 131 (by decide +kernel) rfl), by decide +kernel, by decide +kernel, by decide +kernel⟩
theorem cl_X4_46 : CLS RX4 46 yX4_isLane cX4_isLane 1 (some .boolean) 1 := ⟨(tb_t 132 (by decide +kernel) rfl), (tb_t 133 (by decide +kernel) rfl), (tb_t 1 (by decide +kernel) rfl), (tb_t 134 (by decide +kernel) rfl), by decide +kernel, by decide +kernel, by decide +kernel⟩
theorem cl_X4_50 : CLV RX4 50 yX1_faultAsRow cX1_faultAsRow 2 (some .int) 1 := ⟨(tb_t 135 (by decide +kernel) rfl), (tb_t 136 (by decide +kernel) rfl), (tb_t 137 (by decide +kernel) rfl), (tb_t 5 (by decide +kernel) rfl), (tb_t 138 (by decide +kernel) rfl), by decide +kernel, by decide +kernel, by decide +kernel⟩
theorem cl_X1_32 : CLV RX1 32 yX1_hasNothing cX1_hasNothing 1 (some .boolean) 0 := ⟨(tb_t 139 (by decide +kernel) rfl), (tb_t 140 (by decide +kernel) rfl), (tb_t 141 (by decide +kernel) rfl), (tb_t 5 (by decide +kernel) rfl), (tb_t 142 (by decide +kernel) rfl), by decide +kernel, by decide +kernel, by decide +kernel⟩
theorem cl_X4_54 : CLV RX4 54 yX1_faultOfCells cX1_faultOfCells 3 (some .int) 2 := ⟨(tb_t 143 (by decide +kernel) rfl), (tb_t 144 (by decide +kernel) rfl), (tb_t 145 (by decide +kernel) rfl), (tb_t 5 (by decide +kernel) rfl), (tb_t 146 (by decide +kernel) rfl), by decide +kernel, by decide +kernel, by decide +kernel⟩
theorem cl_X4_58 : CLV RX4 58 yX4_cameTo cX4_cameTo 2 (some .int) 1 := ⟨(tb_t 147 (by decide +kernel) rfl), (tb_t 149 (by decide +kernel) rfl), (tb_s 1 (by decide +kernel) rfl), (tb_t 1 (by decide +kernel) rfl), (tb_t 150 (by decide +kernel) rfl), by decide +kernel, by decide +kernel, by decide +kernel⟩
theorem cl_X4_61 : CLV RX4 61 yX3_read cX3_read 5 (some .int) 3 := ⟨(tb_t 151 (by decide +kernel) rfl), (tb_t 152 (by decide +kernel) rfl), (tb_t 153 (by decide +kernel) rfl), (tb_t 2 (by decide +kernel) rfl), (tb_t 154 (by decide +kernel) rfl), by decide +kernel, by decide +kernel, by decide +kernel⟩
theorem cl_X3_38 : CLV RX3 38 yX1_at cX1_at 2 (some .int) 1 := ⟨(tb_t 155 (by decide +kernel) rfl), (tb_t 156 (by decide +kernel) rfl), (tb_t 157 (by decide +kernel) rfl), (tb_t 5 (by decide +kernel) rfl), (tb_t 158 (by decide +kernel) rfl), by decide +kernel, by decide +kernel, by decide +kernel⟩
theorem cl_X1_28 : CLV RX1 28 yX1_hasCell cX1_hasCell 2 (some .boolean) 1 := ⟨(tb_t 159 (by decide +kernel) rfl), (tb_t 160 (by decide +kernel) rfl), (tb_t 161 (by decide +kernel) rfl), (tb_t 5 (by decide +kernel) rfl), (tb_t 162 (by decide +kernel) rfl), by decide +kernel, by decide +kernel, by decide +kernel⟩
theorem cl_X3_44 : CLV RX3 44 yX3_goesOnWith cX3_goesOnWith 2 (some .boolean) 1 := ⟨(tb_t 163 (by decide +kernel) rfl), (tb_t 165 (by decide +kernel) rfl), (tb_s 2 (by decide +kernel) rfl), (tb_t 2 (by decide +kernel) rfl), (tb_t 166 (by decide +kernel) rfl), by decide +kernel, by decide +kernel, by decide +kernel⟩
theorem cl_X3_48 : CLV RX3 48 yX3_readZ cX3_readZ 2 (some .boolean) 1 := ⟨(tb_t 167 (by decide +kernel) rfl), (tb_t 169 (by decide +kernel) rfl), (tb_s 3 (by decide +kernel) rfl), (tb_t 2 (by decide +kernel) rfl), (tb_t 170 (by decide +kernel) rfl), by decide +kernel, by decide +kernel, by decide +kernel⟩
theorem cl_X3_51 : CLV RX3 51 yX3_readPlaces cX3_readPlaces 3 (some .boolean) 1 := ⟨(tb_t 171 (by decide +kernel) rfl), (tb_t 173 (by decide +kernel) rfl), (tb_s 4 (by decide +kernel) rfl), (tb_t 2 (by decide +kernel) rfl), (tb_t 174 (by decide +kernel) rfl), by decide +kernel, by decide +kernel, by decide +kernel⟩
theorem cl_X3_69 : CLS RX3 69 yX3_digit cX3_digit 1 (some .int) 1 := ⟨(tb_t 175 (by decide +kernel) rfl), (tb_t 176 (by decide +kernel) rfl), (tb_t 2 (by decide +kernel) rfl), (tb_t 177 (by decide +kernel) rfl), by decide +kernel, by decide +kernel, by decide +kernel⟩
theorem cl_X3_54 : CLV RX3 54 yX3_readBreak cX3_readBreak 2 (some .boolean) 1 := ⟨(tb_t 178 (by decide +kernel) rfl), (tb_t 180 (by decide +kernel) rfl), (tb_s 5 (by decide +kernel) rfl), (tb_t 2 (by decide +kernel) rfl), (tb_t 181 (by decide +kernel) rfl), by decide +kernel, by decide +kernel, by decide +kernel⟩
theorem cl_X3_57 : CLV RX3 57 yX3_readKind cX3_readKind 4 (some .boolean) 1 := ⟨(tb_t 182 (by decide +kernel) rfl), (tb_t 184 (by decide +kernel) rfl), (tb_s 6 (by decide +kernel) rfl), (tb_t 2 (by decide +kernel) rfl), (tb_t 185 (by decide +kernel) rfl), by decide +kernel, by decide +kernel, by decide +kernel⟩
theorem cl_X3_72 : CLV RX3 72 yX3_sleeperOrNull cX3_sleeperOrNull 2 (some (.object "SleepRoads$Sleeper")) 1 := ⟨(tb_t 186 (by decide +kernel) rfl), (tb_t 187 (by decide +kernel) rfl), (tb_t 188 (by decide +kernel) rfl), (tb_t 2 (by decide +kernel) rfl), (tb_t 189 (by decide +kernel) rfl), by decide +kernel, by decide +kernel, by decide +kernel⟩
theorem cl_X3_92 : CLV RX3 92 yX3_hasSleeper cX3_hasSleeper 2 (some .boolean) 1 := ⟨(tb_t 190 (by decide +kernel) rfl), (tb_t 191 (by decide +kernel) rfl), (tb_t 192 (by decide +kernel) rfl), (tb_t 2 (by decide +kernel) rfl), (tb_t 193 (by decide +kernel) rfl), by decide +kernel, by decide +kernel, by decide +kernel⟩
theorem cl_X3_60 : CLV RX3 60 yX3_readStart cX3_readStart 4 (some .boolean) 1 := ⟨(tb_t 194 (by decide +kernel) rfl), (tb_t 196 (by decide +kernel) rfl), (tb_s 7 (by decide +kernel) rfl), (tb_t 2 (by decide +kernel) rfl), (tb_t 197 (by decide +kernel) rfl), by decide +kernel, by decide +kernel, by decide +kernel⟩
theorem cl_X3_79 : CLV RX3 79 yX3_hasPlace cX3_hasPlace 2 (some .boolean) 1 := ⟨(tb_t 198 (by decide +kernel) rfl), (tb_t 199 (by decide +kernel) rfl), (tb_t 200 (by decide +kernel) rfl), (tb_t 2 (by decide +kernel) rfl), (tb_t 201 (by decide +kernel) rfl), by decide +kernel, by decide +kernel, by decide +kernel⟩
theorem cl_X3_63 : CLV RX3 63 yX3_readStride cX3_readStride 4 (some .boolean) 1 := ⟨(tb_t 202 (by decide +kernel) rfl), (tb_t 204 (by decide +kernel) rfl), (tb_s 8 (by decide +kernel) rfl), (tb_t 2 (by decide +kernel) rfl), (tb_t 205 (by decide +kernel) rfl), by decide +kernel, by decide +kernel, by decide +kernel⟩
theorem cl_X3_66 : CLV RX3 66 yX3_readGoods cX3_readGoods 3 (some .boolean) 1 := ⟨(tb_t 206 (by decide +kernel) rfl), (tb_t 208 (by decide +kernel) rfl), (tb_s 9 (by decide +kernel) rfl), (tb_t 2 (by decide +kernel) rfl), (tb_t 209 (by decide +kernel) rfl), by decide +kernel, by decide +kernel, by decide +kernel⟩
theorem cl_X3_88 : CLV RX3 88 yX3_setGoods cX3_setGoods 3 none 2 := ⟨(tb_t 210 (by decide +kernel) rfl), (tb_t 211 (by decide +kernel) rfl), (tb_t 212 (by decide +kernel) rfl), (tb_t 2 (by decide +kernel) rfl), (tb_t 213 (by decide +kernel) rfl), by decide +kernel, by decide +kernel, by decide +kernel⟩
theorem cl_X4_65 : CLV RX4 65 yX0_keepFirst cX0_keepFirst 2 none 1 := ⟨(tb_t 214 (by decide +kernel) rfl), (tb_t 215 (by decide +kernel) rfl), (tb_t 216 (by decide +kernel) rfl), (tb_t 4 (by decide +kernel) rfl), (tb_t 217 (by decide +kernel) rfl), by decide +kernel, by decide +kernel, by decide +kernel⟩
theorem cl_X4_69 : CLV RX4 69 yX3_sleeperCount cX3_sleeperCount 1 (some .int) 0 := ⟨(tb_t 218 (by decide +kernel) rfl), (tb_t 219 (by decide +kernel) rfl), (tb_t 220 (by decide +kernel) rfl), (tb_t 2 (by decide +kernel) rfl), (tb_t 221 (by decide +kernel) rfl), by decide +kernel, by decide +kernel, by decide +kernel⟩
theorem cl_L_18 : CLV RL 18 yX4_ofSleeper cX4_ofSleeper 4 (some .int) 2 := ⟨(tb_t 222 (by decide +kernel) rfl), (tb_t 223 (by decide +kernel) rfl), (tb_t 224 (by decide +kernel) rfl), (tb_t 1 (by decide +kernel) rfl), (tb_t 225 (by decide +kernel) rfl), by decide +kernel, by decide +kernel, by decide +kernel⟩
theorem cl_X4_73 : CLV RX4 73 yX3_sleeperOrNull cX3_sleeperOrNull 2 (some (.object "SleepRoads$Sleeper")) 1 := ⟨(tb_t 226 (by decide +kernel) rfl), (tb_t 187 (by decide +kernel) rfl), (tb_t 188 (by decide +kernel) rfl), (tb_t 2 (by decide +kernel) rfl), (tb_t 189 (by decide +kernel) rfl), by decide +kernel, by decide +kernel, by decide +kernel⟩
theorem cl_L_23 : CLV RL 23 yX4_goods cX4_goods 2 (some .int) 1 := ⟨(tb_t 227 (by decide +kernel) rfl), (tb_t 228 (by decide +kernel) rfl), (tb_t 229 (by decide +kernel) rfl), (tb_t 1 (by decide +kernel) rfl), (tb_t 230 (by decide +kernel) rfl), by decide +kernel, by decide +kernel, by decide +kernel⟩
theorem cl_X4_88 : CLV RX4 88 yX3_hasPlace cX3_hasPlace 2 (some .boolean) 1 := ⟨(tb_t 231 (by decide +kernel) rfl), (tb_t 199 (by decide +kernel) rfl), (tb_t 200 (by decide +kernel) rfl), (tb_t 2 (by decide +kernel) rfl), (tb_t 201 (by decide +kernel) rfl), by decide +kernel, by decide +kernel, by decide +kernel⟩
theorem cl_X4_91 : CLV RX4 91 yX3_goodsAt cX3_goodsAt 2 (some .int) 1 := ⟨(tb_t 232 (by decide +kernel) rfl), (tb_t 233 (by decide +kernel) rfl), (tb_t 234 (by decide +kernel) rfl), (tb_t 2 (by decide +kernel) rfl), (tb_t 235 (by decide +kernel) rfl), by decide +kernel, by decide +kernel, by decide +kernel⟩
theorem cl_L_28 : CLV RL 28 yX4_lay cX4_lay 4 (some .int) 2 := ⟨(tb_t 236 (by decide +kernel) rfl), (tb_t 237 (by decide +kernel) rfl), (tb_t 238 (by decide +kernel) rfl), (tb_t 1 (by decide +kernel) rfl), (tb_t 239 (by decide +kernel) rfl), by decide +kernel, by decide +kernel, by decide +kernel⟩
theorem cl_X4_94 : CLV RX4 94 yX3_setGoods cX3_setGoods 3 none 2 := ⟨(tb_t 240 (by decide +kernel) rfl), (tb_t 211 (by decide +kernel) rfl), (tb_t 212 (by decide +kernel) rfl), (tb_t 2 (by decide +kernel) rfl), (tb_t 213 (by decide +kernel) rfl), by decide +kernel, by decide +kernel, by decide +kernel⟩
theorem cl_L_32 : CLV RL 32 yX4_stride cX4_stride 5 (some .int) 2 := ⟨(tb_t 241 (by decide +kernel) rfl), (tb_t 242 (by decide +kernel) rfl), (tb_t 243 (by decide +kernel) rfl), (tb_t 1 (by decide +kernel) rfl), (tb_t 244 (by decide +kernel) rfl), by decide +kernel, by decide +kernel, by decide +kernel⟩
theorem cl_L_36 : CLV RL 36 yX4_where cX4_where 3 (some .int) 2 := ⟨(tb_t 245 (by decide +kernel) rfl), (tb_t 246 (by decide +kernel) rfl), (tb_t 247 (by decide +kernel) rfl), (tb_t 1 (by decide +kernel) rfl), (tb_t 248 (by decide +kernel) rfl), by decide +kernel, by decide +kernel, by decide +kernel⟩
theorem cl_X4_98 : CLV RX4 98 yX3_hasSleeper cX3_hasSleeper 2 (some .boolean) 1 := ⟨(tb_t 249 (by decide +kernel) rfl), (tb_t 191 (by decide +kernel) rfl), (tb_t 192 (by decide +kernel) rfl), (tb_t 2 (by decide +kernel) rfl), (tb_t 193 (by decide +kernel) rfl), by decide +kernel, by decide +kernel, by decide +kernel⟩
theorem cl_X4_101 : CLS RX4 101 yX4_isMinute cX4_isMinute 1 (some .boolean) 1 := ⟨(tb_t 250 (by decide +kernel) rfl), (tb_t 251 (by decide +kernel) rfl), (tb_t 1 (by decide +kernel) rfl), (tb_t 252 (by decide +kernel) rfl), by decide +kernel, by decide +kernel, by decide +kernel⟩
theorem cl_X4_104 : CLV RX4 104 yX3_placeOf cX3_placeOf 4 (some .int) 2 := ⟨(tb_t 253 (by decide +kernel) rfl), (tb_t 254 (by decide +kernel) rfl), (tb_t 255 (by decide +kernel) rfl), (tb_t 2 (by decide +kernel) rfl), (tb_t 256 (by decide +kernel) rfl), by decide +kernel, by decide +kernel, by decide +kernel⟩
theorem cl_X3_102 : CLV RX3 102 yX3_placeIf cX3_placeIf 5 (some .int) 4 := ⟨(tb_t 257 (by decide +kernel) rfl), (tb_t 258 (by decide +kernel) rfl), (tb_t 259 (by decide +kernel) rfl), (tb_t 2 (by decide +kernel) rfl), (tb_t 260 (by decide +kernel) rfl), by decide +kernel, by decide +kernel, by decide +kernel⟩
theorem cl_X3_98 : CLS RX3 98 yX2_gone cX2_gone 3 (some .int) 3 := ⟨(tb_t 261 (by decide +kernel) rfl), (tb_t 262 (by decide +kernel) rfl), (tb_t 3 (by decide +kernel) rfl), (tb_t 263 (by decide +kernel) rfl), by decide +kernel, by decide +kernel, by decide +kernel⟩
theorem cl_L_40 : CLV RL 40 yX4_taken cX4_taken 3 (some .int) 2 := ⟨(tb_t 264 (by decide +kernel) rfl), (tb_t 265 (by decide +kernel) rfl), (tb_t 266 (by decide +kernel) rfl), (tb_t 1 (by decide +kernel) rfl), (tb_t 267 (by decide +kernel) rfl), by decide +kernel, by decide +kernel, by decide +kernel⟩
theorem cl_X4_107 : CLV RX4 107 yX3_goodsTakenBy cX3_goodsTakenBy 8 (some .int) 2 := ⟨(tb_t 268 (by decide +kernel) rfl), (tb_t 269 (by decide +kernel) rfl), (tb_t 270 (by decide +kernel) rfl), (tb_t 2 (by decide +kernel) rfl), (tb_t 271 (by decide +kernel) rfl), by decide +kernel, by decide +kernel, by decide +kernel⟩
theorem cl_X3_106 : CLV RX3 106 yX3_placeOf cX3_placeOf 4 (some .int) 2 := ⟨(tb_t 272 (by decide +kernel) rfl), (tb_t 254 (by decide +kernel) rfl), (tb_t 255 (by decide +kernel) rfl), (tb_t 2 (by decide +kernel) rfl), (tb_t 256 (by decide +kernel) rfl), by decide +kernel, by decide +kernel, by decide +kernel⟩
theorem cl_X3_110 : CLT yX4_isIn cX4_isIn 2 (some .boolean) 2 := ⟨(tb_t 274 (by decide +kernel) rfl), (tb_t 1 (by decide +kernel) rfl), (tb_t 275 (by decide +kernel) rfl), by decide +kernel, by decide +kernel, by decide +kernel⟩
theorem cl_X4_132 : CLS RX4 132 yX4_bit cX4_bit 1 (some .int) 1 := ⟨(tb_t 276 (by decide +kernel) rfl), (tb_t 277 (by decide +kernel) rfl), (tb_t 1 (by decide +kernel) rfl), (tb_t 278 (by decide +kernel) rfl), by decide +kernel, by decide +kernel, by decide +kernel⟩
theorem cl_X3_95 : CLV RX3 95 yX3_goodsAt cX3_goodsAt 2 (some .int) 1 := ⟨(tb_t 279 (by decide +kernel) rfl), (tb_t 233 (by decide +kernel) rfl), (tb_t 234 (by decide +kernel) rfl), (tb_t 2 (by decide +kernel) rfl), (tb_t 235 (by decide +kernel) rfl), by decide +kernel, by decide +kernel, by decide +kernel⟩
theorem cl_X3_114 : CLT yX4_bit cX4_bit 1 (some .int) 1 := ⟨(tb_t 277 (by decide +kernel) rfl), (tb_t 1 (by decide +kernel) rfl), (tb_t 278 (by decide +kernel) rfl), by decide +kernel, by decide +kernel, by decide +kernel⟩
theorem cl_L_44 : CLV RL 44 yX4_free cX4_free 2 (some .int) 1 := ⟨(tb_t 281 (by decide +kernel) rfl), (tb_t 282 (by decide +kernel) rfl), (tb_t 283 (by decide +kernel) rfl), (tb_t 1 (by decide +kernel) rfl), (tb_t 284 (by decide +kernel) rfl), by decide +kernel, by decide +kernel, by decide +kernel⟩
theorem cl_X4_110 : CLV RX4 110 yX3_isThere cX3_isThere 1 (some .boolean) 0 := ⟨(tb_t 285 (by decide +kernel) rfl), (tb_t 286 (by decide +kernel) rfl), (tb_t 287 (by decide +kernel) rfl), (tb_t 2 (by decide +kernel) rfl), (tb_t 288 (by decide +kernel) rfl), by decide +kernel, by decide +kernel, by decide +kernel⟩
theorem cl_X4_114 : CLV RX4 114 yX3_freePlaces cX3_freePlaces 5 (some .int) 2 := ⟨(tb_t 289 (by decide +kernel) rfl), (tb_t 290 (by decide +kernel) rfl), (tb_t 291 (by decide +kernel) rfl), (tb_t 2 (by decide +kernel) rfl), (tb_t 292 (by decide +kernel) rfl), by decide +kernel, by decide +kernel, by decide +kernel⟩
theorem cl_X3_117 : CLV RX3 117 yX3_everyPlace cX3_everyPlace 1 (some .int) 0 := ⟨(tb_t 293 (by decide +kernel) rfl), (tb_t 294 (by decide +kernel) rfl), (tb_t 295 (by decide +kernel) rfl), (tb_t 2 (by decide +kernel) rfl), (tb_t 296 (by decide +kernel) rfl), by decide +kernel, by decide +kernel, by decide +kernel⟩
theorem cl_L_48 : CLV RL 48 yX4_meet cX4_meet 4 (some .int) 2 := ⟨(tb_t 297 (by decide +kernel) rfl), (tb_t 298 (by decide +kernel) rfl), (tb_t 299 (by decide +kernel) rfl), (tb_t 1 (by decide +kernel) rfl), (tb_t 300 (by decide +kernel) rfl), by decide +kernel, by decide +kernel, by decide +kernel⟩
theorem cl_L_52 : CLV RL 52 yX4_walk cX4_walk 9 (some .int) 6 := ⟨(tb_t 301 (by decide +kernel) rfl), (tb_t 302 (by decide +kernel) rfl), (tb_t 303 (by decide +kernel) rfl), (tb_t 1 (by decide +kernel) rfl), (tb_t 304 (by decide +kernel) rfl), by decide +kernel, by decide +kernel, by decide +kernel⟩
theorem cl_X4_117 : CLS RX4 117 yX4_isIn cX4_isIn 2 (some .boolean) 2 := ⟨(tb_t 305 (by decide +kernel) rfl), (tb_t 274 (by decide +kernel) rfl), (tb_t 1 (by decide +kernel) rfl), (tb_t 275 (by decide +kernel) rfl), by decide +kernel, by decide +kernel, by decide +kernel⟩
theorem cl_X4_121 : CLS RX4 121 yX4_areActs cX4_areActs 5 (some .boolean) 3 := ⟨(tb_t 306 (by decide +kernel) rfl), (tb_t 307 (by decide +kernel) rfl), (tb_t 1 (by decide +kernel) rfl), (tb_t 308 (by decide +kernel) rfl), by decide +kernel, by decide +kernel, by decide +kernel⟩
theorem cl_X4_129 : CLV RX4 129 yX1_at cX1_at 2 (some .int) 1 := ⟨(tb_t 309 (by decide +kernel) rfl), (tb_t 156 (by decide +kernel) rfl), (tb_t 157 (by decide +kernel) rfl), (tb_t 5 (by decide +kernel) rfl), (tb_t 158 (by decide +kernel) rfl), by decide +kernel, by decide +kernel, by decide +kernel⟩
theorem cl_X4_125 : CLV RX4 125 yX4_tellOfWalk cX4_tellOfWalk 11 (some .int) 5 := ⟨(tb_t 310 (by decide +kernel) rfl), (tb_t 312 (by decide +kernel) rfl), (tb_s 10 (by decide +kernel) rfl), (tb_t 1 (by decide +kernel) rfl), (tb_t 313 (by decide +kernel) rfl), by decide +kernel, by decide +kernel, by decide +kernel⟩
theorem cl_X4_135 : CLV RX4 135 yX3_placeAfter cX3_placeAfter 3 (some .int) 2 := ⟨(tb_t 314 (by decide +kernel) rfl), (tb_t 315 (by decide +kernel) rfl), (tb_t 316 (by decide +kernel) rfl), (tb_t 2 (by decide +kernel) rfl), (tb_t 317 (by decide +kernel) rfl), by decide +kernel, by decide +kernel, by decide +kernel⟩
theorem cl_L_57 : CLV RL 57 yX4_soonest cX4_soonest 5 (some .int) 3 := ⟨(tb_t 318 (by decide +kernel) rfl), (tb_t 319 (by decide +kernel) rfl), (tb_t 320 (by decide +kernel) rfl), (tb_t 1 (by decide +kernel) rfl), (tb_t 321 (by decide +kernel) rfl), by decide +kernel, by decide +kernel, by decide +kernel⟩
theorem cl_X4_138 : CLV RX4 138 yX3_fewestMinutes cX3_fewestMinutes 6 (some .int) 3 := ⟨(tb_t 322 (by decide +kernel) rfl), (tb_t 323 (by decide +kernel) rfl), (tb_t 324 (by decide +kernel) rfl), (tb_t 2 (by decide +kernel) rfl), (tb_t 325 (by decide +kernel) rfl), by decide +kernel, by decide +kernel, by decide +kernel⟩
theorem cl_X3_121 : CLV RX3 121 yX3_withNeighbours cX3_withNeighbours 5 (some .int) 1 := ⟨(tb_t 326 (by decide +kernel) rfl), (tb_t 328 (by decide +kernel) rfl), (tb_s 11 (by decide +kernel) rfl), (tb_t 2 (by decide +kernel) rfl), (tb_t 329 (by decide +kernel) rfl), by decide +kernel, by decide +kernel, by decide +kernel⟩
theorem cl_X3_124 : CLV RX3 124 yX3_freePlaces cX3_freePlaces 5 (some .int) 2 := ⟨(tb_t 330 (by decide +kernel) rfl), (tb_t 290 (by decide +kernel) rfl), (tb_t 291 (by decide +kernel) rfl), (tb_t 2 (by decide +kernel) rfl), (tb_t 292 (by decide +kernel) rfl), by decide +kernel, by decide +kernel, by decide +kernel⟩
theorem cl_X4_142 : CLV RX4 142 yX3_actOfSoonest cX3_actOfSoonest 8 (some .int) 4 := ⟨(tb_t 331 (by decide +kernel) rfl), (tb_t 332 (by decide +kernel) rfl), (tb_t 333 (by decide +kernel) rfl), (tb_t 2 (by decide +kernel) rfl), (tb_t 334 (by decide +kernel) rfl), by decide +kernel, by decide +kernel, by decide +kernel⟩
theorem cl_X3_127 : CLV RX3 127 yX3_findTheWay cX3_findTheWay 5 none 2 := ⟨(tb_t 335 (by decide +kernel) rfl), (tb_t 337 (by decide +kernel) rfl), (tb_s 12 (by decide +kernel) rfl), (tb_t 2 (by decide +kernel) rfl), (tb_t 338 (by decide +kernel) rfl), by decide +kernel, by decide +kernel, by decide +kernel⟩
theorem cl_X3_136 : CLS RX3 136 yJ9_min_7cf53 cJ9_min_7cf53 2 (some .int) 2 := ⟨(tb_t 339 (by decide +kernel) rfl), (tb_t 340 (by decide +kernel) rfl), (tb_t 7 (by decide +kernel) rfl), (tb_t 341 (by decide +kernel) rfl), by decide +kernel, by decide +kernel, by decide +kernel⟩
theorem cl_X3_130 : CLV RX3 130 yX3_firstActInto cX3_firstActInto 4 (some .int) 2 := ⟨(tb_t 342 (by decide +kernel) rfl), (tb_t 344 (by decide +kernel) rfl), (tb_s 13 (by decide +kernel) rfl), (tb_t 2 (by decide +kernel) rfl), (tb_t 345 (by decide +kernel) rfl), by decide +kernel, by decide +kernel, by decide +kernel⟩
theorem cl_X3_133 : CLV RX3 133 yX3_placeAfter cX3_placeAfter 3 (some .int) 2 := ⟨(tb_t 346 (by decide +kernel) rfl), (tb_t 315 (by decide +kernel) rfl), (tb_t 316 (by decide +kernel) rfl), (tb_t 2 (by decide +kernel) rfl), (tb_t 317 (by decide +kernel) rfl), by decide +kernel, by decide +kernel, by decide +kernel⟩
theorem cl_L_62 : CLV RL 62 yX4_steer cX4_steer 8 (some .int) 3 := ⟨(tb_t 347 (by decide +kernel) rfl), (tb_t 348 (by decide +kernel) rfl), (tb_t 349 (by decide +kernel) rfl), (tb_t 1 (by decide +kernel) rfl), (tb_t 350 (by decide +kernel) rfl), by decide +kernel, by decide +kernel, by decide +kernel⟩
theorem cl_X4_146 : CLS RX4 146 yJ9_abs_0f7a4 cJ9_abs_0f7a4 1 (some .int) 1 := ⟨(tb_t 351 (by decide +kernel) rfl), (tb_t 352 (by decide +kernel) rfl), (tb_t 7 (by decide +kernel) rfl), (tb_t 353 (by decide +kernel) rfl), by decide +kernel, by decide +kernel, by decide +kernel⟩
theorem cl_X4_151 : CLV RX4 151 yX3_placeIf cX3_placeIf 5 (some .int) 4 := ⟨(tb_t 354 (by decide +kernel) rfl), (tb_t 258 (by decide +kernel) rfl), (tb_t 259 (by decide +kernel) rfl), (tb_t 2 (by decide +kernel) rfl), (tb_t 260 (by decide +kernel) rfl), by decide +kernel, by decide +kernel, by decide +kernel⟩
theorem cl_L_66 : CLV RL 66 yX4_guard cX4_guard 1 (some .int) 0 := ⟨(tb_t 355 (by decide +kernel) rfl), (tb_t 356 (by decide +kernel) rfl), (tb_t 357 (by decide +kernel) rfl), (tb_t 1 (by decide +kernel) rfl), (tb_t 358 (by decide +kernel) rfl), by decide +kernel, by decide +kernel, by decide +kernel⟩
theorem cl_X4_154 : CLV RX4 154 yX3_placeWhereMostCome cX3_placeWhereMostCome 6 (some .int) 0 := ⟨(tb_t 359 (by decide +kernel) rfl), (tb_t 360 (by decide +kernel) rfl), (tb_t 361 (by decide +kernel) rfl), (tb_t 2 (by decide +kernel) rfl), (tb_t 362 (by decide +kernel) rfl), by decide +kernel, by decide +kernel, by decide +kernel⟩
theorem cl_X3_141 : CLV RX3 141 yX3_comesTo cX3_comesTo 4 (some .boolean) 2 := ⟨(tb_t 363 (by decide +kernel) rfl), (tb_t 365 (by decide +kernel) rfl), (tb_s 14 (by decide +kernel) rfl), (tb_t 2 (by decide +kernel) rfl), (tb_t 366 (by decide +kernel) rfl), by decide +kernel, by decide +kernel, by decide +kernel⟩
theorem cl_L_71 : CLV RL 71 yX4_reading cX4_reading 4 (some .int) 3 := ⟨(tb_t 367 (by decide +kernel) rfl), (tb_t 368 (by decide +kernel) rfl), (tb_t 369 (by decide +kernel) rfl), (tb_t 1 (by decide +kernel) rfl), (tb_t 370 (by decide +kernel) rfl), by decide +kernel, by decide +kernel, by decide +kernel⟩
theorem cl_X4_157 : CLV RX4 157 yX0_add cX0_add 4 (some .int) 3 := ⟨(tb_t 371 (by decide +kernel) rfl), (tb_t 372 (by decide +kernel) rfl), (tb_t 373 (by decide +kernel) rfl), (tb_t 4 (by decide +kernel) rfl), (tb_t 374 (by decide +kernel) rfl), by decide +kernel, by decide +kernel, by decide +kernel⟩
theorem cl_L_75 : CLV RL 75 yX4_back cX4_back 2 (some .int) 1 := ⟨(tb_t 375 (by decide +kernel) rfl), (tb_t 376 (by decide +kernel) rfl), (tb_t 377 (by decide +kernel) rfl), (tb_t 1 (by decide +kernel) rfl), (tb_t 378 (by decide +kernel) rfl), by decide +kernel, by decide +kernel, by decide +kernel⟩
theorem cl_X4_160 : CLV RX4 160 yX0_howMany cX0_howMany 1 (some .int) 0 := ⟨(tb_t 379 (by decide +kernel) rfl), (tb_t 380 (by decide +kernel) rfl), (tb_t 381 (by decide +kernel) rfl), (tb_t 4 (by decide +kernel) rfl), (tb_t 382 (by decide +kernel) rfl), by decide +kernel, by decide +kernel, by decide +kernel⟩
theorem cl_L_79 : CLV RL 79 yX4_strides cX4_strides 5 (some .int) 1 := ⟨(tb_t 383 (by decide +kernel) rfl), (tb_t 384 (by decide +kernel) rfl), (tb_t 385 (by decide +kernel) rfl), (tb_t 1 (by decide +kernel) rfl), (tb_t 386 (by decide +kernel) rfl), by decide +kernel, by decide +kernel, by decide +kernel⟩
theorem cl_X4_163 : CLV RX4 163 yX0_areSo cX0_areSo 8 (some .boolean) 5 := ⟨(tb_t 387 (by decide +kernel) rfl), (tb_t 388 (by decide +kernel) rfl), (tb_t 389 (by decide +kernel) rfl), (tb_t 4 (by decide +kernel) rfl), (tb_t 390 (by decide +kernel) rfl), by decide +kernel, by decide +kernel, by decide +kernel⟩
theorem cl_X0_25 : CLV RX0 25 yX3_placeIf cX3_placeIf 5 (some .int) 4 := ⟨(tb_t 391 (by decide +kernel) rfl), (tb_t 258 (by decide +kernel) rfl), (tb_t 259 (by decide +kernel) rfl), (tb_t 2 (by decide +kernel) rfl), (tb_t 260 (by decide +kernel) rfl), by decide +kernel, by decide +kernel, by decide +kernel⟩
theorem cl_X0_31 : CLV RX0 31 yX3_placeOf cX3_placeOf 4 (some .int) 2 := ⟨(tb_t 392 (by decide +kernel) rfl), (tb_t 254 (by decide +kernel) rfl), (tb_t 255 (by decide +kernel) rfl), (tb_t 2 (by decide +kernel) rfl), (tb_t 256 (by decide +kernel) rfl), by decide +kernel, by decide +kernel, by decide +kernel⟩
theorem cl_L_83 : CLV RL 83 yX4_kinds cX4_kinds 5 (some .int) 1 := ⟨(tb_t 393 (by decide +kernel) rfl), (tb_t 394 (by decide +kernel) rfl), (tb_t 395 (by decide +kernel) rfl), (tb_t 1 (by decide +kernel) rfl), (tb_t 396 (by decide +kernel) rfl), by decide +kernel, by decide +kernel, by decide +kernel⟩
theorem cl_L_87 : CLV RL 87 yX4_starts cX4_starts 5 (some .int) 1 := ⟨(tb_t 397 (by decide +kernel) rfl), (tb_t 398 (by decide +kernel) rfl), (tb_t 399 (by decide +kernel) rfl), (tb_t 1 (by decide +kernel) rfl), (tb_t 400 (by decide +kernel) rfl), by decide +kernel, by decide +kernel, by decide +kernel⟩
theorem cl_X4_167 : CLV RX4 167 yX3_placeCount cX3_placeCount 1 (some .int) 0 := ⟨(tb_t 401 (by decide +kernel) rfl), (tb_t 402 (by decide +kernel) rfl), (tb_t 403 (by decide +kernel) rfl), (tb_t 2 (by decide +kernel) rfl), (tb_t 404 (by decide +kernel) rfl), by decide +kernel, by decide +kernel, by decide +kernel⟩
theorem cl_L_91 : CLV RL 91 yX4_odds cX4_odds 8 (some .long) 4 := ⟨(tb_t 405 (by decide +kernel) rfl), (tb_t 406 (by decide +kernel) rfl), (tb_t 407 (by decide +kernel) rfl), (tb_t 1 (by decide +kernel) rfl), (tb_t 408 (by decide +kernel) rfl), by decide +kernel, by decide +kernel, by decide +kernel⟩
theorem cl_X4_172 : CLV RX4 172 yX4_comesWithin cX4_comesWithin 6 (some .boolean) 4 := ⟨(tb_t 410 (by decide +kernel) rfl), (tb_t 412 (by decide +kernel) rfl), (tb_s 15 (by decide +kernel) rfl), (tb_t 1 (by decide +kernel) rfl), (tb_t 413 (by decide +kernel) rfl), by decide +kernel, by decide +kernel, by decide +kernel⟩
theorem cl_L_96 : CLV RL 96 yX4_sheet cX4_sheet 5 (some .int) 3 := ⟨(tb_t 414 (by decide +kernel) rfl), (tb_t 415 (by decide +kernel) rfl), (tb_t 416 (by decide +kernel) rfl), (tb_t 1 (by decide +kernel) rfl), (tb_t 417 (by decide +kernel) rfl), by decide +kernel, by decide +kernel, by decide +kernel⟩
theorem cl_X4_176 : CLV RX4 176 yX1_renew cX1_renew 3 none 2 := ⟨(tb_t 418 (by decide +kernel) rfl), (tb_t 419 (by decide +kernel) rfl), (tb_t 420 (by decide +kernel) rfl), (tb_t 5 (by decide +kernel) rfl), (tb_t 421 (by decide +kernel) rfl), by decide +kernel, by decide +kernel, by decide +kernel⟩
theorem cl_X1_22 : CLS RX1 22 yJ7_fill_53178 cJ7_fill_53178 4 none 2 := ⟨(tb_t 422 (by decide +kernel) rfl), (tb_t 423 (by decide +kernel) rfl), (tb_t 8 (by decide +kernel) rfl), (tb_t 424 (by decide +kernel) rfl), by decide +kernel, by decide +kernel, by decide +kernel⟩
theorem cl_L_100 : CLV RL 100 yX4_lose cX4_lose 4 (some .int) 1 := ⟨(tb_t 425 (by decide +kernel) rfl), (tb_t 426 (by decide +kernel) rfl), (tb_t 427 (by decide +kernel) rfl), (tb_t 1 (by decide +kernel) rfl), (tb_t 428 (by decide +kernel) rfl), by decide +kernel, by decide +kernel, by decide +kernel⟩
theorem cl_X4_179 : CLV RX4 179 yX1_hasNothing cX1_hasNothing 1 (some .boolean) 0 := ⟨(tb_t 429 (by decide +kernel) rfl), (tb_t 140 (by decide +kernel) rfl), (tb_t 141 (by decide +kernel) rfl), (tb_t 5 (by decide +kernel) rfl), (tb_t 142 (by decide +kernel) rfl), by decide +kernel, by decide +kernel, by decide +kernel⟩
theorem cl_X4_182 : CLV RX4 182 yX1_drop cX1_drop 1 none 0 := ⟨(tb_t 430 (by decide +kernel) rfl), (tb_t 431 (by decide +kernel) rfl), (tb_t 432 (by decide +kernel) rfl), (tb_t 5 (by decide +kernel) rfl), (tb_t 433 (by decide +kernel) rfl), by decide +kernel, by decide +kernel, by decide +kernel⟩
theorem cl_L_104 : CLV RL 104 yX4_put cX4_put 5 (some .int) 3 := ⟨(tb_t 434 (by decide +kernel) rfl), (tb_t 435 (by decide +kernel) rfl), (tb_t 436 (by decide +kernel) rfl), (tb_t 1 (by decide +kernel) rfl), (tb_t 437 (by decide +kernel) rfl), by decide +kernel, by decide +kernel, by decide +kernel⟩
theorem cl_X4_185 : CLV RX4 185 yX1_hasCell cX1_hasCell 2 (some .boolean) 1 := ⟨(tb_t 438 (by decide +kernel) rfl), (tb_t 160 (by decide +kernel) rfl), (tb_t 161 (by decide +kernel) rfl), (tb_t 5 (by decide +kernel) rfl), (tb_t 162 (by decide +kernel) rfl), by decide +kernel, by decide +kernel, by decide +kernel⟩
theorem cl_X4_188 : CLV RX4 188 yX1_set cX1_set 3 none 2 := ⟨(tb_t 439 (by decide +kernel) rfl), (tb_t 440 (by decide +kernel) rfl), (tb_t 441 (by decide +kernel) rfl), (tb_t 5 (by decide +kernel) rfl), (tb_t 442 (by decide +kernel) rfl), by decide +kernel, by decide +kernel, by decide +kernel⟩
theorem cl_L_108 : CLV RL 108 yX4_cell cX4_cell 5 (some .long) 3 := ⟨(tb_t 443 (by decide +kernel) rfl), (tb_t 444 (by decide +kernel) rfl), (tb_t 445 (by decide +kernel) rfl), (tb_t 1 (by decide +kernel) rfl), (tb_t 446 (by decide +kernel) rfl), by decide +kernel, by decide +kernel, by decide +kernel⟩
theorem cl_L_113 : CLV RL 113 yX4_copy cX4_copy 8 (some .int) 5 := ⟨(tb_t 447 (by decide +kernel) rfl), (tb_t 448 (by decide +kernel) rfl), (tb_t 449 (by decide +kernel) rfl), (tb_t 1 (by decide +kernel) rfl), (tb_t 450 (by decide +kernel) rfl), by decide +kernel, by decide +kernel, by decide +kernel⟩
theorem cl_L_118 : CLV RL 118 yX4_tell cX4_tell 3 (some .int) 1 := ⟨(tb_t 454 (by decide +kernel) rfl), (tb_t 455 (by decide +kernel) rfl), (tb_t 456 (by decide +kernel) rfl), (tb_t 1 (by decide +kernel) rfl), (tb_t 457 (by decide +kernel) rfl), by decide +kernel, by decide +kernel, by decide +kernel⟩
theorem cl_X4_204 : CLV RX4 204 yX4_moonstruckBody cX4_moonstruckBody 2 (some .int) 1 := ⟨(tb_t 458 (by decide +kernel) rfl), (tb_t 460 (by decide +kernel) rfl), (tb_s 16 (by decide +kernel) rfl), (tb_t 1 (by decide +kernel) rfl), (tb_t 461 (by decide +kernel) rfl), by decide +kernel, by decide +kernel, by decide +kernel⟩
theorem cl_X4_223 : CLV RX4 223 yX4_leave cX4_leave 2 none 1 := ⟨(tb_t 462 (by decide +kernel) rfl), (tb_t 464 (by decide +kernel) rfl), (tb_s 17 (by decide +kernel) rfl), (tb_t 1 (by decide +kernel) rfl), (tb_t 465 (by decide +kernel) rfl), by decide +kernel, by decide +kernel, by decide +kernel⟩
theorem cl_X4_211 : CLV RX4 211 yX4_sleeperBody cX4_sleeperBody 2 (some .int) 1 := ⟨(tb_t 466 (by decide +kernel) rfl), (tb_t 468 (by decide +kernel) rfl), (tb_s 18 (by decide +kernel) rfl), (tb_t 1 (by decide +kernel) rfl), (tb_t 469 (by decide +kernel) rfl), by decide +kernel, by decide +kernel, by decide +kernel⟩
theorem cl_X4_208 : CLV RX4 208 yX4_restlessBody cX4_restlessBody 3 (some .int) 1 := ⟨(tb_t 470 (by decide +kernel) rfl), (tb_t 472 (by decide +kernel) rfl), (tb_s 19 (by decide +kernel) rfl), (tb_t 1 (by decide +kernel) rfl), (tb_t 473 (by decide +kernel) rfl), by decide +kernel, by decide +kernel, by decide +kernel⟩
theorem cl_L_122 : CLV RL 122 yX4_waken cX4_waken 3 (some .int) 1 := ⟨(tb_t 474 (by decide +kernel) rfl), (tb_t 475 (by decide +kernel) rfl), (tb_t 476 (by decide +kernel) rfl), (tb_t 1 (by decide +kernel) rfl), (tb_t 477 (by decide +kernel) rfl), by decide +kernel, by decide +kernel, by decide +kernel⟩
theorem cl_X4_214 : CLV RX4 214 yX4_ownWakening cX4_ownWakening 1 (some .int) 0 := ⟨(tb_t 478 (by decide +kernel) rfl), (tb_t 480 (by decide +kernel) rfl), (tb_s 20 (by decide +kernel) rfl), (tb_t 1 (by decide +kernel) rfl), (tb_t 481 (by decide +kernel) rfl), by decide +kernel, by decide +kernel, by decide +kernel⟩
theorem cl_X4_217 : CLV RX4 217 yX4_lentWakening cX4_lentWakening 2 (some .int) 1 := ⟨(tb_t 482 (by decide +kernel) rfl), (tb_t 484 (by decide +kernel) rfl), (tb_s 21 (by decide +kernel) rfl), (tb_t 1 (by decide +kernel) rfl), (tb_t 485 (by decide +kernel) rfl), by decide +kernel, by decide +kernel, by decide +kernel⟩
theorem cl_L_126 : CLV RL 126 yX4_as cX4_as 4 (some .int) 2 := ⟨(tb_t 486 (by decide +kernel) rfl), (tb_t 487 (by decide +kernel) rfl), (tb_t 488 (by decide +kernel) rfl), (tb_t 1 (by decide +kernel) rfl), (tb_t 489 (by decide +kernel) rfl), by decide +kernel, by decide +kernel, by decide +kernel⟩
theorem cl_L_130 : CLV RL 130 yX4_trace cX4_trace 1 (some .int) 0 := ⟨(tb_t 490 (by decide +kernel) rfl), (tb_t 491 (by decide +kernel) rfl), (tb_t 492 (by decide +kernel) rfl), (tb_t 1 (by decide +kernel) rfl), (tb_t 493 (by decide +kernel) rfl), by decide +kernel, by decide +kernel, by decide +kernel⟩
theorem cl_L_134 : CLV RL 134 yX4_fault cX4_fault 1 (some .int) 0 := ⟨(tb_t 494 (by decide +kernel) rfl), (tb_t 495 (by decide +kernel) rfl), (tb_t 496 (by decide +kernel) rfl), (tb_t 1 (by decide +kernel) rfl), (tb_t 497 (by decide +kernel) rfl), by decide +kernel, by decide +kernel, by decide +kernel⟩
theorem cl_L_138 : CLV RL 138 yX4_many cX4_many 2 (some .int) 1 := ⟨(tb_t 498 (by decide +kernel) rfl), (tb_t 499 (by decide +kernel) rfl), (tb_t 500 (by decide +kernel) rfl), (tb_t 1 (by decide +kernel) rfl), (tb_t 501 (by decide +kernel) rfl), by decide +kernel, by decide +kernel, by decide +kernel⟩
theorem cl_X4_220 : CLV RX4 220 yX3_goodsOfAll cX3_goodsOfAll 3 (some .int) 0 := ⟨(tb_t 502 (by decide +kernel) rfl), (tb_t 503 (by decide +kernel) rfl), (tb_t 504 (by decide +kernel) rfl), (tb_t 2 (by decide +kernel) rfl), (tb_t 505 (by decide +kernel) rfl), by decide +kernel, by decide +kernel, by decide +kernel⟩
theorem cl_L_12 : CLI RL 12 yX5_init cX5_init 2 none 0 := ⟨(tb_t 508 (by decide +kernel) rfl), (tb_t 509 (by decide +kernel) rfl), (tb_t 6 (by decide +kernel) rfl), (tb_t 510 (by decide +kernel) rfl), ⟨by decide +kernel, by decide +kernel, by decide +kernel⟩, rfl⟩
theorem cl_L_17 : CLV RL 17 yX5_town cX5_town 7 (some .int) 4 := ⟨(tb_t 603 (by decide +kernel) rfl), (tb_t 604 (by decide +kernel) rfl), (tb_t 605 (by decide +kernel) rfl), (tb_t 6 (by decide +kernel) rfl), (tb_t 606 (by decide +kernel) rfl), by decide +kernel, by decide +kernel, by decide +kernel⟩
theorem cl_X5_112 : CLS RX5 112 yX5_noSheet cX5_noSheet 1 (some .boolean) 1 := ⟨(tb_t 607 (by decide +kernel) rfl), (tb_t 608 (by decide +kernel) rfl), (tb_t 6 (by decide +kernel) rfl), (tb_t 609 (by decide +kernel) rfl), by decide +kernel, by decide +kernel, by decide +kernel⟩
theorem cl_X5_74 : CLS RX5 74 yX5_in cX5_in 6 (some .boolean) 3 := ⟨(tb_t 611 (by decide +kernel) rfl), (tb_t 612 (by decide +kernel) rfl), (tb_t 6 (by decide +kernel) rfl), (tb_t 613 (by decide +kernel) rfl), by decide +kernel, by decide +kernel, by decide +kernel⟩
theorem cl_X5_116 : CLV RX5 116 yX5_refused cX5_refused 2 (some .int) 1 := ⟨(tb_t 614 (by decide +kernel) rfl), (tb_t 616 (by decide +kernel) rfl), (tb_s 22 (by decide +kernel) rfl), (tb_t 6 (by decide +kernel) rfl), (tb_t 617 (by decide +kernel) rfl), by decide +kernel, by decide +kernel, by decide +kernel⟩
theorem cl_X5_121 : CLV RX5 121 yX5_cellsBarred cX5_cellsBarred 6 (some .int) 4 := ⟨(tb_t 619 (by decide +kernel) rfl), (tb_t 621 (by decide +kernel) rfl), (tb_s 23 (by decide +kernel) rfl), (tb_t 6 (by decide +kernel) rfl), (tb_t 622 (by decide +kernel) rfl), by decide +kernel, by decide +kernel, by decide +kernel⟩
theorem cl_X5_104 : CLV RX5 104 yX5_failed cX5_failed 2 (some .int) 1 := ⟨(tb_t 623 (by decide +kernel) rfl), (tb_t 625 (by decide +kernel) rfl), (tb_s 24 (by decide +kernel) rfl), (tb_t 6 (by decide +kernel) rfl), (tb_t 626 (by decide +kernel) rfl), by decide +kernel, by decide +kernel, by decide +kernel⟩
theorem cl_X5_108 : CLS RX5 108 yX5_isBeyond cX5_isBeyond 4 (some .boolean) 3 := ⟨(tb_t 627 (by decide +kernel) rfl), (tb_t 628 (by decide +kernel) rfl), (tb_t 6 (by decide +kernel) rfl), (tb_t 629 (by decide +kernel) rfl), by decide +kernel, by decide +kernel, by decide +kernel⟩
theorem cl_X5_125 : CLV RX5 125 yX5_readsTown cX5_readsTown 5 (some .boolean) 2 := ⟨(tb_t 630 (by decide +kernel) rfl), (tb_t 632 (by decide +kernel) rfl), (tb_s 25 (by decide +kernel) rfl), (tb_t 6 (by decide +kernel) rfl), (tb_t 633 (by decide +kernel) rfl), by decide +kernel, by decide +kernel, by decide +kernel⟩
theorem cl_X5_86 : CLV RX5 86 yX5_codeAt cX5_codeAt 3 (some .int) 2 := ⟨(tb_t 634 (by decide +kernel) rfl), (tb_t 636 (by decide +kernel) rfl), (tb_s 26 (by decide +kernel) rfl), (tb_t 6 (by decide +kernel) rfl), (tb_t 637 (by decide +kernel) rfl), by decide +kernel, by decide +kernel, by decide +kernel⟩
theorem cl_X5_96 : CLV RX5 96 yX5_figure cX5_figure 7 (some .int) 4 := ⟨(tb_t 638 (by decide +kernel) rfl), (tb_t 640 (by decide +kernel) rfl), (tb_s 27 (by decide +kernel) rfl), (tb_t 6 (by decide +kernel) rfl), (tb_t 641 (by decide +kernel) rfl), by decide +kernel, by decide +kernel, by decide +kernel⟩
theorem cl_X5_100 : CLV RX5 100 yX5_readsSleeper cX5_readsSleeper 6 (some .boolean) 2 := ⟨(tb_t 642 (by decide +kernel) rfl), (tb_t 644 (by decide +kernel) rfl), (tb_s 28 (by decide +kernel) rfl), (tb_t 6 (by decide +kernel) rfl), (tb_t 645 (by decide +kernel) rfl), by decide +kernel, by decide +kernel, by decide +kernel⟩
theorem cl_L_22 : CLV RL 22 yX5_ofSleeper cX5_ofSleeper 3 (some .int) 2 := ⟨(tb_t 646 (by decide +kernel) rfl), (tb_t 647 (by decide +kernel) rfl), (tb_t 648 (by decide +kernel) rfl), (tb_t 6 (by decide +kernel) rfl), (tb_t 649 (by decide +kernel) rfl), by decide +kernel, by decide +kernel, by decide +kernel⟩
theorem cl_X5_131 : CLV RX5 131 yX5_noSleeper cX5_noSleeper 2 (some .boolean) 1 := ⟨(tb_t 650 (by decide +kernel) rfl), (tb_t 652 (by decide +kernel) rfl), (tb_s 29 (by decide +kernel) rfl), (tb_t 6 (by decide +kernel) rfl), (tb_t 653 (by decide +kernel) rfl), by decide +kernel, by decide +kernel, by decide +kernel⟩
theorem cl_L_27 : CLV RL 27 yX5_goods cX5_goods 2 (some .int) 1 := ⟨(tb_t 654 (by decide +kernel) rfl), (tb_t 655 (by decide +kernel) rfl), (tb_t 656 (by decide +kernel) rfl), (tb_t 6 (by decide +kernel) rfl), (tb_t 657 (by decide +kernel) rfl), by decide +kernel, by decide +kernel, by decide +kernel⟩
theorem cl_X5_134 : CLV RX5 134 yX5_noPlace cX5_noPlace 2 (some .boolean) 1 := ⟨(tb_t 658 (by decide +kernel) rfl), (tb_t 660 (by decide +kernel) rfl), (tb_s 30 (by decide +kernel) rfl), (tb_t 6 (by decide +kernel) rfl), (tb_t 661 (by decide +kernel) rfl), by decide +kernel, by decide +kernel, by decide +kernel⟩
theorem cl_L_31 : CLV RL 31 yX5_lay cX5_lay 4 (some .int) 2 := ⟨(tb_t 662 (by decide +kernel) rfl), (tb_t 663 (by decide +kernel) rfl), (tb_t 664 (by decide +kernel) rfl), (tb_t 6 (by decide +kernel) rfl), (tb_t 665 (by decide +kernel) rfl), by decide +kernel, by decide +kernel, by decide +kernel⟩
theorem cl_L_35 : CLV RL 35 yX5_stride cX5_stride 4 (some .int) 2 := ⟨(tb_t 667 (by decide +kernel) rfl), (tb_t 668 (by decide +kernel) rfl), (tb_t 669 (by decide +kernel) rfl), (tb_t 6 (by decide +kernel) rfl), (tb_t 670 (by decide +kernel) rfl), by decide +kernel, by decide +kernel, by decide +kernel⟩
theorem cl_L_39 : CLV RL 39 yX5_where cX5_where 3 (some .int) 2 := ⟨(tb_t 671 (by decide +kernel) rfl), (tb_t 672 (by decide +kernel) rfl), (tb_t 673 (by decide +kernel) rfl), (tb_t 6 (by decide +kernel) rfl), (tb_t 674 (by decide +kernel) rfl), by decide +kernel, by decide +kernel, by decide +kernel⟩
theorem cl_X5_141 : CLS RX5 141 yX5_noMinute cX5_noMinute 1 (some .boolean) 1 := ⟨(tb_t 675 (by decide +kernel) rfl), (tb_t 676 (by decide +kernel) rfl), (tb_t 6 (by decide +kernel) rfl), (tb_t 677 (by decide +kernel) rfl), by decide +kernel, by decide +kernel, by decide +kernel⟩
theorem cl_X5_144 : CLV RX5 144 yX5_whereAt cX5_whereAt 5 (some .int) 2 := ⟨(tb_t 679 (by decide +kernel) rfl), (tb_t 681 (by decide +kernel) rfl), (tb_s 31 (by decide +kernel) rfl), (tb_t 6 (by decide +kernel) rfl), (tb_t 682 (by decide +kernel) rfl), by decide +kernel, by decide +kernel, by decide +kernel⟩
theorem cl_L_43 : CLV RL 43 yX5_taken cX5_taken 7 (some .int) 2 := ⟨(tb_t 683 (by decide +kernel) rfl), (tb_t 684 (by decide +kernel) rfl), (tb_t 685 (by decide +kernel) rfl), (tb_t 6 (by decide +kernel) rfl), (tb_t 686 (by decide +kernel) rfl), by decide +kernel, by decide +kernel, by decide +kernel⟩
theorem cl_L_47 : CLV RL 47 yX5_free cX5_free 2 (some .int) 1 := ⟨(tb_t 687 (by decide +kernel) rfl), (tb_t 688 (by decide +kernel) rfl), (tb_t 689 (by decide +kernel) rfl), (tb_t 6 (by decide +kernel) rfl), (tb_t 690 (by decide +kernel) rfl), by decide +kernel, by decide +kernel, by decide +kernel⟩
theorem cl_X5_153 : CLV RX5 153 yX5_freeAt cX5_freeAt 4 (some .int) 1 := ⟨(tb_t 691 (by decide +kernel) rfl), (tb_t 693 (by decide +kernel) rfl), (tb_s 32 (by decide +kernel) rfl), (tb_t 6 (by decide +kernel) rfl), (tb_t 694 (by decide +kernel) rfl), by decide +kernel, by decide +kernel, by decide +kernel⟩
theorem cl_X5_150 : CLS RX5 150 yX5_isIn cX5_isIn 2 (some .boolean) 2 := ⟨(tb_t 695 (by decide +kernel) rfl), (tb_t 696 (by decide +kernel) rfl), (tb_t 6 (by decide +kernel) rfl), (tb_t 697 (by decide +kernel) rfl), by decide +kernel, by decide +kernel, by decide +kernel⟩
theorem cl_L_51 : CLV RL 51 yX5_meet cX5_meet 4 (some .int) 2 := ⟨(tb_t 698 (by decide +kernel) rfl), (tb_t 699 (by decide +kernel) rfl), (tb_t 700 (by decide +kernel) rfl), (tb_t 6 (by decide +kernel) rfl), (tb_t 701 (by decide +kernel) rfl), by decide +kernel, by decide +kernel, by decide +kernel⟩
theorem cl_L_56 : CLV RL 56 yX5_walk cX5_walk 9 (some .int) 6 := ⟨(tb_t 702 (by decide +kernel) rfl), (tb_t 703 (by decide +kernel) rfl), (tb_t 704 (by decide +kernel) rfl), (tb_t 6 (by decide +kernel) rfl), (tb_t 705 (by decide +kernel) rfl), by decide +kernel, by decide +kernel, by decide +kernel⟩
theorem cl_X5_173 : CLV RX5 173 yX5_goWalk cX5_goWalk 7 none 3 := ⟨(tb_t 707 (by decide +kernel) rfl), (tb_t 709 (by decide +kernel) rfl), (tb_s 33 (by decide +kernel) rfl), (tb_t 6 (by decide +kernel) rfl), (tb_t 710 (by decide +kernel) rfl), by decide +kernel, by decide +kernel, by decide +kernel⟩
theorem cl_X5_168 : CLV RX5 168 yX5_behind cX5_behind 3 (some .int) 2 := ⟨(tb_t 711 (by decide +kernel) rfl), (tb_t 713 (by decide +kernel) rfl), (tb_s 34 (by decide +kernel) rfl), (tb_t 6 (by decide +kernel) rfl), (tb_t 714 (by decide +kernel) rfl), by decide +kernel, by decide +kernel, by decide +kernel⟩
theorem cl_L_61 : CLV RL 61 yX5_soonest cX5_soonest 9 (some .int) 3 := ⟨(tb_t 715 (by decide +kernel) rfl), (tb_t 716 (by decide +kernel) rfl), (tb_t 717 (by decide +kernel) rfl), (tb_t 6 (by decide +kernel) rfl), (tb_t 718 (by decide +kernel) rfl), by decide +kernel, by decide +kernel, by decide +kernel⟩
theorem cl_X5_184 : CLV RX5 184 yX5_soonestOf cX5_soonestOf 6 (some .int) 3 := ⟨(tb_t 721 (by decide +kernel) rfl), (tb_t 723 (by decide +kernel) rfl), (tb_s 35 (by decide +kernel) rfl), (tb_t 6 (by decide +kernel) rfl), (tb_t 724 (by decide +kernel) rfl), by decide +kernel, by decide +kernel, by decide +kernel⟩
theorem cl_X5_177 : CLV RX5 177 yX5_setBehind cX5_setBehind 5 (some .int) 2 := ⟨(tb_t 725 (by decide +kernel) rfl), (tb_t 727 (by decide +kernel) rfl), (tb_s 36 (by decide +kernel) rfl), (tb_t 6 (by decide +kernel) rfl), (tb_t 728 (by decide +kernel) rfl), by decide +kernel, by decide +kernel, by decide +kernel⟩
theorem cl_X5_188 : CLV RX5 188 yX5_goBack cX5_goBack 7 none 2 := ⟨(tb_t 729 (by decide +kernel) rfl), (tb_t 731 (by decide +kernel) rfl), (tb_s 37 (by decide +kernel) rfl), (tb_t 6 (by decide +kernel) rfl), (tb_t 732 (by decide +kernel) rfl), by decide +kernel, by decide +kernel, by decide +kernel⟩
theorem cl_L_65 : CLV RL 65 yX5_steer cX5_steer 10 (some .int) 3 := ⟨(tb_t 733 (by decide +kernel) rfl), (tb_t 734 (by decide +kernel) rfl), (tb_t 735 (by decide +kernel) rfl), (tb_t 6 (by decide +kernel) rfl), (tb_t 736 (by decide +kernel) rfl), by decide +kernel, by decide +kernel, by decide +kernel⟩
theorem cl_L_70 : CLV RL 70 yX5_guard cX5_guard 5 (some .int) 0 := ⟨(tb_t 737 (by decide +kernel) rfl), (tb_t 738 (by decide +kernel) rfl), (tb_t 739 (by decide +kernel) rfl), (tb_t 6 (by decide +kernel) rfl), (tb_t 740 (by decide +kernel) rfl), by decide +kernel, by decide +kernel, by decide +kernel⟩
theorem cl_X5_192 : CLV RX5 192 yX5_guardedAt cX5_guardedAt 5 (some .int) 1 := ⟨(tb_t 741 (by decide +kernel) rfl), (tb_t 743 (by decide +kernel) rfl), (tb_s 38 (by decide +kernel) rfl), (tb_t 6 (by decide +kernel) rfl), (tb_t 744 (by decide +kernel) rfl), by decide +kernel, by decide +kernel, by decide +kernel⟩
theorem cl_L_74 : CLV RL 74 yX5_reading cX5_reading 4 (some .int) 3 := ⟨(tb_t 745 (by decide +kernel) rfl), (tb_t 746 (by decide +kernel) rfl), (tb_t 747 (by decide +kernel) rfl), (tb_t 6 (by decide +kernel) rfl), (tb_t 748 (by decide +kernel) rfl), by decide +kernel, by decide +kernel, by decide +kernel⟩
theorem cl_L_78 : CLV RL 78 yX5_back cX5_back 2 (some .int) 1 := ⟨(tb_t 749 (by decide +kernel) rfl), (tb_t 750 (by decide +kernel) rfl), (tb_t 751 (by decide +kernel) rfl), (tb_t 6 (by decide +kernel) rfl), (tb_t 752 (by decide +kernel) rfl), by decide +kernel, by decide +kernel, by decide +kernel⟩
theorem cl_L_82 : CLV RL 82 yX5_strides cX5_strides 5 (some .int) 1 := ⟨(tb_t 753 (by decide +kernel) rfl), (tb_t 754 (by decide +kernel) rfl), (tb_t 755 (by decide +kernel) rfl), (tb_t 6 (by decide +kernel) rfl), (tb_t 756 (by decide +kernel) rfl), by decide +kernel, by decide +kernel, by decide +kernel⟩
theorem cl_X5_195 : CLV RX5 195 yX5_areSo cX5_areSo 3 (some .boolean) 0 := ⟨(tb_t 757 (by decide +kernel) rfl), (tb_t 759 (by decide +kernel) rfl), (tb_s 39 (by decide +kernel) rfl), (tb_t 6 (by decide +kernel) rfl), (tb_t 760 (by decide +kernel) rfl), by decide +kernel, by decide +kernel, by decide +kernel⟩
theorem cl_L_86 : CLV RL 86 yX5_kinds cX5_kinds 5 (some .int) 1 := ⟨(tb_t 761 (by decide +kernel) rfl), (tb_t 762 (by decide +kernel) rfl), (tb_t 763 (by decide +kernel) rfl), (tb_t 6 (by decide +kernel) rfl), (tb_t 764 (by decide +kernel) rfl), by decide +kernel, by decide +kernel, by decide +kernel⟩
theorem cl_L_90 : CLV RL 90 yX5_starts cX5_starts 5 (some .int) 1 := ⟨(tb_t 765 (by decide +kernel) rfl), (tb_t 766 (by decide +kernel) rfl), (tb_t 767 (by decide +kernel) rfl), (tb_t 6 (by decide +kernel) rfl), (tb_t 768 (by decide +kernel) rfl), by decide +kernel, by decide +kernel, by decide +kernel⟩
theorem cl_L_95 : CLV RL 95 yX5_odds cX5_odds 8 (some .long) 4 := ⟨(tb_t 769 (by decide +kernel) rfl), (tb_t 770 (by decide +kernel) rfl), (tb_t 771 (by decide +kernel) rfl), (tb_t 6 (by decide +kernel) rfl), (tb_t 772 (by decide +kernel) rfl), by decide +kernel, by decide +kernel, by decide +kernel⟩
theorem cl_X5_67 : CLS RX5 67 yX5_lost cX5_lost 0 (some .long) 0 := ⟨(tb_t 773 (by decide +kernel) rfl), (tb_t 774 (by decide +kernel) rfl), (tb_t 6 (by decide +kernel) rfl), (tb_t 775 (by decide +kernel) rfl), by decide +kernel, by decide +kernel, by decide +kernel⟩
theorem cl_X5_199 : CLS RX5 199 yX5_share cX5_share 11 (some .long) 3 := ⟨(tb_t 777 (by decide +kernel) rfl), (tb_t 778 (by decide +kernel) rfl), (tb_t 6 (by decide +kernel) rfl), (tb_t 779 (by decide +kernel) rfl), by decide +kernel, by decide +kernel, by decide +kernel⟩
theorem cl_L_99 : CLV RL 99 yX5_sheet cX5_sheet 5 (some .int) 3 := ⟨(tb_t 780 (by decide +kernel) rfl), (tb_t 781 (by decide +kernel) rfl), (tb_t 782 (by decide +kernel) rfl), (tb_t 6 (by decide +kernel) rfl), (tb_t 783 (by decide +kernel) rfl), by decide +kernel, by decide +kernel, by decide +kernel⟩
theorem cl_L_103 : CLV RL 103 yX5_lose cX5_lose 3 (some .int) 1 := ⟨(tb_t 784 (by decide +kernel) rfl), (tb_t 785 (by decide +kernel) rfl), (tb_t 786 (by decide +kernel) rfl), (tb_t 6 (by decide +kernel) rfl), (tb_t 787 (by decide +kernel) rfl), by decide +kernel, by decide +kernel, by decide +kernel⟩
theorem cl_L_107 : CLV RL 107 yX5_put cX5_put 4 (some .int) 3 := ⟨(tb_t 788 (by decide +kernel) rfl), (tb_t 789 (by decide +kernel) rfl), (tb_t 790 (by decide +kernel) rfl), (tb_t 6 (by decide +kernel) rfl), (tb_t 791 (by decide +kernel) rfl), by decide +kernel, by decide +kernel, by decide +kernel⟩
theorem cl_X5_203 : CLV RX5 203 yX5_noCell cX5_noCell 3 (some .int) 2 := ⟨(tb_t 792 (by decide +kernel) rfl), (tb_t 794 (by decide +kernel) rfl), (tb_s 40 (by decide +kernel) rfl), (tb_t 6 (by decide +kernel) rfl), (tb_t 795 (by decide +kernel) rfl), by decide +kernel, by decide +kernel, by decide +kernel⟩
theorem cl_L_112 : CLV RL 112 yX5_cell cX5_cell 4 (some .long) 3 := ⟨(tb_t 796 (by decide +kernel) rfl), (tb_t 797 (by decide +kernel) rfl), (tb_t 798 (by decide +kernel) rfl), (tb_t 6 (by decide +kernel) rfl), (tb_t 799 (by decide +kernel) rfl), by decide +kernel, by decide +kernel, by decide +kernel⟩
theorem cl_X5_206 : CLV RX5 206 yX5_failedLong cX5_failedLong 2 (some .long) 1 := ⟨(tb_t 800 (by decide +kernel) rfl), (tb_t 802 (by decide +kernel) rfl), (tb_s 41 (by decide +kernel) rfl), (tb_t 6 (by decide +kernel) rfl), (tb_t 803 (by decide +kernel) rfl), by decide +kernel, by decide +kernel, by decide +kernel⟩
theorem cl_L_117 : CLV RL 117 yX5_copy cX5_copy 7 (some .int) 5 := ⟨(tb_t 804 (by decide +kernel) rfl), (tb_t 805 (by decide +kernel) rfl), (tb_t 806 (by decide +kernel) rfl), (tb_t 6 (by decide +kernel) rfl), (tb_t 807 (by decide +kernel) rfl), by decide +kernel, by decide +kernel, by decide +kernel⟩
theorem cl_L_121 : CLV RL 121 yX5_tell cX5_tell 4 (some .int) 1 := ⟨(tb_t 808 (by decide +kernel) rfl), (tb_t 809 (by decide +kernel) rfl), (tb_t 810 (by decide +kernel) rfl), (tb_t 6 (by decide +kernel) rfl), (tb_t 811 (by decide +kernel) rfl), by decide +kernel, by decide +kernel, by decide +kernel⟩
theorem cl_X5_213 : CLV RX5 213 yX5_traced cX5_traced 2 none 1 := ⟨(tb_t 812 (by decide +kernel) rfl), (tb_t 814 (by decide +kernel) rfl), (tb_s 42 (by decide +kernel) rfl), (tb_t 6 (by decide +kernel) rfl), (tb_t 815 (by decide +kernel) rfl), by decide +kernel, by decide +kernel, by decide +kernel⟩
theorem cl_L_125 : CLV RL 125 yX5_waken cX5_waken 2 (some .int) 1 := ⟨(tb_t 816 (by decide +kernel) rfl), (tb_t 817 (by decide +kernel) rfl), (tb_t 818 (by decide +kernel) rfl), (tb_t 6 (by decide +kernel) rfl), (tb_t 819 (by decide +kernel) rfl), by decide +kernel, by decide +kernel, by decide +kernel⟩
theorem cl_L_129 : CLV RL 129 yX5_as cX5_as 3 (some .int) 2 := ⟨(tb_t 820 (by decide +kernel) rfl), (tb_t 821 (by decide +kernel) rfl), (tb_t 822 (by decide +kernel) rfl), (tb_t 6 (by decide +kernel) rfl), (tb_t 823 (by decide +kernel) rfl), by decide +kernel, by decide +kernel, by decide +kernel⟩
theorem cl_L_133 : CLV RL 133 yX5_trace cX5_trace 1 (some .int) 0 := ⟨(tb_t 824 (by decide +kernel) rfl), (tb_t 825 (by decide +kernel) rfl), (tb_t 826 (by decide +kernel) rfl), (tb_t 6 (by decide +kernel) rfl), (tb_t 827 (by decide +kernel) rfl), by decide +kernel, by decide +kernel, by decide +kernel⟩
theorem cl_L_137 : CLV RL 137 yX5_fault cX5_fault 1 (some .int) 0 := ⟨(tb_t 828 (by decide +kernel) rfl), (tb_t 829 (by decide +kernel) rfl), (tb_t 830 (by decide +kernel) rfl), (tb_t 6 (by decide +kernel) rfl), (tb_t 831 (by decide +kernel) rfl), by decide +kernel, by decide +kernel, by decide +kernel⟩
theorem cl_L_141 : CLV RL 141 yX5_many cX5_many 2 (some .int) 1 := ⟨(tb_t 832 (by decide +kernel) rfl), (tb_t 833 (by decide +kernel) rfl), (tb_t 834 (by decide +kernel) rfl), (tb_t 6 (by decide +kernel) rfl), (tb_t 835 (by decide +kernel) rfl), by decide +kernel, by decide +kernel, by decide +kernel⟩
theorem cl_X5_217 : CLV RX5 217 yX5_goodsNow cX5_goodsNow 3 (some .int) 0 := ⟨(tb_t 836 (by decide +kernel) rfl), (tb_t 838 (by decide +kernel) rfl), (tb_s 43 (by decide +kernel) rfl), (tb_t 6 (by decide +kernel) rfl), (tb_t 839 (by decide +kernel) rfl), by decide +kernel, by decide +kernel, by decide +kernel⟩
theorem ki_L : Cond.initialized RL ∈ TB := (tb_t 0 (by decide +kernel) rfl)
theorem ki_X4 : Cond.initialized RX4 ∈ TB := (tb_t 1 (by decide +kernel) rfl)
theorem ki_X3 : Cond.initialized RX3 ∈ TB := (tb_t 2 (by decide +kernel) rfl)
theorem ki_X2 : Cond.initialized RX2 ∈ TB := (tb_t 3 (by decide +kernel) rfl)
theorem ki_X0 : Cond.initialized RX0 ∈ TB := (tb_t 4 (by decide +kernel) rfl)
theorem ki_X1 : Cond.initialized RX1 ∈ TB := (tb_t 5 (by decide +kernel) rfl)
theorem ki_X5 : Cond.initialized RX5 ∈ TB := (tb_t 6 (by decide +kernel) rfl)
theorem ki_J9 : Cond.initialized RJ9 ∈ TB := (tb_t 7 (by decide +kernel) rfl)
theorem ki_J7 : Cond.initialized RJ7 ∈ TB := (tb_t 8 (by decide +kernel) rfl)
theorem ki_J10 : Cond.initialized RJ10 ∈ TB := (tb_t 9 (by decide +kernel) rfl)
theorem kc_L_7 : Cond.classLink RL 7 RX4 ∈ TB := (tb_t 10 (by decide +kernel) rfl)
theorem kn_X4 : Cond.instantiable RX4 6 ∈ TB := (tb_t 11 (by decide +kernel) rfl)
theorem kc_X4_11 : Cond.classLink RX4 11 RX3 ∈ TB := (tb_t 18 (by decide +kernel) rfl)
theorem kn_X3 : Cond.instantiable RX3 7 ∈ TB := (tb_t 19 (by decide +kernel) rfl)
theorem kc_X3_9 : Cond.classLink RX3 9 RX2 ∈ TB := (tb_t 24 (by decide +kernel) rfl)
theorem kn_X2 : Cond.instantiable RX2 3 ∈ TB := (tb_t 26 (by decide +kernel) rfl)
theorem kc_X4_21 : Cond.classLink RX4 21 RX0 ∈ TB := (tb_t 67 (by decide +kernel) rfl)
theorem kn_X0 : Cond.instantiable RX0 4 ∈ TB := (tb_t 68 (by decide +kernel) rfl)
theorem kc_X4_28 : Cond.classLink RX4 28 RX1 ∈ TB := (tb_t 86 (by decide +kernel) rfl)
theorem kn_X1 : Cond.instantiable RX1 3 ∈ TB := (tb_t 88 (by decide +kernel) rfl)
theorem kl_X4_170 : Cond.constantLong RX4 170 (-9223372036854775808) ∈ TB := (tb_t 409 (by decide +kernel) rfl)
theorem kc_L_10 : Cond.classLink RL 10 RX5 ∈ TB := (tb_t 506 (by decide +kernel) rfl)
theorem kn_X5 : Cond.instantiable RX5 30 ∈ TB := (tb_t 507 (by decide +kernel) rfl)
theorem kl_X5_139 : Cond.constantLong RX5 139 (3) ∈ TB := (tb_t 610 (by decide +kernel) rfl)
theorem kl_X5_119 : Cond.constantLong RX5 119 (2) ∈ TB := (tb_t 618 (by decide +kernel) rfl)
theorem kl_X5_137 : Cond.constantLong RX5 137 (9) ∈ TB := (tb_t 666 (by decide +kernel) rfl)
theorem kl_X5_81 : Cond.constantLong RX5 81 (60) ∈ TB := (tb_t 678 (by decide +kernel) rfl)
theorem kl_X5_171 : Cond.constantLong RX5 171 (40) ∈ TB := (tb_t 706 (by decide +kernel) rfl)
theorem kl_X5_180 : Cond.constantLong RX5 180 (-1) ∈ TB := (tb_t 719 (by decide +kernel) rfl)
theorem kl_X5_182 : Cond.constantLong RX5 182 (59) ∈ TB := (tb_t 720 (by decide +kernel) rfl)
theorem kl_X5_61 : Cond.constantLong RX5 61 (-9223372036854775808) ∈ TB := (tb_t 776 (by decide +kernel) rfl)
theorem oi_X4 : Cond.methodLink RX4 5 objectInit ∈ TB := (tb_t 15 (by decide +kernel) rfl)
theorem oi_X3 : Cond.methodLink RX3 3 objectInit ∈ TB := (tb_t 23 (by decide +kernel) rfl)
theorem oi_X2 : Cond.methodLink RX2 3 objectInit ∈ TB := (tb_t 30 (by decide +kernel) rfl)
theorem oi_X0 : Cond.methodLink RX0 3 objectInit ∈ TB := (tb_t 72 (by decide +kernel) rfl)
theorem oi_X1 : Cond.methodLink RX1 3 objectInit ∈ TB := (tb_t 92 (by decide +kernel) rfl)
theorem oi_X5 : Cond.methodLink RX5 1 objectInit ∈ TB := (tb_t 511 (by decide +kernel) rfl)
theorem oi_i : Cond.instanceMethod objectInit ∈ TB := (tb_t 16 (by decide +kernel) rfl)
theorem oi_c : Cond.code objectInit ⟨#[0xb1]⟩ 1 none ∈ TB := (tb_t 17 (by decide +kernel) rfl)
theorem ac_X4 : Cond.methodLink RX4 198 arraycopyName ∈ TB := (tb_t 451 (by decide +kernel) rfl)
theorem ac_n : Cond.native arraycopyName ∈ TB := (tb_t 453 (by decide +kernel) rfl)
theorem ac_s : Cond.static arraycopyName ∈ TB := (tb_t 452 (by decide +kernel) rfl)
theorem mm_X3_136 : Cond.methodLink RX3 136 Lib.Math.min.name ∈ TB := (tb_t 339 (by decide +kernel) rfl)
theorem mm_min_c : Cond.code Lib.Math.min.name Lib.Math.min.code 2 (some .int) ∈ TB := (tb_t 341 (by decide +kernel) rfl)
theorem mm_min_s : Cond.static Lib.Math.min.name ∈ TB := (tb_t 340 (by decide +kernel) rfl)
theorem mm_X4_146 : Cond.methodLink RX4 146 Lib.Math.abs.name ∈ TB := (tb_t 351 (by decide +kernel) rfl)
theorem mm_abs_c : Cond.code Lib.Math.abs.name Lib.Math.abs.code 1 (some .int) ∈ TB := (tb_t 353 (by decide +kernel) rfl)
theorem mm_abs_s : Cond.static Lib.Math.abs.name ∈ TB := (tb_t 352 (by decide +kernel) rfl)
theorem mm_i : Cond.initialized "java/lang/Math" ∈ TB := (tb_t 7 (by decide +kernel) rfl)
theorem ac_i : Cond.initialized "java/lang/System" ∈ TB := (tb_t 9 (by decide +kernel) rfl)
theorem ka_int : Cond.arrayClass .int ∈ TB := (tb_t 44 (by decide +kernel) rfl)
end
section
/-! THE REGION. All cells of the class and of the reference are 48, at the addresses ad 0 .. ad 47; what changes in them are ints alone: a memory is cell, place -> int.
0 the object SleepRoads; 1, 2 town, tryout; 3 readings; 4 its array of sheets; 5, 6 the towns' arrays of sleepers; 7, 8 their goods; 9, 10 onTheWay; 11, 12, 13 rows of readings; 14 .. 17 sheets; 18 .. 21 their cells; 22 .. 25, 26 .. 29 the towns' sleepers; 30 the reference; 31 .. 47 its rows. -/
abbrev Mem : Type := Nat → Nat → Int32
def mu (μ : Mem) (c k : Nat) (v : Int32) : Mem := fun c' => if c' = c then upd (μ c) k v else μ c'
theorem mu_at (μ : Mem) (c k : Nat) (v : Int32) : mu μ c k v c k = v := by simp [mu, upd]
theorem mu_row (μ : Mem) (c k : Nat) (v : Int32) : mu μ c k v c = upd (μ c) k v := by simp [mu]
theorem mu_c (μ : Mem) {c c' : Nat} (k : Nat) (v : Int32) (h : c' ≠ c) : mu μ c k v c' = μ c' := by simp [mu, h]
theorem mu_k (μ : Mem) {c c' k k' : Nat} (v : Int32) (h : k' ≠ k) : mu μ c k v c' k' = μ c' k' := by
  by_cases hc : c' = c
  · subst hc; simp [mu, upd, h]
  · simp [mu, hc]
theorem mu_ne (μ : Mem) {c c' k k' : Nat} (v : Int32) (h : c' ≠ c ∨ k' ≠ k) : mu μ c k v c' k' = μ c' k' := by
  rcases h with h | h
  · rw [mu_c μ k v h]
  · exact mu_k μ v h
def mlen (c : Nat) : Nat := if c = 31 then 9 else if c ≤ 34 then 4 else if c = 35 then 9 else if c ≤ 38 then 4 else if c = 39 then 9 else if c = 40 then 61 else if c ≤ 43 then 8 else if c ≤ 45 then 4 else if c = 46 then 240 else 60
def alen (c : Nat) : Nat := if c ≤ 8 then 9 else if c ≤ 10 then 61 else if c ≤ 13 then 8 else if c ≤ 21 then 60 else mlen c
abbrev isA (c : Nat) : Prop := (7 ≤ c ∧ c ≤ 13) ∨ (18 ≤ c ∧ c ≤ 21) ∨ (31 ≤ c ∧ c ≤ 47)
def oci (c : Nat) : Nat := if c = 0 then 4 else if c ≤ 2 then 3 else if c = 3 then 0 else if c ≤ 17 then 1 else if c ≤ 29 then 2 else 5
abbrev isO (ci c : Nat) : Prop := (ci = 4 ∧ c = 0) ∨ (ci = 3 ∧ 1 ≤ c ∧ c ≤ 2) ∨ (ci = 0 ∧ c = 3) ∨ (ci = 1 ∧ 14 ≤ c ∧ c ≤ 17) ∨ (ci = 2 ∧ 22 ≤ c ∧ c ≤ 29) ∨ (ci = 5 ∧ c = 30)
def fl (ad : Nat → Nat) (ci c : Nat) (r : Nat → Int32) : List Value := match ci with
  | 0 => [.ref (ad 11), .ref (ad 12), .ref (ad 13), .int (r 3)]
  | 1 => [.ref (ad (c + 4)), .int (r 1), .int (r 2)]
  | 2 => [.int (r 0), .int (r 1), .int (r 2)]
  | 3 => [.ref (ad (c + 4)), .ref (ad (c + 6)), .ref (ad (c + 8)), .int (r 3), .int (r 4), .int (r 5), .int (r 6)]
  | 4 => [.ref (ad 1), .ref (ad 2), .ref (ad 3), .ref (ad 4), .int (r 4), .int (r 5)]
  | _ => [.int (r 0), .int (r 1), .ref (ad 31), .int (r 3), .ref (ad 32), .ref (ad 33), .ref (ad 34), .int (r 7), .int (r 8), .int (r 9), .int (r 10), .ref (ad 35), .ref (ad 36), .ref (ad 37), .ref (ad 38), .ref (ad 39), .int (r 16), .int (r 17), .int (r 18), .int (r 19), .ref (ad 40), .int (r 21), .ref (ad 41), .ref (ad 42), .ref (ad 43), .ref (ad 44), .ref (ad 45), .ref (ad 46), .ref (ad 47), .int (r 29)]
def xe (ad : Nat → Nat) (kI kS kL : ClassId) (c : Nat) (r : Nat → Int32) : va_E :=
  if c = 4 then .inl (kS, 4, .inr (.inr (.inr (.inr (fun j => some (ad (14 + j)))))))
  else if c = 5 ∨ c = 6 then .inl (kL, 4, .inr (.inr (.inr (.inr (fun j => some (ad (4 * (c - 4) + 18 + j)))))))
  else if isA c then .inl (kI, alen c, .inl r)
  else .inr (oci c, fl ad (oci c) c r)
def xW (ad : Nat → Nat) (kI kS kL : ClassId) (μ : Mem) : va_W := (List.range 48).map (fun c => (ad c, xe ad kI kS kL c (μ c)))
theorem xe_O {ad : Nat → Nat} {kI kS kL : ClassId} {ci c : Nat} (h : isO ci c) (r : Nat → Int32) : xe ad kI kS kL c r = .inr (ci, fl ad ci c r) := by
  have h1 : c ≠ 4 := by omega
  have h2 : ¬ (c = 5 ∨ c = 6) := by omega
  have h3 : ¬ isA c := by omega
  have h4 : oci c = ci := by
    unfold oci
    rcases h with h | h | h | h | h | h
    · rw [if_pos h.2]; exact h.1.symm
    · rw [if_neg (by omega), if_pos (by omega)]; exact h.1.symm
    · rw [if_neg (by omega), if_neg (by omega), if_pos (by omega)]; exact h.1.symm
    · rw [if_neg (by omega), if_neg (by omega), if_neg (by omega), if_pos (by omega)]; exact h.1.symm
    · rw [if_neg (by omega), if_neg (by omega), if_neg (by omega), if_neg (by omega), if_pos (by omega)]; exact h.1.symm
    · rw [if_neg (by omega), if_neg (by omega), if_neg (by omega), if_neg (by omega), if_neg (by omega)]; exact h.1.symm
  unfold xe
  rw [if_neg h1, if_neg h2, if_neg h3, h4]
theorem xe_A {ad : Nat → Nat} {kI kS kL : ClassId} {c : Nat} (h : isA c) (r : Nat → Int32) : xe ad kI kS kL c r = .inl (kI, alen c, .inl r) := by
  unfold xe
  rw [if_neg (by omega), if_neg (by omega), if_pos h]
theorem xe_S {ad : Nat → Nat} {kI kS kL : ClassId} (r : Nat → Int32) : xe ad kI kS kL 4 r = .inl (kS, 4, .inr (.inr (.inr (.inr (fun j => some (ad (14 + j))))))) := rfl
theorem xe_L {ad : Nat → Nat} {kI kS kL : ClassId} {c : Nat} (h : c = 5 ∨ c = 6) (r : Nat → Int32) : xe ad kI kS kL c r = .inl (kL, 4, .inr (.inr (.inr (.inr (fun j => some (ad (4 * (c - 4) + 18 + j))))))) := by
  unfold xe
  rw [if_neg (by omega), if_pos h]
theorem xW_get {ad : Nat → Nat} {kI kS kL : ClassId} {c : Nat} (h : c < 48) (μ : Mem) : (xW ad kI kS kL μ)[c]? = some (ad c, xe ad kI kS kL c (μ c)) := by
  simp [xW, h]
theorem xW_set {ad : Nat → Nat} {kI kS kL : ClassId} {c : Nat} (h : c < 48) (μ : Mem) (k : Nat) (v : Int32) : (xW ad kI kS kL μ).set c (ad c, xe ad kI kS kL c (upd (μ c) k v)) = xW ad kI kS kL (mu μ c k v) := by
  apply List.ext_getElem?
  intro j
  by_cases hj : j = c
  · subst hj
    rw [List.getElem?_set_self (by simp [xW, h]), xW_get h, mu_row]
  · rw [List.getElem?_set_ne (Ne.symm hj)]
    simp only [xW, List.getElem?_map]
    by_cases h8 : j < 48
    · simp [List.getElem?_range, h8, mu, hj]
    · simp [h8]
def mr (μ : Mem) (c : Nat) (r : Nat → Int32) : Mem := fun c' => if c' = c then r else μ c'
theorem mr_row (μ : Mem) (c : Nat) (r : Nat → Int32) : mr μ c r c = r := by simp [mr]
theorem mr_c (μ : Mem) {c c' : Nat} (r : Nat → Int32) (h : c' ≠ c) : mr μ c r c' = μ c' := by simp [mr, h]
theorem xW_setr {ad : Nat → Nat} {kI kS kL : ClassId} {c : Nat} (h : c < 48) (μ : Mem) (r : Nat → Int32) : (xW ad kI kS kL μ).set c (ad c, xe ad kI kS kL c r) = xW ad kI kS kL (mr μ c r) := by
  apply List.ext_getElem?
  intro j
  by_cases hj : j = c
  · subst hj
    rw [List.getElem?_set_self (by simp [xW, h]), xW_get h, mr_row]
  · rw [List.getElem?_set_ne (Ne.symm hj)]
    simp only [xW, List.getElem?_map]
    by_cases h8 : j < 48
    · simp [List.getElem?_range, h8, mr, hj]
    · simp [h8]
theorem xW_at {ad : Nat → Nat} {kI kS kL : ClassId} {μ : Mem} {k : Nat} {q : Nat × va_E} (h : (xW ad kI kS kL μ)[k]? = some q) : k < 48 ∧ q = (ad k, xe ad kI kS kL k (μ k)) := by
  have hk : k < 48 := by have := (List.getElem?_eq_some_iff.mp h).1; simpa [xW] using this
  exact ⟨hk, by rw [xW_get hk] at h; exact (Option.some.inj h).symm⟩
abbrev tyL (kI kS kL : ClassId) : List (ClassId × FieldType) := [(kI, .int), (kS, .object "SleepRoads$Sheet"), (kL, .object "SleepRoads$Sleeper")]
def Inj (ad : Nat → Nat) : Prop := ∀ i j, i < 48 → j < 48 → ad i = ad j → i = j
theorem xW_D {ad : Nat → Nat} {kI kS kL : ClassId} {μ : Mem} {A : Nat → Prop} (hi : Inj ad) (hA : ∀ c, c < 48 → A (ad c)) : va_D A (xW ad kI kS kL μ) := by
  refine ⟨fun i j p q h1 h2 e => ?_, fun k q h => ?_⟩
  · obtain ⟨a1, rfl⟩ := xW_at h1
    obtain ⟨a2, rfl⟩ := xW_at h2
    exact hi i j a1 a2 e
  · obtain ⟨a1, rfl⟩ := xW_at h
    exact hA k a1
theorem xW_inj {ad : Nat → Nat} {kI kS kL : ClassId} {μ : Mem} {A : Nat → Prop} (h : va_D A (xW ad kI kS kL μ)) : Inj ad := fun i j hi hj e => h.1 i j _ _ (xW_get hi μ) (xW_get hj μ) e
/-- the cells of the region, and all that is new -/
def Aad (ad : Nat → Nat) (sz : Nat) : Nat → Prop := fun q => (∃ c, c < 48 ∧ q = ad c) ∨ sz ≤ q
def mS (D : va_G) (ad : Nat → Nat) (kI kS kL : ClassId) (μ : Mem) (sz : Nat) : State → Prop := fun U => U.heap.size = sz ∧ va_P D vwCl (xW ad kI kS kL μ) U.heap ∧ va_K D vwCl (tyL kI kS kL) U ∧ Inj ad ∧ NZ U
def mB (D : va_G) (ad : Nat → Nat) (kI kS kL : ClassId) (μ : Mem) (t : State) : Prop := va_P D vwCl (xW ad kI kS kL μ) t.heap
def W0 (y : MethodName) (bytes : ByteArray) (maxL : Nat) (ret : Option FieldType) : List Cond := .code y bytes maxL ret :: TB
abbrev rmY (fr lo : Nat) : Room := { frames := fr, cells := 0, slots := 0, locals := lo }
/-- contracts: an int (boolean), a long, nothing, a reference that may be null -/
def MI (l : Launch) (D : va_G) (ad : Nat → Nat) (kI kS kL : ClassId) (y : MethodName) (bytes : ByteArray) (maxL : Nat) (ret : Option FieldType) (fr lo : Nat) (av : List Value) (μ : Mem) (post : Int32 → Mem → Prop) : Prop := ∀ sz, Met l y (W0 y bytes maxL ret) (rmY fr lo) (va_Pc av (mS D ad kI kS kL μ sz)) (va_Qi post (mB D ad kI kS kL) (Aad ad sz)) 0 0 (Aad ad sz)
def ML (l : Launch) (D : va_G) (ad : Nat → Nat) (kI kS kL : ClassId) (y : MethodName) (bytes : ByteArray) (maxL : Nat) (ret : Option FieldType) (fr lo : Nat) (av : List Value) (μ : Mem) (post : Int64 → Mem → Prop) : Prop := ∀ sz, Met l y (W0 y bytes maxL ret) (rmY fr lo) (va_Pc av (mS D ad kI kS kL μ sz)) (va_Ql post (mB D ad kI kS kL) (Aad ad sz)) 0 0 (Aad ad sz)
def MV (l : Launch) (D : va_G) (ad : Nat → Nat) (kI kS kL : ClassId) (y : MethodName) (bytes : ByteArray) (maxL : Nat) (ret : Option FieldType) (fr lo : Nat) (av : List Value) (μ : Mem) (post : Mem → Prop) : Prop := ∀ sz, Met l y (W0 y bytes maxL ret) (rmY fr lo) (va_Pc av (mS D ad kI kS kL μ sz)) (va_Qv post (mB D ad kI kS kL) (Aad ad sz)) 0 0 (Aad ad sz)
def MN (l : Launch) (D : va_G) (ad : Nat → Nat) (kI kS kL : ClassId) (y : MethodName) (bytes : ByteArray) (maxL : Nat) (ret : Option FieldType) (fr lo : Nat) (av : List Value) (μ : Mem) (post : Option Nat → Mem → Prop) : Prop := ∀ sz, Met l y (W0 y bytes maxL ret) (rmY fr lo) (va_Pc av (mS D ad kI kS kL μ sz)) (va_Qq post (mB D ad kI kS kL) (Aad ad sz)) 0 0 (Aad ad sz)
/-- what stays the same through a body -/
def Cx (p : Program) (s : State) (m : MethodId) (args : Array Value) (meth : Method) (cd : Code) (cc : ByteArray) (nL : Nat) (ret : Option FieldType) (own : String) (D : va_G) (ad : Nat → Nat) (kI kS kL : ClassId) (A : Nat → Prop) : Prop :=
  CallFix p m cd cc nL s args TB own ∧ va_K D vwCl (tyL kI kS kL) s ∧ Inj ad ∧ (∀ c, c < 48 → A (ad c)) ∧ (∀ q, s.heap.size ≤ q → A q) ∧ NZ s ∧ meth.sig.returnType = ret ∧ meth.locks = false
def Y (p : Program) (l : Launch) (e : Env) (R : Room) (s : State) (m : MethodId) (args : Array Value) (below : List Frame) (meth : Method) (cd : Code) (D : va_G) (ad : Nat → Nat) (kI kS kL : ClassId) (A : Nat → Prop) (nL : Nat) (cells slots : Nat) (Q : State → Prop) (pc : Nat) (lv : List (Nat × Value)) (st : List Value) (μ : Mem) : Prop :=
  ∀ (H : Heap) (locs : List Loc) (ls : Array Slot), va_P D vwCl (xW ad kI kS kL μ) H → va_S A s.heap H locs → lv_has ls nL lv → W p l e R s m args below meth cd H locs cells slots Q (F0 m pc ls st)
theorem mS_blind {D : va_G} {ad : Nat → Nat} {kI kS kL : ClassId} {μ : Mem} {sz : Nat} {av : List Value} : FrameBlind (va_Pc av (mS D ad kI kS kL μ sz)) := fun a U g mk q => by
  obtain ⟨q0, q1, q2, q3, q4, q5⟩ := q
  exact ⟨q0, q1, q2, va_K.moved (u := U) (U := U.calling g mk a) (Vm.Alike.refl U.vm) q3, q4, q5.same (u := U) (U := U.calling g mk a) rfl⟩
section BODY
variable {l : Launch} {D : va_G} {ad : Nat → Nat} {kI kS kL : ClassId} {y : MethodName} {bytes : ByteArray} {maxL : Nat} {ret : Option FieldType} {fr lo : Nat} {av : List Value} {μ : Mem}
theorem met_of (own : String) (ho : y.cls = own) (Qc : (Nat → Prop) → Array Value → State → Outcome → State → Prop) (hy : plainName y.cls = true) {lv : List (Nat × Value)} (hlv : lv_args 0 av = lv) (hle : (lg_sl av).length ≤ maxL)
    (body : ∀ (p : Program) (e : Env) (s : State) (m : MethodId) (args : Array Value) (below : List Frame) (meth : Method) (cd : Code) (A : Nat → Prop), A = Aad ad s.heap.size → Cx p s m args meth cd bytes maxL ret own D ad kI kS kL A →
      (meth.name = y.name) → ∀ Q : State → Prop, Q = MQ below (Qc A) args s 0 0 A → Y p l e (rmY fr lo) s m args below meth cd D ad kI kS kL A maxL 0 0 Q 0 lv [] μ) :
    ∀ sz, Met l y (W0 y bytes maxL ret) (rmY fr lo) (va_Pc av (mS D ad kI kS kL μ sz)) (Qc (Aad ad sz)) 0 0 (Aad ad sz) := by
  intro sz
  refine Met.ofW (cc := bytes) (maxL := maxL) (ret := ret) hy rfl ?_
  intro p e s m args below meth c s₁ B hml hv
  obtain ⟨rfl, hsz, hP, hK, hD0, hN⟩ := hv
  subst hsz
  have hts := atoms_spec (ws := W0 y bytes maxL ret) B.pre
  have hown : s.vm.findClass y.cls = some m.cls := findClass_of_methodNamed B.named
  have hl := lv_entry av (n := maxL) hle
  rw [lg_entry_eq]
  refine body p e s m av.toArray below meth c (Aad ad s.heap.size) rfl ⟨⟨B.exec, B.bytes, hml, by rw [← ho]; exact hown, fun w h => hts w (List.mem_cons_of_mem _ h)⟩, hK, hD0, fun c h => Or.inl ⟨c, h, rfl⟩, fun q h => Or.inr h, hN, B.returns, B.notSynchronized⟩ (name_of_methodNamed B.named B.method).1 _ rfl s.heap [] _ hP va_S.rf (by rw [← hlv]; exact hl)
theorem met_I (own : String) (ho : y.cls = own) {post : Int32 → Mem → Prop} (hy : plainName y.cls = true) {lv : List (Nat × Value)} (hlv : lv_args 0 av = lv) (hle : (lg_sl av).length ≤ maxL)
    (body : ∀ (p : Program) (e : Env) (s : State) (m : MethodId) (args : Array Value) (below : List Frame) (meth : Method) (cd : Code) (A : Nat → Prop), A = Aad ad s.heap.size → Cx p s m args meth cd bytes maxL ret own D ad kI kS kL A →
      (meth.name = y.name) → ∀ Q : State → Prop, Q = MQ below (va_Qi post (mB D ad kI kS kL) A) args s 0 0 A → Y p l e (rmY fr lo) s m args below meth cd D ad kI kS kL A maxL 0 0 Q 0 lv [] μ) :
    MI l D ad kI kS kL y bytes maxL ret fr lo av μ post := met_of own ho (fun A => va_Qi post (mB D ad kI kS kL) A) hy hlv hle body
theorem met_L (own : String) (ho : y.cls = own) {post : Int64 → Mem → Prop} (hy : plainName y.cls = true) {lv : List (Nat × Value)} (hlv : lv_args 0 av = lv) (hle : (lg_sl av).length ≤ maxL)
    (body : ∀ (p : Program) (e : Env) (s : State) (m : MethodId) (args : Array Value) (below : List Frame) (meth : Method) (cd : Code) (A : Nat → Prop), A = Aad ad s.heap.size → Cx p s m args meth cd bytes maxL ret own D ad kI kS kL A →
      (meth.name = y.name) → ∀ Q : State → Prop, Q = MQ below (va_Ql post (mB D ad kI kS kL) A) args s 0 0 A → Y p l e (rmY fr lo) s m args below meth cd D ad kI kS kL A maxL 0 0 Q 0 lv [] μ) :
    ML l D ad kI kS kL y bytes maxL ret fr lo av μ post := met_of own ho (fun A => va_Ql post (mB D ad kI kS kL) A) hy hlv hle body
theorem met_V (own : String) (ho : y.cls = own) {post : Mem → Prop} (hy : plainName y.cls = true) {lv : List (Nat × Value)} (hlv : lv_args 0 av = lv) (hle : (lg_sl av).length ≤ maxL)
    (body : ∀ (p : Program) (e : Env) (s : State) (m : MethodId) (args : Array Value) (below : List Frame) (meth : Method) (cd : Code) (A : Nat → Prop), A = Aad ad s.heap.size → Cx p s m args meth cd bytes maxL ret own D ad kI kS kL A →
      (meth.name = y.name) → ∀ Q : State → Prop, Q = MQ below (va_Qv post (mB D ad kI kS kL) A) args s 0 0 A → Y p l e (rmY fr lo) s m args below meth cd D ad kI kS kL A maxL 0 0 Q 0 lv [] μ) :
    MV l D ad kI kS kL y bytes maxL ret fr lo av μ post := met_of own ho (fun A => va_Qv post (mB D ad kI kS kL) A) hy hlv hle body
theorem met_N (own : String) (ho : y.cls = own) {post : Option Nat → Mem → Prop} (hy : plainName y.cls = true) {lv : List (Nat × Value)} (hlv : lv_args 0 av = lv) (hle : (lg_sl av).length ≤ maxL)
    (body : ∀ (p : Program) (e : Env) (s : State) (m : MethodId) (args : Array Value) (below : List Frame) (meth : Method) (cd : Code) (A : Nat → Prop), A = Aad ad s.heap.size → Cx p s m args meth cd bytes maxL ret own D ad kI kS kL A →
      (meth.name = y.name) → ∀ Q : State → Prop, Q = MQ below (va_Qq post (mB D ad kI kS kL) A) args s 0 0 A → Y p l e (rmY fr lo) s m args below meth cd D ad kI kS kL A maxL 0 0 Q 0 lv [] μ) :
    MN l D ad kI kS kL y bytes maxL ret fr lo av μ post := met_of own ho (fun A => va_Qq post (mB D ad kI kS kL) A) hy hlv hle body
end BODY
end
section
/-! ROWS over the region: one an instruction -/
section ROWS
variable {p : Program} {l : Launch} {e : Env} {R : Room} {s : State} {m : MethodId} {args : Array Value} {below : List Frame} {meth : Method} {cd : Code} {D : va_G} {ad : Nat → Nat} {kI kS kL : ClassId} {A : Nat → Prop} {nL cells slots : Nat} {Q : State → Prop} {cc : ByteArray} {ret : Option FieldType} {own : String} {pc : Nat} {lv : List (Nat × Value)} {st : List Value} {μ : Mem}
theorem y_eq {st2 : List Value} (h : st = st2) (k : Y p l e R s m args below meth cd D ad kI kS kL A nL cells slots Q pc lv st2 μ) : Y p l e R s m args below meth cd D ad kI kS kL A nL cells slots Q pc lv st μ := h ▸ k
theorem y_mem {μ2 : Mem} (h : μ = μ2) (k : Y p l e R s m args below meth cd D ad kI kS kL A nL cells slots Q pc lv st μ2) : Y p l e R s m args below meth cd D ad kI kS kL A nL cells slots Q pc lv st μ := h ▸ k
theorem y_lv {lv2 : List (Nat × Value)} (ks : List Nat) (h : lv_pick lv ks = lv2) (k : Y p l e R s m args below meth cd D ad kI kS kL A nL cells slots Q pc lv2 st μ) : Y p l e R s m args below meth cd D ad kI kS kL A nL cells slots Q pc lv st μ := fun H locs ls hP hS hl => k H locs ls hP hS (lv_sub hl ks h)
theorem y_lvE {lv2 : List (Nat × Value)} (h : lv = lv2) (k : Y p l e R s m args below meth cd D ad kI kS kL A nL cells slots Q pc lv2 st μ) : Y p l e R s m args below meth cd D ad kI kS kL A nL cells slots Q pc lv st μ := h ▸ k
/-- a value at the top, under another name -/
theorem y_top {x y : Int32} (h : x = y) (k : Y p l e R s m args below meth cd D ad kI kS kL A nL cells slots Q pc lv (.int y :: st) μ) : Y p l e R s m args below meth cd D ad kI kS kL A nL cells slots Q pc lv (.int x :: st) μ := h ▸ k
theorem y_topl {x y : Int64} (h : x = y) (k : Y p l e R s m args below meth cd D ad kI kS kL A nL cells slots Q pc lv (.long y :: st) μ) : Y p l e R s m args below meth cd D ad kI kS kL A nL cells slots Q pc lv (.long x :: st) μ := h ▸ k
theorem y_nm {x : Int32} (k : ∀ z : Int32, z = x → Y p l e R s m args below meth cd D ad kI kS kL A nL cells slots Q pc lv (.int z :: st) μ) : Y p l e R s m args below meth cd D ad kI kS kL A nL cells slots Q pc lv (.int x :: st) μ := k x rfl
theorem y_iconst (C : Cx p s m args meth cd cc nL ret own D ad kI kS kL A) {n : Int} (v : Int32) (hdg : decode cc pc = .ok (.iconst n, 1)) (hv : Int32.ofInt n = v) (k : Y p l e R s m args below meth cd D ad kI kS kL A nL cells slots Q (pc + 1) lv (.int v :: st) μ) : Y p l e R s m args below meth cd D ad kI kS kL A nL cells slots Q pc lv st μ :=
  fun H locs ls hP hS hl => lv_iconst C.1.1 C.1.2.1 hdg hv (k H locs ls hP hS hl)
theorem y_bipush (C : Cx p s m args meth cd cc nL ret own D ad kI kS kL A) {n : Int} (v : Int32) (hdg : decode cc pc = .ok (.bipush n, 2)) (hv : (Int8.ofInt n).toInt32 = v) (k : Y p l e R s m args below meth cd D ad kI kS kL A nL cells slots Q (pc + 2) lv (.int v :: st) μ) : Y p l e R s m args below meth cd D ad kI kS kL A nL cells slots Q pc lv st μ :=
  fun H locs ls hP hS hl => lv_bipush C.1.1 C.1.2.1 hdg hv (k H locs ls hP hS hl)
theorem y_sipush (C : Cx p s m args meth cd cc nL ret own D ad kI kS kL A) {n : Int} (v : Int32) (hdg : decode cc pc = .ok (.sipush n, 3)) (hv : (Int16.ofInt n).toInt32 = v) (k : Y p l e R s m args below meth cd D ad kI kS kL A nL cells slots Q (pc + 3) lv (.int v :: st) μ) : Y p l e R s m args below meth cd D ad kI kS kL A nL cells slots Q pc lv st μ :=
  fun H locs ls hP hS hl => lv_sipush C.1.1 C.1.2.1 hdg hv (k H locs ls hP hS hl)
theorem y_lconst (C : Cx p s m args meth cd cc nL ret own D ad kI kS kL A) {n : Fin 2} (v : Int64) (hdg : decode cc pc = .ok (.lconst n, 1)) (hv : Int64.ofNat (n : Nat) = v) (k : Y p l e R s m args below meth cd D ad kI kS kL A nL cells slots Q (pc + 1) lv (.long v :: st) μ) : Y p l e R s m args below meth cd D ad kI kS kL A nL cells slots Q pc lv st μ :=
  fun H locs ls hP hS hl => lv_lconst C.1.1 C.1.2.1 hdg hv (k H locs ls hP hS hl)
theorem y_ldc2 (C : Cx p s m args meth cd cc nL ret own D ad kI kS kL A) {idx : Nat} {v : Int64} (g : Cond.constantLong own idx v ∈ TB) (hdg : decode cc pc = .ok (.ldc2_w idx, 3)) (k : Y p l e R s m args below meth cd D ad kI kS kL A nL cells slots Q (pc + 3) lv (.long v :: st) μ) : Y p l e R s m args below meth cd D ad kI kS kL A nL cells slots Q pc lv st μ :=
  fun H locs ls hP hS hl => lv_ldc2 C.1.1 C.1.2.1 C.1.2.2.2.1 (C.1.2.2.2.2 _ g) hdg (k H locs ls hP hS hl)
theorem y_null (C : Cx p s m args meth cd cc nL ret own D ad kI kS kL A) (hdg : decode cc pc = .ok (.aconst_null, 1)) (k : Y p l e R s m args below meth cd D ad kI kS kL A nL cells slots Q (pc + 1) lv (.null :: st) μ) : Y p l e R s m args below meth cd D ad kI kS kL A nL cells slots Q pc lv st μ :=
  fun H locs ls hP hS hl => lv_null C.1.1 C.1.2.1 hdg (k H locs ls hP hS hl)
theorem y_iload_n (C : Cx p s m args meth cd cc nL ret own D ad kI kS kL A) (j : Nat) {k : Fin 4} {i : Nat} {x : Int32} (hdg : decode cc pc = .ok (.iload_n k, 1)) (hi : (k : Nat) = i) (hl0 : lv[j]? = some (i, .int x)) (kk : Y p l e R s m args below meth cd D ad kI kS kL A nL cells slots Q (pc + 1) lv (.int x :: st) μ) : Y p l e R s m args below meth cd D ad kI kS kL A nL cells slots Q pc lv st μ :=
  fun H locs ls hP hS hl => lv_iload_n C.1.1 C.1.2.1 hdg hi (lv_at hl j hl0) (kk H locs ls hP hS hl)
theorem y_iload (C : Cx p s m args meth cd cc nL ret own D ad kI kS kL A) (j : Nat) {i : Nat} {x : Int32} (hdg : decode cc pc = .ok (.iload i, 2)) (hl0 : lv[j]? = some (i, .int x)) (kk : Y p l e R s m args below meth cd D ad kI kS kL A nL cells slots Q (pc + 2) lv (.int x :: st) μ) : Y p l e R s m args below meth cd D ad kI kS kL A nL cells slots Q pc lv st μ :=
  fun H locs ls hP hS hl => lv_iload C.1.1 C.1.2.1 hdg (lv_at hl j hl0) (kk H locs ls hP hS hl)
theorem y_lload_n (C : Cx p s m args meth cd cc nL ret own D ad kI kS kL A) (j : Nat) {k : Fin 4} {i : Nat} {x : Int64} (hdg : decode cc pc = .ok (.lload_n k, 1)) (hi : (k : Nat) = i) (hl0 : lv[j]? = some (i, .long x)) (kk : Y p l e R s m args below meth cd D ad kI kS kL A nL cells slots Q (pc + 1) lv (.long x :: st) μ) : Y p l e R s m args below meth cd D ad kI kS kL A nL cells slots Q pc lv st μ :=
  fun H locs ls hP hS hl => lv_lload_n C.1.1 C.1.2.1 hdg hi (lv_at hl j hl0) (kk H locs ls hP hS hl)
theorem y_lload (C : Cx p s m args meth cd cc nL ret own D ad kI kS kL A) (j : Nat) {i : Nat} {x : Int64} (hdg : decode cc pc = .ok (.lload i, 2)) (hl0 : lv[j]? = some (i, .long x)) (kk : Y p l e R s m args below meth cd D ad kI kS kL A nL cells slots Q (pc + 2) lv (.long x :: st) μ) : Y p l e R s m args below meth cd D ad kI kS kL A nL cells slots Q pc lv st μ :=
  fun H locs ls hP hS hl => lv_lload C.1.1 C.1.2.1 hdg (lv_at hl j hl0) (kk H locs ls hP hS hl)
theorem y_aload_n (C : Cx p s m args meth cd cc nL ret own D ad kI kS kL A) (j : Nat) {k : Fin 4} {i : Nat} {x : Nat} (hdg : decode cc pc = .ok (.aload_n k, 1)) (hi : (k : Nat) = i) (hl0 : lv[j]? = some (i, .ref x)) (kk : Y p l e R s m args below meth cd D ad kI kS kL A nL cells slots Q (pc + 1) lv (.ref x :: st) μ) : Y p l e R s m args below meth cd D ad kI kS kL A nL cells slots Q pc lv st μ :=
  fun H locs ls hP hS hl => lv_aload_n C.1.1 C.1.2.1 hdg hi (lv_at hl j hl0) (kk H locs ls hP hS hl)
theorem y_aload (C : Cx p s m args meth cd cc nL ret own D ad kI kS kL A) (j : Nat) {i : Nat} {x : Nat} (hdg : decode cc pc = .ok (.aload i, 2)) (hl0 : lv[j]? = some (i, .ref x)) (kk : Y p l e R s m args below meth cd D ad kI kS kL A nL cells slots Q (pc + 2) lv (.ref x :: st) μ) : Y p l e R s m args below meth cd D ad kI kS kL A nL cells slots Q pc lv st μ :=
  fun H locs ls hP hS hl => lv_aload C.1.1 C.1.2.1 hdg (lv_at hl j hl0) (kk H locs ls hP hS hl)
theorem y_aload_nN (C : Cx p s m args meth cd cc nL ret own D ad kI kS kL A) (j : Nat) {k : Fin 4} {i : Nat} (hdg : decode cc pc = .ok (.aload_n k, 1)) (hi : (k : Nat) = i) (hl0 : lv[j]? = some (i, .null)) (kk : Y p l e R s m args below meth cd D ad kI kS kL A nL cells slots Q (pc + 1) lv (.null :: st) μ) : Y p l e R s m args below meth cd D ad kI kS kL A nL cells slots Q pc lv st μ :=
  fun H locs ls hP hS hl => lv_aload_nN C.1.1 C.1.2.1 hdg hi (lv_at hl j hl0) (kk H locs ls hP hS hl)
theorem y_aloadN (C : Cx p s m args meth cd cc nL ret own D ad kI kS kL A) (j : Nat) {i : Nat} (hdg : decode cc pc = .ok (.aload i, 2)) (hl0 : lv[j]? = some (i, .null)) (kk : Y p l e R s m args below meth cd D ad kI kS kL A nL cells slots Q (pc + 2) lv (.null :: st) μ) : Y p l e R s m args below meth cd D ad kI kS kL A nL cells slots Q pc lv st μ :=
  fun H locs ls hP hS hl => lv_aloadN C.1.1 C.1.2.1 hdg (lv_at hl j hl0) (kk H locs ls hP hS hl)
theorem y_istore_n (C : Cx p s m args meth cd cc nL ret own D ad kI kS kL A) (lv' : List (Nat × Value)) {k : Fin 4} {i : Nat} {x : Int32} (hdg : decode cc pc = .ok (.istore_n k, 1)) (hi : (k : Nat) = i) (hn : i < nL) (hl0 : (i, Value.int x) :: lv.filter (fun q => !(q.1 == i) && !(q.1 + 1 == i && q.2.category == 2)) = lv') (kk : Y p l e R s m args below meth cd D ad kI kS kL A nL cells slots Q (pc + 1) lv' st μ) : Y p l e R s m args below meth cd D ad kI kS kL A nL cells slots Q pc lv (.int x :: st) μ :=
  fun H locs ls hP hS hl => lv_istore_n C.1.1 C.1.2.1 hdg hi hl hn hl0 (fun ls' h => kk H locs ls' hP hS h)
theorem y_istore (C : Cx p s m args meth cd cc nL ret own D ad kI kS kL A) (lv' : List (Nat × Value)) {i : Nat} {x : Int32} (hdg : decode cc pc = .ok (.istore i, 2)) (hn : i < nL) (hl0 : (i, Value.int x) :: lv.filter (fun q => !(q.1 == i) && !(q.1 + 1 == i && q.2.category == 2)) = lv') (kk : Y p l e R s m args below meth cd D ad kI kS kL A nL cells slots Q (pc + 2) lv' st μ) : Y p l e R s m args below meth cd D ad kI kS kL A nL cells slots Q pc lv (.int x :: st) μ :=
  fun H locs ls hP hS hl => lv_istore C.1.1 C.1.2.1 hdg hl hn hl0 (fun ls' h => kk H locs ls' hP hS h)
theorem y_lstore_n (C : Cx p s m args meth cd cc nL ret own D ad kI kS kL A) (lv' : List (Nat × Value)) {k : Fin 4} {i : Nat} {x : Int64} (hdg : decode cc pc = .ok (.lstore_n k, 1)) (hi : (k : Nat) = i) (hn : i + 1 < nL) (hl0 : (i, Value.long x) :: lv.filter (fun q => !(q.1 == i) && (!(q.1 == i + 1) && !(q.1 + 1 == i && q.2.category == 2))) = lv') (kk : Y p l e R s m args below meth cd D ad kI kS kL A nL cells slots Q (pc + 1) lv' st μ) : Y p l e R s m args below meth cd D ad kI kS kL A nL cells slots Q pc lv (.long x :: st) μ :=
  fun H locs ls hP hS hl => lv_lstore_n C.1.1 C.1.2.1 hdg hi hl hn hl0 (fun ls' h => kk H locs ls' hP hS h)
theorem y_lstore (C : Cx p s m args meth cd cc nL ret own D ad kI kS kL A) (lv' : List (Nat × Value)) {i : Nat} {x : Int64} (hdg : decode cc pc = .ok (.lstore i, 2)) (hn : i + 1 < nL) (hl0 : (i, Value.long x) :: lv.filter (fun q => !(q.1 == i) && (!(q.1 == i + 1) && !(q.1 + 1 == i && q.2.category == 2))) = lv') (kk : Y p l e R s m args below meth cd D ad kI kS kL A nL cells slots Q (pc + 2) lv' st μ) : Y p l e R s m args below meth cd D ad kI kS kL A nL cells slots Q pc lv (.long x :: st) μ :=
  fun H locs ls hP hS hl => lv_lstore C.1.1 C.1.2.1 hdg hl hn hl0 (fun ls' h => kk H locs ls' hP hS h)
theorem y_astore_n (C : Cx p s m args meth cd cc nL ret own D ad kI kS kL A) (lv' : List (Nat × Value)) {k : Fin 4} {i : Nat} {x : Nat} (hdg : decode cc pc = .ok (.astore_n k, 1)) (hi : (k : Nat) = i) (hn : i < nL) (hl0 : (i, Value.ref x) :: lv.filter (fun q => !(q.1 == i) && !(q.1 + 1 == i && q.2.category == 2)) = lv') (kk : Y p l e R s m args below meth cd D ad kI kS kL A nL cells slots Q (pc + 1) lv' st μ) : Y p l e R s m args below meth cd D ad kI kS kL A nL cells slots Q pc lv (.ref x :: st) μ :=
  fun H locs ls hP hS hl => lv_astore_n C.1.1 C.1.2.1 hdg hi hl hn hl0 (fun ls' h => kk H locs ls' hP hS h)
theorem y_astore (C : Cx p s m args meth cd cc nL ret own D ad kI kS kL A) (lv' : List (Nat × Value)) {i : Nat} {x : Nat} (hdg : decode cc pc = .ok (.astore i, 2)) (hn : i < nL) (hl0 : (i, Value.ref x) :: lv.filter (fun q => !(q.1 == i) && !(q.1 + 1 == i && q.2.category == 2)) = lv') (kk : Y p l e R s m args below meth cd D ad kI kS kL A nL cells slots Q (pc + 2) lv' st μ) : Y p l e R s m args below meth cd D ad kI kS kL A nL cells slots Q pc lv (.ref x :: st) μ :=
  fun H locs ls hP hS hl => lv_astore C.1.1 C.1.2.1 hdg hl hn hl0 (fun ls' h => kk H locs ls' hP hS h)
theorem y_astore_nN (C : Cx p s m args meth cd cc nL ret own D ad kI kS kL A) (lv' : List (Nat × Value)) {k : Fin 4} {i : Nat} (hdg : decode cc pc = .ok (.astore_n k, 1)) (hi : (k : Nat) = i) (hn : i < nL) (hl0 : (i, Value.null) :: lv.filter (fun q => !(q.1 == i) && !(q.1 + 1 == i && q.2.category == 2)) = lv') (kk : Y p l e R s m args below meth cd D ad kI kS kL A nL cells slots Q (pc + 1) lv' st μ) : Y p l e R s m args below meth cd D ad kI kS kL A nL cells slots Q pc lv (.null :: st) μ :=
  fun H locs ls hP hS hl => lv_astore_nN C.1.1 C.1.2.1 hdg hi hl hn hl0 (fun ls' h => kk H locs ls' hP hS h)
theorem y_astoreN (C : Cx p s m args meth cd cc nL ret own D ad kI kS kL A) (lv' : List (Nat × Value)) {i : Nat} (hdg : decode cc pc = .ok (.astore i, 2)) (hn : i < nL) (hl0 : (i, Value.null) :: lv.filter (fun q => !(q.1 == i) && !(q.1 + 1 == i && q.2.category == 2)) = lv') (kk : Y p l e R s m args below meth cd D ad kI kS kL A nL cells slots Q (pc + 2) lv' st μ) : Y p l e R s m args below meth cd D ad kI kS kL A nL cells slots Q pc lv (.null :: st) μ :=
  fun H locs ls hP hS hl => lv_astoreN C.1.1 C.1.2.1 hdg hl hn hl0 (fun ls' h => kk H locs ls' hP hS h)
theorem y_iinc (C : Cx p s m args meth cd cc nL ret own D ad kI kS kL A) (k : Nat) (v : Int32) (lv' : List (Nat × Value)) {i : Nat} {n : Int} {x : Int32} (hdg : decode cc pc = .ok (.iinc i n, 3)) (hk : lv[k]? = some (i, .int x)) (hv : x + Int32.ofInt n = v) (hn : i < nL) (hl0 : (i, Value.int v) :: lv.filter (fun q => !(q.1 == i) && !(q.1 + 1 == i && q.2.category == 2)) = lv') (kk : Y p l e R s m args below meth cd D ad kI kS kL A nL cells slots Q (pc + 3) lv' st μ) : Y p l e R s m args below meth cd D ad kI kS kL A nL cells slots Q pc lv st μ :=
  fun H locs ls hP hS hl => lv_iinc C.1.1 C.1.2.1 hdg hl hk hv hn hl0 (fun ls' h => kk H locs ls' hP hS h)
theorem y_dup (C : Cx p s m args meth cd cc nL ret own D ad kI kS kL A) {va : Value} (hdg : decode cc pc = .ok (.dup, 1)) (hva : va.category = 1) (k : Y p l e R s m args below meth cd D ad kI kS kL A nL cells slots Q (pc + 1) lv (va :: va :: st) μ) : Y p l e R s m args below meth cd D ad kI kS kL A nL cells slots Q pc lv (va :: st) μ :=
  fun H locs ls hP hS hl => lv_dup C.1.1 C.1.2.1 hdg hva (k H locs ls hP hS hl)
theorem y_pop (C : Cx p s m args meth cd cc nL ret own D ad kI kS kL A) {va : Value} (hdg : decode cc pc = .ok (.pop, 1)) (hva : va.category = 1) (k : Y p l e R s m args below meth cd D ad kI kS kL A nL cells slots Q (pc + 1) lv st μ) : Y p l e R s m args below meth cd D ad kI kS kL A nL cells slots Q pc lv (va :: st) μ :=
  fun H locs ls hP hS hl => lv_pop C.1.1 C.1.2.1 hdg hva (k H locs ls hP hS hl)
theorem y_goto (C : Cx p s m args meth cd cc nL ret own D ad kI kS kL A) {off : Int} (tgt : Nat) (hdg : decode cc pc = .ok (.goto off, 3)) (ht : (pc : Int) + off = (tgt : Int)) (k : Y p l e R s m args below meth cd D ad kI kS kL A nL cells slots Q tgt lv st μ) : Y p l e R s m args below meth cd D ad kI kS kL A nL cells slots Q pc lv st μ :=
  fun H locs ls hP hS hl => lv_goto C.1.1 C.1.2.1 hdg ht (k H locs ls hP hS hl)
-- GENERATED by wip/tools/gen_rows.py
theorem y_iadd (C : Cx p s m args meth cd cc nL ret own D ad kI kS kL A) {x y v : Int32} (hdg : decode cc pc = .ok (.iadd, 1)) (hv : x + y = v) (k : Y p l e R s m args below meth cd D ad kI kS kL A nL cells slots Q (pc + 1) lv (.int v :: st) μ) : Y p l e R s m args below meth cd D ad kI kS kL A nL cells slots Q pc lv (.int y :: .int x :: st) μ := by
  subst hv
  exact fun H locs ls hP hS hl => lv_iadd C.1.1 C.1.2.1 hdg (k H locs ls hP hS hl)
theorem y_isub (C : Cx p s m args meth cd cc nL ret own D ad kI kS kL A) {x y v : Int32} (hdg : decode cc pc = .ok (.isub, 1)) (hv : x - y = v) (k : Y p l e R s m args below meth cd D ad kI kS kL A nL cells slots Q (pc + 1) lv (.int v :: st) μ) : Y p l e R s m args below meth cd D ad kI kS kL A nL cells slots Q pc lv (.int y :: .int x :: st) μ := by
  subst hv
  exact fun H locs ls hP hS hl => lv_isub C.1.1 C.1.2.1 hdg (k H locs ls hP hS hl)
theorem y_imul (C : Cx p s m args meth cd cc nL ret own D ad kI kS kL A) {x y v : Int32} (hdg : decode cc pc = .ok (.imul, 1)) (hv : x * y = v) (k : Y p l e R s m args below meth cd D ad kI kS kL A nL cells slots Q (pc + 1) lv (.int v :: st) μ) : Y p l e R s m args below meth cd D ad kI kS kL A nL cells slots Q pc lv (.int y :: .int x :: st) μ := by
  subst hv
  exact fun H locs ls hP hS hl => lv_imul C.1.1 C.1.2.1 hdg (k H locs ls hP hS hl)
theorem y_iand (C : Cx p s m args meth cd cc nL ret own D ad kI kS kL A) {x y v : Int32} (hdg : decode cc pc = .ok (.iand, 1)) (hv : x &&& y = v) (k : Y p l e R s m args below meth cd D ad kI kS kL A nL cells slots Q (pc + 1) lv (.int v :: st) μ) : Y p l e R s m args below meth cd D ad kI kS kL A nL cells slots Q pc lv (.int y :: .int x :: st) μ := by
  subst hv
  exact fun H locs ls hP hS hl => lv_iand C.1.1 C.1.2.1 hdg (k H locs ls hP hS hl)
theorem y_ior (C : Cx p s m args meth cd cc nL ret own D ad kI kS kL A) {x y v : Int32} (hdg : decode cc pc = .ok (.ior, 1)) (hv : x ||| y = v) (k : Y p l e R s m args below meth cd D ad kI kS kL A nL cells slots Q (pc + 1) lv (.int v :: st) μ) : Y p l e R s m args below meth cd D ad kI kS kL A nL cells slots Q pc lv (.int y :: .int x :: st) μ := by
  subst hv
  exact fun H locs ls hP hS hl => lv_ior C.1.1 C.1.2.1 hdg (k H locs ls hP hS hl)
theorem y_ixor (C : Cx p s m args meth cd cc nL ret own D ad kI kS kL A) {x y v : Int32} (hdg : decode cc pc = .ok (.ixor, 1)) (hv : x ^^^ y = v) (k : Y p l e R s m args below meth cd D ad kI kS kL A nL cells slots Q (pc + 1) lv (.int v :: st) μ) : Y p l e R s m args below meth cd D ad kI kS kL A nL cells slots Q pc lv (.int y :: .int x :: st) μ := by
  subst hv
  exact fun H locs ls hP hS hl => lv_ixor C.1.1 C.1.2.1 hdg (k H locs ls hP hS hl)
theorem y_idiv (C : Cx p s m args meth cd cc nL ret own D ad kI kS kL A) {x y v : Int32} (hdg : decode cc pc = .ok (.idiv, 1)) (hne : ¬ y = 0) (hv : x / y = v) (k : Y p l e R s m args below meth cd D ad kI kS kL A nL cells slots Q (pc + 1) lv (.int v :: st) μ) : Y p l e R s m args below meth cd D ad kI kS kL A nL cells slots Q pc lv (.int y :: .int x :: st) μ := by
  subst hv
  exact fun H locs ls hP hS hl => lv_idiv C.1.1 C.1.2.1 hdg hne (k H locs ls hP hS hl)
theorem y_irem (C : Cx p s m args meth cd cc nL ret own D ad kI kS kL A) {x y v : Int32} (hdg : decode cc pc = .ok (.irem, 1)) (hne : ¬ y = 0) (hv : x - x / y * y = v) (k : Y p l e R s m args below meth cd D ad kI kS kL A nL cells slots Q (pc + 1) lv (.int v :: st) μ) : Y p l e R s m args below meth cd D ad kI kS kL A nL cells slots Q pc lv (.int y :: .int x :: st) μ := by
  subst hv
  exact fun H locs ls hP hS hl => lv_irem C.1.1 C.1.2.1 hdg hne (k H locs ls hP hS hl)
theorem y_ishl (C : Cx p s m args meth cd cc nL ret own D ad kI kS kL A) {x y v : Int32} (hdg : decode cc pc = .ok (.ishl, 1)) (hv : x <<< (y &&& 31) = v) (k : Y p l e R s m args below meth cd D ad kI kS kL A nL cells slots Q (pc + 1) lv (.int v :: st) μ) : Y p l e R s m args below meth cd D ad kI kS kL A nL cells slots Q pc lv (.int y :: .int x :: st) μ := by
  subst hv
  exact fun H locs ls hP hS hl => lv_ishl C.1.1 C.1.2.1 hdg (k H locs ls hP hS hl)
theorem y_ishr (C : Cx p s m args meth cd cc nL ret own D ad kI kS kL A) {x y v : Int32} (hdg : decode cc pc = .ok (.ishr, 1)) (hv : x >>> (y &&& 31) = v) (k : Y p l e R s m args below meth cd D ad kI kS kL A nL cells slots Q (pc + 1) lv (.int v :: st) μ) : Y p l e R s m args below meth cd D ad kI kS kL A nL cells slots Q pc lv (.int y :: .int x :: st) μ := by
  subst hv
  exact fun H locs ls hP hS hl => lv_ishr C.1.1 C.1.2.1 hdg (k H locs ls hP hS hl)
theorem y_ladd (C : Cx p s m args meth cd cc nL ret own D ad kI kS kL A) {x y v : Int64} (hdg : decode cc pc = .ok (.ladd, 1)) (hv : x + y = v) (k : Y p l e R s m args below meth cd D ad kI kS kL A nL cells slots Q (pc + 1) lv (.long v :: st) μ) : Y p l e R s m args below meth cd D ad kI kS kL A nL cells slots Q pc lv (.long y :: .long x :: st) μ := by
  subst hv
  exact fun H locs ls hP hS hl => lv_ladd C.1.1 C.1.2.1 hdg (k H locs ls hP hS hl)
theorem y_lsub (C : Cx p s m args meth cd cc nL ret own D ad kI kS kL A) {x y v : Int64} (hdg : decode cc pc = .ok (.lsub, 1)) (hv : x - y = v) (k : Y p l e R s m args below meth cd D ad kI kS kL A nL cells slots Q (pc + 1) lv (.long v :: st) μ) : Y p l e R s m args below meth cd D ad kI kS kL A nL cells slots Q pc lv (.long y :: .long x :: st) μ := by
  subst hv
  exact fun H locs ls hP hS hl => lv_lsub C.1.1 C.1.2.1 hdg (k H locs ls hP hS hl)
theorem y_ldiv (C : Cx p s m args meth cd cc nL ret own D ad kI kS kL A) {x y v : Int64} (hdg : decode cc pc = .ok (.ldiv, 1)) (hne : ¬ y = 0) (hv : x / y = v) (k : Y p l e R s m args below meth cd D ad kI kS kL A nL cells slots Q (pc + 1) lv (.long v :: st) μ) : Y p l e R s m args below meth cd D ad kI kS kL A nL cells slots Q pc lv (.long y :: .long x :: st) μ := by
  subst hv
  exact fun H locs ls hP hS hl => lv_ldiv C.1.1 C.1.2.1 hdg hne (k H locs ls hP hS hl)
theorem y_lrem (C : Cx p s m args meth cd cc nL ret own D ad kI kS kL A) {x y v : Int64} (hdg : decode cc pc = .ok (.lrem, 1)) (hne : ¬ y = 0) (hv : x - x / y * y = v) (k : Y p l e R s m args below meth cd D ad kI kS kL A nL cells slots Q (pc + 1) lv (.long v :: st) μ) : Y p l e R s m args below meth cd D ad kI kS kL A nL cells slots Q pc lv (.long y :: .long x :: st) μ := by
  subst hv
  exact fun H locs ls hP hS hl => lv_lrem C.1.1 C.1.2.1 hdg hne (k H locs ls hP hS hl)
theorem y_lshl (C : Cx p s m args meth cd cc nL ret own D ad kI kS kL A) {x v : Int64} {y : Int32} (hdg : decode cc pc = .ok (.lshl, 1)) (hv : x <<< (y.toInt64 &&& 63) = v) (k : Y p l e R s m args below meth cd D ad kI kS kL A nL cells slots Q (pc + 1) lv (.long v :: st) μ) : Y p l e R s m args below meth cd D ad kI kS kL A nL cells slots Q pc lv (.int y :: .long x :: st) μ :=
  fun H locs ls hP hS hl => lv_lshl C.1.1 C.1.2.1 hdg hv (k H locs ls hP hS hl)
theorem y_lcmp (C : Cx p s m args meth cd cc nL ret own D ad kI kS kL A) {x y : Int64} {v : Int32} (hdg : decode cc pc = .ok (.lcmp, 1)) (hv : lg_cmp x y = v) (k : Y p l e R s m args below meth cd D ad kI kS kL A nL cells slots Q (pc + 1) lv (.int v :: st) μ) : Y p l e R s m args below meth cd D ad kI kS kL A nL cells slots Q pc lv (.long y :: .long x :: st) μ := by
  subst hv
  exact fun H locs ls hP hS hl => W.lcmp C.1.1 C.1.2.1 hdg (k H locs ls hP hS hl)
theorem y_ineg (C : Cx p s m args meth cd cc nL ret own D ad kI kS kL A) {x v : Int32} (hdg : decode cc pc = .ok (.ineg, 1)) (hv : -x = v) (k : Y p l e R s m args below meth cd D ad kI kS kL A nL cells slots Q (pc + 1) lv (.int v :: st) μ) : Y p l e R s m args below meth cd D ad kI kS kL A nL cells slots Q pc lv (.int x :: st) μ := by
  subst hv
  exact fun H locs ls hP hS hl => lv_ineg C.1.1 C.1.2.1 hdg (k H locs ls hP hS hl)
theorem y_i2l (C : Cx p s m args meth cd cc nL ret own D ad kI kS kL A) {x : Int32} {v : Int64} (hdg : decode cc pc = .ok (.i2l, 1)) (hv : x.toInt64 = v) (k : Y p l e R s m args below meth cd D ad kI kS kL A nL cells slots Q (pc + 1) lv (.long v :: st) μ) : Y p l e R s m args below meth cd D ad kI kS kL A nL cells slots Q pc lv (.int x :: st) μ :=
  fun H locs ls hP hS hl => lv_i2l C.1.1 C.1.2.1 hdg hv (k H locs ls hP hS hl)
theorem y_i2b (C : Cx p s m args meth cd cc nL ret own D ad kI kS kL A) {x : Int32} {v : Int32} (hdg : decode cc pc = .ok (.i2b, 1)) (hv : x.toInt8.toInt32 = v) (k : Y p l e R s m args below meth cd D ad kI kS kL A nL cells slots Q (pc + 1) lv (.int v :: st) μ) : Y p l e R s m args below meth cd D ad kI kS kL A nL cells slots Q pc lv (.int x :: st) μ :=
  fun H locs ls hP hS hl => lv_i2b C.1.1 C.1.2.1 hdg hv (k H locs ls hP hS hl)
theorem y_i2s (C : Cx p s m args meth cd cc nL ret own D ad kI kS kL A) {x : Int32} {v : Int32} (hdg : decode cc pc = .ok (.i2s, 1)) (hv : x.toInt16.toInt32 = v) (k : Y p l e R s m args below meth cd D ad kI kS kL A nL cells slots Q (pc + 1) lv (.int v :: st) μ) : Y p l e R s m args below meth cd D ad kI kS kL A nL cells slots Q pc lv (.int x :: st) μ :=
  fun H locs ls hP hS hl => lv_i2s C.1.1 C.1.2.1 hdg hv (k H locs ls hP hS hl)
theorem y_if_eq (C : Cx p s m args meth cd cc nL ret own D ad kI kS kL A) {x : Int32} {off : Int} (tgt : Nat) (hdg : decode cc pc = .ok (.ifCond .eq off, 3)) (ht : (pc : Int) + off = (tgt : Int)) (kt : x = 0 → Y p l e R s m args below meth cd D ad kI kS kL A nL cells slots Q tgt lv (st) μ) (kf : ¬ x = 0 → Y p l e R s m args below meth cd D ad kI kS kL A nL cells slots Q (pc + 3) lv (st) μ) : Y p l e R s m args below meth cd D ad kI kS kL A nL cells slots Q pc lv (.int x :: st) μ :=
  fun H locs ls hP hS hl => lv_if_eq C.1.1 C.1.2.1 hdg ht (fun h => kt h H locs ls hP hS hl) (fun h => kf h H locs ls hP hS hl)
theorem y_if_eqT (C : Cx p s m args meth cd cc nL ret own D ad kI kS kL A) {x : Int32} {off : Int} (tgt : Nat) (hdg : decode cc pc = .ok (.ifCond .eq off, 3)) (ht : (pc : Int) + off = (tgt : Int)) (h : x = 0) (kt : Y p l e R s m args below meth cd D ad kI kS kL A nL cells slots Q tgt lv (st) μ) : Y p l e R s m args below meth cd D ad kI kS kL A nL cells slots Q pc lv (.int x :: st) μ :=
  y_if_eq C tgt hdg ht (fun _ => kt) (fun q => absurd h q)
theorem y_if_eqF (C : Cx p s m args meth cd cc nL ret own D ad kI kS kL A) {x : Int32} {off : Int} (tgt : Nat) (hdg : decode cc pc = .ok (.ifCond .eq off, 3)) (ht : (pc : Int) + off = (tgt : Int)) (h : ¬ x = 0) (kf : Y p l e R s m args below meth cd D ad kI kS kL A nL cells slots Q (pc + 3) lv (st) μ) : Y p l e R s m args below meth cd D ad kI kS kL A nL cells slots Q pc lv (.int x :: st) μ :=
  y_if_eq C tgt hdg ht (fun q => absurd q h) (fun _ => kf)
theorem y_icmp_eq (C : Cx p s m args meth cd cc nL ret own D ad kI kS kL A) {x y : Int32} {off : Int} (tgt : Nat) (hdg : decode cc pc = .ok (.if_icmp .eq off, 3)) (ht : (pc : Int) + off = (tgt : Int)) (kt : x = y → Y p l e R s m args below meth cd D ad kI kS kL A nL cells slots Q tgt lv (st) μ) (kf : ¬ x = y → Y p l e R s m args below meth cd D ad kI kS kL A nL cells slots Q (pc + 3) lv (st) μ) : Y p l e R s m args below meth cd D ad kI kS kL A nL cells slots Q pc lv (.int y :: .int x :: st) μ :=
  fun H locs ls hP hS hl => lv_icmp_eq C.1.1 C.1.2.1 hdg ht (fun h => kt h H locs ls hP hS hl) (fun h => kf h H locs ls hP hS hl)
theorem y_icmp_eqT (C : Cx p s m args meth cd cc nL ret own D ad kI kS kL A) {x y : Int32} {off : Int} (tgt : Nat) (hdg : decode cc pc = .ok (.if_icmp .eq off, 3)) (ht : (pc : Int) + off = (tgt : Int)) (h : x = y) (kt : Y p l e R s m args below meth cd D ad kI kS kL A nL cells slots Q tgt lv (st) μ) : Y p l e R s m args below meth cd D ad kI kS kL A nL cells slots Q pc lv (.int y :: .int x :: st) μ :=
  y_icmp_eq C tgt hdg ht (fun _ => kt) (fun q => absurd h q)
theorem y_icmp_eqF (C : Cx p s m args meth cd cc nL ret own D ad kI kS kL A) {x y : Int32} {off : Int} (tgt : Nat) (hdg : decode cc pc = .ok (.if_icmp .eq off, 3)) (ht : (pc : Int) + off = (tgt : Int)) (h : ¬ x = y) (kf : Y p l e R s m args below meth cd D ad kI kS kL A nL cells slots Q (pc + 3) lv (st) μ) : Y p l e R s m args below meth cd D ad kI kS kL A nL cells slots Q pc lv (.int y :: .int x :: st) μ :=
  y_icmp_eq C tgt hdg ht (fun q => absurd q h) (fun _ => kf)
theorem y_if_ne (C : Cx p s m args meth cd cc nL ret own D ad kI kS kL A) {x : Int32} {off : Int} (tgt : Nat) (hdg : decode cc pc = .ok (.ifCond .ne off, 3)) (ht : (pc : Int) + off = (tgt : Int)) (kt : ¬ x = 0 → Y p l e R s m args below meth cd D ad kI kS kL A nL cells slots Q tgt lv (st) μ) (kf : x = 0 → Y p l e R s m args below meth cd D ad kI kS kL A nL cells slots Q (pc + 3) lv (st) μ) : Y p l e R s m args below meth cd D ad kI kS kL A nL cells slots Q pc lv (.int x :: st) μ :=
  fun H locs ls hP hS hl => lv_if_ne C.1.1 C.1.2.1 hdg ht (fun h => kt h H locs ls hP hS hl) (fun h => kf h H locs ls hP hS hl)
theorem y_if_neT (C : Cx p s m args meth cd cc nL ret own D ad kI kS kL A) {x : Int32} {off : Int} (tgt : Nat) (hdg : decode cc pc = .ok (.ifCond .ne off, 3)) (ht : (pc : Int) + off = (tgt : Int)) (h : ¬ x = 0) (kt : Y p l e R s m args below meth cd D ad kI kS kL A nL cells slots Q tgt lv (st) μ) : Y p l e R s m args below meth cd D ad kI kS kL A nL cells slots Q pc lv (.int x :: st) μ :=
  y_if_ne C tgt hdg ht (fun _ => kt) (fun q => absurd q h)
theorem y_if_neF (C : Cx p s m args meth cd cc nL ret own D ad kI kS kL A) {x : Int32} {off : Int} (tgt : Nat) (hdg : decode cc pc = .ok (.ifCond .ne off, 3)) (ht : (pc : Int) + off = (tgt : Int)) (h : x = 0) (kf : Y p l e R s m args below meth cd D ad kI kS kL A nL cells slots Q (pc + 3) lv (st) μ) : Y p l e R s m args below meth cd D ad kI kS kL A nL cells slots Q pc lv (.int x :: st) μ :=
  y_if_ne C tgt hdg ht (fun q => absurd h q) (fun _ => kf)
theorem y_icmp_ne (C : Cx p s m args meth cd cc nL ret own D ad kI kS kL A) {x y : Int32} {off : Int} (tgt : Nat) (hdg : decode cc pc = .ok (.if_icmp .ne off, 3)) (ht : (pc : Int) + off = (tgt : Int)) (kt : ¬ x = y → Y p l e R s m args below meth cd D ad kI kS kL A nL cells slots Q tgt lv (st) μ) (kf : x = y → Y p l e R s m args below meth cd D ad kI kS kL A nL cells slots Q (pc + 3) lv (st) μ) : Y p l e R s m args below meth cd D ad kI kS kL A nL cells slots Q pc lv (.int y :: .int x :: st) μ :=
  fun H locs ls hP hS hl => lv_icmp_ne C.1.1 C.1.2.1 hdg ht (fun h => kt h H locs ls hP hS hl) (fun h => kf h H locs ls hP hS hl)
theorem y_icmp_neT (C : Cx p s m args meth cd cc nL ret own D ad kI kS kL A) {x y : Int32} {off : Int} (tgt : Nat) (hdg : decode cc pc = .ok (.if_icmp .ne off, 3)) (ht : (pc : Int) + off = (tgt : Int)) (h : ¬ x = y) (kt : Y p l e R s m args below meth cd D ad kI kS kL A nL cells slots Q tgt lv (st) μ) : Y p l e R s m args below meth cd D ad kI kS kL A nL cells slots Q pc lv (.int y :: .int x :: st) μ :=
  y_icmp_ne C tgt hdg ht (fun _ => kt) (fun q => absurd q h)
theorem y_icmp_neF (C : Cx p s m args meth cd cc nL ret own D ad kI kS kL A) {x y : Int32} {off : Int} (tgt : Nat) (hdg : decode cc pc = .ok (.if_icmp .ne off, 3)) (ht : (pc : Int) + off = (tgt : Int)) (h : x = y) (kf : Y p l e R s m args below meth cd D ad kI kS kL A nL cells slots Q (pc + 3) lv (st) μ) : Y p l e R s m args below meth cd D ad kI kS kL A nL cells slots Q pc lv (.int y :: .int x :: st) μ :=
  y_icmp_ne C tgt hdg ht (fun q => absurd h q) (fun _ => kf)
theorem y_if_lt (C : Cx p s m args meth cd cc nL ret own D ad kI kS kL A) {x : Int32} {off : Int} (tgt : Nat) (hdg : decode cc pc = .ok (.ifCond .lt off, 3)) (ht : (pc : Int) + off = (tgt : Int)) (kt : x < 0 → Y p l e R s m args below meth cd D ad kI kS kL A nL cells slots Q tgt lv (st) μ) (kf : ¬ x < 0 → Y p l e R s m args below meth cd D ad kI kS kL A nL cells slots Q (pc + 3) lv (st) μ) : Y p l e R s m args below meth cd D ad kI kS kL A nL cells slots Q pc lv (.int x :: st) μ :=
  fun H locs ls hP hS hl => lv_if_lt C.1.1 C.1.2.1 hdg ht (fun h => kt h H locs ls hP hS hl) (fun h => kf h H locs ls hP hS hl)
theorem y_if_ltT (C : Cx p s m args meth cd cc nL ret own D ad kI kS kL A) {x : Int32} {off : Int} (tgt : Nat) (hdg : decode cc pc = .ok (.ifCond .lt off, 3)) (ht : (pc : Int) + off = (tgt : Int)) (h : x < 0) (kt : Y p l e R s m args below meth cd D ad kI kS kL A nL cells slots Q tgt lv (st) μ) : Y p l e R s m args below meth cd D ad kI kS kL A nL cells slots Q pc lv (.int x :: st) μ :=
  y_if_lt C tgt hdg ht (fun _ => kt) (fun q => absurd h q)
theorem y_if_ltF (C : Cx p s m args meth cd cc nL ret own D ad kI kS kL A) {x : Int32} {off : Int} (tgt : Nat) (hdg : decode cc pc = .ok (.ifCond .lt off, 3)) (ht : (pc : Int) + off = (tgt : Int)) (h : ¬ x < 0) (kf : Y p l e R s m args below meth cd D ad kI kS kL A nL cells slots Q (pc + 3) lv (st) μ) : Y p l e R s m args below meth cd D ad kI kS kL A nL cells slots Q pc lv (.int x :: st) μ :=
  y_if_lt C tgt hdg ht (fun q => absurd q h) (fun _ => kf)
theorem y_icmp_lt (C : Cx p s m args meth cd cc nL ret own D ad kI kS kL A) {x y : Int32} {off : Int} (tgt : Nat) (hdg : decode cc pc = .ok (.if_icmp .lt off, 3)) (ht : (pc : Int) + off = (tgt : Int)) (kt : x < y → Y p l e R s m args below meth cd D ad kI kS kL A nL cells slots Q tgt lv (st) μ) (kf : ¬ x < y → Y p l e R s m args below meth cd D ad kI kS kL A nL cells slots Q (pc + 3) lv (st) μ) : Y p l e R s m args below meth cd D ad kI kS kL A nL cells slots Q pc lv (.int y :: .int x :: st) μ :=
  fun H locs ls hP hS hl => lv_icmp_lt C.1.1 C.1.2.1 hdg ht (fun h => kt h H locs ls hP hS hl) (fun h => kf h H locs ls hP hS hl)
theorem y_icmp_ltT (C : Cx p s m args meth cd cc nL ret own D ad kI kS kL A) {x y : Int32} {off : Int} (tgt : Nat) (hdg : decode cc pc = .ok (.if_icmp .lt off, 3)) (ht : (pc : Int) + off = (tgt : Int)) (h : x < y) (kt : Y p l e R s m args below meth cd D ad kI kS kL A nL cells slots Q tgt lv (st) μ) : Y p l e R s m args below meth cd D ad kI kS kL A nL cells slots Q pc lv (.int y :: .int x :: st) μ :=
  y_icmp_lt C tgt hdg ht (fun _ => kt) (fun q => absurd h q)
theorem y_icmp_ltF (C : Cx p s m args meth cd cc nL ret own D ad kI kS kL A) {x y : Int32} {off : Int} (tgt : Nat) (hdg : decode cc pc = .ok (.if_icmp .lt off, 3)) (ht : (pc : Int) + off = (tgt : Int)) (h : ¬ x < y) (kf : Y p l e R s m args below meth cd D ad kI kS kL A nL cells slots Q (pc + 3) lv (st) μ) : Y p l e R s m args below meth cd D ad kI kS kL A nL cells slots Q pc lv (.int y :: .int x :: st) μ :=
  y_icmp_lt C tgt hdg ht (fun q => absurd q h) (fun _ => kf)
theorem y_if_ge (C : Cx p s m args meth cd cc nL ret own D ad kI kS kL A) {x : Int32} {off : Int} (tgt : Nat) (hdg : decode cc pc = .ok (.ifCond .ge off, 3)) (ht : (pc : Int) + off = (tgt : Int)) (kt : 0 ≤ x → Y p l e R s m args below meth cd D ad kI kS kL A nL cells slots Q tgt lv (st) μ) (kf : ¬ 0 ≤ x → Y p l e R s m args below meth cd D ad kI kS kL A nL cells slots Q (pc + 3) lv (st) μ) : Y p l e R s m args below meth cd D ad kI kS kL A nL cells slots Q pc lv (.int x :: st) μ :=
  fun H locs ls hP hS hl => lv_if_ge C.1.1 C.1.2.1 hdg ht (fun h => kt h H locs ls hP hS hl) (fun h => kf h H locs ls hP hS hl)
theorem y_if_geT (C : Cx p s m args meth cd cc nL ret own D ad kI kS kL A) {x : Int32} {off : Int} (tgt : Nat) (hdg : decode cc pc = .ok (.ifCond .ge off, 3)) (ht : (pc : Int) + off = (tgt : Int)) (h : 0 ≤ x) (kt : Y p l e R s m args below meth cd D ad kI kS kL A nL cells slots Q tgt lv (st) μ) : Y p l e R s m args below meth cd D ad kI kS kL A nL cells slots Q pc lv (.int x :: st) μ :=
  y_if_ge C tgt hdg ht (fun _ => kt) (fun q => absurd h q)
theorem y_if_geF (C : Cx p s m args meth cd cc nL ret own D ad kI kS kL A) {x : Int32} {off : Int} (tgt : Nat) (hdg : decode cc pc = .ok (.ifCond .ge off, 3)) (ht : (pc : Int) + off = (tgt : Int)) (h : ¬ 0 ≤ x) (kf : Y p l e R s m args below meth cd D ad kI kS kL A nL cells slots Q (pc + 3) lv (st) μ) : Y p l e R s m args below meth cd D ad kI kS kL A nL cells slots Q pc lv (.int x :: st) μ :=
  y_if_ge C tgt hdg ht (fun q => absurd q h) (fun _ => kf)
theorem y_icmp_ge (C : Cx p s m args meth cd cc nL ret own D ad kI kS kL A) {x y : Int32} {off : Int} (tgt : Nat) (hdg : decode cc pc = .ok (.if_icmp .ge off, 3)) (ht : (pc : Int) + off = (tgt : Int)) (kt : y ≤ x → Y p l e R s m args below meth cd D ad kI kS kL A nL cells slots Q tgt lv (st) μ) (kf : ¬ y ≤ x → Y p l e R s m args below meth cd D ad kI kS kL A nL cells slots Q (pc + 3) lv (st) μ) : Y p l e R s m args below meth cd D ad kI kS kL A nL cells slots Q pc lv (.int y :: .int x :: st) μ :=
  fun H locs ls hP hS hl => lv_icmp_ge C.1.1 C.1.2.1 hdg ht (fun h => kt h H locs ls hP hS hl) (fun h => kf h H locs ls hP hS hl)
theorem y_icmp_geT (C : Cx p s m args meth cd cc nL ret own D ad kI kS kL A) {x y : Int32} {off : Int} (tgt : Nat) (hdg : decode cc pc = .ok (.if_icmp .ge off, 3)) (ht : (pc : Int) + off = (tgt : Int)) (h : y ≤ x) (kt : Y p l e R s m args below meth cd D ad kI kS kL A nL cells slots Q tgt lv (st) μ) : Y p l e R s m args below meth cd D ad kI kS kL A nL cells slots Q pc lv (.int y :: .int x :: st) μ :=
  y_icmp_ge C tgt hdg ht (fun _ => kt) (fun q => absurd h q)
theorem y_icmp_geF (C : Cx p s m args meth cd cc nL ret own D ad kI kS kL A) {x y : Int32} {off : Int} (tgt : Nat) (hdg : decode cc pc = .ok (.if_icmp .ge off, 3)) (ht : (pc : Int) + off = (tgt : Int)) (h : ¬ y ≤ x) (kf : Y p l e R s m args below meth cd D ad kI kS kL A nL cells slots Q (pc + 3) lv (st) μ) : Y p l e R s m args below meth cd D ad kI kS kL A nL cells slots Q pc lv (.int y :: .int x :: st) μ :=
  y_icmp_ge C tgt hdg ht (fun q => absurd q h) (fun _ => kf)
theorem y_if_gt (C : Cx p s m args meth cd cc nL ret own D ad kI kS kL A) {x : Int32} {off : Int} (tgt : Nat) (hdg : decode cc pc = .ok (.ifCond .gt off, 3)) (ht : (pc : Int) + off = (tgt : Int)) (kt : 0 < x → Y p l e R s m args below meth cd D ad kI kS kL A nL cells slots Q tgt lv (st) μ) (kf : ¬ 0 < x → Y p l e R s m args below meth cd D ad kI kS kL A nL cells slots Q (pc + 3) lv (st) μ) : Y p l e R s m args below meth cd D ad kI kS kL A nL cells slots Q pc lv (.int x :: st) μ :=
  fun H locs ls hP hS hl => lv_if_gt C.1.1 C.1.2.1 hdg ht (fun h => kt h H locs ls hP hS hl) (fun h => kf h H locs ls hP hS hl)
theorem y_if_gtT (C : Cx p s m args meth cd cc nL ret own D ad kI kS kL A) {x : Int32} {off : Int} (tgt : Nat) (hdg : decode cc pc = .ok (.ifCond .gt off, 3)) (ht : (pc : Int) + off = (tgt : Int)) (h : 0 < x) (kt : Y p l e R s m args below meth cd D ad kI kS kL A nL cells slots Q tgt lv (st) μ) : Y p l e R s m args below meth cd D ad kI kS kL A nL cells slots Q pc lv (.int x :: st) μ :=
  y_if_gt C tgt hdg ht (fun _ => kt) (fun q => absurd h q)
theorem y_if_gtF (C : Cx p s m args meth cd cc nL ret own D ad kI kS kL A) {x : Int32} {off : Int} (tgt : Nat) (hdg : decode cc pc = .ok (.ifCond .gt off, 3)) (ht : (pc : Int) + off = (tgt : Int)) (h : ¬ 0 < x) (kf : Y p l e R s m args below meth cd D ad kI kS kL A nL cells slots Q (pc + 3) lv (st) μ) : Y p l e R s m args below meth cd D ad kI kS kL A nL cells slots Q pc lv (.int x :: st) μ :=
  y_if_gt C tgt hdg ht (fun q => absurd q h) (fun _ => kf)
theorem y_icmp_gt (C : Cx p s m args meth cd cc nL ret own D ad kI kS kL A) {x y : Int32} {off : Int} (tgt : Nat) (hdg : decode cc pc = .ok (.if_icmp .gt off, 3)) (ht : (pc : Int) + off = (tgt : Int)) (kt : y < x → Y p l e R s m args below meth cd D ad kI kS kL A nL cells slots Q tgt lv (st) μ) (kf : ¬ y < x → Y p l e R s m args below meth cd D ad kI kS kL A nL cells slots Q (pc + 3) lv (st) μ) : Y p l e R s m args below meth cd D ad kI kS kL A nL cells slots Q pc lv (.int y :: .int x :: st) μ :=
  fun H locs ls hP hS hl => lv_icmp_gt C.1.1 C.1.2.1 hdg ht (fun h => kt h H locs ls hP hS hl) (fun h => kf h H locs ls hP hS hl)
theorem y_icmp_gtT (C : Cx p s m args meth cd cc nL ret own D ad kI kS kL A) {x y : Int32} {off : Int} (tgt : Nat) (hdg : decode cc pc = .ok (.if_icmp .gt off, 3)) (ht : (pc : Int) + off = (tgt : Int)) (h : y < x) (kt : Y p l e R s m args below meth cd D ad kI kS kL A nL cells slots Q tgt lv (st) μ) : Y p l e R s m args below meth cd D ad kI kS kL A nL cells slots Q pc lv (.int y :: .int x :: st) μ :=
  y_icmp_gt C tgt hdg ht (fun _ => kt) (fun q => absurd h q)
theorem y_icmp_gtF (C : Cx p s m args meth cd cc nL ret own D ad kI kS kL A) {x y : Int32} {off : Int} (tgt : Nat) (hdg : decode cc pc = .ok (.if_icmp .gt off, 3)) (ht : (pc : Int) + off = (tgt : Int)) (h : ¬ y < x) (kf : Y p l e R s m args below meth cd D ad kI kS kL A nL cells slots Q (pc + 3) lv (st) μ) : Y p l e R s m args below meth cd D ad kI kS kL A nL cells slots Q pc lv (.int y :: .int x :: st) μ :=
  y_icmp_gt C tgt hdg ht (fun q => absurd q h) (fun _ => kf)
theorem y_if_le (C : Cx p s m args meth cd cc nL ret own D ad kI kS kL A) {x : Int32} {off : Int} (tgt : Nat) (hdg : decode cc pc = .ok (.ifCond .le off, 3)) (ht : (pc : Int) + off = (tgt : Int)) (kt : x ≤ 0 → Y p l e R s m args below meth cd D ad kI kS kL A nL cells slots Q tgt lv (st) μ) (kf : ¬ x ≤ 0 → Y p l e R s m args below meth cd D ad kI kS kL A nL cells slots Q (pc + 3) lv (st) μ) : Y p l e R s m args below meth cd D ad kI kS kL A nL cells slots Q pc lv (.int x :: st) μ :=
  fun H locs ls hP hS hl => lv_if_le C.1.1 C.1.2.1 hdg ht (fun h => kt h H locs ls hP hS hl) (fun h => kf h H locs ls hP hS hl)
theorem y_if_leT (C : Cx p s m args meth cd cc nL ret own D ad kI kS kL A) {x : Int32} {off : Int} (tgt : Nat) (hdg : decode cc pc = .ok (.ifCond .le off, 3)) (ht : (pc : Int) + off = (tgt : Int)) (h : x ≤ 0) (kt : Y p l e R s m args below meth cd D ad kI kS kL A nL cells slots Q tgt lv (st) μ) : Y p l e R s m args below meth cd D ad kI kS kL A nL cells slots Q pc lv (.int x :: st) μ :=
  y_if_le C tgt hdg ht (fun _ => kt) (fun q => absurd h q)
theorem y_if_leF (C : Cx p s m args meth cd cc nL ret own D ad kI kS kL A) {x : Int32} {off : Int} (tgt : Nat) (hdg : decode cc pc = .ok (.ifCond .le off, 3)) (ht : (pc : Int) + off = (tgt : Int)) (h : ¬ x ≤ 0) (kf : Y p l e R s m args below meth cd D ad kI kS kL A nL cells slots Q (pc + 3) lv (st) μ) : Y p l e R s m args below meth cd D ad kI kS kL A nL cells slots Q pc lv (.int x :: st) μ :=
  y_if_le C tgt hdg ht (fun q => absurd q h) (fun _ => kf)
theorem y_icmp_le (C : Cx p s m args meth cd cc nL ret own D ad kI kS kL A) {x y : Int32} {off : Int} (tgt : Nat) (hdg : decode cc pc = .ok (.if_icmp .le off, 3)) (ht : (pc : Int) + off = (tgt : Int)) (kt : x ≤ y → Y p l e R s m args below meth cd D ad kI kS kL A nL cells slots Q tgt lv (st) μ) (kf : ¬ x ≤ y → Y p l e R s m args below meth cd D ad kI kS kL A nL cells slots Q (pc + 3) lv (st) μ) : Y p l e R s m args below meth cd D ad kI kS kL A nL cells slots Q pc lv (.int y :: .int x :: st) μ :=
  fun H locs ls hP hS hl => lv_icmp_le C.1.1 C.1.2.1 hdg ht (fun h => kt h H locs ls hP hS hl) (fun h => kf h H locs ls hP hS hl)
theorem y_icmp_leT (C : Cx p s m args meth cd cc nL ret own D ad kI kS kL A) {x y : Int32} {off : Int} (tgt : Nat) (hdg : decode cc pc = .ok (.if_icmp .le off, 3)) (ht : (pc : Int) + off = (tgt : Int)) (h : x ≤ y) (kt : Y p l e R s m args below meth cd D ad kI kS kL A nL cells slots Q tgt lv (st) μ) : Y p l e R s m args below meth cd D ad kI kS kL A nL cells slots Q pc lv (.int y :: .int x :: st) μ :=
  y_icmp_le C tgt hdg ht (fun _ => kt) (fun q => absurd h q)
theorem y_icmp_leF (C : Cx p s m args meth cd cc nL ret own D ad kI kS kL A) {x y : Int32} {off : Int} (tgt : Nat) (hdg : decode cc pc = .ok (.if_icmp .le off, 3)) (ht : (pc : Int) + off = (tgt : Int)) (h : ¬ x ≤ y) (kf : Y p l e R s m args below meth cd D ad kI kS kL A nL cells slots Q (pc + 3) lv (st) μ) : Y p l e R s m args below meth cd D ad kI kS kL A nL cells slots Q pc lv (.int y :: .int x :: st) μ :=
  y_icmp_le C tgt hdg ht (fun q => absurd q h) (fun _ => kf)
theorem z_if_eq (C : Cx p s m args meth cd cc nL ret own D ad kI kS kL A) {x : Int32} {a : Int} {off : Int} (tgt : Nat) (hdg : decode cc pc = .ok (.ifCond .eq off, 3)) (ht : (pc : Int) + off = (tgt : Int)) (hx : x.toInt = a) (kt : a = 0 → Y p l e R s m args below meth cd D ad kI kS kL A nL cells slots Q tgt lv (st) μ) (kf : ¬ a = 0 → Y p l e R s m args below meth cd D ad kI kS kL A nL cells slots Q (pc + 3) lv (st) μ) : Y p l e R s m args below meth cd D ad kI kS kL A nL cells slots Q pc lv (.int x :: st) μ :=
  y_if_eq C tgt hdg ht (fun q => kt (by rw [← hx, q]; exact Int32.toInt_zero)) (fun q => kf (fun w => q (Int32.toInt_inj.mp (by rw [hx, Int32.toInt_zero, w]))))
theorem z_if_eqT (C : Cx p s m args meth cd cc nL ret own D ad kI kS kL A) {x : Int32} {a : Int} {off : Int} (tgt : Nat) (hdg : decode cc pc = .ok (.ifCond .eq off, 3)) (ht : (pc : Int) + off = (tgt : Int)) (hx : x.toInt = a) (h : a = 0) (kt : Y p l e R s m args below meth cd D ad kI kS kL A nL cells slots Q tgt lv (st) μ) : Y p l e R s m args below meth cd D ad kI kS kL A nL cells slots Q pc lv (.int x :: st) μ :=
  z_if_eq C tgt hdg ht hx (fun _ => kt) (fun q => absurd h (by omega))
theorem z_if_eqF (C : Cx p s m args meth cd cc nL ret own D ad kI kS kL A) {x : Int32} {a : Int} {off : Int} (tgt : Nat) (hdg : decode cc pc = .ok (.ifCond .eq off, 3)) (ht : (pc : Int) + off = (tgt : Int)) (hx : x.toInt = a) (h : ¬ a = 0) (kf : Y p l e R s m args below meth cd D ad kI kS kL A nL cells slots Q (pc + 3) lv (st) μ) : Y p l e R s m args below meth cd D ad kI kS kL A nL cells slots Q pc lv (.int x :: st) μ :=
  z_if_eq C tgt hdg ht hx (fun q => absurd h (by omega)) (fun _ => kf)
theorem z_icmp_eq (C : Cx p s m args meth cd cc nL ret own D ad kI kS kL A) {x y : Int32} {a b : Int} {off : Int} (tgt : Nat) (hdg : decode cc pc = .ok (.if_icmp .eq off, 3)) (ht : (pc : Int) + off = (tgt : Int)) (hx : x.toInt = a) (hy : y.toInt = b) (kt : a = b → Y p l e R s m args below meth cd D ad kI kS kL A nL cells slots Q tgt lv (st) μ) (kf : ¬ a = b → Y p l e R s m args below meth cd D ad kI kS kL A nL cells slots Q (pc + 3) lv (st) μ) : Y p l e R s m args below meth cd D ad kI kS kL A nL cells slots Q pc lv (.int y :: .int x :: st) μ :=
  y_icmp_eq C tgt hdg ht (fun q => kt (by rw [← hx, q]; exact hy)) (fun q => kf (fun w => q (Int32.toInt_inj.mp (by rw [hx, hy, w]))))
theorem z_icmp_eqT (C : Cx p s m args meth cd cc nL ret own D ad kI kS kL A) {x y : Int32} {a b : Int} {off : Int} (tgt : Nat) (hdg : decode cc pc = .ok (.if_icmp .eq off, 3)) (ht : (pc : Int) + off = (tgt : Int)) (hx : x.toInt = a) (hy : y.toInt = b) (h : a = b) (kt : Y p l e R s m args below meth cd D ad kI kS kL A nL cells slots Q tgt lv (st) μ) : Y p l e R s m args below meth cd D ad kI kS kL A nL cells slots Q pc lv (.int y :: .int x :: st) μ :=
  z_icmp_eq C tgt hdg ht hx hy (fun _ => kt) (fun q => absurd h (by omega))
theorem z_icmp_eqF (C : Cx p s m args meth cd cc nL ret own D ad kI kS kL A) {x y : Int32} {a b : Int} {off : Int} (tgt : Nat) (hdg : decode cc pc = .ok (.if_icmp .eq off, 3)) (ht : (pc : Int) + off = (tgt : Int)) (hx : x.toInt = a) (hy : y.toInt = b) (h : ¬ a = b) (kf : Y p l e R s m args below meth cd D ad kI kS kL A nL cells slots Q (pc + 3) lv (st) μ) : Y p l e R s m args below meth cd D ad kI kS kL A nL cells slots Q pc lv (.int y :: .int x :: st) μ :=
  z_icmp_eq C tgt hdg ht hx hy (fun q => absurd h (by omega)) (fun _ => kf)
theorem z_if_ne (C : Cx p s m args meth cd cc nL ret own D ad kI kS kL A) {x : Int32} {a : Int} {off : Int} (tgt : Nat) (hdg : decode cc pc = .ok (.ifCond .ne off, 3)) (ht : (pc : Int) + off = (tgt : Int)) (hx : x.toInt = a) (kt : ¬ a = 0 → Y p l e R s m args below meth cd D ad kI kS kL A nL cells slots Q tgt lv (st) μ) (kf : a = 0 → Y p l e R s m args below meth cd D ad kI kS kL A nL cells slots Q (pc + 3) lv (st) μ) : Y p l e R s m args below meth cd D ad kI kS kL A nL cells slots Q pc lv (.int x :: st) μ :=
  y_if_ne C tgt hdg ht (fun q => kt (fun w => q (Int32.toInt_inj.mp (by rw [hx, Int32.toInt_zero, w])))) (fun q => kf (by rw [← hx, q]; exact Int32.toInt_zero))
theorem z_if_neT (C : Cx p s m args meth cd cc nL ret own D ad kI kS kL A) {x : Int32} {a : Int} {off : Int} (tgt : Nat) (hdg : decode cc pc = .ok (.ifCond .ne off, 3)) (ht : (pc : Int) + off = (tgt : Int)) (hx : x.toInt = a) (h : ¬ a = 0) (kt : Y p l e R s m args below meth cd D ad kI kS kL A nL cells slots Q tgt lv (st) μ) : Y p l e R s m args below meth cd D ad kI kS kL A nL cells slots Q pc lv (.int x :: st) μ :=
  z_if_ne C tgt hdg ht hx (fun _ => kt) (fun q => absurd h (by omega))
theorem z_if_neF (C : Cx p s m args meth cd cc nL ret own D ad kI kS kL A) {x : Int32} {a : Int} {off : Int} (tgt : Nat) (hdg : decode cc pc = .ok (.ifCond .ne off, 3)) (ht : (pc : Int) + off = (tgt : Int)) (hx : x.toInt = a) (h : a = 0) (kf : Y p l e R s m args below meth cd D ad kI kS kL A nL cells slots Q (pc + 3) lv (st) μ) : Y p l e R s m args below meth cd D ad kI kS kL A nL cells slots Q pc lv (.int x :: st) μ :=
  z_if_ne C tgt hdg ht hx (fun q => absurd h (by omega)) (fun _ => kf)
theorem z_icmp_ne (C : Cx p s m args meth cd cc nL ret own D ad kI kS kL A) {x y : Int32} {a b : Int} {off : Int} (tgt : Nat) (hdg : decode cc pc = .ok (.if_icmp .ne off, 3)) (ht : (pc : Int) + off = (tgt : Int)) (hx : x.toInt = a) (hy : y.toInt = b) (kt : ¬ a = b → Y p l e R s m args below meth cd D ad kI kS kL A nL cells slots Q tgt lv (st) μ) (kf : a = b → Y p l e R s m args below meth cd D ad kI kS kL A nL cells slots Q (pc + 3) lv (st) μ) : Y p l e R s m args below meth cd D ad kI kS kL A nL cells slots Q pc lv (.int y :: .int x :: st) μ :=
  y_icmp_ne C tgt hdg ht (fun q => kt (fun w => q (Int32.toInt_inj.mp (by rw [hx, hy, w])))) (fun q => kf (by rw [← hx, q]; exact hy))
theorem z_icmp_neT (C : Cx p s m args meth cd cc nL ret own D ad kI kS kL A) {x y : Int32} {a b : Int} {off : Int} (tgt : Nat) (hdg : decode cc pc = .ok (.if_icmp .ne off, 3)) (ht : (pc : Int) + off = (tgt : Int)) (hx : x.toInt = a) (hy : y.toInt = b) (h : ¬ a = b) (kt : Y p l e R s m args below meth cd D ad kI kS kL A nL cells slots Q tgt lv (st) μ) : Y p l e R s m args below meth cd D ad kI kS kL A nL cells slots Q pc lv (.int y :: .int x :: st) μ :=
  z_icmp_ne C tgt hdg ht hx hy (fun _ => kt) (fun q => absurd h (by omega))
theorem z_icmp_neF (C : Cx p s m args meth cd cc nL ret own D ad kI kS kL A) {x y : Int32} {a b : Int} {off : Int} (tgt : Nat) (hdg : decode cc pc = .ok (.if_icmp .ne off, 3)) (ht : (pc : Int) + off = (tgt : Int)) (hx : x.toInt = a) (hy : y.toInt = b) (h : a = b) (kf : Y p l e R s m args below meth cd D ad kI kS kL A nL cells slots Q (pc + 3) lv (st) μ) : Y p l e R s m args below meth cd D ad kI kS kL A nL cells slots Q pc lv (.int y :: .int x :: st) μ :=
  z_icmp_ne C tgt hdg ht hx hy (fun q => absurd h (by omega)) (fun _ => kf)
theorem z_if_lt (C : Cx p s m args meth cd cc nL ret own D ad kI kS kL A) {x : Int32} {a : Int} {off : Int} (tgt : Nat) (hdg : decode cc pc = .ok (.ifCond .lt off, 3)) (ht : (pc : Int) + off = (tgt : Int)) (hx : x.toInt = a) (kt : a < 0 → Y p l e R s m args below meth cd D ad kI kS kL A nL cells slots Q tgt lv (st) μ) (kf : 0 ≤ a → Y p l e R s m args below meth cd D ad kI kS kL A nL cells slots Q (pc + 3) lv (st) μ) : Y p l e R s m args below meth cd D ad kI kS kL A nL cells slots Q pc lv (.int x :: st) μ :=
  y_if_lt C tgt hdg ht (fun q => kt (by have w := Int32.lt_iff_toInt_lt.mp q; rw [hx, Int32.toInt_zero] at w; exact w)) (fun q => kf (by rw [Int32.lt_iff_toInt_lt, hx, Int32.toInt_zero] at q; omega))
theorem z_if_ltT (C : Cx p s m args meth cd cc nL ret own D ad kI kS kL A) {x : Int32} {a : Int} {off : Int} (tgt : Nat) (hdg : decode cc pc = .ok (.ifCond .lt off, 3)) (ht : (pc : Int) + off = (tgt : Int)) (hx : x.toInt = a) (h : a < 0) (kt : Y p l e R s m args below meth cd D ad kI kS kL A nL cells slots Q tgt lv (st) μ) : Y p l e R s m args below meth cd D ad kI kS kL A nL cells slots Q pc lv (.int x :: st) μ :=
  z_if_lt C tgt hdg ht hx (fun _ => kt) (fun q => absurd h (by omega))
theorem z_if_ltF (C : Cx p s m args meth cd cc nL ret own D ad kI kS kL A) {x : Int32} {a : Int} {off : Int} (tgt : Nat) (hdg : decode cc pc = .ok (.ifCond .lt off, 3)) (ht : (pc : Int) + off = (tgt : Int)) (hx : x.toInt = a) (h : 0 ≤ a) (kf : Y p l e R s m args below meth cd D ad kI kS kL A nL cells slots Q (pc + 3) lv (st) μ) : Y p l e R s m args below meth cd D ad kI kS kL A nL cells slots Q pc lv (.int x :: st) μ :=
  z_if_lt C tgt hdg ht hx (fun q => absurd h (by omega)) (fun _ => kf)
theorem z_icmp_lt (C : Cx p s m args meth cd cc nL ret own D ad kI kS kL A) {x y : Int32} {a b : Int} {off : Int} (tgt : Nat) (hdg : decode cc pc = .ok (.if_icmp .lt off, 3)) (ht : (pc : Int) + off = (tgt : Int)) (hx : x.toInt = a) (hy : y.toInt = b) (kt : a < b → Y p l e R s m args below meth cd D ad kI kS kL A nL cells slots Q tgt lv (st) μ) (kf : b ≤ a → Y p l e R s m args below meth cd D ad kI kS kL A nL cells slots Q (pc + 3) lv (st) μ) : Y p l e R s m args below meth cd D ad kI kS kL A nL cells slots Q pc lv (.int y :: .int x :: st) μ :=
  y_icmp_lt C tgt hdg ht (fun q => kt (by have w := Int32.lt_iff_toInt_lt.mp q; rw [hx, hy] at w; exact w)) (fun q => kf (by rw [Int32.lt_iff_toInt_lt, hx, hy] at q; omega))
theorem z_icmp_ltT (C : Cx p s m args meth cd cc nL ret own D ad kI kS kL A) {x y : Int32} {a b : Int} {off : Int} (tgt : Nat) (hdg : decode cc pc = .ok (.if_icmp .lt off, 3)) (ht : (pc : Int) + off = (tgt : Int)) (hx : x.toInt = a) (hy : y.toInt = b) (h : a < b) (kt : Y p l e R s m args below meth cd D ad kI kS kL A nL cells slots Q tgt lv (st) μ) : Y p l e R s m args below meth cd D ad kI kS kL A nL cells slots Q pc lv (.int y :: .int x :: st) μ :=
  z_icmp_lt C tgt hdg ht hx hy (fun _ => kt) (fun q => absurd h (by omega))
theorem z_icmp_ltF (C : Cx p s m args meth cd cc nL ret own D ad kI kS kL A) {x y : Int32} {a b : Int} {off : Int} (tgt : Nat) (hdg : decode cc pc = .ok (.if_icmp .lt off, 3)) (ht : (pc : Int) + off = (tgt : Int)) (hx : x.toInt = a) (hy : y.toInt = b) (h : b ≤ a) (kf : Y p l e R s m args below meth cd D ad kI kS kL A nL cells slots Q (pc + 3) lv (st) μ) : Y p l e R s m args below meth cd D ad kI kS kL A nL cells slots Q pc lv (.int y :: .int x :: st) μ :=
  z_icmp_lt C tgt hdg ht hx hy (fun q => absurd h (by omega)) (fun _ => kf)
theorem z_if_ge (C : Cx p s m args meth cd cc nL ret own D ad kI kS kL A) {x : Int32} {a : Int} {off : Int} (tgt : Nat) (hdg : decode cc pc = .ok (.ifCond .ge off, 3)) (ht : (pc : Int) + off = (tgt : Int)) (hx : x.toInt = a) (kt : 0 ≤ a → Y p l e R s m args below meth cd D ad kI kS kL A nL cells slots Q tgt lv (st) μ) (kf : a < 0 → Y p l e R s m args below meth cd D ad kI kS kL A nL cells slots Q (pc + 3) lv (st) μ) : Y p l e R s m args below meth cd D ad kI kS kL A nL cells slots Q pc lv (.int x :: st) μ :=
  y_if_ge C tgt hdg ht (fun q => kt (by have w := Int32.le_iff_toInt_le.mp q; rw [Int32.toInt_zero, hx] at w; exact w)) (fun q => kf (by rw [Int32.le_iff_toInt_le, Int32.toInt_zero, hx] at q; omega))
theorem z_if_geT (C : Cx p s m args meth cd cc nL ret own D ad kI kS kL A) {x : Int32} {a : Int} {off : Int} (tgt : Nat) (hdg : decode cc pc = .ok (.ifCond .ge off, 3)) (ht : (pc : Int) + off = (tgt : Int)) (hx : x.toInt = a) (h : 0 ≤ a) (kt : Y p l e R s m args below meth cd D ad kI kS kL A nL cells slots Q tgt lv (st) μ) : Y p l e R s m args below meth cd D ad kI kS kL A nL cells slots Q pc lv (.int x :: st) μ :=
  z_if_ge C tgt hdg ht hx (fun _ => kt) (fun q => absurd h (by omega))
theorem z_if_geF (C : Cx p s m args meth cd cc nL ret own D ad kI kS kL A) {x : Int32} {a : Int} {off : Int} (tgt : Nat) (hdg : decode cc pc = .ok (.ifCond .ge off, 3)) (ht : (pc : Int) + off = (tgt : Int)) (hx : x.toInt = a) (h : a < 0) (kf : Y p l e R s m args below meth cd D ad kI kS kL A nL cells slots Q (pc + 3) lv (st) μ) : Y p l e R s m args below meth cd D ad kI kS kL A nL cells slots Q pc lv (.int x :: st) μ :=
  z_if_ge C tgt hdg ht hx (fun q => absurd h (by omega)) (fun _ => kf)
theorem z_icmp_ge (C : Cx p s m args meth cd cc nL ret own D ad kI kS kL A) {x y : Int32} {a b : Int} {off : Int} (tgt : Nat) (hdg : decode cc pc = .ok (.if_icmp .ge off, 3)) (ht : (pc : Int) + off = (tgt : Int)) (hx : x.toInt = a) (hy : y.toInt = b) (kt : b ≤ a → Y p l e R s m args below meth cd D ad kI kS kL A nL cells slots Q tgt lv (st) μ) (kf : a < b → Y p l e R s m args below meth cd D ad kI kS kL A nL cells slots Q (pc + 3) lv (st) μ) : Y p l e R s m args below meth cd D ad kI kS kL A nL cells slots Q pc lv (.int y :: .int x :: st) μ :=
  y_icmp_ge C tgt hdg ht (fun q => kt (by have w := Int32.le_iff_toInt_le.mp q; rw [hy, hx] at w; exact w)) (fun q => kf (by rw [Int32.le_iff_toInt_le, hy, hx] at q; omega))
theorem z_icmp_geT (C : Cx p s m args meth cd cc nL ret own D ad kI kS kL A) {x y : Int32} {a b : Int} {off : Int} (tgt : Nat) (hdg : decode cc pc = .ok (.if_icmp .ge off, 3)) (ht : (pc : Int) + off = (tgt : Int)) (hx : x.toInt = a) (hy : y.toInt = b) (h : b ≤ a) (kt : Y p l e R s m args below meth cd D ad kI kS kL A nL cells slots Q tgt lv (st) μ) : Y p l e R s m args below meth cd D ad kI kS kL A nL cells slots Q pc lv (.int y :: .int x :: st) μ :=
  z_icmp_ge C tgt hdg ht hx hy (fun _ => kt) (fun q => absurd h (by omega))
theorem z_icmp_geF (C : Cx p s m args meth cd cc nL ret own D ad kI kS kL A) {x y : Int32} {a b : Int} {off : Int} (tgt : Nat) (hdg : decode cc pc = .ok (.if_icmp .ge off, 3)) (ht : (pc : Int) + off = (tgt : Int)) (hx : x.toInt = a) (hy : y.toInt = b) (h : a < b) (kf : Y p l e R s m args below meth cd D ad kI kS kL A nL cells slots Q (pc + 3) lv (st) μ) : Y p l e R s m args below meth cd D ad kI kS kL A nL cells slots Q pc lv (.int y :: .int x :: st) μ :=
  z_icmp_ge C tgt hdg ht hx hy (fun q => absurd h (by omega)) (fun _ => kf)
theorem z_if_gt (C : Cx p s m args meth cd cc nL ret own D ad kI kS kL A) {x : Int32} {a : Int} {off : Int} (tgt : Nat) (hdg : decode cc pc = .ok (.ifCond .gt off, 3)) (ht : (pc : Int) + off = (tgt : Int)) (hx : x.toInt = a) (kt : 0 < a → Y p l e R s m args below meth cd D ad kI kS kL A nL cells slots Q tgt lv (st) μ) (kf : a ≤ 0 → Y p l e R s m args below meth cd D ad kI kS kL A nL cells slots Q (pc + 3) lv (st) μ) : Y p l e R s m args below meth cd D ad kI kS kL A nL cells slots Q pc lv (.int x :: st) μ :=
  y_if_gt C tgt hdg ht (fun q => kt (by have w := Int32.lt_iff_toInt_lt.mp q; rw [Int32.toInt_zero, hx] at w; exact w)) (fun q => kf (by rw [Int32.lt_iff_toInt_lt, Int32.toInt_zero, hx] at q; omega))
theorem z_if_gtT (C : Cx p s m args meth cd cc nL ret own D ad kI kS kL A) {x : Int32} {a : Int} {off : Int} (tgt : Nat) (hdg : decode cc pc = .ok (.ifCond .gt off, 3)) (ht : (pc : Int) + off = (tgt : Int)) (hx : x.toInt = a) (h : 0 < a) (kt : Y p l e R s m args below meth cd D ad kI kS kL A nL cells slots Q tgt lv (st) μ) : Y p l e R s m args below meth cd D ad kI kS kL A nL cells slots Q pc lv (.int x :: st) μ :=
  z_if_gt C tgt hdg ht hx (fun _ => kt) (fun q => absurd h (by omega))
theorem z_if_gtF (C : Cx p s m args meth cd cc nL ret own D ad kI kS kL A) {x : Int32} {a : Int} {off : Int} (tgt : Nat) (hdg : decode cc pc = .ok (.ifCond .gt off, 3)) (ht : (pc : Int) + off = (tgt : Int)) (hx : x.toInt = a) (h : a ≤ 0) (kf : Y p l e R s m args below meth cd D ad kI kS kL A nL cells slots Q (pc + 3) lv (st) μ) : Y p l e R s m args below meth cd D ad kI kS kL A nL cells slots Q pc lv (.int x :: st) μ :=
  z_if_gt C tgt hdg ht hx (fun q => absurd h (by omega)) (fun _ => kf)
theorem z_icmp_gt (C : Cx p s m args meth cd cc nL ret own D ad kI kS kL A) {x y : Int32} {a b : Int} {off : Int} (tgt : Nat) (hdg : decode cc pc = .ok (.if_icmp .gt off, 3)) (ht : (pc : Int) + off = (tgt : Int)) (hx : x.toInt = a) (hy : y.toInt = b) (kt : b < a → Y p l e R s m args below meth cd D ad kI kS kL A nL cells slots Q tgt lv (st) μ) (kf : a ≤ b → Y p l e R s m args below meth cd D ad kI kS kL A nL cells slots Q (pc + 3) lv (st) μ) : Y p l e R s m args below meth cd D ad kI kS kL A nL cells slots Q pc lv (.int y :: .int x :: st) μ :=
  y_icmp_gt C tgt hdg ht (fun q => kt (by have w := Int32.lt_iff_toInt_lt.mp q; rw [hy, hx] at w; exact w)) (fun q => kf (by rw [Int32.lt_iff_toInt_lt, hy, hx] at q; omega))
theorem z_icmp_gtT (C : Cx p s m args meth cd cc nL ret own D ad kI kS kL A) {x y : Int32} {a b : Int} {off : Int} (tgt : Nat) (hdg : decode cc pc = .ok (.if_icmp .gt off, 3)) (ht : (pc : Int) + off = (tgt : Int)) (hx : x.toInt = a) (hy : y.toInt = b) (h : b < a) (kt : Y p l e R s m args below meth cd D ad kI kS kL A nL cells slots Q tgt lv (st) μ) : Y p l e R s m args below meth cd D ad kI kS kL A nL cells slots Q pc lv (.int y :: .int x :: st) μ :=
  z_icmp_gt C tgt hdg ht hx hy (fun _ => kt) (fun q => absurd h (by omega))
theorem z_icmp_gtF (C : Cx p s m args meth cd cc nL ret own D ad kI kS kL A) {x y : Int32} {a b : Int} {off : Int} (tgt : Nat) (hdg : decode cc pc = .ok (.if_icmp .gt off, 3)) (ht : (pc : Int) + off = (tgt : Int)) (hx : x.toInt = a) (hy : y.toInt = b) (h : a ≤ b) (kf : Y p l e R s m args below meth cd D ad kI kS kL A nL cells slots Q (pc + 3) lv (st) μ) : Y p l e R s m args below meth cd D ad kI kS kL A nL cells slots Q pc lv (.int y :: .int x :: st) μ :=
  z_icmp_gt C tgt hdg ht hx hy (fun q => absurd h (by omega)) (fun _ => kf)
theorem z_if_le (C : Cx p s m args meth cd cc nL ret own D ad kI kS kL A) {x : Int32} {a : Int} {off : Int} (tgt : Nat) (hdg : decode cc pc = .ok (.ifCond .le off, 3)) (ht : (pc : Int) + off = (tgt : Int)) (hx : x.toInt = a) (kt : a ≤ 0 → Y p l e R s m args below meth cd D ad kI kS kL A nL cells slots Q tgt lv (st) μ) (kf : 0 < a → Y p l e R s m args below meth cd D ad kI kS kL A nL cells slots Q (pc + 3) lv (st) μ) : Y p l e R s m args below meth cd D ad kI kS kL A nL cells slots Q pc lv (.int x :: st) μ :=
  y_if_le C tgt hdg ht (fun q => kt (by have w := Int32.le_iff_toInt_le.mp q; rw [hx, Int32.toInt_zero] at w; exact w)) (fun q => kf (by rw [Int32.le_iff_toInt_le, hx, Int32.toInt_zero] at q; omega))
theorem z_if_leT (C : Cx p s m args meth cd cc nL ret own D ad kI kS kL A) {x : Int32} {a : Int} {off : Int} (tgt : Nat) (hdg : decode cc pc = .ok (.ifCond .le off, 3)) (ht : (pc : Int) + off = (tgt : Int)) (hx : x.toInt = a) (h : a ≤ 0) (kt : Y p l e R s m args below meth cd D ad kI kS kL A nL cells slots Q tgt lv (st) μ) : Y p l e R s m args below meth cd D ad kI kS kL A nL cells slots Q pc lv (.int x :: st) μ :=
  z_if_le C tgt hdg ht hx (fun _ => kt) (fun q => absurd h (by omega))
theorem z_if_leF (C : Cx p s m args meth cd cc nL ret own D ad kI kS kL A) {x : Int32} {a : Int} {off : Int} (tgt : Nat) (hdg : decode cc pc = .ok (.ifCond .le off, 3)) (ht : (pc : Int) + off = (tgt : Int)) (hx : x.toInt = a) (h : 0 < a) (kf : Y p l e R s m args below meth cd D ad kI kS kL A nL cells slots Q (pc + 3) lv (st) μ) : Y p l e R s m args below meth cd D ad kI kS kL A nL cells slots Q pc lv (.int x :: st) μ :=
  z_if_le C tgt hdg ht hx (fun q => absurd h (by omega)) (fun _ => kf)
theorem z_icmp_le (C : Cx p s m args meth cd cc nL ret own D ad kI kS kL A) {x y : Int32} {a b : Int} {off : Int} (tgt : Nat) (hdg : decode cc pc = .ok (.if_icmp .le off, 3)) (ht : (pc : Int) + off = (tgt : Int)) (hx : x.toInt = a) (hy : y.toInt = b) (kt : a ≤ b → Y p l e R s m args below meth cd D ad kI kS kL A nL cells slots Q tgt lv (st) μ) (kf : b < a → Y p l e R s m args below meth cd D ad kI kS kL A nL cells slots Q (pc + 3) lv (st) μ) : Y p l e R s m args below meth cd D ad kI kS kL A nL cells slots Q pc lv (.int y :: .int x :: st) μ :=
  y_icmp_le C tgt hdg ht (fun q => kt (by have w := Int32.le_iff_toInt_le.mp q; rw [hx, hy] at w; exact w)) (fun q => kf (by rw [Int32.le_iff_toInt_le, hx, hy] at q; omega))
theorem z_icmp_leT (C : Cx p s m args meth cd cc nL ret own D ad kI kS kL A) {x y : Int32} {a b : Int} {off : Int} (tgt : Nat) (hdg : decode cc pc = .ok (.if_icmp .le off, 3)) (ht : (pc : Int) + off = (tgt : Int)) (hx : x.toInt = a) (hy : y.toInt = b) (h : a ≤ b) (kt : Y p l e R s m args below meth cd D ad kI kS kL A nL cells slots Q tgt lv (st) μ) : Y p l e R s m args below meth cd D ad kI kS kL A nL cells slots Q pc lv (.int y :: .int x :: st) μ :=
  z_icmp_le C tgt hdg ht hx hy (fun _ => kt) (fun q => absurd h (by omega))
theorem z_icmp_leF (C : Cx p s m args meth cd cc nL ret own D ad kI kS kL A) {x y : Int32} {a b : Int} {off : Int} (tgt : Nat) (hdg : decode cc pc = .ok (.if_icmp .le off, 3)) (ht : (pc : Int) + off = (tgt : Int)) (hx : x.toInt = a) (hy : y.toInt = b) (h : b < a) (kf : Y p l e R s m args below meth cd D ad kI kS kL A nL cells slots Q (pc + 3) lv (st) μ) : Y p l e R s m args below meth cd D ad kI kS kL A nL cells slots Q pc lv (.int y :: .int x :: st) μ :=
  z_icmp_le C tgt hdg ht hx hy (fun q => absurd h (by omega)) (fun _ => kf)
theorem y_ifnonnull (C : Cx p s m args meth cd cc nL ret own D ad kI kS kL A) {x : Nat} {off : Int} (tgt : Nat) (hdg : decode cc pc = .ok (.ifnonnull off, 3)) (ht : (pc : Int) + off = (tgt : Int)) (k : Y p l e R s m args below meth cd D ad kI kS kL A nL cells slots Q tgt lv (st) μ) : Y p l e R s m args below meth cd D ad kI kS kL A nL cells slots Q pc lv (.ref x :: st) μ :=
  fun H locs ls hP hS hl => lv_ifnonnull C.1.1 C.1.2.1 hdg ht (k H locs ls hP hS hl)
theorem y_ifnull (C : Cx p s m args meth cd cc nL ret own D ad kI kS kL A) {x : Nat} {off : Int} (tgt : Nat) (hdg : decode cc pc = .ok (.ifnull off, 3)) (ht : (pc : Int) + off = (tgt : Int)) (k : Y p l e R s m args below meth cd D ad kI kS kL A nL cells slots Q (pc + 3) lv (st) μ) : Y p l e R s m args below meth cd D ad kI kS kL A nL cells slots Q pc lv (.ref x :: st) μ :=
  fun H locs ls hP hS hl => lv_ifnull C.1.1 C.1.2.1 hdg  (k H locs ls hP hS hl)
theorem y_ifnullN (C : Cx p s m args meth cd cc nL ret own D ad kI kS kL A)  {off : Int} (tgt : Nat) (hdg : decode cc pc = .ok (.ifnull off, 3)) (ht : (pc : Int) + off = (tgt : Int)) (k : Y p l e R s m args below meth cd D ad kI kS kL A nL cells slots Q tgt lv (st) μ) : Y p l e R s m args below meth cd D ad kI kS kL A nL cells slots Q pc lv (.null :: st) μ :=
  fun H locs ls hP hS hl => lv_ifnullN C.1.1 C.1.2.1 hdg ht (k H locs ls hP hS hl)
theorem y_ifnonnullN (C : Cx p s m args meth cd cc nL ret own D ad kI kS kL A)  {off : Int} (tgt : Nat) (hdg : decode cc pc = .ok (.ifnonnull off, 3)) (ht : (pc : Int) + off = (tgt : Int)) (k : Y p l e R s m args below meth cd D ad kI kS kL A nL cells slots Q (pc + 3) lv (st) μ) : Y p l e R s m args below meth cd D ad kI kS kL A nL cells slots Q pc lv (.null :: st) μ :=
  fun H locs ls hP hS hl => lv_ifnonnullN C.1.1 C.1.2.1 hdg  (k H locs ls hP hS hl)
theorem y_lookup (C : Cx p s m args meth cd cc nL ret own D ad kI kS kL A) {dflt : Int} {ps : Array (Int × Int)} {len : Nat} {x : Int32} {off : Int} (tgt : Nat) (hdg : decode cc pc = .ok (.lookupswitch dflt ps, len)) (hp : (ps.toList.zip (ps.toList.drop 1)).all (fun (a, next) => a.1 < next.1) = true) (ho : Op.lookupswitch.offset ps.toList dflt x.toInt = off) (ht : (pc : Int) + off = (tgt : Int)) (k : Y p l e R s m args below meth cd D ad kI kS kL A nL cells slots Q tgt lv (st) μ) : Y p l e R s m args below meth cd D ad kI kS kL A nL cells slots Q pc lv (.int x :: st) μ :=
  fun H locs ls hP hS hl => lv_lookup C.1.1 C.1.2.1 hdg hp ho ht (k H locs ls hP hS hl)
theorem y_tableOut (C : Cx p s m args meth cd cc nL ret own D ad kI kS kL A) {dflt lo hi : Int} {offs : Array Int} {len : Nat} {x : Int32} (tgt : Nat) (hdg : decode cc pc = .ok (.tableswitch dflt lo hi offs, len)) (h : x.toInt < lo ∨ hi < x.toInt) (ht : (pc : Int) + dflt = (tgt : Int)) (k : Y p l e R s m args below meth cd D ad kI kS kL A nL cells slots Q tgt lv (st) μ) : Y p l e R s m args below meth cd D ad kI kS kL A nL cells slots Q pc lv (.int x :: st) μ :=
  fun H locs ls hP hS hl => lv_tableOut C.1.1 C.1.2.1 hdg h ht (k H locs ls hP hS hl)
theorem y_tableIn (C : Cx p s m args meth cd cc nL ret own D ad kI kS kL A) {dflt lo hi : Int} {offs : Array Int} {len : Nat} {x : Int32} {off : Int} (tgt : Nat) (hdg : decode cc pc = .ok (.tableswitch dflt lo hi offs, len)) (h1 : ¬ x.toInt < lo) (h2 : ¬ hi < x.toInt) (ho : offs[(x.toInt - lo).toNat]? = some off) (ht : (pc : Int) + off = (tgt : Int)) (k : Y p l e R s m args below meth cd D ad kI kS kL A nL cells slots Q tgt lv (st) μ) : Y p l e R s m args below meth cd D ad kI kS kL A nL cells slots Q pc lv (.int x :: st) μ :=
  fun H locs ls hP hS hl => lv_tableIn C.1.1 C.1.2.1 hdg h1 h2 ho ht (k H locs ls hP hS hl)
theorem y_geti (C : Cx p s m args meth cd cc nL ret own D ad kI kS kL A) {idx ci k c : Nat} {v : Int32} (g : GL own idx ci k) (ho : isO ci c) (hf : (fl ad ci c (μ c))[k]? = some (.int (μ c k))) (hv : μ c k = v) (hdg : decode cc pc = .ok (.getfield idx, 3)) (kk : Y p l e R s m args below meth cd D ad kI kS kL A nL cells slots Q (pc + 3) lv (.int v :: st) μ) : Y p l e R s m args below meth cd D ad kI kS kL A nL cells slots Q pc lv (.ref (ad c) :: st) μ := by
  subst hv
  obtain ⟨Cn, T, N, h1, h2, h3, h4, h5⟩ := g
  exact fun H locs ls hP hS hl => va_get C.1.1 C.1.2.1 C.1.2.2.2.2 h2 C.1.2.2.2.1 C.2.1 hP c (by rw [xW_get (by omega), xe_O ho]) h3 k h4 (C.1.2.2.2.2 _ h1) (fun x => h5 (s := s) x) hf hdg (kk H locs ls hP hS hl)
theorem y_getr (C : Cx p s m args meth cd cc nL ret own D ad kI kS kL A) {idx ci k c d : Nat} (g : GL own idx ci k) (ho : isO ci c) (hf : (fl ad ci c (μ c))[k]? = some (.ref (ad d))) (hdg : decode cc pc = .ok (.getfield idx, 3)) (kk : Y p l e R s m args below meth cd D ad kI kS kL A nL cells slots Q (pc + 3) lv (.ref (ad d) :: st) μ) : Y p l e R s m args below meth cd D ad kI kS kL A nL cells slots Q pc lv (.ref (ad c) :: st) μ := by
  obtain ⟨Cn, T, N, h1, h2, h3, h4, h5⟩ := g
  exact fun H locs ls hP hS hl => va_get C.1.1 C.1.2.1 C.1.2.2.2.2 h2 C.1.2.2.2.1 C.2.1 hP c (by rw [xW_get (by omega), xe_O ho]) h3 k h4 (C.1.2.2.2.2 _ h1) (fun x => h5 (s := s) x) hf hdg (kk H locs ls hP hS hl)
theorem y_puti (C : Cx p s m args meth cd cc nL ret own D ad kI kS kL A) {idx ci k c : Nat} {v : Int32} (g : PL own idx ci k) (ho : isO ci c) (hf : (fl ad ci c (μ c)).set k (.int v) = fl ad ci c (upd (μ c) k v)) (hk : k < (fl ad ci c (μ c)).length) (hdg : decode cc pc = .ok (.putfield idx, 3)) (kk : Y p l e R s m args below meth cd D ad kI kS kL A nL cells slots Q (pc + 3) lv (st) (mu μ c k v)) : Y p l e R s m args below meth cd D ad kI kS kL A nL cells slots Q pc lv (.int v :: .ref (ad c) :: st) μ := by
  obtain ⟨Cn, T, N, t0, h1, h2, h3, h4, h5, h6, h7, h8, h9⟩ := g
  intro H locs ls hP hS hl
  have hD : va_D A (xW ad kI kS kL μ) := xW_D C.2.2.1 C.2.2.2.1
  refine va_put C.1.1 C.1.2.1 C.1.2.2.2.2 h2 t0 h6 h7 C.1.2.2.2.1 C.2.1 hP hD hS c (by rw [xW_get (by omega), xe_O ho]) h3 k h4 (C.1.2.2.2.2 _ h1) (fun x => h5 (s := s) x) h8 h9 rfl rfl hk hdg (fun H1 locs1 hP1 _ hS1 => kk H1 locs1 ls ?_ hS1 hl)
  rw [hf, ← xe_O (kI := kI) (kS := kS) (kL := kL) ho, xW_set (by omega)] at hP1
  exact hP1
theorem y_iald (C : Cx p s m args meth cd cc nL ret own D ad kI kS kL A) {c n : Nat} {i v : Int32} (ha : isA c) (hn : alen c = n) (hi : vp_in i n) (hv : μ c i.toNatClampNeg = v) (hdg : decode cc pc = .ok (.iaload, 1)) (kk : Y p l e R s m args below meth cd D ad kI kS kL A nL cells slots Q (pc + 1) lv (.int v :: st) μ) : Y p l e R s m args below meth cd D ad kI kS kL A nL cells slots Q pc lv (.int i :: .ref (ad c) :: st) μ := by
  subst hv; subst hn
  exact fun H locs ls hP hS hl => va_iald C.1.1 C.1.2.1 C.2.1 hP c 0 (by rw [xW_get (by omega), xe_A ha]) rfl hi hdg (kk H locs ls hP hS hl)
theorem y_ialdN (C : Cx p s m args meth cd cc nL ret own D ad kI kS kL A) {c n j : Nat} {v : Int32} (ha : isA c) (hn : alen c = n) (hj : j < n) (hs : n < 1000) (hv : μ c j = v) (hdg : decode cc pc = .ok (.iaload, 1)) (kk : Y p l e R s m args below meth cd D ad kI kS kL A nL cells slots Q (pc + 1) lv (.int v :: st) μ) : Y p l e R s m args below meth cd D ad kI kS kL A nL cells slots Q pc lv (.int (nI j) :: .ref (ad c) :: st) μ :=
  y_iald C ha hn (vp_in_nI hj (by omega)) (by rw [nI_clamp (by omega)]; exact hv) hdg kk
theorem y_iast (C : Cx p s m args meth cd cc nL ret own D ad kI kS kL A) {c n : Nat} {i v : Int32} (ha : isA c) (hn : alen c = n) (hi : vp_in i n) (hdg : decode cc pc = .ok (.iastore, 1)) (kk : Y p l e R s m args below meth cd D ad kI kS kL A nL cells slots Q (pc + 1) lv (st) (mu μ c i.toNatClampNeg v)) : Y p l e R s m args below meth cd D ad kI kS kL A nL cells slots Q pc lv (.int v :: .int i :: .ref (ad c) :: st) μ := by
  subst hn
  intro H locs ls hP hS hl
  have hD : va_D A (xW ad kI kS kL μ) := xW_D C.2.2.1 C.2.2.2.1
  refine va_iast C.1.1 C.1.2.1 C.2.1 hP hD hS c 0 (by rw [xW_get (by omega), xe_A ha]) rfl hi hdg (fun H1 locs1 hP1 _ hS1 => kk H1 locs1 ls ?_ hS1 hl)
  rw [← xe_A (kI := kI) (kS := kS) (kL := kL) ha, xW_set (by omega)] at hP1
  exact hP1
theorem y_iastN (C : Cx p s m args meth cd cc nL ret own D ad kI kS kL A) {c n j : Nat} {v : Int32} (ha : isA c) (hn : alen c = n) (hj : j < n) (hs : n < 1000) (hdg : decode cc pc = .ok (.iastore, 1)) (kk : Y p l e R s m args below meth cd D ad kI kS kL A nL cells slots Q (pc + 1) lv (st) (mu μ c j v)) : Y p l e R s m args below meth cd D ad kI kS kL A nL cells slots Q pc lv (.int v :: .int (nI j) :: .ref (ad c) :: st) μ :=
  y_iast C ha hn (vp_in_nI hj (by omega)) hdg (by rw [nI_clamp (by omega)]; exact kk)
theorem y_alen (C : Cx p s m args meth cd cc nL ret own D ad kI kS kL A) {c n : Nat} (ha : isA c) (hn : alen c = n) (hdg : decode cc pc = .ok (.arraylength, 1)) (kk : Y p l e R s m args below meth cd D ad kI kS kL A nL cells slots Q (pc + 1) lv (.int (nI n) :: st) μ) : Y p l e R s m args below meth cd D ad kI kS kL A nL cells slots Q pc lv (.ref (ad c) :: st) μ := by
  subst hn
  exact fun H locs ls hP hS hl => va_alen (x := (alen c, .inl (μ c))) C.1.1 C.1.2.1 C.2.1 hP c 0 (by rw [xW_get (by omega), xe_A ha]) rfl rfl hdg (kk H locs ls hP hS hl)
theorem y_alenS (C : Cx p s m args meth cd cc nL ret own D ad kI kS kL A) (hdg : decode cc pc = .ok (.arraylength, 1)) (kk : Y p l e R s m args below meth cd D ad kI kS kL A nL cells slots Q (pc + 1) lv (.int (nI 4) :: st) μ) : Y p l e R s m args below meth cd D ad kI kS kL A nL cells slots Q pc lv (.ref (ad 4) :: st) μ :=
  fun H locs ls hP hS hl => va_alen (x := (4, .inr (.inr (.inr (.inr (fun j => some (ad (14 + j)))))))) C.1.1 C.1.2.1 C.2.1 hP 4 1 (by rw [xW_get (by omega), xe_S]) rfl rfl hdg (kk H locs ls hP hS hl)
theorem y_alenL (C : Cx p s m args meth cd cc nL ret own D ad kI kS kL A) {c : Nat} (h : c = 5 ∨ c = 6) (hdg : decode cc pc = .ok (.arraylength, 1)) (kk : Y p l e R s m args below meth cd D ad kI kS kL A nL cells slots Q (pc + 1) lv (.int (nI 4) :: st) μ) : Y p l e R s m args below meth cd D ad kI kS kL A nL cells slots Q pc lv (.ref (ad c) :: st) μ :=
  fun H locs ls hP hS hl => va_alen (x := (4, .inr (.inr (.inr (.inr (fun j => some (ad (4 * (c - 4) + 18 + j)))))))) C.1.1 C.1.2.1 C.2.1 hP c 2 (by rw [xW_get (by omega), xe_L h]) rfl rfl hdg (kk H locs ls hP hS hl)
theorem y_aaldS (C : Cx p s m args meth cd cc nL ret own D ad kI kS kL A) {j : Nat} (hj : j < 4) (hdg : decode cc pc = .ok (.aaload, 1)) (kk : Y p l e R s m args below meth cd D ad kI kS kL A nL cells slots Q (pc + 1) lv (.ref (ad (14 + j)) :: st) μ) : Y p l e R s m args below meth cd D ad kI kS kL A nL cells slots Q pc lv (.int (nI j) :: .ref (ad 4) :: st) μ :=
  fun H locs ls hP hS hl => va_aldq C.1.1 C.1.2.1 C.2.1 hP 4 1 (by rw [xW_get (by omega), xe_S]) rfl (vp_in_nI hj (by omega)) hdg (by rw [nI_clamp (by omega)]; exact kk H locs ls hP hS hl)
theorem y_aaldL (C : Cx p s m args meth cd cc nL ret own D ad kI kS kL A) {c j : Nat} (h : c = 5 ∨ c = 6) (hj : j < 4) (hdg : decode cc pc = .ok (.aaload, 1)) (kk : Y p l e R s m args below meth cd D ad kI kS kL A nL cells slots Q (pc + 1) lv (.ref (ad (4 * (c - 4) + 18 + j)) :: st) μ) : Y p l e R s m args below meth cd D ad kI kS kL A nL cells slots Q pc lv (.int (nI j) :: .ref (ad c) :: st) μ :=
  fun H locs ls hP hS hl => va_aldq C.1.1 C.1.2.1 C.2.1 hP c 2 (by rw [xW_get (by omega), xe_L h]) rfl (vp_in_nI hj (by omega)) hdg (by rw [nI_clamp (by omega)]; exact kk H locs ls hP hS hl)
theorem y_iret (C : Cx p s m args meth cd cc nL (some .int) own D ad kI kS kL A) {post : Int32 → Mem → Prop} {v : Int32} (hQ : Q = MQ below (va_Qi post (mB D ad kI kS kL) A) args s cells slots A) (hdg : decode cc pc = .ok (.ireturn, 1)) (h : post v μ) : Y p l e R s m args below meth cd D ad kI kS kL A nL cells slots Q pc lv ([.int v]) μ := by
  subst hQ
  exact fun H locs ls hP hS hl => W.iret (v := v) C.1.1 C.1.2.1 C.2.2.2.2.2.2.1 (fun t ht hW => ⟨⟨v, μ, rfl, h, by unfold mB; rw [ht]; exact hP⟩, hS.F ht⟩) hS.2.2 hdg C.2.2.2.2.2.2.2
theorem y_zret (C : Cx p s m args meth cd cc nL (some .boolean) own D ad kI kS kL A) {post : Int32 → Mem → Prop} {v : Int32} (hQ : Q = MQ below (va_Qi post (mB D ad kI kS kL) A) args s cells slots A) (hdg : decode cc pc = .ok (.ireturn, 1)) (hn : narrow .boolean (.int v) = .int v) (h : post v μ) : Y p l e R s m args below meth cd D ad kI kS kL A nL cells slots Q pc lv ([.int v]) μ := by
  subst hQ
  exact fun H locs ls hP hS hl => W.zret (v := v) C.1.1 C.1.2.1 C.2.2.2.2.2.2.1 hn (fun t ht hW => ⟨⟨v, μ, rfl, h, by unfold mB; rw [ht]; exact hP⟩, hS.F ht⟩) hS.2.2 hdg C.2.2.2.2.2.2.2
theorem y_lret (C : Cx p s m args meth cd cc nL (some .long) own D ad kI kS kL A) {post : Int64 → Mem → Prop} {v : Int64} (hQ : Q = MQ below (va_Ql post (mB D ad kI kS kL) A) args s cells slots A) (hdg : decode cc pc = .ok (.lreturn, 1)) (h : post v μ) : Y p l e R s m args below meth cd D ad kI kS kL A nL cells slots Q pc lv ([.long v]) μ := by
  subst hQ
  exact fun H locs ls hP hS hl => W.lret (v := v) C.1.1 C.1.2.1 C.2.2.2.2.2.2.1 (fun t ht hW => ⟨⟨v, μ, rfl, h, by unfold mB; rw [ht]; exact hP⟩, hS.F ht⟩) hS.2.2 hdg C.2.2.2.2.2.2.2
theorem y_vret (C : Cx p s m args meth cd cc nL none own D ad kI kS kL A) {post : Mem → Prop} (hQ : Q = MQ below (va_Qv post (mB D ad kI kS kL) A) args s cells slots A) (hdg : decode cc pc = .ok (.return_, 1)) (h : post μ) : Y p l e R s m args below meth cd D ad kI kS kL A nL cells slots Q pc lv ([]) μ := by
  subst hQ
  exact fun H locs ls hP hS hl => W.vret C.1.1 C.1.2.1 C.2.2.2.2.2.2.1 (fun t ht hW => ⟨⟨μ, rfl, h, by unfold mB; rw [ht]; exact hP⟩, hS.F ht⟩) hS.2.2 hdg C.2.2.2.2.2.2.2
theorem y_aret {Cn : String} (C : Cx p s m args meth cd cc nL (some (.object Cn)) own D ad kI kS kL A) {post : Option Nat → Mem → Prop} {a : Nat} (hQ : Q = MQ below (va_Qq post (mB D ad kI kS kL) A) args s cells slots A) (hdg : decode cc pc = .ok (.areturn, 1)) (h : post (some a) μ) : Y p l e R s m args below meth cd D ad kI kS kL A nL cells slots Q pc lv ([.ref a]) μ := by
  subst hQ
  exact fun H locs ls hP hS hl => W.aret (v := .ref a) C.1.1 C.1.2.1 C.2.2.2.2.2.2.1 (Or.inl ⟨_, rfl⟩) (Or.inr ⟨_, rfl⟩) (fun t ht hW => ⟨⟨some a, μ, rfl, h, by unfold mB; rw [ht]; exact hP⟩, hS.F ht⟩) hS.2.2 hdg C.2.2.2.2.2.2.2
theorem y_aretN {Cn : String} (C : Cx p s m args meth cd cc nL (some (.object Cn)) own D ad kI kS kL A) {post : Option Nat → Mem → Prop} (hQ : Q = MQ below (va_Qq post (mB D ad kI kS kL) A) args s cells slots A) (hdg : decode cc pc = .ok (.areturn, 1)) (h : post none μ) : Y p l e R s m args below meth cd D ad kI kS kL A nL cells slots Q pc lv ([.null]) μ := by
  subst hQ
  exact fun H locs ls hP hS hl => W.aret (v := .null) C.1.1 C.1.2.1 C.2.2.2.2.2.2.1 (Or.inl ⟨_, rfl⟩) (Or.inl rfl) (fun t ht hW => ⟨⟨none, μ, rfl, h, by unfold mB; rw [ht]; exact hP⟩, hS.F ht⟩) hS.2.2 hdg C.2.2.2.2.2.2.2
theorem y_callVI (C : Cx p s m args meth cd cc nL ret own D ad kI kS kL A) {y : MethodName} {bytes : ByteArray} {maxL n fr lo : Nat} {rt : Option FieldType} {As : List Value} {post : Int32 → Mem → Prop} {idx ci c : Nat} {T : u_T} {N : Nat} (g : CLV own idx y bytes maxL rt n) (hM : MI l D ad kI kS kL y bytes maxL rt fr lo (.ref (ad c) :: As) μ post) (ho : isO ci c) (hcl : vwCl[ci]? = some (y.cls, T, N)) (hn : As.length = n) {st0 : List Value} (hst : st0 = As.reverse ++ .ref (ad c) :: st) (hcat : (st.map fun v => v.category).sum ≤ 8) (hR : fr + 1 ≤ R.frames ∧ 8 + (maxL + 11) + lo ≤ R.locals) (hr0 : cells + 0 ≤ R.cells ∧ slots + 0 ≤ R.slots) (hdg : decode cc pc = .ok (.invokevirtual idx, 3)) (k : ∀ (r : Int32) (μ2 : Mem), post r μ2 → Y p l e R s m args below meth cd D ad kI kS kL A nL cells slots Q (pc + 3) lv (.int r :: st) μ2) : Y p l e R s m args below meth cd D ad kI kS kL A nL cells slots Q pc lv (st0) μ := by
  obtain ⟨g1, g2, g3, g4, g5, g6, g7, g8⟩ := g
  intro H locs ls hP hS hl
  have hA : ∀ q, Aad ad H.size q → A q := fun q h => by
    rcases h with ⟨c, h1, rfl⟩ | h
    · exact C.2.2.2.1 c h1
    · exact C.2.2.2.2.1 q (Nat.le_trans hS.1 h)
  have hpre : ∀ U : State, U.heap = H → s.WarmedH U.vm → va_Pc (.ref (ad c) :: As) (mS D ad kI kS kL μ H.size) (.ref (ad c) :: As).toArray U := fun U hU hW => ⟨rfl, by rw [hU], by rw [hU]; exact hP, va_K.moved hW.alike C.2.1, C.2.2.1, C.2.2.2.2.2.1.warm hW⟩
  refine va_calli (va_runV (As := As) (rest := st) C.1 (hM H.size) (⟨callB_of n C.1.2.2.2.2 (fun w hw => by
    rcases List.mem_cons.mp hw with rfl | hw
    · exact tb_good _ g5
    · exact tb_good w hw) rfl rfl rfl (C.1.2.2.2.2 _ g4) (C.1.2.2.2.2 _ g1) ⟨g6, g7, g8⟩ hR, C.1.2.2.2.2 _ g2, C.1.2.2.2.2 _ g3⟩ : CallW R s args own y.cls idx y bytes maxL rt (W0 y bytes maxL rt) (rmY fr lo) 0 0 n) ⟨mS_blind, va_recv (q0 := c) C.2.1 hP hcl (by rw [xW_get (c := c) (by omega), xe_O ho]), hpre⟩ rfl hn hl.1 hst (lv_room hcat) hdg hr0) hS (fun q _ h => hA q h) hA (fun r u t H1 locs1 ht hvm hw hB hz hk hS1 => k r u hw H1 locs1 ls ?_ hS1 hl)
  unfold mB at hB
  rw [ht] at hB
  exact hB
theorem y_callSI (C : Cx p s m args meth cd cc nL ret own D ad kI kS kL A) {y : MethodName} {bytes : ByteArray} {maxL n fr lo : Nat} {rt : Option FieldType} {As : List Value} {post : Int32 → Mem → Prop} {idx : Nat} (g : CLS own idx y bytes maxL rt n) (hM : MI l D ad kI kS kL y bytes maxL rt fr lo As μ post) (hn : As.length = n) {st0 : List Value} (hst : st0 = As.reverse ++ st) (hcat : (st.map fun v => v.category).sum ≤ 8) (hR : fr + 1 ≤ R.frames ∧ 8 + (maxL + 11) + lo ≤ R.locals) (hr0 : cells + 0 ≤ R.cells ∧ slots + 0 ≤ R.slots) (hdg : decode cc pc = .ok (.invokestatic idx, 3)) (k : ∀ (r : Int32) (μ2 : Mem), post r μ2 → Y p l e R s m args below meth cd D ad kI kS kL A nL cells slots Q (pc + 3) lv (.int r :: st) μ2) : Y p l e R s m args below meth cd D ad kI kS kL A nL cells slots Q pc lv (st0) μ := by
  obtain ⟨g1, g2, g4, g5, g6, g7, g8⟩ := g
  intro H locs ls hP hS hl
  have hA : ∀ q, Aad ad H.size q → A q := fun q h => by
    rcases h with ⟨c, h1, rfl⟩ | h
    · exact C.2.2.2.1 c h1
    · exact C.2.2.2.2.1 q (Nat.le_trans hS.1 h)
  have hpre : ∀ U : State, U.heap = H → s.WarmedH U.vm → va_Pc As (mS D ad kI kS kL μ H.size) (As).toArray U := fun U hU hW => ⟨rfl, by rw [hU], by rw [hU]; exact hP, va_K.moved hW.alike C.2.1, C.2.2.1, C.2.2.2.2.2.1.warm hW⟩
  refine va_calli (va_runS (As := As) (rest := st) C.1 (hM H.size) (⟨callB_of n C.1.2.2.2.2 (fun w hw => by
    rcases List.mem_cons.mp hw with rfl | hw
    · exact tb_good _ g5
    · exact tb_good w hw) rfl rfl rfl (C.1.2.2.2.2 _ g4) (C.1.2.2.2.2 _ g1) ⟨g6, g7, g8⟩ hR, C.1.2.2.2.2 _ g2⟩ : CallB R s args own idx y bytes maxL rt (W0 y bytes maxL rt) (rmY fr lo) 0 0 n ∧ (Cond.static y).before args s = true) ⟨mS_blind, hpre⟩ rfl hn hl.1 hst (lv_room hcat) hdg hr0) hS (fun q _ h => hA q h) hA (fun r u t H1 locs1 ht hvm hw hB hz hk hS1 => k r u hw H1 locs1 ls ?_ hS1 hl)
  unfold mB at hB
  rw [ht] at hB
  exact hB
theorem y_callTI (C : Cx p s m args meth cd cc nL ret own D ad kI kS kL A) {y : MethodName} {bytes : ByteArray} {maxL n fr lo : Nat} {rt : Option FieldType} {As : List Value} {post : Int32 → Mem → Prop} {idx : Nat} {host : String} (hNl : va_Nw (.methodLinkNest own idx y host) s) (g : CLT y bytes maxL rt n) (hM : MI l D ad kI kS kL y bytes maxL rt fr lo As μ post) (hn : As.length = n) {st0 : List Value} (hst : st0 = As.reverse ++ st) (hcat : (st.map fun v => v.category).sum ≤ 8) (hR : fr + 1 ≤ R.frames ∧ 8 + (maxL + 11) + lo ≤ R.locals) (hr0 : cells + 0 ≤ R.cells ∧ slots + 0 ≤ R.slots) (hdg : decode cc pc = .ok (.invokestatic idx, 3)) (k : ∀ (r : Int32) (μ2 : Mem), post r μ2 → Y p l e R s m args below meth cd D ad kI kS kL A nL cells slots Q (pc + 3) lv (.int r :: st) μ2) : Y p l e R s m args below meth cd D ad kI kS kL A nL cells slots Q pc lv (st0) μ := by
  obtain ⟨g2, g4, g5, g6, g7, g8⟩ := g
  intro H locs ls hP hS hl
  have hA : ∀ q, Aad ad H.size q → A q := fun q h => by
    rcases h with ⟨c, h1, rfl⟩ | h
    · exact C.2.2.2.1 c h1
    · exact C.2.2.2.2.1 q (Nat.le_trans hS.1 h)
  have hpre : ∀ U : State, U.heap = H → s.WarmedH U.vm → va_Pc As (mS D ad kI kS kL μ H.size) (As).toArray U := fun U hU hW => ⟨rfl, by rw [hU], by rw [hU]; exact hP, va_K.moved hW.alike C.2.1, C.2.2.1, C.2.2.2.2.2.1.warm hW⟩
  refine va_calli (va_runSN (As := As) (rest := st) C.1 (hM H.size) (⟨va_cnB n C.1.2.2.2.2 (fun w hw => by
    rcases List.mem_cons.mp hw with rfl | hw
    · exact tb_good _ g5
    · exact tb_good w hw) rfl rfl rfl hNl (C.1.2.2.2.2 _ g4) ⟨g6, g7, g8⟩ hR, C.1.2.2.2.2 _ g2, trivial⟩ : va_CN R s args own idx y host bytes maxL rt (W0 y bytes maxL rt) (rmY fr lo) 0 0 n ∧ (Cond.static y).before args s = true ∧ True) ⟨mS_blind, hpre⟩ rfl hn hl.1 hst (lv_room hcat) hdg hr0) hS (fun q _ h => hA q h) hA (fun r u t H1 locs1 ht hvm hw hB hz hk hS1 => k r u hw H1 locs1 ls ?_ hS1 hl)
  unfold mB at hB
  rw [ht] at hB
  exact hB
theorem y_callVL (C : Cx p s m args meth cd cc nL ret own D ad kI kS kL A) {y : MethodName} {bytes : ByteArray} {maxL n fr lo : Nat} {rt : Option FieldType} {As : List Value} {post : Int64 → Mem → Prop} {idx ci c : Nat} {T : u_T} {N : Nat} (g : CLV own idx y bytes maxL rt n) (hM : ML l D ad kI kS kL y bytes maxL rt fr lo (.ref (ad c) :: As) μ post) (ho : isO ci c) (hcl : vwCl[ci]? = some (y.cls, T, N)) (hn : As.length = n) {st0 : List Value} (hst : st0 = As.reverse ++ .ref (ad c) :: st) (hcat : (st.map fun v => v.category).sum ≤ 8) (hR : fr + 1 ≤ R.frames ∧ 8 + (maxL + 11) + lo ≤ R.locals) (hr0 : cells + 0 ≤ R.cells ∧ slots + 0 ≤ R.slots) (hdg : decode cc pc = .ok (.invokevirtual idx, 3)) (k : ∀ (r : Int64) (μ2 : Mem), post r μ2 → Y p l e R s m args below meth cd D ad kI kS kL A nL cells slots Q (pc + 3) lv (.long r :: st) μ2) : Y p l e R s m args below meth cd D ad kI kS kL A nL cells slots Q pc lv (st0) μ := by
  obtain ⟨g1, g2, g3, g4, g5, g6, g7, g8⟩ := g
  intro H locs ls hP hS hl
  have hA : ∀ q, Aad ad H.size q → A q := fun q h => by
    rcases h with ⟨c, h1, rfl⟩ | h
    · exact C.2.2.2.1 c h1
    · exact C.2.2.2.2.1 q (Nat.le_trans hS.1 h)
  have hpre : ∀ U : State, U.heap = H → s.WarmedH U.vm → va_Pc (.ref (ad c) :: As) (mS D ad kI kS kL μ H.size) (.ref (ad c) :: As).toArray U := fun U hU hW => ⟨rfl, by rw [hU], by rw [hU]; exact hP, va_K.moved hW.alike C.2.1, C.2.2.1, C.2.2.2.2.2.1.warm hW⟩
  refine va_calll (va_runV (As := As) (rest := st) C.1 (hM H.size) (⟨callB_of n C.1.2.2.2.2 (fun w hw => by
    rcases List.mem_cons.mp hw with rfl | hw
    · exact tb_good _ g5
    · exact tb_good w hw) rfl rfl rfl (C.1.2.2.2.2 _ g4) (C.1.2.2.2.2 _ g1) ⟨g6, g7, g8⟩ hR, C.1.2.2.2.2 _ g2, C.1.2.2.2.2 _ g3⟩ : CallW R s args own y.cls idx y bytes maxL rt (W0 y bytes maxL rt) (rmY fr lo) 0 0 n) ⟨mS_blind, va_recv (q0 := c) C.2.1 hP hcl (by rw [xW_get (c := c) (by omega), xe_O ho]), hpre⟩ rfl hn hl.1 hst (lv_room hcat) hdg hr0) hS (fun q _ h => hA q h) hA (fun r u t H1 locs1 ht hvm hw hB hz hk hS1 => k r u hw H1 locs1 ls ?_ hS1 hl)
  unfold mB at hB
  rw [ht] at hB
  exact hB
theorem y_callSL (C : Cx p s m args meth cd cc nL ret own D ad kI kS kL A) {y : MethodName} {bytes : ByteArray} {maxL n fr lo : Nat} {rt : Option FieldType} {As : List Value} {post : Int64 → Mem → Prop} {idx : Nat} (g : CLS own idx y bytes maxL rt n) (hM : ML l D ad kI kS kL y bytes maxL rt fr lo As μ post) (hn : As.length = n) {st0 : List Value} (hst : st0 = As.reverse ++ st) (hcat : (st.map fun v => v.category).sum ≤ 8) (hR : fr + 1 ≤ R.frames ∧ 8 + (maxL + 11) + lo ≤ R.locals) (hr0 : cells + 0 ≤ R.cells ∧ slots + 0 ≤ R.slots) (hdg : decode cc pc = .ok (.invokestatic idx, 3)) (k : ∀ (r : Int64) (μ2 : Mem), post r μ2 → Y p l e R s m args below meth cd D ad kI kS kL A nL cells slots Q (pc + 3) lv (.long r :: st) μ2) : Y p l e R s m args below meth cd D ad kI kS kL A nL cells slots Q pc lv (st0) μ := by
  obtain ⟨g1, g2, g4, g5, g6, g7, g8⟩ := g
  intro H locs ls hP hS hl
  have hA : ∀ q, Aad ad H.size q → A q := fun q h => by
    rcases h with ⟨c, h1, rfl⟩ | h
    · exact C.2.2.2.1 c h1
    · exact C.2.2.2.2.1 q (Nat.le_trans hS.1 h)
  have hpre : ∀ U : State, U.heap = H → s.WarmedH U.vm → va_Pc As (mS D ad kI kS kL μ H.size) (As).toArray U := fun U hU hW => ⟨rfl, by rw [hU], by rw [hU]; exact hP, va_K.moved hW.alike C.2.1, C.2.2.1, C.2.2.2.2.2.1.warm hW⟩
  refine va_calll (va_runS (As := As) (rest := st) C.1 (hM H.size) (⟨callB_of n C.1.2.2.2.2 (fun w hw => by
    rcases List.mem_cons.mp hw with rfl | hw
    · exact tb_good _ g5
    · exact tb_good w hw) rfl rfl rfl (C.1.2.2.2.2 _ g4) (C.1.2.2.2.2 _ g1) ⟨g6, g7, g8⟩ hR, C.1.2.2.2.2 _ g2⟩ : CallB R s args own idx y bytes maxL rt (W0 y bytes maxL rt) (rmY fr lo) 0 0 n ∧ (Cond.static y).before args s = true) ⟨mS_blind, hpre⟩ rfl hn hl.1 hst (lv_room hcat) hdg hr0) hS (fun q _ h => hA q h) hA (fun r u t H1 locs1 ht hvm hw hB hz hk hS1 => k r u hw H1 locs1 ls ?_ hS1 hl)
  unfold mB at hB
  rw [ht] at hB
  exact hB
theorem y_callVV (C : Cx p s m args meth cd cc nL ret own D ad kI kS kL A) {y : MethodName} {bytes : ByteArray} {maxL n fr lo : Nat} {rt : Option FieldType} {As : List Value} {post : Mem → Prop} {idx ci c : Nat} {T : u_T} {N : Nat} (g : CLV own idx y bytes maxL rt n) (hM : MV l D ad kI kS kL y bytes maxL rt fr lo (.ref (ad c) :: As) μ post) (ho : isO ci c) (hcl : vwCl[ci]? = some (y.cls, T, N)) (hn : As.length = n) {st0 : List Value} (hst : st0 = As.reverse ++ .ref (ad c) :: st) (hcat : (st.map fun v => v.category).sum ≤ 8) (hR : fr + 1 ≤ R.frames ∧ 8 + (maxL + 11) + lo ≤ R.locals) (hr0 : cells + 0 ≤ R.cells ∧ slots + 0 ≤ R.slots) (hdg : decode cc pc = .ok (.invokevirtual idx, 3)) (k : ∀ (μ2 : Mem), post μ2 → Y p l e R s m args below meth cd D ad kI kS kL A nL cells slots Q (pc + 3) lv (st) μ2) : Y p l e R s m args below meth cd D ad kI kS kL A nL cells slots Q pc lv (st0) μ := by
  obtain ⟨g1, g2, g3, g4, g5, g6, g7, g8⟩ := g
  intro H locs ls hP hS hl
  have hA : ∀ q, Aad ad H.size q → A q := fun q h => by
    rcases h with ⟨c, h1, rfl⟩ | h
    · exact C.2.2.2.1 c h1
    · exact C.2.2.2.2.1 q (Nat.le_trans hS.1 h)
  have hpre : ∀ U : State, U.heap = H → s.WarmedH U.vm → va_Pc (.ref (ad c) :: As) (mS D ad kI kS kL μ H.size) (.ref (ad c) :: As).toArray U := fun U hU hW => ⟨rfl, by rw [hU], by rw [hU]; exact hP, va_K.moved hW.alike C.2.1, C.2.2.1, C.2.2.2.2.2.1.warm hW⟩
  refine va_callv (va_runV (As := As) (rest := st) C.1 (hM H.size) (⟨callB_of n C.1.2.2.2.2 (fun w hw => by
    rcases List.mem_cons.mp hw with rfl | hw
    · exact tb_good _ g5
    · exact tb_good w hw) rfl rfl rfl (C.1.2.2.2.2 _ g4) (C.1.2.2.2.2 _ g1) ⟨g6, g7, g8⟩ hR, C.1.2.2.2.2 _ g2, C.1.2.2.2.2 _ g3⟩ : CallW R s args own y.cls idx y bytes maxL rt (W0 y bytes maxL rt) (rmY fr lo) 0 0 n) ⟨mS_blind, va_recv (q0 := c) C.2.1 hP hcl (by rw [xW_get (c := c) (by omega), xe_O ho]), hpre⟩ rfl hn hl.1 hst (lv_room hcat) hdg hr0) hS (fun q _ h => hA q h) hA (fun u t H1 locs1 ht hvm hw hB hz hk hS1 => k u hw H1 locs1 ls ?_ hS1 hl)
  unfold mB at hB
  rw [ht] at hB
  exact hB
theorem y_callSV (C : Cx p s m args meth cd cc nL ret own D ad kI kS kL A) {y : MethodName} {bytes : ByteArray} {maxL n fr lo : Nat} {rt : Option FieldType} {As : List Value} {post : Mem → Prop} {idx : Nat} (g : CLS own idx y bytes maxL rt n) (hM : MV l D ad kI kS kL y bytes maxL rt fr lo As μ post) (hn : As.length = n) {st0 : List Value} (hst : st0 = As.reverse ++ st) (hcat : (st.map fun v => v.category).sum ≤ 8) (hR : fr + 1 ≤ R.frames ∧ 8 + (maxL + 11) + lo ≤ R.locals) (hr0 : cells + 0 ≤ R.cells ∧ slots + 0 ≤ R.slots) (hdg : decode cc pc = .ok (.invokestatic idx, 3)) (k : ∀ (μ2 : Mem), post μ2 → Y p l e R s m args below meth cd D ad kI kS kL A nL cells slots Q (pc + 3) lv (st) μ2) : Y p l e R s m args below meth cd D ad kI kS kL A nL cells slots Q pc lv (st0) μ := by
  obtain ⟨g1, g2, g4, g5, g6, g7, g8⟩ := g
  intro H locs ls hP hS hl
  have hA : ∀ q, Aad ad H.size q → A q := fun q h => by
    rcases h with ⟨c, h1, rfl⟩ | h
    · exact C.2.2.2.1 c h1
    · exact C.2.2.2.2.1 q (Nat.le_trans hS.1 h)
  have hpre : ∀ U : State, U.heap = H → s.WarmedH U.vm → va_Pc As (mS D ad kI kS kL μ H.size) (As).toArray U := fun U hU hW => ⟨rfl, by rw [hU], by rw [hU]; exact hP, va_K.moved hW.alike C.2.1, C.2.2.1, C.2.2.2.2.2.1.warm hW⟩
  refine va_callv (va_runS (As := As) (rest := st) C.1 (hM H.size) (⟨callB_of n C.1.2.2.2.2 (fun w hw => by
    rcases List.mem_cons.mp hw with rfl | hw
    · exact tb_good _ g5
    · exact tb_good w hw) rfl rfl rfl (C.1.2.2.2.2 _ g4) (C.1.2.2.2.2 _ g1) ⟨g6, g7, g8⟩ hR, C.1.2.2.2.2 _ g2⟩ : CallB R s args own idx y bytes maxL rt (W0 y bytes maxL rt) (rmY fr lo) 0 0 n ∧ (Cond.static y).before args s = true) ⟨mS_blind, hpre⟩ rfl hn hl.1 hst (lv_room hcat) hdg hr0) hS (fun q _ h => hA q h) hA (fun u t H1 locs1 ht hvm hw hB hz hk hS1 => k u hw H1 locs1 ls ?_ hS1 hl)
  unfold mB at hB
  rw [ht] at hB
  exact hB
theorem y_callVN (C : Cx p s m args meth cd cc nL ret own D ad kI kS kL A) {y : MethodName} {bytes : ByteArray} {maxL n fr lo : Nat} {rt : Option FieldType} {As : List Value} {post : Option Nat → Mem → Prop} {idx ci c : Nat} {T : u_T} {N : Nat} (g : CLV own idx y bytes maxL rt n) (hM : MN l D ad kI kS kL y bytes maxL rt fr lo (.ref (ad c) :: As) μ post) (ho : isO ci c) (hcl : vwCl[ci]? = some (y.cls, T, N)) (hn : As.length = n) {st0 : List Value} (hst : st0 = As.reverse ++ .ref (ad c) :: st) (hcat : (st.map fun v => v.category).sum ≤ 8) (hR : fr + 1 ≤ R.frames ∧ 8 + (maxL + 11) + lo ≤ R.locals) (hr0 : cells + 0 ≤ R.cells ∧ slots + 0 ≤ R.slots) (hdg : decode cc pc = .ok (.invokevirtual idx, 3)) (k : ∀ (r : Option Nat) (μ2 : Mem), post r μ2 → Y p l e R s m args below meth cd D ad kI kS kL A nL cells slots Q (pc + 3) lv (va_rf r :: st) μ2) : Y p l e R s m args below meth cd D ad kI kS kL A nL cells slots Q pc lv (st0) μ := by
  obtain ⟨g1, g2, g3, g4, g5, g6, g7, g8⟩ := g
  intro H locs ls hP hS hl
  have hA : ∀ q, Aad ad H.size q → A q := fun q h => by
    rcases h with ⟨c, h1, rfl⟩ | h
    · exact C.2.2.2.1 c h1
    · exact C.2.2.2.2.1 q (Nat.le_trans hS.1 h)
  have hpre : ∀ U : State, U.heap = H → s.WarmedH U.vm → va_Pc (.ref (ad c) :: As) (mS D ad kI kS kL μ H.size) (.ref (ad c) :: As).toArray U := fun U hU hW => ⟨rfl, by rw [hU], by rw [hU]; exact hP, va_K.moved hW.alike C.2.1, C.2.2.1, C.2.2.2.2.2.1.warm hW⟩
  refine va_callq (va_runV (As := As) (rest := st) C.1 (hM H.size) (⟨callB_of n C.1.2.2.2.2 (fun w hw => by
    rcases List.mem_cons.mp hw with rfl | hw
    · exact tb_good _ g5
    · exact tb_good w hw) rfl rfl rfl (C.1.2.2.2.2 _ g4) (C.1.2.2.2.2 _ g1) ⟨g6, g7, g8⟩ hR, C.1.2.2.2.2 _ g2, C.1.2.2.2.2 _ g3⟩ : CallW R s args own y.cls idx y bytes maxL rt (W0 y bytes maxL rt) (rmY fr lo) 0 0 n) ⟨mS_blind, va_recv (q0 := c) C.2.1 hP hcl (by rw [xW_get (c := c) (by omega), xe_O ho]), hpre⟩ rfl hn hl.1 hst (lv_room hcat) hdg hr0) hS (fun q _ h => hA q h) hA (fun r u t H1 locs1 ht hvm hw hB hz hk hS1 => k r u hw H1 locs1 ls ?_ hS1 hl)
  unfold mB at hB
  rw [ht] at hB
  exact hB
theorem y_callSN (C : Cx p s m args meth cd cc nL ret own D ad kI kS kL A) {y : MethodName} {bytes : ByteArray} {maxL n fr lo : Nat} {rt : Option FieldType} {As : List Value} {post : Option Nat → Mem → Prop} {idx : Nat} (g : CLS own idx y bytes maxL rt n) (hM : MN l D ad kI kS kL y bytes maxL rt fr lo As μ post) (hn : As.length = n) {st0 : List Value} (hst : st0 = As.reverse ++ st) (hcat : (st.map fun v => v.category).sum ≤ 8) (hR : fr + 1 ≤ R.frames ∧ 8 + (maxL + 11) + lo ≤ R.locals) (hr0 : cells + 0 ≤ R.cells ∧ slots + 0 ≤ R.slots) (hdg : decode cc pc = .ok (.invokestatic idx, 3)) (k : ∀ (r : Option Nat) (μ2 : Mem), post r μ2 → Y p l e R s m args below meth cd D ad kI kS kL A nL cells slots Q (pc + 3) lv (va_rf r :: st) μ2) : Y p l e R s m args below meth cd D ad kI kS kL A nL cells slots Q pc lv (st0) μ := by
  obtain ⟨g1, g2, g4, g5, g6, g7, g8⟩ := g
  intro H locs ls hP hS hl
  have hA : ∀ q, Aad ad H.size q → A q := fun q h => by
    rcases h with ⟨c, h1, rfl⟩ | h
    · exact C.2.2.2.1 c h1
    · exact C.2.2.2.2.1 q (Nat.le_trans hS.1 h)
  have hpre : ∀ U : State, U.heap = H → s.WarmedH U.vm → va_Pc As (mS D ad kI kS kL μ H.size) (As).toArray U := fun U hU hW => ⟨rfl, by rw [hU], by rw [hU]; exact hP, va_K.moved hW.alike C.2.1, C.2.2.1, C.2.2.2.2.2.1.warm hW⟩
  refine va_callq (va_runS (As := As) (rest := st) C.1 (hM H.size) (⟨callB_of n C.1.2.2.2.2 (fun w hw => by
    rcases List.mem_cons.mp hw with rfl | hw
    · exact tb_good _ g5
    · exact tb_good w hw) rfl rfl rfl (C.1.2.2.2.2 _ g4) (C.1.2.2.2.2 _ g1) ⟨g6, g7, g8⟩ hR, C.1.2.2.2.2 _ g2⟩ : CallB R s args own idx y bytes maxL rt (W0 y bytes maxL rt) (rmY fr lo) 0 0 n ∧ (Cond.static y).before args s = true) ⟨mS_blind, hpre⟩ rfl hn hl.1 hst (lv_room hcat) hdg hr0) hS (fun q _ h => hA q h) hA (fun r u t H1 locs1 ht hvm hw hB hz hk hS1 => k r u hw H1 locs1 ls ?_ hS1 hl)
  unfold mB at hB
  rw [ht] at hB
  exact hB
theorem y_mmin (C : Cx p s m args meth cd cc nL ret own D ad kI kS kL A) {x y v : Int32} {idx : Nat} (g : Cond.methodLink own idx Lib.Math.min.name ∈ TB) (hf : 1 ≤ R.frames) (hlo : (st.map fun v => v.category).sum + 13 ≤ R.locals) (hr0 : cells ≤ R.cells ∧ slots ≤ R.slots) (hv : (if y < x then y else x) = v) (hdg : decode cc pc = .ok (.invokestatic idx, 3)) (kk : Y p l e R s m args below meth cd D ad kI kS kL A nL cells slots Q (pc + 3) lv (.int v :: st) μ) : Y p l e R s m args below meth cd D ad kI kS kL A nL cells slots Q pc lv (.int y :: .int x :: st) μ := by
  subst hv
  exact fun H locs ls hP hS hl => va_mmin C.1.1 C.1.2.1 (C.1.2.2.1.trans hl.1.symm) C.1.2.2.2.1 (C.1.2.2.2.2 _ g) (C.1.2.2.2.2 _ mm_min_s) (C.1.2.2.2.2 _ mm_i) (C.1.2.2.2.2 _ mm_min_c) hf hlo hr0.1 hr0.2 hdg (kk H locs ls hP hS hl)
theorem y_mabs (C : Cx p s m args meth cd cc nL ret own D ad kI kS kL A) {x v : Int32} {idx : Nat} (g : Cond.methodLink own idx Lib.Math.abs.name ∈ TB) (hf : 1 ≤ R.frames) (hlo : (st.map fun v => v.category).sum + 13 ≤ R.locals) (hr0 : cells ≤ R.cells ∧ slots ≤ R.slots) (hv : (if 0 ≤ x then x else 0 - x) = v) (hdg : decode cc pc = .ok (.invokestatic idx, 3)) (kk : Y p l e R s m args below meth cd D ad kI kS kL A nL cells slots Q (pc + 3) lv (.int v :: st) μ) : Y p l e R s m args below meth cd D ad kI kS kL A nL cells slots Q pc lv (.int x :: st) μ := by
  subst hv
  exact fun H locs ls hP hS hl => va_mabs C.1.1 C.1.2.1 (C.1.2.2.1.trans hl.1.symm) C.1.2.2.2.1 (C.1.2.2.2.2 _ g) (C.1.2.2.2.2 _ mm_abs_s) (C.1.2.2.2.2 _ mm_i) (C.1.2.2.2.2 _ mm_abs_c) hf hlo hr0.1 hr0.2 hdg (kk H locs ls hP hS hl)
theorem y_copyi (C : Cx p s m args meth cd cc nL ret own D ad kI kS kL A) {idx c0 c1 n0 n1 : Nat} {sp dp n : Int32} (g : Cond.methodLink own idx arraycopyName ∈ TB) (ha0 : isA c0) (hn0 : alen c0 = n0) (ha1 : isA c1) (hn1 : alen c1 = n1) (h1 : ¬ sp < 0) (h2 : ¬ dp < 0) (h3 : ¬ n < 0) (h4 : sp.toNatClampNeg + n.toNatClampNeg ≤ n0) (h5 : dp.toNatClampNeg + n.toNatClampNeg ≤ n1) (hf : 1 ≤ R.frames) (hlo : (st.map fun v => v.category).sum + (nativeFrameWords "java/lang/System" "arraycopy" 5 + 11) ≤ R.locals) (hdg : decode cc pc = .ok (.invokestatic idx, 3)) (kk : Y p l e R s m args below meth cd D ad kI kS kL A nL cells slots Q (pc + 3) lv (st) (mr μ c1 (va_cpy (μ c0) (μ c1) sp.toNatClampNeg dp.toNatClampNeg n.toNatClampNeg))) : Y p l e R s m args below meth cd D ad kI kS kL A nL cells slots Q pc lv (.int n :: .int dp :: .ref (ad c1) :: .int sp :: .ref (ad c0) :: st) μ := by
  subst hn0; subst hn1
  intro H locs ls hP hS hl
  have hD : va_D A (xW ad kI kS kL μ) := xW_D C.2.2.1 C.2.2.2.1
  refine va_copyi C.1.1 C.1.2.1 (C.1.2.2.1.trans hl.1.symm) C.1.2.2.2.1 (C.1.2.2.2.2 _ g) (C.1.2.2.2.2 _ ac_n) (C.1.2.2.2.2 _ ac_s) (C.1.2.2.2.2 _ ac_i) C.2.1 hP hD hS c0 c1 0 0 (ty := .int) (by rw [xW_get (c := c0) (by omega), xe_A ha0]) (by rw [xW_get (c := c1) (by omega), xe_A ha1]) rfl rfl rfl h1 h2 h3 h4 h5 (fun _ _ => rfl) hf hlo hdg (fun H1 locs1 hP1 _ hS1 => kk H1 locs1 ls ?_ hS1 hl)
  rw [← xe_A (kI := kI) (kS := kS) (kL := kL) ha1, xW_setr (by omega)] at hP1
  exact hP1
theorem y_getiN (C : Cx p s m args meth cd cc nL ret own D ad kI kS kL A) {idx ci k c N : Nat} {v : Int32} {Cn host : String} {T : u_T} (hw : ∀ w ∈ u_ws Cn T N, w ∈ TB) (hcl : vwCl[ci]? = some (Cn, T, N)) (hk : k < N) (hsm : ∀ x, s.fieldFound? (T k).1 (T k).2.1 (T k).2.2.1 = some x → s.fieldFound? Cn (T k).2.1 (T k).2.2.1 = some x) (hz : va_Nw (.fieldLinkNest own idx Cn (T k).2.1 (T k).2.2.1 host) s) (ho : isO ci c) (hf : (fl ad ci c (μ c))[k]? = some (.int (μ c k))) (hv : μ c k = v) (hdg : decode cc pc = .ok (.getfield idx, 3)) (kk : Y p l e R s m args below meth cd D ad kI kS kL A nL cells slots Q (pc + 3) lv (.int v :: st) μ) : Y p l e R s m args below meth cd D ad kI kS kL A nL cells slots Q pc lv (.ref (ad c) :: st) μ := by
  subst hv
  exact fun H locs ls hP hS hl => va_getN C.1.1 C.1.2.1 C.1.2.2.2.2 hw C.1.2.2.2.1 C.2.1 hP c (by rw [xW_get (by omega), xe_O ho]) hcl k hk (hz.use rfl) hsm hf hdg (kk H locs ls hP hS hl)
theorem y_getrN (C : Cx p s m args meth cd cc nL ret own D ad kI kS kL A) {idx ci k c N d : Nat} {Cn host : String} {T : u_T} (hw : ∀ w ∈ u_ws Cn T N, w ∈ TB) (hcl : vwCl[ci]? = some (Cn, T, N)) (hk : k < N) (hsm : ∀ x, s.fieldFound? (T k).1 (T k).2.1 (T k).2.2.1 = some x → s.fieldFound? Cn (T k).2.1 (T k).2.2.1 = some x) (hz : va_Nw (.fieldLinkNest own idx Cn (T k).2.1 (T k).2.2.1 host) s) (ho : isO ci c) (hf : (fl ad ci c (μ c))[k]? = some (.ref (ad d))) (hdg : decode cc pc = .ok (.getfield idx, 3)) (kk : Y p l e R s m args below meth cd D ad kI kS kL A nL cells slots Q (pc + 3) lv (.ref (ad d) :: st) μ) : Y p l e R s m args below meth cd D ad kI kS kL A nL cells slots Q pc lv (.ref (ad c) :: st) μ :=
  fun H locs ls hP hS hl => va_getN C.1.1 C.1.2.1 C.1.2.2.2.2 hw C.1.2.2.2.1 C.2.1 hP c (by rw [xW_get (by omega), xe_O ho]) hcl k hk (hz.use rfl) hsm hf hdg (kk H locs ls hP hS hl)
end ROWS
end
section
/-! plain facts of ints -/
def inB (x : Int32) (n : Nat) : Bool := decide (0 ≤ x.toInt ∧ x.toInt < (n : Int))
theorem inB_t {x : Int32} {n : Nat} (h : 0 ≤ x.toInt ∧ x.toInt < (n : Int)) : inB x n = true := decide_eq_true h
theorem inB_f {x : Int32} {n : Nat} (h : x.toInt < 0 ∨ (n : Int) ≤ x.toInt) : inB x n = false := decide_eq_false (by omega)
theorem inB_iff {x : Int32} {n : Nat} : inB x n = true ↔ (0 ≤ x.toInt ∧ x.toInt < (n : Int)) := decide_eq_true_iff
theorem inB_n {x : Int32} {n : Nat} (h : inB x n = false) : x.toInt < 0 ∨ (n : Int) ≤ x.toInt := by
  have := of_decide_eq_false h
  omega
theorem inB_of {x : Int32} {n : Nat} (h : inB x n = true) (hn : n < 2 ^ 31) : ∃ j, j < n ∧ x = nI j := vp_in_of (vp_in_iff.mpr (inB_iff.mp h)) hn
theorem inB_nI {j n : Nat} (h : j < n) (hn : n < 2 ^ 31) : inB (nI j) n = true := inB_t (by rw [nI_toInt (by omega)]; omega)
theorem inB_nI' {j n : Nat} (h : n ≤ j) (hn : j < 2 ^ 31) : inB (nI j) n = false := inB_f (by rw [nI_toInt (by omega)]; omega)
def ix (x : Int32) : Nat := x.toNatClampNeg
theorem ix_nI {j : Nat} (h : j < 2 ^ 31) : ix (nI j) = j := nI_clamp h
/-- an answer that is yes or no -/
def bo (r : Int32) (b : Bool) : Prop := (b = true ∧ r = nI 1) ∨ (b = false ∧ r = nI 0)
theorem i_inc (a : Nat) : nI a + Int32.ofInt 1 = nI (a + 1) := by
  rw [show Int32.ofInt 1 = nI 1 by decide]; exact nI_add a 1
theorem i_dec {a : Nat} (h : 0 < a) : nI a + Int32.ofInt (-1) = nI (a - 1) := by
  obtain ⟨b, rfl⟩ : ∃ b, a = b + 1 := ⟨a - 1, by omega⟩
  rw [show Int32.ofInt (-1) = -1 by decide]
  exact pk_m1 b
theorem i_smod : ∀ b, b < 32 → (((nI b &&& 31).toBitVec).smod 32).toNat = b := by decide +kernel
theorem i_shl {a b : Nat} (hb : b < 32) (h : a * 2 ^ b < 2 ^ 32) : nI a <<< (nI b &&& 31) = nI (a * 2 ^ b) := pk_shlN _ b (i_smod b hb) h
theorem i_shr {a b : Nat} (hb : b < 32) (h : a < 2 ^ 31) : nI a >>> (nI b &&& 31) = nI (a / 2 ^ b) := pk_shrN h _ b (i_smod b hb)
theorem i_and (a b : Nat) : nI a &&& nI b = nI (a &&& b) := by
  apply Int32.toBitVec_inj.mp
  show (BitVec.ofNat 32 a &&& BitVec.ofNat 32 b) = BitVec.ofNat 32 (a &&& b)
  exact (BitVec.ofNat_and).symm
theorem i_or (a b : Nat) : nI a ||| nI b = nI (a ||| b) := by
  apply Int32.toBitVec_inj.mp
  show (BitVec.ofNat 32 a ||| BitVec.ofNat 32 b) = BitVec.ofNat 32 (a ||| b)
  exact (BitVec.ofNat_or).symm
theorem i_rem {a d : Nat} (ha : a < 2 ^ 31) (h0 : 0 < d) (hd : d < 2 ^ 31) : nI a - nI a / nI d * nI d = nI (a % d) := pk_rem ha h0 hd
theorem i_div {a d : Nat} (ha : a < 2 ^ 31) (h0 : 0 < d) (hd : d < 2 ^ 31) : nI a / nI d = nI (a / d) := pk_div ha h0 hd
theorem i_inj {a b : Nat} (ha : a < 2 ^ 31) (hb : b < 2 ^ 31) (h : nI a = nI b) : a = b := (nI_eq ha hb).mp h
/-- longs: their numbers -/
theorem l_i (x : Int32) : x.toInt64.toInt = x.toInt := Int32.toInt_toInt64 x
theorem l_sub {x y : Int64} {a b : Int} (hx : x.toInt = a) (hy : y.toInt = b) (h : -4611686018427387904 < a ∧ a < 4611686018427387904 ∧ -4611686018427387904 < b ∧ b < 4611686018427387904) : (x - y).toInt = a - b := by
  rw [Int64.toInt_sub, hx, hy]
  rw [Int.bmod_eq_of_le] <;> omega
theorem l_add {x y : Int64} {a b : Int} (hx : x.toInt = a) (hy : y.toInt = b) (h : -4611686018427387904 < a ∧ a < 4611686018427387904 ∧ -4611686018427387904 < b ∧ b < 4611686018427387904) : (x + y).toInt = a + b := by
  rw [Int64.toInt_add, hx, hy]
  rw [Int.bmod_eq_of_le] <;> omega
theorem l_cmp {x y : Int64} {a b : Int} (hx : x.toInt = a) (hy : y.toInt = b) : (lg_cmp x y).toInt = if b < a then 1 else if a = b then 0 else -1 := by
  have h1 : y < x ↔ b < a := by rw [Int64.lt_iff_toInt_lt, hx, hy]
  have h2 : x = y ↔ a = b := by rw [← Int64.toInt_inj, hx, hy]
  unfold lg_cmp
  by_cases c1 : y < x
  · rw [if_pos c1, if_pos (h1.mp c1)]; decide
  · rw [if_neg c1, if_neg (fun q => c1 (h1.mpr q))]
    by_cases c2 : x = y
    · rw [if_pos c2, if_pos (h2.mp c2)]; decide
    · rw [if_neg c2, if_neg (fun q => c2 (h2.mpr q))]; decide
end
section
/-! what a town is: rows of whole numbers: 0: places, sleepers; 1 kinds, 2 starts, 3 strides of sleepers; 4 goods of places -/
abbrev Tn : Type := Nat → Nat → Nat
abbrev tP (τ : Tn) : Nat := τ 0 0
abbrev tS (τ : Tn) : Nat := τ 0 1
abbrev tK (τ : Tn) (a : Nat) : Nat := τ 1 a
abbrev tA (τ : Tn) (a : Nat) : Nat := τ 2 a
abbrev tD (τ : Tn) (a : Nat) : Nat := τ 3 a
abbrev tG (τ : Tn) (p : Nat) : Nat := τ 4 p
def tu (τ : Tn) (r i v : Nat) : Tn := fun r' i' => if r' = r ∧ i' = i then v else τ r' i'
theorem tu_at (τ : Tn) (r i v : Nat) : tu τ r i v r i = v := by simp [tu]
theorem tu_r (τ : Tn) {r r' i : Nat} (i' v : Nat) (h : r' ≠ r) : tu τ r i v r' i' = τ r' i' := by simp [tu, h]
theorem tu_i (τ : Tn) {r r' i i' : Nat} (v : Nat) (h : i' ≠ i) : tu τ r i v r' i' = τ r' i' := by simp [tu, h]
/-- what holds of a town that stands (also of one half read) -/
def tB (τ : Tn) : Prop := tP τ ≤ 9 ∧ tS τ ≤ 4 ∧ (∀ a, a < 4 → tK τ a ≤ 2 ∧ tA τ a ≤ 9 ∧ tD τ a ≤ 9) ∧ ∀ p, p < 9 → tG τ p ≤ 9
/-- .. of one that is taken -/
def tV (τ : Tn) : Prop := tB τ ∧ ((tP τ = 0 ∧ tS τ = 0) ∨ (3 ≤ tP τ ∧ 1 ≤ tS τ)) ∧ ∀ a, a < tS τ → tA τ a < tP τ ∧ tD τ a ≤ 3
def gone (k d m : Nat) : Nat := if k = 1 then m * (d + 1) else if k = 2 then (m + 1) / 2 * 2 * (d + 1) else m * d
theorem gone_le {k d m : Nat} (hd : d ≤ 9) (hm : m ≤ 61) : gone k d m ≤ 620 := by
  have h1 : m * (d + 1) ≤ 61 * 10 := Nat.mul_le_mul hm (by omega)
  have h2 : (m + 1) / 2 * 2 * (d + 1) ≤ 62 * 10 := Nat.mul_le_mul (by omega) (by omega)
  have h3 : m * d ≤ 61 * 9 := Nat.mul_le_mul hm hd
  unfold gone
  split
  · omega
  · split <;> omega
/-- where one would be, were he as told -/
def pif (τ : Tn) (k st d m : Nat) : Nat := (st + gone k d m) % tP τ
def pl (τ : Tn) (a m : Nat) : Nat := pif τ (tK τ a) (tA τ a) (tD τ a) m
theorem pif_lt {τ : Tn} (h : 0 < tP τ) (k st d m : Nat) : pif τ k st d m < tP τ := Nat.mod_lt _ h
theorem pl_lt {τ : Tn} (h : 0 < tP τ) (a m : Nat) : pl τ a m < tP τ := pif_lt h _ _ _ _
def after (P p act : Nat) : Nat := if act = 1 then (p + 1) % P else if act = 2 then (p + P - 1) % P else p
theorem after_lt {P p act : Nat} (h : p < P) : after P p act < P := by
  unfold after
  split
  · exact Nat.mod_lt _ (by omega)
  · split
    · exact Nat.mod_lt _ (by omega)
    · exact h
/-- the class's town at cell c -/
def TX (μ : Mem) (c : Nat) (τ : Tn) : Prop := μ c 4 = nI (tP τ) ∧ μ c 3 = nI (tS τ) ∧ (∀ a, a < 4 → μ (4 * c + 18 + a) 0 = nI (tK τ a) ∧ μ (4 * c + 18 + a) 1 = nI (tA τ a) ∧ μ (4 * c + 18 + a) 2 = nI (tD τ a)) ∧ ∀ p, p < 9 → μ (c + 6) p = nI (tG τ p)
/-- the reference's -/
def TM (μ : Mem) (τ : Tn) : Prop := μ 30 1 = nI (tP τ) ∧ μ 30 3 = nI (tS τ) ∧ (∀ a, a < tS τ → μ 32 a = nI (tK τ a) ∧ μ 33 a = nI (tA τ a) ∧ μ 34 a = nI (tD τ a)) ∧ ∀ p, p < tP τ → μ 31 p = nI (tG τ p)
theorem TX.same {μ μ' : Mem} {c : Nat} {τ : Tn} (h : TX μ c τ) (h1 : ∀ k, k ≤ 4 → μ' c k = μ c k) (h2 : ∀ a k, a < 4 → μ' (4 * c + 18 + a) k = μ (4 * c + 18 + a) k) (h3 : ∀ p, μ' (c + 6) p = μ (c + 6) p) : TX μ' c τ :=
  ⟨by rw [h1 4 (by omega)]; exact h.1, by rw [h1 3 (by omega)]; exact h.2.1, fun a ha => by rw [h2 a 0 ha, h2 a 1 ha, h2 a 2 ha]; exact h.2.2.1 a ha, fun p hp => by rw [h3 p]; exact h.2.2.2 p hp⟩
theorem TM.same {μ μ' : Mem} {τ : Tn} (h : TM μ τ) (h1 : μ' 30 1 = μ 30 1) (h2 : μ' 30 3 = μ 30 3) (h3 : ∀ c k, 31 ≤ c → c ≤ 34 → μ' c k = μ c k) : TM μ' τ :=
  ⟨by rw [h1]; exact h.1, by rw [h2]; exact h.2.1, fun a ha => by rw [h3 32 a (by omega) (by omega), h3 33 a (by omega) (by omega), h3 34 a (by omega) (by omega)]; exact h.2.2.1 a ha, fun p hp => by rw [h3 31 p (by omega) (by omega)]; exact h.2.2.2 p hp⟩
end
section
/-! sets of places, as whole numbers -/
def bs : Nat → (Nat → Bool) → Nat
  | 0, _ => 0
  | P + 1, f => bs P f ||| (if f P = true then 2 ^ P else 0)
theorem bs_bit (P : Nat) (f : Nat → Bool) (i : Nat) : (bs P f).testBit i = (decide (i < P) && f i) := by
  induction P with
  | zero => simp [bs]
  | succ P ih =>
    rw [bs, Nat.testBit_or, ih]
    by_cases hf : f P = true
    · rw [if_pos hf, Nat.testBit_two_pow]
      by_cases h : P = i
      · subst h; simp [hf]
      · have : (i < P + 1) ↔ i < P := by omega
        simp [h, this]
    · rw [if_neg hf]
      by_cases h : P = i
      · subst h; simp at hf; simp [hf]
      · have : (i < P + 1) ↔ i < P := by omega
        simp [this]
theorem bs_lt (P : Nat) (f : Nat → Bool) : bs P f < 2 ^ P := by
  induction P with
  | zero => simp [bs]
  | succ P ih =>
    rw [bs]
    apply Nat.or_lt_two_pow
    · exact Nat.lt_of_lt_of_le ih (Nat.pow_le_pow_right (by decide) (by omega))
    · split
      · exact Nat.pow_lt_pow_right (by decide) (by omega)
      · exact Nat.two_pow_pos _
theorem bs_ext {P : Nat} {f g : Nat → Bool} (h : ∀ p, p < P → f p = g p) : bs P f = bs P g := by
  apply Nat.eq_of_testBit_eq
  intro i
  rw [bs_bit, bs_bit]
  by_cases hi : i < P
  · rw [h i hi]
  · simp [hi]
theorem bs_full (P : Nat) : bs P (fun _ => true) = 2 ^ P - 1 := by
  apply Nat.eq_of_testBit_eq
  intro i
  rw [bs_bit, Nat.testBit_two_pow_sub_one]
  simp
theorem bs_and (P : Nat) (f g : Nat → Bool) : bs P f &&& bs P g = bs P (fun p => f p && g p) := by
  apply Nat.eq_of_testBit_eq
  intro i
  rw [Nat.testBit_and, bs_bit, bs_bit, bs_bit]
  cases decide (i < P) <;> simp
theorem bs_of {P s : Nat} (h : s < 2 ^ P) : bs P s.testBit = s := by
  apply Nat.eq_of_testBit_eq
  intro i
  rw [bs_bit]
  by_cases hi : i < P
  · simp [hi]
  · have : s.testBit i = false := Nat.testBit_lt_two_pow (Nat.lt_of_lt_of_le h (Nat.pow_le_pow_right (by decide) (by omega)))
    simp [this]
theorem bs_or1 {P q : Nat} (hq : q < P) (f : Nat → Bool) : bs P f ||| 2 ^ q = bs P (fun p => f p || decide (q = p)) := by
  apply Nat.eq_of_testBit_eq
  intro i
  rw [Nat.testBit_or, bs_bit, bs_bit, Nat.testBit_two_pow]
  by_cases hi : i < P
  · simp [hi]
  · have : q ≠ i := by omega
    simp [hi, this]
theorem pow9 {P : Nat} (h : P ≤ 9) : 2 ^ P ≤ 512 := Nat.pow_le_pow_right (n := 2) (by decide) h
theorem set9 {P s : Nat} (h : P ≤ 9) (hs : s < 2 ^ P) : s < 512 := Nat.lt_of_lt_of_le hs (pow9 h)
theorem i_clr {P q : Nat} (f : Nat → Bool) : nI (bs P f) &&& (nI (2 ^ q) ^^^ (-1)) = nI (bs P (fun p => f p && !decide (q = p))) := by
  apply Int32.toBitVec_inj.mp
  show (BitVec.ofNat 32 (bs P f) &&& (BitVec.ofNat 32 (2 ^ q) ^^^ BitVec.allOnes 32)) = BitVec.ofNat 32 (bs P (fun p => f p && !decide (q = p)))
  apply BitVec.eq_of_getLsbD_eq
  intro i hi
  rw [BitVec.getLsbD_and, BitVec.getLsbD_xor, BitVec.getLsbD_ofNat, BitVec.getLsbD_ofNat, BitVec.getLsbD_ofNat, BitVec.getLsbD_allOnes, bs_bit, bs_bit, Nat.testBit_two_pow]
  simp only [hi, decide_true, Bool.true_and]
  cases decide (i < P) <;> cases f i <;> simp
/-- which of k sleepers of w leave p free -/
def frB (τ : Tn) (w m k p : Nat) : Bool := (List.range k).all (fun a => !(w.testBit a && decide (pl τ a m = p)))
def frS (τ : Tn) (w m : Nat) : Nat := bs (tP τ) (frB τ w m (tS τ))
theorem frB_0 (τ : Tn) (w m p : Nat) : frB τ w m 0 p = true := rfl
theorem frB_s (τ : Tn) (w m k p : Nat) : frB τ w m (k + 1) p = (frB τ w m k p && !(w.testBit k && decide (pl τ k m = p))) := by
  simp [frB, List.range_succ]
theorem frS_lt (τ : Tn) (w m : Nat) : frS τ w m < 2 ^ tP τ := bs_lt _ _
theorem frS_bit (τ : Tn) (w m p : Nat) (h : p < tP τ) : (frS τ w m).testBit p = frB τ w m (tS τ) p := by
  rw [frS, bs_bit]; simp [h]
/-- a set and its neighbours -/
def nbS (P s : Nat) : Nat := bs P (fun p => s.testBit p || (s.testBit ((p + 1) % P) || s.testBit ((p + P - 1) % P)))
theorem nbS_lt (P s : Nat) : nbS P s < 2 ^ P := bs_lt _ _
theorem nbS_eq : ∀ P, P < 10 → 3 ≤ P → ∀ s, s < 2 ^ P → ((s ||| (s * 2 ^ 1 ||| s / 2 ^ (P - 1))) ||| (s / 2 ^ 1 ||| s * 2 ^ (P - 1))) &&& (2 ^ P - 1) = nbS P s := by decide +kernel
/-- where one can be behind m minutes -/
def rcS (τ : Tn) (w fr : Nat) : Nat → Nat
  | 0 => 2 ^ fr
  | m + 1 => nbS (tP τ) (rcS τ w fr m) &&& frS τ w (m + 1)
theorem rcS_lt {τ : Tn} {w fr : Nat} (h : fr < tP τ) : ∀ m, rcS τ w fr m < 2 ^ tP τ
  | 0 => Nat.pow_lt_pow_right (by decide) h
  | m + 1 => Nat.lt_of_le_of_lt Nat.and_le_left (nbS_lt _ _)
/-- the first of k minutes from n on in which it comes there -/
def sn (R : Nat → Nat) (to : Nat) : Nat → Nat → Option Nat
  | _, 0 => none
  | n, k + 1 => if (R n).testBit to = true then some n else sn R to (n + 1) k
def soon (τ : Tn) (w fr to : Nat) : Option Nat := sn (rcS τ w fr) to 0 61
def oI (o : Option Nat) : Int32 := match o with
  | some n => nI n
  | none => -9
end
section
theorem tb_and {x k : Nat} : x &&& 2 ^ k = if x.testBit k then 2 ^ k else 0 := by
  apply Nat.eq_of_testBit_eq
  intro i
  rw [Nat.testBit_and, Nat.testBit_two_pow]
  by_cases h : k = i
  · subst h
    cases hb : x.testBit k <;> simp
  · cases hb : x.testBit k <;> simp [h]
theorem and_bit {x k : Nat} (hk : k < 32) : ((x &&& 2 ^ k : Nat) : Int) = 0 ↔ x.testBit k = false := by
  rw [tb_and]
  have h2 : 2 ^ k ≠ 0 := Nat.pos_iff_ne_zero.mp (Nat.two_pow_pos k)
  cases hb : x.testBit k
  · simp
  · rw [if_pos rfl]; exact ⟨fun h => absurd (Int.ofNat_eq_zero.mp h) h2, fun h => by cases h⟩
theorem and_lt {x k : Nat} (hx : x < 2 ^ 31) : x &&& 2 ^ k < 2 ^ 31 := Nat.lt_of_le_of_lt Nat.and_le_left hx

set_option maxRecDepth 100000 in
set_option maxHeartbeats 4000000 in
theorem k_bit (l : Launch) (D : va_G) (ad : Nat → Nat) (kI kS kL : ClassId) (μ : Mem) (k : Nat) (hk : k < 32) : MI l D ad kI kS kL yX4_bit cX4_bit 1 (some .int) 0 0 [.int (nI k)] μ (fun r μ2 => μ = μ2 ∧ r = nI (2 ^ k)) := by
  refine met_I RX4 rfl (by decide) (lv := [(0, .int (nI k))]) rfl (Nat.le_of_ble_eq_true rfl) ?_
  intro pp ee ss mm aa bb me cd AA hA0 CC hnm QQ hQ
  refine y_iload_n CC 0 dX4_bit_0 rfl rfl ?_
  refine z_if_lt CC 16 dX4_bit_1 (by decide) (a := ((k : Nat) : Int)) (nI_toInt (by omega)) (fun c_1 => ?_) (fun c_1 => ?_)
  · skip
    exfalso; omega
  · skip
    refine y_iload_n CC 0 dX4_bit_4 rfl rfl ?_
    refine y_bipush CC (nI 32) dX4_bit_5 (by decide) ?_
    refine z_icmp_ge CC 16 dX4_bit_7 (by decide) (a := ((k : Nat) : Int)) (b := (32 : Int)) (nI_toInt (by omega)) (nI_toInt (by decide)) (fun c_2 => ?_) (fun c_2 => ?_)
    · skip
      exfalso; omega
    · skip
      refine y_iconst CC (nI 1) dX4_bit_10 (by decide) ?_
      refine y_iload_n CC 0 dX4_bit_11 rfl rfl ?_
      refine y_ishl CC dX4_bit_12 (v := nI (2 ^ k)) ((i_shl hk (by rw [Nat.one_mul]; exact Nat.pow_lt_pow_right (by decide) hk)).trans (by rw [Nat.one_mul])) ?_
      refine y_goto CC 17 dX4_bit_13 (by decide) ?_
      exact y_iret CC hQ dX4_bit_17 (⟨rfl, rfl⟩)

set_option maxRecDepth 100000 in
set_option maxHeartbeats 4000000 in
theorem k_isIn (l : Launch) (D : va_G) (ad : Nat → Nat) (kI kS kL : ClassId) (μ : Mem) (x k : Nat) (hx : x < 2 ^ 31) (hk : k < 32) : MI l D ad kI kS kL yX4_isIn cX4_isIn 2 (some .boolean) 1 20 [.int (nI x), .int (nI k)] μ (fun r μ2 => μ = μ2 ∧ bo r (x.testBit k)) := by
  refine met_I RX4 rfl (by decide) (lv := [(0, .int (nI x)), (1, .int (nI k))]) rfl (Nat.le_of_ble_eq_true rfl) ?_
  intro pp ee ss mm aa bb me cd AA hA0 CC hnm QQ hQ
  refine y_iload_n CC 0 dX4_isIn_0 rfl rfl ?_
  refine y_iload_n CC 1 dX4_isIn_1 rfl rfl ?_
  refine y_callSI (st := [.int (nI x)]) CC cl_X4_132 (k_bit l D ad kI kS kL μ k (by omega)) rfl rfl (Nat.le_of_ble_eq_true rfl) ⟨by decide, by decide⟩ ⟨Nat.zero_le _, Nat.zero_le _⟩ dX4_isIn_2 (fun r_ μ_ w_1 => ?_)
  obtain ⟨rfl, rfl⟩ := w_1
  refine y_iand CC dX4_isIn_5 (v := nI (x &&& (2 ^ k))) (i_and _ _) ?_
  have hl_ := and_lt (k := k) hx
  refine z_if_eq CC 13 dX4_isIn_6 (by decide) (a := ((x &&& (2 ^ k) : Nat) : Int)) (nI_toInt (by omega)) (fun c_2 => ?_) (fun c_2 => ?_)
  · skip
    refine y_iconst CC (nI 0) dX4_isIn_13 (by decide) ?_
    exact y_zret CC hQ dX4_isIn_14 (by decide) (⟨rfl, Or.inr ⟨(and_bit hk).mp c_2, rfl⟩⟩)
  · skip
    refine y_iconst CC (nI 1) dX4_isIn_9 (by decide) ?_
    refine y_goto CC 14 dX4_isIn_10 (by decide) ?_
    exact y_zret CC hQ dX4_isIn_14 (by decide) (⟨rfl, Or.inl ⟨by cases hb : x.testBit k with | true => rfl | false => exact absurd ((and_bit hk).mpr hb) c_2, rfl⟩⟩)

set_option maxRecDepth 100000 in
set_option maxHeartbeats 4000000 in
theorem k_isLane (l : Launch) (D : va_G) (ad : Nat → Nat) (kI kS kL : ClassId) (μ : Mem) (x : Int32) : MI l D ad kI kS kL yX4_isLane cX4_isLane 1 (some .boolean) 0 0 [.int x] μ (fun r μ2 => μ = μ2 ∧ bo r (inB x 3)) := by
  refine met_I RX4 rfl (by decide) (lv := [(0, .int x)]) rfl (Nat.le_of_ble_eq_true rfl) ?_
  intro pp ee ss mm aa bb me cd AA hA0 CC hnm QQ hQ
  refine y_iload_n CC 0 dX4_isLane_0 rfl rfl ?_
  refine z_if_lt CC 13 dX4_isLane_1 (by decide) (a := (x).toInt) rfl (fun c_1 => ?_) (fun c_1 => ?_)
  · skip
    refine y_iconst CC (nI 0) dX4_isLane_13 (by decide) ?_
    exact y_zret CC hQ dX4_isLane_14 (by decide) (⟨rfl, Or.inr ⟨inB_f (by omega), rfl⟩⟩)
  · skip
    refine y_iload_n CC 0 dX4_isLane_4 rfl rfl ?_
    refine y_iconst CC (nI 2) dX4_isLane_5 (by decide) ?_
    refine z_icmp_gt CC 13 dX4_isLane_6 (by decide) (a := (x).toInt) (b := (2 : Int)) rfl (nI_toInt (by decide)) (fun c_2 => ?_) (fun c_2 => ?_)
    · skip
      refine y_iconst CC (nI 0) dX4_isLane_13 (by decide) ?_
      exact y_zret CC hQ dX4_isLane_14 (by decide) (⟨rfl, Or.inr ⟨inB_f (by omega), rfl⟩⟩)
    · skip
      refine y_iconst CC (nI 1) dX4_isLane_9 (by decide) ?_
      refine y_goto CC 14 dX4_isLane_10 (by decide) ?_
      exact y_zret CC hQ dX4_isLane_14 (by decide) (⟨rfl, Or.inl ⟨inB_t (by omega), rfl⟩⟩)

set_option maxRecDepth 100000 in
set_option maxHeartbeats 4000000 in
theorem k_isMinute (l : Launch) (D : va_G) (ad : Nat → Nat) (kI kS kL : ClassId) (μ : Mem) (x : Int32) : MI l D ad kI kS kL yX4_isMinute cX4_isMinute 1 (some .boolean) 0 0 [.int x] μ (fun r μ2 => μ = μ2 ∧ bo r (inB x 61)) := by
  refine met_I RX4 rfl (by decide) (lv := [(0, .int x)]) rfl (Nat.le_of_ble_eq_true rfl) ?_
  intro pp ee ss mm aa bb me cd AA hA0 CC hnm QQ hQ
  refine y_iload_n CC 0 dX4_isMinute_0 rfl rfl ?_
  refine z_if_lt CC 14 dX4_isMinute_1 (by decide) (a := (x).toInt) rfl (fun c_1 => ?_) (fun c_1 => ?_)
  · skip
    refine y_iconst CC (nI 0) dX4_isMinute_14 (by decide) ?_
    exact y_zret CC hQ dX4_isMinute_15 (by decide) (⟨rfl, Or.inr ⟨inB_f (by omega), rfl⟩⟩)
  · skip
    refine y_iload_n CC 0 dX4_isMinute_4 rfl rfl ?_
    refine y_bipush CC (nI 60) dX4_isMinute_5 (by decide) ?_
    refine z_icmp_gt CC 14 dX4_isMinute_7 (by decide) (a := (x).toInt) (b := (60 : Int)) rfl (nI_toInt (by decide)) (fun c_2 => ?_) (fun c_2 => ?_)
    · skip
      refine y_iconst CC (nI 0) dX4_isMinute_14 (by decide) ?_
      exact y_zret CC hQ dX4_isMinute_15 (by decide) (⟨rfl, Or.inr ⟨inB_f (by omega), rfl⟩⟩)
    · skip
      refine y_iconst CC (nI 1) dX4_isMinute_10 (by decide) ?_
      refine y_goto CC 15 dX4_isMinute_11 (by decide) ?_
      exact y_zret CC hQ dX4_isMinute_15 (by decide) (⟨rfl, Or.inl ⟨inB_t (by omega), rfl⟩⟩)

set_option maxRecDepth 100000 in
set_option maxHeartbeats 4000000 in
theorem k_sheetOrNull (l : Launch) (D : va_G) (ad : Nat → Nat) (kI kS kL : ClassId) (μ : Mem) (x : Int32) : MN l D ad kI kS kL yX4_sheetOrNull cX4_sheetOrNull 2 (some (.object "SleepRoads$Sheet")) 0 0 [.ref (ad 0), .int x] μ (fun r μ2 => μ = μ2 ∧ ((inB x 4 = true ∧ r = some (ad (14 + ix x))) ∨ (inB x 4 = false ∧ r = none))) := by
  refine met_N RX4 rfl (by decide) (lv := [(0, .ref (ad 0)), (1, .int x)]) rfl (Nat.le_of_ble_eq_true rfl) ?_
  intro pp ee ss mm aa bb me cd AA hA0 CC hnm QQ hQ
  refine y_iload_n CC 1 dX4_sheetOrNull_0 rfl rfl ?_
  refine z_if_lt CC 22 dX4_sheetOrNull_1 (by decide) (a := (x).toInt) rfl (fun c_1 => ?_) (fun c_1 => ?_)
  · skip
    refine y_null CC dX4_sheetOrNull_22 ?_
    exact y_aretN CC hQ dX4_sheetOrNull_23 (⟨rfl, Or.inr ⟨inB_f (by omega), rfl⟩⟩)
  · skip
    refine y_iload_n CC 1 dX4_sheetOrNull_4 rfl rfl ?_
    refine y_aload_n CC 0 dX4_sheetOrNull_5 rfl rfl ?_
    refine y_getr CC gl_X4_30 (by omega) (d := 4) rfl dX4_sheetOrNull_6 ?_
    refine y_alenS CC dX4_sheetOrNull_9 ?_
    refine z_icmp_ge CC 22 dX4_sheetOrNull_10 (by decide) (a := (x).toInt) (b := (4 : Int)) rfl (nI_toInt (by decide)) (fun c_2 => ?_) (fun c_2 => ?_)
    · skip
      refine y_null CC dX4_sheetOrNull_22 ?_
      exact y_aretN CC hQ dX4_sheetOrNull_23 (⟨rfl, Or.inr ⟨inB_f (by omega), rfl⟩⟩)
    · skip
      refine y_aload_n CC 0 dX4_sheetOrNull_13 rfl rfl ?_
      refine y_getr CC gl_X4_30 (by omega) (d := 4) rfl dX4_sheetOrNull_14 ?_
      refine y_iload_n CC 1 dX4_sheetOrNull_17 rfl rfl ?_
      obtain ⟨j, hj, rfl⟩ := inB_of (x := x) (n := 4) (inB_t (by omega)) (by omega)
      refine y_aaldS CC (j := j) (by omega) dX4_sheetOrNull_18 ?_
      refine y_goto CC 23 dX4_sheetOrNull_19 (by decide) ?_
      exact y_aret CC hQ dX4_sheetOrNull_23 (⟨rfl, Or.inl ⟨inB_nI hj (by decide), by rw [ix_nI (by omega)]⟩⟩)

set_option maxRecDepth 100000 in
set_option maxHeartbeats 4000000 in
theorem k_gone (l : Launch) (D : va_G) (ad : Nat → Nat) (kI kS kL : ClassId) (μ : Mem) (k d m : Nat) (hk : k ≤ 2) (hd : d ≤ 9) (hm : m ≤ 61) : MI l D ad kI kS kL yX2_gone cX2_gone 3 (some .int) 0 0 [.int (nI k), .int (nI d), .int (nI m)] μ (fun r μ2 => μ = μ2 ∧ r = nI (gone k d m)) := by
  refine met_I RX2 rfl (by decide) (lv := [(0, .int (nI k)), (1, .int (nI d)), (2, .int (nI m))]) rfl (Nat.le_of_ble_eq_true rfl) ?_
  intro pp ee ss mm aa bb me cd AA hA0 CC hnm QQ hQ
  refine y_iload_n CC 0 dX2_gone_0 rfl rfl ?_
  rcases (show k = 0 ∨ k = 1 ∨ k = 2 by omega) with rfl | rfl | rfl
  · skip
    refine y_lookup CC (off := 45) 46 dX2_gone_1 (by decide) (by decide +kernel) (by decide) ?_
    refine y_iload_n CC 2 dX2_gone_46 rfl rfl ?_
    refine y_iload_n CC 1 dX2_gone_47 rfl rfl ?_
    refine y_imul CC dX2_gone_48 (v := nI (m * d)) (pk_mul _ _) ?_
    exact y_iret CC hQ dX2_gone_49 (⟨rfl, by first | rfl | simp [gone]⟩)
  · skip
    refine y_lookup CC (off := 27) 28 dX2_gone_1 (by decide) (by decide +kernel) (by decide) ?_
    refine y_iload_n CC 2 dX2_gone_28 rfl rfl ?_
    refine y_iload_n CC 1 dX2_gone_29 rfl rfl ?_
    refine y_iconst CC (nI 1) dX2_gone_30 (by decide) ?_
    refine y_iadd CC dX2_gone_31 (v := nI (d + 1)) (nI_add _ _) ?_
    refine y_imul CC dX2_gone_32 (v := nI (m * (d + 1))) (pk_mul _ _) ?_
    exact y_iret CC hQ dX2_gone_33 (⟨rfl, by first | rfl | simp [gone]⟩)
  · skip
    refine y_lookup CC (off := 33) 34 dX2_gone_1 (by decide) (by decide +kernel) (by decide) ?_
    refine y_iload_n CC 2 dX2_gone_34 rfl rfl ?_
    refine y_iconst CC (nI 1) dX2_gone_35 (by decide) ?_
    refine y_iadd CC dX2_gone_36 (v := nI (m + 1)) (nI_add _ _) ?_
    refine y_iconst CC (nI 2) dX2_gone_37 (by decide) ?_
    refine y_idiv CC dX2_gone_38 (by decide) (v := nI ((m + 1) / 2)) (i_div (by omega) (by omega) (by omega)) ?_
    refine y_iconst CC (nI 2) dX2_gone_39 (by decide) ?_
    refine y_imul CC dX2_gone_40 (v := nI (((m + 1) / 2) * 2)) (pk_mul _ _) ?_
    refine y_iload_n CC 1 dX2_gone_41 rfl rfl ?_
    refine y_iconst CC (nI 1) dX2_gone_42 (by decide) ?_
    refine y_iadd CC dX2_gone_43 (v := nI (d + 1)) (nI_add _ _) ?_
    refine y_imul CC dX2_gone_44 (v := nI ((((m + 1) / 2) * 2) * (d + 1))) (pk_mul _ _) ?_
    exact y_iret CC hQ dX2_gone_45 (⟨rfl, by first | rfl | simp [gone]⟩)
end
section
def gsm (τ : Tn) : Nat → Nat
  | 0 => 0
  | k + 1 => gsm τ k + tG τ k

set_option maxRecDepth 100000 in
set_option maxHeartbeats 4000000 in
theorem k_hasPlace (l : Launch) (D : va_G) (ad : Nat → Nat) (kI kS kL : ClassId) (μ : Mem) (c : Nat) (hc : isO 3 c) (τ : Tn) (hT : TX μ c τ) (hB : tB τ) (x : Int32) : MI l D ad kI kS kL yX3_hasPlace cX3_hasPlace 2 (some .boolean) 0 0 [.ref (ad c), .int x] μ (fun r μ2 => μ = μ2 ∧ bo r (inB x (tP τ))) := by
  refine met_I RX3 rfl (by decide) (lv := [(0, .ref (ad c)), (1, .int x)]) rfl (Nat.le_of_ble_eq_true rfl) ?_
  intro pp ee ss mm aa bb me cd AA hA0 CC hnm QQ hQ
  have hP9 : tP τ ≤ 9 := hB.1
  have hS4 : tS τ ≤ 4 := hB.2.1
  have hc2 : 1 ≤ c ∧ c ≤ 2 := by omega
  refine y_iload_n CC 1 dX3_hasPlace_0 rfl rfl ?_
  refine z_if_lt CC 25 dX3_hasPlace_1 (by decide) (a := (x).toInt) rfl (fun c_1 => ?_) (fun c_1 => ?_)
  · skip
    refine y_iconst CC (nI 0) dX3_hasPlace_25 (by decide) ?_
    exact y_zret CC hQ dX3_hasPlace_26 (by decide) (⟨rfl, Or.inr ⟨inB_f (by omega), rfl⟩⟩)
  · skip
    refine y_iload_n CC 1 dX3_hasPlace_4 rfl rfl ?_
    refine y_aload_n CC 0 dX3_hasPlace_5 rfl rfl ?_
    refine y_geti CC gl_X3_28 hc rfl (v := nI (tP τ)) hT.1 dX3_hasPlace_6 ?_
    refine z_icmp_ge CC 25 dX3_hasPlace_9 (by decide) (a := (x).toInt) (b := ((tP τ : Nat) : Int)) rfl (nI_toInt (by omega)) (fun c_2 => ?_) (fun c_2 => ?_)
    · skip
      refine y_iconst CC (nI 0) dX3_hasPlace_25 (by decide) ?_
      exact y_zret CC hQ dX3_hasPlace_26 (by decide) (⟨rfl, Or.inr ⟨inB_f (by omega), rfl⟩⟩)
    · skip
      refine y_iload_n CC 1 dX3_hasPlace_12 rfl rfl ?_
      refine y_aload_n CC 0 dX3_hasPlace_13 rfl rfl ?_
      refine y_getr CC gl_X3_17 hc (d := (c + 6)) rfl dX3_hasPlace_14 ?_
      refine y_alen CC (n := 9) (by omega) (by unfold alen; rw [if_pos (by omega)]) dX3_hasPlace_17 ?_
      refine z_icmp_ge CC 25 dX3_hasPlace_18 (by decide) (a := (x).toInt) (b := (9 : Int)) rfl (nI_toInt (by decide)) (fun c_3 => ?_) (fun c_3 => ?_)
      · skip
        refine y_iconst CC (nI 0) dX3_hasPlace_25 (by decide) ?_
        exact y_zret CC hQ dX3_hasPlace_26 (by decide) (⟨rfl, Or.inr ⟨inB_f (by omega), rfl⟩⟩)
      · skip
        refine y_iconst CC (nI 1) dX3_hasPlace_21 (by decide) ?_
        refine y_goto CC 26 dX3_hasPlace_22 (by decide) ?_
        exact y_zret CC hQ dX3_hasPlace_26 (by decide) (⟨rfl, Or.inl ⟨inB_t (by omega), rfl⟩⟩)

set_option maxRecDepth 100000 in
set_option maxHeartbeats 4000000 in
theorem k_hasSleeper (l : Launch) (D : va_G) (ad : Nat → Nat) (kI kS kL : ClassId) (μ : Mem) (c : Nat) (hc : isO 3 c) (τ : Tn) (hT : TX μ c τ) (hB : tB τ) (x : Int32) : MI l D ad kI kS kL yX3_hasSleeper cX3_hasSleeper 2 (some .boolean) 0 0 [.ref (ad c), .int x] μ (fun r μ2 => μ = μ2 ∧ bo r (inB x (tS τ))) := by
  refine met_I RX3 rfl (by decide) (lv := [(0, .ref (ad c)), (1, .int x)]) rfl (Nat.le_of_ble_eq_true rfl) ?_
  intro pp ee ss mm aa bb me cd AA hA0 CC hnm QQ hQ
  have hP9 : tP τ ≤ 9 := hB.1
  have hS4 : tS τ ≤ 4 := hB.2.1
  have hc2 : 1 ≤ c ∧ c ≤ 2 := by omega
  refine y_iload_n CC 1 dX3_hasSleeper_0 rfl rfl ?_
  refine z_if_lt CC 25 dX3_hasSleeper_1 (by decide) (a := (x).toInt) rfl (fun c_1 => ?_) (fun c_1 => ?_)
  · skip
    refine y_iconst CC (nI 0) dX3_hasSleeper_25 (by decide) ?_
    exact y_zret CC hQ dX3_hasSleeper_26 (by decide) (⟨rfl, Or.inr ⟨inB_f (by omega), rfl⟩⟩)
  · skip
    refine y_iload_n CC 1 dX3_hasSleeper_4 rfl rfl ?_
    refine y_aload_n CC 0 dX3_hasSleeper_5 rfl rfl ?_
    refine y_geti CC gl_X3_24 hc rfl (v := nI (tS τ)) hT.2.1 dX3_hasSleeper_6 ?_
    refine z_icmp_ge CC 25 dX3_hasSleeper_9 (by decide) (a := (x).toInt) (b := ((tS τ : Nat) : Int)) rfl (nI_toInt (by omega)) (fun c_2 => ?_) (fun c_2 => ?_)
    · skip
      refine y_iconst CC (nI 0) dX3_hasSleeper_25 (by decide) ?_
      exact y_zret CC hQ dX3_hasSleeper_26 (by decide) (⟨rfl, Or.inr ⟨inB_f (by omega), rfl⟩⟩)
    · skip
      refine y_iload_n CC 1 dX3_hasSleeper_12 rfl rfl ?_
      refine y_aload_n CC 0 dX3_hasSleeper_13 rfl rfl ?_
      refine y_getr CC gl_X3_11 hc (d := (c + 4)) rfl dX3_hasSleeper_14 ?_
      refine y_alenL CC (by omega) dX3_hasSleeper_17 ?_
      refine z_icmp_ge CC 25 dX3_hasSleeper_18 (by decide) (a := (x).toInt) (b := (4 : Int)) rfl (nI_toInt (by decide)) (fun c_3 => ?_) (fun c_3 => ?_)
      · skip
        refine y_iconst CC (nI 0) dX3_hasSleeper_25 (by decide) ?_
        exact y_zret CC hQ dX3_hasSleeper_26 (by decide) (⟨rfl, Or.inr ⟨inB_f (by omega), rfl⟩⟩)
      · skip
        refine y_iconst CC (nI 1) dX3_hasSleeper_21 (by decide) ?_
        refine y_goto CC 26 dX3_hasSleeper_22 (by decide) ?_
        exact y_zret CC hQ dX3_hasSleeper_26 (by decide) (⟨rfl, Or.inl ⟨inB_t (by omega), rfl⟩⟩)

set_option maxRecDepth 100000 in
set_option maxHeartbeats 4000000 in
theorem k_sleeperOrNull (l : Launch) (D : va_G) (ad : Nat → Nat) (kI kS kL : ClassId) (μ : Mem) (c : Nat) (hc : isO 3 c) (τ : Tn) (hT : TX μ c τ) (hB : tB τ) (x : Int32) : MN l D ad kI kS kL yX3_sleeperOrNull cX3_sleeperOrNull 2 (some (.object "SleepRoads$Sleeper")) 1 21 [.ref (ad c), .int x] μ (fun r μ2 => μ = μ2 ∧ ((inB x (tS τ) = true ∧ r = some (ad (4 * c + 18 + ix x))) ∨ (inB x (tS τ) = false ∧ r = none))) := by
  refine met_N RX3 rfl (by decide) (lv := [(0, .ref (ad c)), (1, .int x)]) rfl (Nat.le_of_ble_eq_true rfl) ?_
  intro pp ee ss mm aa bb me cd AA hA0 CC hnm QQ hQ
  have hP9 : tP τ ≤ 9 := hB.1
  have hS4 : tS τ ≤ 4 := hB.2.1
  have hc2 : 1 ≤ c ∧ c ≤ 2 := by omega
  refine y_aload_n CC 0 dX3_sleeperOrNull_0 rfl rfl ?_
  refine y_iload_n CC 1 dX3_sleeperOrNull_1 rfl rfl ?_
  refine y_callVI (st := []) CC cl_X3_92 (k_hasSleeper l D ad kI kS kL μ c hc τ hT hB x) hc rfl rfl rfl (Nat.le_of_ble_eq_true rfl) ⟨by decide, by decide⟩ ⟨Nat.zero_le _, Nat.zero_le _⟩ dX3_sleeperOrNull_2 (fun r_ μ_ w_2 => ?_)
  rcases w_2 with ⟨rfl, ⟨b_1, rfl⟩ | ⟨b_1, rfl⟩⟩
  · skip
    obtain ⟨j, hj, rfl⟩ := inB_of b_1 (by omega)
    refine z_if_eqF CC 17 dX3_sleeperOrNull_5 (by decide) (a := (1 : Int)) (nI_toInt (by decide)) (by decide) ?_
    refine y_aload_n CC 0 dX3_sleeperOrNull_8 rfl rfl ?_
    refine y_getr CC gl_X3_11 hc (d := (c + 4)) rfl dX3_sleeperOrNull_9 ?_
    refine y_iload_n CC 1 dX3_sleeperOrNull_12 rfl rfl ?_
    refine y_aaldL CC (c := (c + 4)) (j := j) (by omega) (by omega) dX3_sleeperOrNull_13 ?_
    refine y_eq (st2 := [.ref (ad (4 * c + 18 + j))]) (by rw [show 4 * ((c + 4) - 4) + 18 + j = (4 * c + 18 + j) by omega]) ?_
    refine y_goto CC 18 dX3_sleeperOrNull_14 (by decide) ?_
    exact y_aret CC hQ dX3_sleeperOrNull_18 (⟨rfl, Or.inl ⟨b_1, by rw [ix_nI (by omega)]⟩⟩)
  · skip
    refine z_if_eqT CC 17 dX3_sleeperOrNull_5 (by decide) (a := (0 : Int)) (nI_toInt (by decide)) (by decide) ?_
    refine y_null CC dX3_sleeperOrNull_17 ?_
    exact y_aretN CC hQ dX3_sleeperOrNull_18 (⟨rfl, Or.inr ⟨b_1, rfl⟩⟩)

set_option maxRecDepth 100000 in
set_option maxHeartbeats 4000000 in
theorem k_goodsAt (l : Launch) (D : va_G) (ad : Nat → Nat) (kI kS kL : ClassId) (μ : Mem) (c : Nat) (hc : isO 3 c) (τ : Tn) (hT : TX μ c τ) (hB : tB τ) (x : Int32) : MI l D ad kI kS kL yX3_goodsAt cX3_goodsAt 2 (some .int) 1 21 [.ref (ad c), .int x] μ (fun r μ2 => μ = μ2 ∧ r = if inB x (tP τ) = true then nI (tG τ (ix x)) else nI 0) := by
  refine met_I RX3 rfl (by decide) (lv := [(0, .ref (ad c)), (1, .int x)]) rfl (Nat.le_of_ble_eq_true rfl) ?_
  intro pp ee ss mm aa bb me cd AA hA0 CC hnm QQ hQ
  have hP9 : tP τ ≤ 9 := hB.1
  have hS4 : tS τ ≤ 4 := hB.2.1
  have hc2 : 1 ≤ c ∧ c ≤ 2 := by omega
  refine y_aload_n CC 0 dX3_goodsAt_0 rfl rfl ?_
  refine y_iload_n CC 1 dX3_goodsAt_1 rfl rfl ?_
  refine y_callVI (st := []) CC cl_X3_79 (k_hasPlace l D ad kI kS kL μ c hc τ hT hB x) hc rfl rfl rfl (Nat.le_of_ble_eq_true rfl) ⟨by decide, by decide⟩ ⟨Nat.zero_le _, Nat.zero_le _⟩ dX3_goodsAt_2 (fun r_ μ_ w_2 => ?_)
  rcases w_2 with ⟨rfl, ⟨b_1, rfl⟩ | ⟨b_1, rfl⟩⟩
  · skip
    obtain ⟨j, hj, rfl⟩ := inB_of b_1 (by omega)
    refine z_if_eqF CC 17 dX3_goodsAt_5 (by decide) (a := (1 : Int)) (nI_toInt (by decide)) (by decide) ?_
    refine y_aload_n CC 0 dX3_goodsAt_8 rfl rfl ?_
    refine y_getr CC gl_X3_17 hc (d := (c + 6)) rfl dX3_goodsAt_9 ?_
    refine y_iload_n CC 1 dX3_goodsAt_12 rfl rfl ?_
    refine y_ialdN CC (n := 9) (by omega) (by unfold alen; rw [if_pos (by omega)]) (by omega) (by omega) (v := nI (tG τ j)) (hT.2.2.2 j (by omega)) dX3_goodsAt_13 ?_
    refine y_goto CC 18 dX3_goodsAt_14 (by decide) ?_
    exact y_iret CC hQ dX3_goodsAt_18 (⟨rfl, by rw [if_pos b_1, ix_nI (by omega)]⟩)
  · skip
    refine z_if_eqT CC 17 dX3_goodsAt_5 (by decide) (a := (0 : Int)) (nI_toInt (by decide)) (by decide) ?_
    refine y_iconst CC (nI 0) dX3_goodsAt_17 (by decide) ?_
    exact y_iret CC hQ dX3_goodsAt_18 (⟨rfl, by rw [b_1]; rfl⟩)

set_option maxRecDepth 100000 in
set_option maxHeartbeats 4000000 in
theorem k_setGoods (l : Launch) (D : va_G) (ad : Nat → Nat) (kI kS kL : ClassId) (μ : Mem) (c : Nat) (hc : isO 3 c) (τ : Tn) (hT : TX μ c τ) (hB : tB τ) (x v : Int32) : MV l D ad kI kS kL yX3_setGoods cX3_setGoods 3 none 1 21 [.ref (ad c), .int x, .int v] μ (fun μ2 => μ2 = if inB x (tP τ) = true then mu μ (c + 6) (ix x) v else μ) := by
  refine met_V RX3 rfl (by decide) (lv := [(0, .ref (ad c)), (1, .int x), (2, .int v)]) rfl (Nat.le_of_ble_eq_true rfl) ?_
  intro pp ee ss mm aa bb me cd AA hA0 CC hnm QQ hQ
  have hP9 : tP τ ≤ 9 := hB.1
  have hS4 : tS τ ≤ 4 := hB.2.1
  have hc2 : 1 ≤ c ∧ c ≤ 2 := by omega
  refine y_aload_n CC 0 dX3_setGoods_0 rfl rfl ?_
  refine y_iload_n CC 1 dX3_setGoods_1 rfl rfl ?_
  refine y_callVI (st := []) CC cl_X3_79 (k_hasPlace l D ad kI kS kL μ c hc τ hT hB x) hc rfl rfl rfl (Nat.le_of_ble_eq_true rfl) ⟨by decide, by decide⟩ ⟨Nat.zero_le _, Nat.zero_le _⟩ dX3_setGoods_2 (fun r_ μ_ w_2 => ?_)
  rcases w_2 with ⟨rfl, ⟨b_1, rfl⟩ | ⟨b_1, rfl⟩⟩
  · skip
    obtain ⟨j, hj, rfl⟩ := inB_of b_1 (by omega)
    refine z_if_eqF CC 15 dX3_setGoods_5 (by decide) (a := (1 : Int)) (nI_toInt (by decide)) (by decide) ?_
    refine y_aload_n CC 0 dX3_setGoods_8 rfl rfl ?_
    refine y_getr CC gl_X3_17 hc (d := (c + 6)) rfl dX3_setGoods_9 ?_
    refine y_iload_n CC 1 dX3_setGoods_12 rfl rfl ?_
    refine y_iload_n CC 2 dX3_setGoods_13 rfl rfl ?_
    refine y_iastN CC (n := 9) (by omega) (by unfold alen; rw [if_pos (by omega)]) (by omega) (by omega) dX3_setGoods_14 ?_
    exact y_vret CC hQ dX3_setGoods_15 (by rw [if_pos b_1, ix_nI (by omega)])
  · skip
    refine z_if_eqT CC 15 dX3_setGoods_5 (by decide) (a := (0 : Int)) (nI_toInt (by decide)) (by decide) ?_
    exact y_vret CC hQ dX3_setGoods_15 (by rw [b_1]; rfl)

set_option maxRecDepth 100000 in
set_option maxHeartbeats 4000000 in
theorem k_isThere (l : Launch) (D : va_G) (ad : Nat → Nat) (kI kS kL : ClassId) (μ : Mem) (c : Nat) (hc : isO 3 c) (τ : Tn) (hT : TX μ c τ) (hB : tB τ) : MI l D ad kI kS kL yX3_isThere cX3_isThere 1 (some .boolean) 0 0 [.ref (ad c)] μ (fun r μ2 => μ = μ2 ∧ bo r (decide (0 < tP τ))) := by
  refine met_I RX3 rfl (by decide) (lv := [(0, .ref (ad c))]) rfl (Nat.le_of_ble_eq_true rfl) ?_
  intro pp ee ss mm aa bb me cd AA hA0 CC hnm QQ hQ
  have hP9 : tP τ ≤ 9 := hB.1
  have hS4 : tS τ ≤ 4 := hB.2.1
  have hc2 : 1 ≤ c ∧ c ≤ 2 := by omega
  refine y_aload_n CC 0 dX3_isThere_0 rfl rfl ?_
  refine y_geti CC gl_X3_28 hc rfl (v := nI (tP τ)) hT.1 dX3_isThere_1 ?_
  refine z_if_le CC 11 dX3_isThere_4 (by decide) (a := ((tP τ : Nat) : Int)) (nI_toInt (by omega)) (fun c_1 => ?_) (fun c_1 => ?_)
  · skip
    refine y_iconst CC (nI 0) dX3_isThere_11 (by decide) ?_
    exact y_zret CC hQ dX3_isThere_12 (by decide) (⟨rfl, Or.inr ⟨decide_eq_false (by omega), rfl⟩⟩)
  · skip
    refine y_iconst CC (nI 1) dX3_isThere_7 (by decide) ?_
    refine y_goto CC 12 dX3_isThere_8 (by decide) ?_
    exact y_zret CC hQ dX3_isThere_12 (by decide) (⟨rfl, Or.inl ⟨decide_eq_true (by omega), rfl⟩⟩)

set_option maxRecDepth 100000 in
set_option maxHeartbeats 4000000 in
theorem k_placeCount (l : Launch) (D : va_G) (ad : Nat → Nat) (kI kS kL : ClassId) (μ : Mem) (c : Nat) (hc : isO 3 c) (τ : Tn) (hT : TX μ c τ) (hB : tB τ) : MI l D ad kI kS kL yX3_placeCount cX3_placeCount 1 (some .int) 0 0 [.ref (ad c)] μ (fun r μ2 => μ = μ2 ∧ r = nI (tP τ)) := by
  refine met_I RX3 rfl (by decide) (lv := [(0, .ref (ad c))]) rfl (Nat.le_of_ble_eq_true rfl) ?_
  intro pp ee ss mm aa bb me cd AA hA0 CC hnm QQ hQ
  have hP9 : tP τ ≤ 9 := hB.1
  have hS4 : tS τ ≤ 4 := hB.2.1
  have hc2 : 1 ≤ c ∧ c ≤ 2 := by omega
  refine y_aload_n CC 0 dX3_placeCount_0 rfl rfl ?_
  refine y_geti CC gl_X3_28 hc rfl (v := nI (tP τ)) hT.1 dX3_placeCount_1 ?_
  exact y_iret CC hQ dX3_placeCount_4 (⟨rfl, rfl⟩)

set_option maxRecDepth 100000 in
set_option maxHeartbeats 4000000 in
theorem k_sleeperCount (l : Launch) (D : va_G) (ad : Nat → Nat) (kI kS kL : ClassId) (μ : Mem) (c : Nat) (hc : isO 3 c) (τ : Tn) (hT : TX μ c τ) (hB : tB τ) : MI l D ad kI kS kL yX3_sleeperCount cX3_sleeperCount 1 (some .int) 0 0 [.ref (ad c)] μ (fun r μ2 => μ = μ2 ∧ r = nI (tS τ)) := by
  refine met_I RX3 rfl (by decide) (lv := [(0, .ref (ad c))]) rfl (Nat.le_of_ble_eq_true rfl) ?_
  intro pp ee ss mm aa bb me cd AA hA0 CC hnm QQ hQ
  have hP9 : tP τ ≤ 9 := hB.1
  have hS4 : tS τ ≤ 4 := hB.2.1
  have hc2 : 1 ≤ c ∧ c ≤ 2 := by omega
  refine y_aload_n CC 0 dX3_sleeperCount_0 rfl rfl ?_
  refine y_geti CC gl_X3_24 hc rfl (v := nI (tS τ)) hT.2.1 dX3_sleeperCount_1 ?_
  exact y_iret CC hQ dX3_sleeperCount_4 (⟨rfl, rfl⟩)

set_option maxRecDepth 100000 in
set_option maxHeartbeats 4000000 in
theorem k_placeIf (l : Launch) (D : va_G) (ad : Nat → Nat) (kI kS kL : ClassId) (μ : Mem) (c : Nat) (hc : isO 3 c) (τ : Tn) (hT : TX μ c τ) (hB : tB τ) (hP : 0 < tP τ) (k st d m : Nat) (hk : k ≤ 2) (hst : st ≤ 9) (hd : d ≤ 9) (hm : m ≤ 61) : MI l D ad kI kS kL yX3_placeIf cX3_placeIf 5 (some .int) 1 22 [.ref (ad c), .int (nI k), .int (nI st), .int (nI d), .int (nI m)] μ (fun r μ2 => μ = μ2 ∧ r = nI (pif τ k st d m)) := by
  refine met_I RX3 rfl (by decide) (lv := [(0, .ref (ad c)), (1, .int (nI k)), (2, .int (nI st)), (3, .int (nI d)), (4, .int (nI m))]) rfl (Nat.le_of_ble_eq_true rfl) ?_
  intro pp ee ss mm aa bb me cd AA hA0 CC hnm QQ hQ
  have hP9 : tP τ ≤ 9 := hB.1
  have hS4 : tS τ ≤ 4 := hB.2.1
  have hc2 : 1 ≤ c ∧ c ≤ 2 := by omega
  have hg := gone_le (k := k) hd hm
  refine y_aload_n CC 0 dX3_placeIf_0 rfl rfl ?_
  refine y_geti CC gl_X3_28 hc rfl (v := nI (tP τ)) hT.1 dX3_placeIf_1 ?_
  refine z_if_leF CC 24 dX3_placeIf_4 (by decide) (a := ((tP τ : Nat) : Int)) (nI_toInt (by omega)) (by omega) ?_
  refine y_iload_n CC 2 dX3_placeIf_7 rfl rfl ?_
  refine y_iload_n CC 1 dX3_placeIf_8 rfl rfl ?_
  refine y_iload_n CC 3 dX3_placeIf_9 rfl rfl ?_
  refine y_iload CC 4 dX3_placeIf_10 rfl ?_
  refine y_callSI (st := [.int (nI st)]) CC cl_X3_98 (k_gone l D ad kI kS kL μ k d m (by omega) (by omega) (by omega)) rfl rfl (Nat.le_of_ble_eq_true rfl) ⟨by decide, by decide⟩ ⟨Nat.zero_le _, Nat.zero_le _⟩ dX3_placeIf_12 (fun r_ μ_ w_1 => ?_)
  obtain ⟨rfl, rfl⟩ := w_1
  refine y_iadd CC dX3_placeIf_15 (v := nI (st + (gone k d m))) (nI_add _ _) ?_
  refine y_aload_n CC 0 dX3_placeIf_16 rfl rfl ?_
  refine y_geti CC gl_X3_28 hc rfl (v := nI (tP τ)) hT.1 dX3_placeIf_17 ?_
  refine y_irem CC dX3_placeIf_20 (nI_ne0 (by omega) (by omega)) (v := nI ((st + (gone k d m)) % (tP τ))) (i_rem (by omega) (by omega) (by omega)) ?_
  refine y_goto CC 25 dX3_placeIf_21 (by decide) ?_
  exact y_iret CC hQ dX3_placeIf_25 (⟨rfl, rfl⟩)

set_option maxRecDepth 100000 in
set_option maxHeartbeats 4000000 in
theorem k_placeOf (l : Launch) (D : va_G) (ad : Nat → Nat) (kI kS kL : ClassId) (μ : Mem) (c : Nat) (hc : isO 3 c) (τ : Tn) (hT : TX μ c τ) (hB : tB τ) (hP : 0 < tP τ) (a m : Nat) (ha : a < tS τ) (hm : m ≤ 61) : MI l D ad kI kS kL yX3_placeOf cX3_placeOf 4 (some .int) 2 46 [.ref (ad c), .int (nI a), .int (nI m)] μ (fun r μ2 => μ = μ2 ∧ r = nI (pl τ a m)) := by
  refine met_I RX3 rfl (by decide) (lv := [(0, .ref (ad c)), (1, .int (nI a)), (2, .int (nI m))]) rfl (Nat.le_of_ble_eq_true rfl) ?_
  intro pp ee ss mm aa bb me cd AA hA0 CC hnm QQ hQ
  have hP9 : tP τ ≤ 9 := hB.1
  have hS4 : tS τ ≤ 4 := hB.2.1
  have hc2 : 1 ≤ c ∧ c ≤ 2 := by omega
  have hkb := hB.2.2.1 a (by omega)
  refine y_aload_n CC 0 dX3_placeOf_0 rfl rfl ?_
  refine y_iload_n CC 1 dX3_placeOf_1 rfl rfl ?_
  refine y_callVN (st := []) CC cl_X3_72 (k_sleeperOrNull l D ad kI kS kL μ c hc τ hT hB (nI a)) hc rfl rfl rfl (Nat.le_of_ble_eq_true rfl) ⟨by decide, by decide⟩ ⟨Nat.zero_le _, Nat.zero_le _⟩ dX3_placeOf_2 (fun r_ μ_ w_2 => ?_)
  rcases w_2 with ⟨rfl, ⟨b_1, rfl⟩ | ⟨b_1, rfl⟩⟩
  · skip
    have hb_b_1 := inB_iff.mp b_1
    rw [nI_toInt (by omega)] at hb_b_1
    refine y_eq (st2 := [.ref (ad (4 * c + 18 + a))]) (by rw [ix_nI (by omega)]; rfl) ?_
    refine y_astore_n CC [(3, .ref (ad (4 * c + 18 + a))), (0, .ref (ad c)), (1, .int (nI a)), (2, .int (nI m))] dX3_placeOf_5 rfl (by decide) rfl ?_
    refine y_aload_n CC 0 dX3_placeOf_6 rfl rfl ?_
    refine y_ifnonnull CC 14 dX3_placeOf_7 (by decide) ?_
    refine y_aload_n CC 1 dX3_placeOf_14 rfl rfl ?_
    refine y_aload_n CC 0 dX3_placeOf_15 rfl rfl ?_
    refine y_geti CC gl_X3_76 (by omega) rfl (v := nI (tK τ a)) (hT.2.2.1 a (by omega)).1 dX3_placeOf_16 ?_
    refine y_aload_n CC 0 dX3_placeOf_19 rfl rfl ?_
    refine y_geti CC gl_X3_82 (by omega) rfl (v := nI (tA τ a)) (hT.2.2.1 a (by omega)).2.1 dX3_placeOf_20 ?_
    refine y_aload_n CC 0 dX3_placeOf_23 rfl rfl ?_
    refine y_geti CC gl_X3_85 (by omega) rfl (v := nI (tD τ a)) (hT.2.2.1 a (by omega)).2.2 dX3_placeOf_24 ?_
    refine y_iload_n CC 3 dX3_placeOf_27 rfl rfl ?_
    refine y_callVI (st := []) CC cl_X3_102 (k_placeIf l D ad kI kS kL μ c hc τ hT hB hP (tK τ a) (tA τ a) (tD τ a) m (by omega) (by omega) (by omega) (by omega)) hc rfl rfl rfl (Nat.le_of_ble_eq_true rfl) ⟨by decide, by decide⟩ ⟨Nat.zero_le _, Nat.zero_le _⟩ dX3_placeOf_28 (fun r_ μ_ w_3 => ?_)
    obtain ⟨rfl, rfl⟩ := w_3
    exact y_iret CC hQ dX3_placeOf_31 (⟨rfl, rfl⟩)
  · skip
    exfalso; rw [inB_nI (by omega) (by omega)] at b_1; cases b_1

set_option maxRecDepth 100000 in
set_option maxHeartbeats 4000000 in
theorem k_placeAfter (l : Launch) (D : va_G) (ad : Nat → Nat) (kI kS kL : ClassId) (μ : Mem) (c : Nat) (hc : isO 3 c) (τ : Tn) (hT : TX μ c τ) (hB : tB τ) (p act : Nat) (hp : p < tP τ) (hact : act ≤ 2) : MI l D ad kI kS kL yX3_placeAfter cX3_placeAfter 3 (some .int) 0 0 [.ref (ad c), .int (nI p), .int (nI act)] μ (fun r μ2 => μ = μ2 ∧ r = nI (after (tP τ) p act)) := by
  refine met_I RX3 rfl (by decide) (lv := [(0, .ref (ad c)), (1, .int (nI p)), (2, .int (nI act))]) rfl (Nat.le_of_ble_eq_true rfl) ?_
  intro pp ee ss mm aa bb me cd AA hA0 CC hnm QQ hQ
  have hP9 : tP τ ≤ 9 := hB.1
  have hS4 : tS τ ≤ 4 := hB.2.1
  have hc2 : 1 ≤ c ∧ c ≤ 2 := by omega
  refine y_aload_n CC 0 dX3_placeAfter_0 rfl rfl ?_
  refine y_geti CC gl_X3_28 hc rfl (v := nI (tP τ)) hT.1 dX3_placeAfter_1 ?_
  refine z_if_gtT CC 9 dX3_placeAfter_4 (by decide) (a := ((tP τ : Nat) : Int)) (nI_toInt (by omega)) (by omega) ?_
  refine y_iload_n CC 2 dX3_placeAfter_9 rfl rfl ?_
  rcases (show act = 0 ∨ act = 1 ∨ act = 2 by omega) with rfl | rfl | rfl
  · skip
    refine y_lookup CC (off := 49) 59 dX3_placeAfter_10 (by decide) (by decide +kernel) (by decide) ?_
    refine y_iload_n CC 1 dX3_placeAfter_59 rfl rfl ?_
    exact y_iret CC hQ dX3_placeAfter_60 (⟨rfl, rfl⟩)
  · skip
    refine y_lookup CC (off := 26) 36 dX3_placeAfter_10 (by decide) (by decide +kernel) (by decide) ?_
    refine y_iload_n CC 1 dX3_placeAfter_36 rfl rfl ?_
    refine y_iconst CC (nI 1) dX3_placeAfter_37 (by decide) ?_
    refine y_iadd CC dX3_placeAfter_38 (v := nI (p + 1)) (nI_add _ _) ?_
    refine y_aload_n CC 0 dX3_placeAfter_39 rfl rfl ?_
    refine y_geti CC gl_X3_28 hc rfl (v := nI (tP τ)) hT.1 dX3_placeAfter_40 ?_
    refine y_irem CC dX3_placeAfter_43 (nI_ne0 (by omega) (by omega)) (v := nI ((p + 1) % (tP τ))) (i_rem (by omega) (by omega) (by omega)) ?_
    exact y_iret CC hQ dX3_placeAfter_44 (⟨rfl, rfl⟩)
  · skip
    refine y_lookup CC (off := 35) 45 dX3_placeAfter_10 (by decide) (by decide +kernel) (by decide) ?_
    refine y_iload_n CC 1 dX3_placeAfter_45 rfl rfl ?_
    refine y_aload_n CC 0 dX3_placeAfter_46 rfl rfl ?_
    refine y_geti CC gl_X3_28 hc rfl (v := nI (tP τ)) hT.1 dX3_placeAfter_47 ?_
    refine y_iadd CC dX3_placeAfter_50 (v := nI (p + (tP τ))) (nI_add _ _) ?_
    refine y_iconst CC (nI 1) dX3_placeAfter_51 (by decide) ?_
    refine y_isub CC dX3_placeAfter_52 (v := nI ((p + (tP τ)) - 1)) (pk_sub (by omega)) ?_
    refine y_aload_n CC 0 dX3_placeAfter_53 rfl rfl ?_
    refine y_geti CC gl_X3_28 hc rfl (v := nI (tP τ)) hT.1 dX3_placeAfter_54 ?_
    refine y_irem CC dX3_placeAfter_57 (nI_ne0 (by omega) (by omega)) (v := nI (((p + (tP τ)) - 1) % (tP τ))) (i_rem (by omega) (by omega) (by omega)) ?_
    exact y_iret CC hQ dX3_placeAfter_58 (⟨rfl, rfl⟩)

set_option maxRecDepth 100000 in
set_option maxHeartbeats 4000000 in
theorem k_goodsOfAll (l : Launch) (D : va_G) (ad : Nat → Nat) (kI kS kL : ClassId) (μ : Mem) (c : Nat) (hc : isO 3 c) (τ : Tn) (hT : TX μ c τ) (hB : tB τ) : MI l D ad kI kS kL yX3_goodsOfAll cX3_goodsOfAll 3 (some .int) 2 42 [.ref (ad c)] μ (fun r μ2 => μ = μ2 ∧ r = nI (gsm τ (tP τ))) := by
  refine met_I RX3 rfl (by decide) (lv := [(0, .ref (ad c))]) rfl (Nat.le_of_ble_eq_true rfl) ?_
  intro pp ee ss mm aa bb me cd AA hA0 CC hnm QQ hQ
  have hP9 : tP τ ≤ 9 := hB.1
  have hS4 : tS τ ≤ 4 := hB.2.1
  have hc2 : 1 ≤ c ∧ c ≤ 2 := by omega
  refine y_iconst CC (nI 0) dX3_goodsOfAll_0 (by decide) ?_
  refine y_istore_n CC [(1, .int (nI 0)), (0, .ref (ad c))] dX3_goodsOfAll_1 rfl (by decide) rfl ?_
  refine y_iconst CC (nI 0) dX3_goodsOfAll_2 (by decide) ?_
  refine y_istore_n CC [(2, .int (nI 0)), (1, .int (nI 0)), (0, .ref (ad c))] dX3_goodsOfAll_3 rfl (by decide) rfl ?_
  have L4 : ∀ (n4 : Nat) (i : Nat), tP τ - i < n4 → (i ≤ tP τ) → Y pp l ee (rmY 2 42) ss mm aa bb me cd D ad kI kS kL AA 3 0 0 QQ 4 [(2, .int (nI i)), (1, .int (nI (gsm τ i))), (0, .ref (ad c))] [] μ := by
    intro n4
    induction n4 with
    | zero => intro i hm4; exact absurd hm4 (Nat.not_lt_zero _)
    | succ n4 ih4 =>
      intro i hm4 hi
      refine y_iload_n CC 0 dX3_goodsOfAll_4 rfl rfl ?_
      refine y_aload_n CC 2 dX3_goodsOfAll_5 rfl rfl ?_
      refine y_geti CC gl_X3_28 hc rfl (v := nI (tP τ)) hT.1 dX3_goodsOfAll_6 ?_
      refine z_icmp_ge CC 26 dX3_goodsOfAll_9 (by decide) (a := ((i : Nat) : Int)) (b := ((tP τ : Nat) : Int)) (nI_toInt (by omega)) (nI_toInt (by omega)) (fun c_2 => ?_) (fun c_2 => ?_)
      · skip
        refine y_iload_n CC 1 dX3_goodsOfAll_26 rfl rfl ?_
        exact y_iret CC hQ dX3_goodsOfAll_27 (⟨rfl, by rw [show i = tP τ by omega]⟩)
      · skip
        refine y_iload_n CC 1 dX3_goodsOfAll_12 rfl rfl ?_
        refine y_aload_n CC 2 dX3_goodsOfAll_13 rfl rfl ?_
        refine y_iload_n CC 0 dX3_goodsOfAll_14 rfl rfl ?_
        refine y_callVI (st := [.int (nI (gsm τ i))]) CC cl_X3_95 (k_goodsAt l D ad kI kS kL μ c hc τ hT hB (nI i)) hc rfl rfl rfl (Nat.le_of_ble_eq_true rfl) ⟨by decide, by decide⟩ ⟨Nat.zero_le _, Nat.zero_le _⟩ dX3_goodsOfAll_15 (fun r_ μ_ w_3 => ?_)
        obtain ⟨rfl, rfl⟩ := w_3
        refine y_top (y := nI (tG τ i)) (by rw [if_pos (inB_nI (by omega) (by omega)), ix_nI (by omega)]) ?_
        refine y_iadd CC dX3_goodsOfAll_18 (v := nI ((gsm τ i) + (tG τ i))) (nI_add _ _) ?_
        refine y_istore_n CC [(1, .int (nI ((gsm τ i) + (tG τ i)))), (2, .int (nI i)), (0, .ref (ad c))] dX3_goodsOfAll_19 rfl (by decide) rfl ?_
        refine y_iinc CC 1 (nI (i + 1)) [(2, .int (nI (i + 1))), (1, .int (nI ((gsm τ i) + (tG τ i)))), (0, .ref (ad c))] dX3_goodsOfAll_20 rfl (i_inc _) (by decide) rfl ?_
        refine y_goto CC 4 dX3_goodsOfAll_23 (by decide) ?_
        exact ih4 (i + 1) (by omega) (by omega)
  exact L4 _ 0 (Nat.lt_succ_self _) (Nat.zero_le _)
end
section
theorem sn_t {R : Nat → Nat} {to n : Nat} (h : (R n).testBit to = true) (hn : n < 61) : sn R to n (61 - n) = some n := by
  obtain ⟨k, hk⟩ : ∃ k, 61 - n = k + 1 := ⟨60 - n, by omega⟩
  rw [hk, sn, if_pos h]
theorem sn_f {R : Nat → Nat} {to n : Nat} (h : (R n).testBit to = false) (hn : n < 61) : sn R to n (61 - n) = sn R to (n + 1) (61 - (n + 1)) := by
  obtain ⟨k, hk⟩ : ∃ k, 61 - n = k + 1 := ⟨60 - n, by omega⟩
  rw [hk, sn, if_neg (by rw [h]; decide), show 61 - (n + 1) = k by omega]
/-- a sleeper comes to p at all -/
def ctB (τ : Tn) (a p : Nat) : Bool := (List.range 61).any (fun m => decide (pl τ a m = p))
theorem ctB_t {τ : Tn} {a p m : Nat} (hm : m < 61) (h : pl τ a m = p) : ctB τ a p = true := List.any_eq_true.mpr ⟨m, List.mem_range.mpr hm, decide_eq_true h⟩
theorem ctB_f {τ : Tn} {a p : Nat} (h : ∀ m, m < 61 → ¬ pl τ a m = p) : ctB τ a p = false := by
  cases hb : ctB τ a p with
  | false => rfl
  | true =>
    obtain ⟨m, h1, h2⟩ := List.any_eq_true.mp hb
    exact absurd (of_decide_eq_true h2) (h m (List.mem_range.mp h1))
def cmS (τ : Tn) (p : Nat) : Nat → Nat
  | 0 => 0
  | k + 1 => cmS τ p k + (if ctB τ k p = true then 1 else 0)
theorem cmS_le (τ : Tn) (p : Nat) : ∀ k, cmS τ p k ≤ k
  | 0 => Nat.le_refl 0
  | k + 1 => by
    have := cmS_le τ p k
    rw [cmS]
    split <;> omega
/-- of the places below p the one to which the most come, and how many -/
def gbS (τ : Tn) : Nat → Nat × Nat
  | 0 => (0, 0)
  | p + 1 => if (gbS τ p).2 < cmS τ p (tS τ) then (p, cmS τ p (tS τ)) else gbS τ p
theorem gbS_le (τ : Tn) : ∀ p, (gbS τ p).1 ≤ p ∧ (gbS τ p).2 ≤ tS τ
  | 0 => ⟨Nat.le_refl 0, Nat.zero_le _⟩
  | p + 1 => by
    have h := gbS_le τ p
    have h2 := cmS_le τ p (tS τ)
    rw [gbS]
    split
    · exact ⟨by show p ≤ p + 1; omega, h2⟩
    · exact ⟨by omega, h.2⟩
/-- what was visited in n steps (a step a sleeper, a row of steps a minute), and what a takes in them -/
def vis (τ : Tn) : Nat → Nat
  | 0 => 0
  | n + 1 => vis τ n ||| 2 ^ pl τ (n % tS τ) (n / tS τ)
def tk (τ : Tn) (a : Nat) : Nat → Nat
  | 0 => 0
  | n + 1 => if n % tS τ = a ∧ (vis τ n).testBit (pl τ (n % tS τ) (n / tS τ)) = false then tk τ a n + tG τ (pl τ (n % tS τ) (n / tS τ)) else tk τ a n
theorem vis_lt {τ : Tn} (h : 0 < tP τ) : ∀ n, vis τ n < 2 ^ tP τ
  | 0 => Nat.two_pow_pos _
  | n + 1 => Nat.or_lt_two_pow (vis_lt h n) (Nat.pow_lt_pow_right (by decide) (pl_lt h _ _))
theorem step_mod {m b S : Nat} (hb : b < S) : (m * S + b) % S = b := by rw [Nat.mul_comm, Nat.mul_add_mod, Nat.mod_eq_of_lt hb]
theorem step_div {m b S : Nat} (hb : b < S) : (m * S + b) / S = m := by rw [Nat.mul_comm, Nat.mul_add_div (by omega), Nat.div_eq_of_lt hb]; rfl
theorem vis_s {τ : Tn} {m b : Nat} (hb : b < tS τ) : vis τ (m * tS τ + b + 1) = vis τ (m * tS τ + b) ||| 2 ^ pl τ b m := by rw [vis, step_mod hb, step_div hb]
theorem tk_t {τ : Tn} {m b : Nat} (hb : b < tS τ) (hv : (vis τ (m * tS τ + b)).testBit (pl τ b m) = false) : tk τ b (m * tS τ + b + 1) = tk τ b (m * tS τ + b) + tG τ (pl τ b m) := by rw [tk, step_mod hb, step_div hb, if_pos ⟨rfl, hv⟩]
theorem tk_f {τ : Tn} {a m b : Nat} (hb : b < tS τ) (hv : b ≠ a ∨ (vis τ (m * tS τ + b)).testBit (pl τ b m) = true) : tk τ a (m * tS τ + b + 1) = tk τ a (m * tS τ + b) := by
  rw [tk, step_mod hb, step_div hb, if_neg]
  intro ⟨h1, h2⟩
  rcases hv with h | h
  · exact h h1
  · rw [h2] at h; cases h
/-- backwards from the end: ahead of the mask, step by step; and what stands for a minute -/
def bj (τ : Tn) (t n : Nat) : Nat → Nat
  | 0 => 2 ^ t
  | j + 1 => nbS (tP τ) (bj τ t n j &&& frS τ 15 (n - j))
def bwS (τ : Tn) (t n m : Nat) : Nat := bj τ t n (n - m) &&& frS τ 15 m
theorem bj_lt {τ : Tn} {t n : Nat} (h : t < tP τ) : ∀ j, bj τ t n j < 2 ^ tP τ
  | 0 => Nat.pow_lt_pow_right (by decide) h
  | j + 1 => nbS_lt _ _
theorem bwS_lt {τ : Tn} {t n : Nat} (m : Nat) : bwS τ t n m < 2 ^ tP τ := Nat.lt_of_le_of_lt Nat.and_le_right (frS_lt _ _ _)
theorem bwS_j {τ : Tn} {t n j : Nat} (h : j ≤ n) : bwS τ t n (n - j) = bj τ t n j &&& frS τ 15 (n - j) := by rw [bwS, show n - (n - j) = j by omega]
/-- the least act from p into a set -/
def faS (P s p : Nat) : Option Nat := if s.testBit (after P p 0) = true then some 0 else if s.testBit (after P p 1) = true then some 1 else if s.testBit (after P p 2) = true then some 2 else none
theorem faS_ex {P s p : Nat} (hp : p < P) (h : (nbS P s).testBit p = true) : ∃ a, a ≤ 2 ∧ faS P s p = some a ∧ s.testBit (after P p a) = true := by
  rw [nbS, bs_bit] at h
  simp only [hp, decide_true, Bool.true_and, Bool.or_eq_true] at h
  unfold faS
  by_cases h0 : s.testBit (after P p 0) = true
  · exact ⟨0, by omega, by rw [if_pos h0], h0⟩
  · by_cases h1 : s.testBit (after P p 1) = true
    · exact ⟨1, by omega, by rw [if_neg h0, if_pos h1], h1⟩
    · by_cases h2 : s.testBit (after P p 2) = true
      · exact ⟨2, by omega, by rw [if_neg h0, if_neg h1, if_pos h2], h2⟩
      · rcases h with h | h | h
        · exact absurd h h0
        · exact absurd h h1
        · exact absurd h h2
/-- the soonest walk: where one is, and the act then -/
def posS (τ : Tn) (t n f : Nat) : Nat → Nat
  | 0 => f
  | x + 1 => after (tP τ) (posS τ t n f x) ((faS (tP τ) (bwS τ t n (x + 1)) (posS τ t n f x)).getD 0)
def actS (τ : Tn) (t n f x : Nat) : Nat := (faS (tP τ) (bwS τ t n (x + 1)) (posS τ t n f x)).getD 0
theorem way_step {τ : Tn} {t n f x : Nat} (hp : posS τ t n f x < tP τ) (hx : x < n) (h : (bwS τ t n x).testBit (posS τ t n f x) = true) : actS τ t n f x ≤ 2 ∧ faS (tP τ) (bwS τ t n (x + 1)) (posS τ t n f x) = some (actS τ t n f x) ∧ (bwS τ t n (x + 1)).testBit (posS τ t n f (x + 1)) = true := by
  have h1 : (nbS (tP τ) (bwS τ t n (x + 1))).testBit (posS τ t n f x) = true := by
    have e : bj τ t n (n - x) = nbS (tP τ) (bwS τ t n (x + 1)) := by
      rw [show n - x = (n - (x + 1)) + 1 by omega, bj, bwS, show n - (n - (x + 1)) = x + 1 by omega]
    rw [bwS, Nat.testBit_and, e, Bool.and_eq_true] at h
    exact h.1
  obtain ⟨a, h2, h3, h4⟩ := faS_ex hp h1
  have e2 : actS τ t n f x = a := by rw [actS, h3]; rfl
  refine ⟨by omega, by rw [e2]; exact h3, ?_⟩
  rw [posS, h3]
  exact h4

set_option maxRecDepth 100000 in
set_option maxHeartbeats 4000000 in
theorem k_everyPlace (l : Launch) (D : va_G) (ad : Nat → Nat) (kI kS kL : ClassId) (μ : Mem) (c : Nat) (hc : isO 3 c) (τ : Tn) (hT : TX μ c τ) (hB : tB τ) : MI l D ad kI kS kL yX3_everyPlace cX3_everyPlace 1 (some .int) 1 20 [.ref (ad c)] μ (fun r μ2 => μ = μ2 ∧ r = nI (2 ^ tP τ - 1)) := by
  refine met_I RX3 rfl (by decide) (lv := [(0, .ref (ad c))]) rfl (Nat.le_of_ble_eq_true rfl) ?_
  intro pp ee ss mm aa bb me cd AA hA0 CC hnm QQ hQ
  have hP9 : tP τ ≤ 9 := hB.1
  have hS4 : tS τ ≤ 4 := hB.2.1
  have hc2 : 1 ≤ c ∧ c ≤ 2 := by omega
  refine y_aload_n CC 0 dX3_everyPlace_0 rfl rfl ?_
  refine y_geti CC gl_X3_28 hc rfl (v := nI (tP τ)) hT.1 dX3_everyPlace_1 ?_
  refine y_callTI (st := []) CC CC.2.2.2.2.2.1.2.2.2.2.2.2 cl_X3_114 (k_bit l D ad kI kS kL μ (tP τ) (by omega)) rfl rfl (Nat.le_of_ble_eq_true rfl) ⟨by decide, by decide⟩ ⟨Nat.zero_le _, Nat.zero_le _⟩ dX3_everyPlace_4 (fun r_ μ_ w_1 => ?_)
  obtain ⟨rfl, rfl⟩ := w_1
  refine y_iconst CC (nI 1) dX3_everyPlace_7 (by decide) ?_
  refine y_isub CC dX3_everyPlace_8 (v := nI (2 ^ tP τ - 1)) (pk_sub Nat.one_le_two_pow) ?_
  exact y_iret CC hQ dX3_everyPlace_9 (⟨rfl, rfl⟩)

set_option maxRecDepth 100000 in
set_option maxHeartbeats 4000000 in
theorem k_freePlaces (l : Launch) (D : va_G) (ad : Nat → Nat) (kI kS kL : ClassId) (μ : Mem) (c : Nat) (hc : isO 3 c) (τ : Tn) (hT : TX μ c τ) (hB : tB τ) (hP3 : 3 ≤ tP τ) (m w : Nat) (hm : m ≤ 61) (hw : w < 16) : MI l D ad kI kS kL yX3_freePlaces cX3_freePlaces 5 (some .int) 3 69 [.ref (ad c), .int (nI m), .int (nI w)] μ (fun r μ2 => μ = μ2 ∧ r = nI (frS τ w m)) := by
  refine met_I RX3 rfl (by decide) (lv := [(0, .ref (ad c)), (1, .int (nI m)), (2, .int (nI w))]) rfl (Nat.le_of_ble_eq_true rfl) ?_
  intro pp ee ss mm aa bb me cd AA hA0 CC hnm QQ hQ
  have hP9 : tP τ ≤ 9 := hB.1
  have hS4 : tS τ ≤ 4 := hB.2.1
  have hc2 : 1 ≤ c ∧ c ≤ 2 := by omega
  refine y_aload_n CC 0 dX3_freePlaces_0 rfl rfl ?_
  refine y_callVI (st := []) CC cl_X3_117 (k_everyPlace l D ad kI kS kL μ c hc τ hT hB) hc rfl rfl rfl (Nat.le_of_ble_eq_true rfl) ⟨by decide, by decide⟩ ⟨Nat.zero_le _, Nat.zero_le _⟩ dX3_freePlaces_1 (fun r_ μ_ w_1 => ?_)
  obtain ⟨rfl, rfl⟩ := w_1
  refine y_top (y := nI (bs (tP τ) (frB τ w m 0))) (by rw [← bs_full]; exact congrArg nI (bs_ext (fun p_ _ => rfl))) ?_
  refine y_istore_n CC [(3, .int (nI (bs (tP τ) (frB τ w m 0)))), (0, .ref (ad c)), (1, .int (nI m)), (2, .int (nI w))] dX3_freePlaces_4 rfl (by decide) rfl ?_
  refine y_iconst CC (nI 0) dX3_freePlaces_5 (by decide) ?_
  refine y_istore CC [(4, .int (nI 0)), (3, .int (nI (bs (tP τ) (frB τ w m 0)))), (0, .ref (ad c)), (1, .int (nI m)), (2, .int (nI w))] dX3_freePlaces_6 (by decide) rfl ?_
  have L8 : ∀ (n8 : Nat) (a : Nat), tS τ - a < n8 → (a ≤ tS τ) → Y pp l ee (rmY 3 69) ss mm aa bb me cd D ad kI kS kL AA 5 0 0 QQ 8 [(4, .int (nI a)), (3, .int (nI (bs (tP τ) (frB τ w m a)))), (0, .ref (ad c)), (1, .int (nI m)), (2, .int (nI w))] [] μ := by
    intro n8
    induction n8 with
    | zero => intro a hm8; exact absurd hm8 (Nat.not_lt_zero _)
    | succ n8 ih8 =>
      intro a hm8 ha
      refine y_iload CC 0 dX3_freePlaces_8 rfl ?_
      refine y_aload_n CC 2 dX3_freePlaces_10 rfl rfl ?_
      refine y_geti CC gl_X3_24 hc rfl (v := nI (tS τ)) hT.2.1 dX3_freePlaces_11 ?_
      refine z_icmp_ge CC 47 dX3_freePlaces_14 (by decide) (a := ((a : Nat) : Int)) (b := ((tS τ : Nat) : Int)) (nI_toInt (by omega)) (nI_toInt (by omega)) (fun c_3 => ?_) (fun c_3 => ?_)
      · skip
        refine y_iload_n CC 1 dX3_freePlaces_47 rfl rfl ?_
        exact y_iret CC hQ dX3_freePlaces_48 (⟨rfl, by rw [show a = tS τ by omega]; rfl⟩)
      · skip
        refine y_iload_n CC 4 dX3_freePlaces_17 rfl rfl ?_
        refine y_iload CC 0 dX3_freePlaces_18 rfl ?_
        refine y_callTI (st := []) CC CC.2.2.2.2.2.1.2.2.2.2.2.1 cl_X3_110 (k_isIn l D ad kI kS kL μ w a (by omega) (by omega)) rfl rfl (Nat.le_of_ble_eq_true rfl) ⟨by decide, by decide⟩ ⟨Nat.zero_le _, Nat.zero_le _⟩ dX3_freePlaces_20 (fun r_ μ_ w_5 => ?_)
        rcases w_5 with ⟨rfl, ⟨b_4, rfl⟩ | ⟨b_4, rfl⟩⟩
        · skip
          refine z_if_eqF CC 41 dX3_freePlaces_23 (by decide) (a := (1 : Int)) (nI_toInt (by decide)) (by decide) ?_
          refine y_iload_n CC 1 dX3_freePlaces_26 rfl rfl ?_
          refine y_aload_n CC 2 dX3_freePlaces_27 rfl rfl ?_
          refine y_iload CC 0 dX3_freePlaces_28 rfl ?_
          refine y_iload_n CC 3 dX3_freePlaces_30 rfl rfl ?_
          refine y_callVI (st := [.int (nI (bs (tP τ) (frB τ w m a)))]) CC cl_X3_106 (k_placeOf l D ad kI kS kL μ c hc τ hT hB (by omega) a m (by omega) (by omega)) hc rfl rfl rfl (Nat.le_of_ble_eq_true rfl) ⟨by decide, by decide⟩ ⟨Nat.zero_le _, Nat.zero_le _⟩ dX3_freePlaces_31 (fun r_ μ_ w_7 => ?_)
          obtain ⟨rfl, rfl⟩ := w_7
          have h_pl_6 := pl_lt (τ := τ) (by omega) a m
          refine y_callTI (st := [.int (nI (bs (tP τ) (frB τ w m a)))]) CC CC.2.2.2.2.2.1.2.2.2.2.2.2 cl_X3_114 (k_bit l D ad kI kS kL μ (pl τ a m) (by omega)) rfl rfl (Nat.le_of_ble_eq_true rfl) ⟨by decide, by decide⟩ ⟨Nat.zero_le _, Nat.zero_le _⟩ dX3_freePlaces_34 (fun r_ μ_ w_8 => ?_)
          obtain ⟨rfl, rfl⟩ := w_8
          refine y_iconst CC ((-1)) dX3_freePlaces_37 (by decide) ?_
          refine y_ixor CC dX3_freePlaces_38 (v := (nI (2 ^ (pl τ a m))) ^^^ (-1)) rfl ?_
          refine y_iand CC dX3_freePlaces_39 (v := nI (bs (tP τ) (frB τ w m (a + 1)))) ((i_clr _).trans (congrArg nI (bs_ext (fun p_ _ => by rw [frB_s, b_4]; simp)))) ?_
          refine y_istore_n CC [(3, .int (nI (bs (tP τ) (frB τ w m (a + 1))))), (4, .int (nI a)), (0, .ref (ad c)), (1, .int (nI m)), (2, .int (nI w))] dX3_freePlaces_40 rfl (by decide) rfl ?_
          refine y_iinc CC 1 (nI (a + 1)) [(4, .int (nI (a + 1))), (3, .int (nI (bs (tP τ) (frB τ w m (a + 1))))), (0, .ref (ad c)), (1, .int (nI m)), (2, .int (nI w))] dX3_freePlaces_41 rfl (i_inc _) (by decide) rfl ?_
          refine y_goto CC 8 dX3_freePlaces_44 (by decide) ?_
          exact ih8 (a + 1) (by omega) (by omega)
        · skip
          refine z_if_eqT CC 41 dX3_freePlaces_23 (by decide) (a := (0 : Int)) (nI_toInt (by decide)) (by decide) ?_
          refine y_lvE (lv2 := [(4, .int (nI a)), (3, .int (nI (bs (tP τ) (frB τ w m (a + 1))))), (0, .ref (ad c)), (1, .int (nI m)), (2, .int (nI w))]) (by rw [show bs (tP τ) (frB τ w m (a + 1)) = bs (tP τ) (frB τ w m a) from bs_ext (fun p_ _ => by rw [frB_s, b_4]; simp)]) ?_
          refine y_iinc CC 0 (nI (a + 1)) [(4, .int (nI (a + 1))), (3, .int (nI (bs (tP τ) (frB τ w m (a + 1))))), (0, .ref (ad c)), (1, .int (nI m)), (2, .int (nI w))] dX3_freePlaces_41 rfl (i_inc _) (by decide) rfl ?_
          refine y_goto CC 8 dX3_freePlaces_44 (by decide) ?_
          exact ih8 (a + 1) (by omega) (by omega)
  exact L8 _ 0 (Nat.lt_succ_self _) (Nat.zero_le _)

set_option maxRecDepth 100000 in
set_option maxHeartbeats 4000000 in
theorem k_withNeighbours (l : Launch) (D : va_G) (ad : Nat → Nat) (kI kS kL : ClassId) (μ : Mem) (c : Nat) (hc : isO 3 c) (τ : Tn) (hT : TX μ c τ) (hB : tB τ) (hP3 : 3 ≤ tP τ) (s : Nat) (hs : s < 2 ^ tP τ) : MI l D ad kI kS kL yX3_withNeighbours cX3_withNeighbours 5 (some .int) 2 40 [.ref (ad c), .int (nI s)] μ (fun r μ2 => μ = μ2 ∧ r = nI (nbS (tP τ) s)) := by
  refine met_I RX3 rfl (by decide) (lv := [(0, .ref (ad c)), (1, .int (nI s))]) rfl (Nat.le_of_ble_eq_true rfl) ?_
  intro pp ee ss mm aa bb me cd AA hA0 CC hnm QQ hQ
  have hP9 : tP τ ≤ 9 := hB.1
  have hS4 : tS τ ≤ 4 := hB.2.1
  have hc2 : 1 ≤ c ∧ c ≤ 2 := by omega
  have hs9 := set9 hP9 hs
  have hp8 : 2 ^ (tP τ - 1) ≤ 256 := show 2 ^ (tP τ - 1) ≤ 2 ^ 8 from Nat.pow_le_pow_right (by decide) (by omega)
  have hsl : s * 2 ^ (tP τ - 1) ≤ 511 * 256 := Nat.mul_le_mul (by omega) hp8
  refine y_aload_n CC 0 dX3_withNeighbours_0 rfl rfl ?_
  refine y_geti CC gl_X3_28 hc rfl (v := nI (tP τ)) hT.1 dX3_withNeighbours_1 ?_
  refine y_iconst CC (nI 1) dX3_withNeighbours_4 (by decide) ?_
  refine y_isub CC dX3_withNeighbours_5 (v := nI ((tP τ) - 1)) (pk_sub (by omega)) ?_
  refine y_istore_n CC [(2, .int (nI ((tP τ) - 1))), (0, .ref (ad c)), (1, .int (nI s))] dX3_withNeighbours_6 rfl (by decide) rfl ?_
  refine y_iload_n CC 2 dX3_withNeighbours_7 rfl rfl ?_
  refine y_iconst CC (nI 1) dX3_withNeighbours_8 (by decide) ?_
  refine y_ishl CC dX3_withNeighbours_9 (v := nI (s * 2 ^ 1)) (i_shl (by omega) (by omega)) ?_
  refine y_iload_n CC 2 dX3_withNeighbours_10 rfl rfl ?_
  refine y_iload_n CC 0 dX3_withNeighbours_11 rfl rfl ?_
  refine y_ishr CC dX3_withNeighbours_12 (v := nI (s / 2 ^ ((tP τ) - 1))) (i_shr (by omega) (by omega)) ?_
  refine y_ior CC dX3_withNeighbours_13 (v := nI ((s * 2 ^ 1) ||| (s / 2 ^ ((tP τ) - 1)))) (i_or _ _) ?_
  refine y_istore_n CC [(3, .int (nI ((s * 2 ^ 1) ||| (s / 2 ^ ((tP τ) - 1))))), (2, .int (nI ((tP τ) - 1))), (0, .ref (ad c)), (1, .int (nI s))] dX3_withNeighbours_14 rfl (by decide) rfl ?_
  refine y_iload_n CC 3 dX3_withNeighbours_15 rfl rfl ?_
  refine y_iconst CC (nI 1) dX3_withNeighbours_16 (by decide) ?_
  refine y_ishr CC dX3_withNeighbours_17 (v := nI (s / 2 ^ 1)) (i_shr (by omega) (by omega)) ?_
  refine y_iload_n CC 3 dX3_withNeighbours_18 rfl rfl ?_
  refine y_iload_n CC 1 dX3_withNeighbours_19 rfl rfl ?_
  refine y_ishl CC dX3_withNeighbours_20 (v := nI (s * 2 ^ ((tP τ) - 1))) (i_shl (by omega) (by omega)) ?_
  refine y_ior CC dX3_withNeighbours_21 (v := nI ((s / 2 ^ 1) ||| (s * 2 ^ ((tP τ) - 1)))) (i_or _ _) ?_
  refine y_istore CC [(4, .int (nI ((s / 2 ^ 1) ||| (s * 2 ^ ((tP τ) - 1))))), (3, .int (nI ((s * 2 ^ 1) ||| (s / 2 ^ ((tP τ) - 1))))), (2, .int (nI ((tP τ) - 1))), (0, .ref (ad c)), (1, .int (nI s))] dX3_withNeighbours_22 (by decide) rfl ?_
  refine y_iload_n CC 4 dX3_withNeighbours_24 rfl rfl ?_
  refine y_iload_n CC 1 dX3_withNeighbours_25 rfl rfl ?_
  refine y_ior CC dX3_withNeighbours_26 (v := nI (s ||| ((s * 2 ^ 1) ||| (s / 2 ^ ((tP τ) - 1))))) (i_or _ _) ?_
  refine y_iload CC 0 dX3_withNeighbours_27 rfl ?_
  refine y_ior CC dX3_withNeighbours_29 (v := nI ((s ||| ((s * 2 ^ 1) ||| (s / 2 ^ ((tP τ) - 1)))) ||| ((s / 2 ^ 1) ||| (s * 2 ^ ((tP τ) - 1))))) (i_or _ _) ?_
  refine y_aload_n CC 3 dX3_withNeighbours_30 rfl rfl ?_
  refine y_callVI (st := [.int (nI ((s ||| ((s * 2 ^ 1) ||| (s / 2 ^ ((tP τ) - 1)))) ||| ((s / 2 ^ 1) ||| (s * 2 ^ ((tP τ) - 1)))))]) CC cl_X3_117 (k_everyPlace l D ad kI kS kL μ c hc τ hT hB) hc rfl rfl rfl (Nat.le_of_ble_eq_true rfl) ⟨by decide, by decide⟩ ⟨Nat.zero_le _, Nat.zero_le _⟩ dX3_withNeighbours_31 (fun r_ μ_ w_1 => ?_)
  obtain ⟨rfl, rfl⟩ := w_1
  refine y_iand CC dX3_withNeighbours_34 (v := nI (nbS (tP τ) s)) ((i_and _ _).trans (congrArg nI (nbS_eq (tP τ) (by omega) hP3 s hs))) ?_
  exact y_iret CC hQ dX3_withNeighbours_35 (⟨rfl, rfl⟩)

set_option maxRecDepth 100000 in
set_option maxHeartbeats 4000000 in
theorem k_fewestMinutes (l : Launch) (D : va_G) (ad : Nat → Nat) (kI kS kL : ClassId) (μ : Mem) (c : Nat) (hc : isO 3 c) (τ : Tn) (hT : TX μ c τ) (hB : tB τ) (hP3 : 3 ≤ tP τ) (f t w : Nat) (hf : f < tP τ) (ht : t < tP τ) (hw : w < 16) : MI l D ad kI kS kL yX3_fewestMinutes cX3_fewestMinutes 6 (some .int) 4 93 [.ref (ad c), .int (nI f), .int (nI t), .int (nI w)] μ (fun r μ2 => μ = μ2 ∧ r = oI (soon τ w f t)) := by
  refine met_I RX3 rfl (by decide) (lv := [(0, .ref (ad c)), (1, .int (nI f)), (2, .int (nI t)), (3, .int (nI w))]) rfl (Nat.le_of_ble_eq_true rfl) ?_
  intro pp ee ss mm aa bb me cd AA hA0 CC hnm QQ hQ
  have hP9 : tP τ ≤ 9 := hB.1
  have hS4 : tS τ ≤ 4 := hB.2.1
  have hc2 : 1 ≤ c ∧ c ≤ 2 := by omega
  refine y_iload_n CC 1 dX3_fewestMinutes_0 rfl rfl ?_
  refine y_callTI (st := []) CC CC.2.2.2.2.2.1.2.2.2.2.2.2 cl_X3_114 (k_bit l D ad kI kS kL μ f (by omega)) rfl rfl (Nat.le_of_ble_eq_true rfl) ⟨by decide, by decide⟩ ⟨Nat.zero_le _, Nat.zero_le _⟩ dX3_fewestMinutes_1 (fun r_ μ_ w_1 => ?_)
  obtain ⟨rfl, rfl⟩ := w_1
  refine y_istore CC [(4, .int (nI (2 ^ f))), (0, .ref (ad c)), (1, .int (nI f)), (2, .int (nI t)), (3, .int (nI w))] dX3_fewestMinutes_4 (by decide) rfl ?_
  refine y_iconst CC (nI 0) dX3_fewestMinutes_6 (by decide) ?_
  refine y_istore CC [(5, .int (nI 0)), (4, .int (nI (2 ^ f))), (0, .ref (ad c)), (1, .int (nI f)), (2, .int (nI t)), (3, .int (nI w))] dX3_fewestMinutes_7 (by decide) rfl ?_
  have L9 : ∀ (n9 : Nat) (n : Nat), 61 - n < n9 → (n ≤ 61) → (sn (rcS τ w f) t n (61 - n) = soon τ w f t) → Y pp l ee (rmY 4 93) ss mm aa bb me cd D ad kI kS kL AA 6 0 0 QQ 9 [(5, .int (nI n)), (4, .int (nI (rcS τ w f n))), (0, .ref (ad c)), (1, .int (nI f)), (2, .int (nI t)), (3, .int (nI w))] [] μ := by
    intro n9
    induction n9 with
    | zero => intro n hm9; exact absurd hm9 (Nat.not_lt_zero _)
    | succ n9 ih9 =>
      intro n hm9 hn hs
      have hr := rcS_lt (τ := τ) (w := w) hf n
      have hr9 := set9 hP9 hr
      refine y_iload CC 0 dX3_fewestMinutes_9 rfl ?_
      refine y_bipush CC (nI 60) dX3_fewestMinutes_11 (by decide) ?_
      refine z_icmp_gt CC 52 dX3_fewestMinutes_13 (by decide) (a := ((n : Nat) : Int)) (b := (60 : Int)) (nI_toInt (by omega)) (nI_toInt (by decide)) (fun c_3 => ?_) (fun c_3 => ?_)
      · skip
        refine y_bipush CC ((-9)) dX3_fewestMinutes_52 (by decide) ?_
        exact y_iret CC hQ dX3_fewestMinutes_54 (⟨rfl, by rw [← hs, show n = 61 by omega]; rfl⟩)
      · skip
        refine y_iload CC 1 dX3_fewestMinutes_16 rfl ?_
        refine y_iload_n CC 4 dX3_fewestMinutes_18 rfl rfl ?_
        refine y_callTI (st := []) CC CC.2.2.2.2.2.1.2.2.2.2.2.1 cl_X3_110 (k_isIn l D ad kI kS kL μ (rcS τ w f n) t (by omega) (by omega)) rfl rfl (Nat.le_of_ble_eq_true rfl) ⟨by decide, by decide⟩ ⟨Nat.zero_le _, Nat.zero_le _⟩ dX3_fewestMinutes_19 (fun r_ μ_ w_5 => ?_)
        rcases w_5 with ⟨rfl, ⟨b_4, rfl⟩ | ⟨b_4, rfl⟩⟩
        · skip
          refine z_if_eqF CC 28 dX3_fewestMinutes_22 (by decide) (a := (1 : Int)) (nI_toInt (by decide)) (by decide) ?_
          refine y_iload CC 0 dX3_fewestMinutes_25 rfl ?_
          exact y_iret CC hQ dX3_fewestMinutes_27 (⟨rfl, by rw [← hs, sn_t b_4 (by omega)]; rfl⟩)
        · skip
          refine z_if_eqT CC 28 dX3_fewestMinutes_22 (by decide) (a := (0 : Int)) (nI_toInt (by decide)) (by decide) ?_
          refine y_aload_n CC 2 dX3_fewestMinutes_28 rfl rfl ?_
          refine y_iload CC 1 dX3_fewestMinutes_29 rfl ?_
          refine y_callVI (st := []) CC cl_X3_121 (k_withNeighbours l D ad kI kS kL μ c hc τ hT hB hP3 (rcS τ w f n) hr) hc rfl rfl rfl (Nat.le_of_ble_eq_true rfl) ⟨by decide, by decide⟩ ⟨Nat.zero_le _, Nat.zero_le _⟩ dX3_fewestMinutes_31 (fun r_ μ_ w_6 => ?_)
          obtain ⟨rfl, rfl⟩ := w_6
          refine y_aload_n CC 2 dX3_fewestMinutes_34 rfl rfl ?_
          refine y_iload CC 0 dX3_fewestMinutes_35 rfl ?_
          refine y_iconst CC (nI 1) dX3_fewestMinutes_37 (by decide) ?_
          refine y_iadd CC dX3_fewestMinutes_38 (v := nI (n + 1)) (nI_add _ _) ?_
          refine y_iload_n CC 5 dX3_fewestMinutes_39 rfl rfl ?_
          refine y_callVI (st := [.int (nI (nbS (tP τ) (rcS τ w f n)))]) CC cl_X3_124 (k_freePlaces l D ad kI kS kL μ c hc τ hT hB hP3 (n + 1) w (by omega) (by omega)) hc rfl rfl rfl (Nat.le_of_ble_eq_true rfl) ⟨by decide, by decide⟩ ⟨Nat.zero_le _, Nat.zero_le _⟩ dX3_fewestMinutes_40 (fun r_ μ_ w_8 => ?_)
          obtain ⟨rfl, rfl⟩ := w_8
          have h_fr_7 := set9 (P := tP τ) (by omega) (frS_lt τ w (n + 1))
          refine y_iand CC dX3_fewestMinutes_43 (v := nI (rcS τ w f (n + 1))) (i_and _ _) ?_
          refine y_istore CC [(4, .int (nI (rcS τ w f (n + 1)))), (5, .int (nI n)), (0, .ref (ad c)), (1, .int (nI f)), (2, .int (nI t)), (3, .int (nI w))] dX3_fewestMinutes_44 (by decide) rfl ?_
          refine y_iinc CC 1 (nI (n + 1)) [(5, .int (nI (n + 1))), (4, .int (nI (rcS τ w f (n + 1)))), (0, .ref (ad c)), (1, .int (nI f)), (2, .int (nI t)), (3, .int (nI w))] dX3_fewestMinutes_46 rfl (i_inc _) (by decide) rfl ?_
          refine y_goto CC 9 dX3_fewestMinutes_49 (by decide) ?_
          exact ih9 (n + 1) (by omega) (by omega) (by rw [← sn_f b_4 (by omega)]; exact hs)
  exact L9 _ 0 (Nat.lt_succ_self _) (Nat.zero_le _) rfl

set_option maxRecDepth 100000 in
set_option maxHeartbeats 4000000 in
theorem k_comesTo (l : Launch) (D : va_G) (ad : Nat → Nat) (kI kS kL : ClassId) (μ : Mem) (c : Nat) (hc : isO 3 c) (τ : Tn) (hT : TX μ c τ) (hB : tB τ) (hP : 0 < tP τ) (a p : Nat) (ha : a < tS τ) (hp : p < tP τ) : MI l D ad kI kS kL yX3_comesTo cX3_comesTo 4 (some .boolean) 3 69 [.ref (ad c), .int (nI a), .int (nI p)] μ (fun r μ2 => μ = μ2 ∧ bo r (ctB τ a p)) := by
  refine met_I RX3 rfl (by decide) (lv := [(0, .ref (ad c)), (1, .int (nI a)), (2, .int (nI p))]) rfl (Nat.le_of_ble_eq_true rfl) ?_
  intro pp ee ss mm aa bb me cd AA hA0 CC hnm QQ hQ
  have hP9 : tP τ ≤ 9 := hB.1
  have hS4 : tS τ ≤ 4 := hB.2.1
  have hc2 : 1 ≤ c ∧ c ≤ 2 := by omega
  refine y_iconst CC (nI 0) dX3_comesTo_0 (by decide) ?_
  refine y_istore_n CC [(3, .int (nI 0)), (0, .ref (ad c)), (1, .int (nI a)), (2, .int (nI p))] dX3_comesTo_1 rfl (by decide) rfl ?_
  have L2 : ∀ (n2 : Nat) (m : Nat), 61 - m < n2 → (m ≤ 61) → (∀ j, j < m → ¬ pl τ a j = p) → Y pp l ee (rmY 3 69) ss mm aa bb me cd D ad kI kS kL AA 4 0 0 QQ 2 [(3, .int (nI m)), (0, .ref (ad c)), (1, .int (nI a)), (2, .int (nI p))] [] μ := by
    intro n2
    induction n2 with
    | zero => intro m hm2; exact absurd hm2 (Nat.not_lt_zero _)
    | succ n2 ih2 =>
      intro m hm2 hm hn
      refine y_iload_n CC 0 dX3_comesTo_2 rfl rfl ?_
      refine y_bipush CC (nI 60) dX3_comesTo_3 (by decide) ?_
      refine z_icmp_gt CC 26 dX3_comesTo_5 (by decide) (a := ((m : Nat) : Int)) (b := (60 : Int)) (nI_toInt (by omega)) (nI_toInt (by decide)) (fun c_2 => ?_) (fun c_2 => ?_)
      · skip
        refine y_iconst CC (nI 0) dX3_comesTo_26 (by decide) ?_
        exact y_zret CC hQ dX3_comesTo_27 (by decide) (⟨rfl, Or.inr ⟨ctB_f (fun j hj => hn j (by omega)), rfl⟩⟩)
      · skip
        refine y_aload_n CC 1 dX3_comesTo_8 rfl rfl ?_
        refine y_iload_n CC 2 dX3_comesTo_9 rfl rfl ?_
        refine y_iload_n CC 0 dX3_comesTo_10 rfl rfl ?_
        refine y_callVI (st := []) CC cl_X3_106 (k_placeOf l D ad kI kS kL μ c hc τ hT hB hP a m (by omega) (by omega)) hc rfl rfl rfl (Nat.le_of_ble_eq_true rfl) ⟨by decide, by decide⟩ ⟨Nat.zero_le _, Nat.zero_le _⟩ dX3_comesTo_11 (fun r_ μ_ w_4 => ?_)
        obtain ⟨rfl, rfl⟩ := w_4
        have h_pl_3 := pl_lt (τ := τ) hP a m
        refine y_iload_n CC 3 dX3_comesTo_14 rfl rfl ?_
        refine z_icmp_ne CC 20 dX3_comesTo_15 (by decide) (a := ((pl τ a m : Nat) : Int)) (b := ((p : Nat) : Int)) (nI_toInt (by omega)) (nI_toInt (by omega)) (fun c_5 => ?_) (fun c_5 => ?_)
        · skip
          refine y_iinc CC 0 (nI (m + 1)) [(3, .int (nI (m + 1))), (0, .ref (ad c)), (1, .int (nI a)), (2, .int (nI p))] dX3_comesTo_20 rfl (i_inc _) (by decide) rfl ?_
          refine y_goto CC 2 dX3_comesTo_23 (by decide) ?_
          exact ih2 (m + 1) (by omega) (by omega) (fun j hj => by rcases (show j < m ∨ j = m by omega) with h | rfl; exact hn j h; omega)
        · skip
          refine y_iconst CC (nI 1) dX3_comesTo_18 (by decide) ?_
          exact y_zret CC hQ dX3_comesTo_19 (by decide) (⟨rfl, Or.inl ⟨ctB_t (m := m) (by omega) (by omega), rfl⟩⟩)
  exact L2 _ 0 (Nat.lt_succ_self _) (Nat.zero_le _) (fun j hj => absurd hj (Nat.not_lt_zero j))

set_option maxRecDepth 100000 in
set_option maxHeartbeats 4000000 in
theorem k_placeWhereMostCome (l : Launch) (D : va_G) (ad : Nat → Nat) (kI kS kL : ClassId) (μ : Mem) (c : Nat) (hc : isO 3 c) (τ : Tn) (hT : TX μ c τ) (hB : tB τ) (hP : 0 < tP τ) : MI l D ad kI kS kL yX3_placeWhereMostCome cX3_placeWhereMostCome 6 (some .int) 4 92 [.ref (ad c)] μ (fun r μ2 => μ = μ2 ∧ r = nI (gbS τ (tP τ)).1) := by
  refine met_I RX3 rfl (by decide) (lv := [(0, .ref (ad c))]) rfl (Nat.le_of_ble_eq_true rfl) ?_
  intro pp ee ss mm aa bb me cd AA hA0 CC hnm QQ hQ
  have hP9 : tP τ ≤ 9 := hB.1
  have hS4 : tS τ ≤ 4 := hB.2.1
  have hc2 : 1 ≤ c ∧ c ≤ 2 := by omega
  refine y_iconst CC (nI 0) dX3_placeWhereMostCome_0 (by decide) ?_
  refine y_istore_n CC [(1, .int (nI 0)), (0, .ref (ad c))] dX3_placeWhereMostCome_1 rfl (by decide) rfl ?_
  refine y_iconst CC (nI 0) dX3_placeWhereMostCome_2 (by decide) ?_
  refine y_istore_n CC [(2, .int (nI 0)), (1, .int (nI 0)), (0, .ref (ad c))] dX3_placeWhereMostCome_3 rfl (by decide) rfl ?_
  refine y_iconst CC (nI 0) dX3_placeWhereMostCome_4 (by decide) ?_
  refine y_istore_n CC [(3, .int (nI 0)), (2, .int (nI 0)), (1, .int (nI 0)), (0, .ref (ad c))] dX3_placeWhereMostCome_5 rfl (by decide) rfl ?_
  have L6 : ∀ (n6 : Nat) (p : Nat), tP τ - p < n6 → (p ≤ tP τ) → Y pp l ee (rmY 4 92) ss mm aa bb me cd D ad kI kS kL AA 6 0 0 QQ 6 [(3, .int (nI p)), (2, .int (nI ((gbS τ p).2))), (1, .int (nI ((gbS τ p).1))), (0, .ref (ad c))] [] μ := by
    intro n6
    induction n6 with
    | zero => intro p hm6; exact absurd hm6 (Nat.not_lt_zero _)
    | succ n6 ih6 =>
      intro p hm6 hp
      have hg := gbS_le τ p
      refine y_iload_n CC 0 dX3_placeWhereMostCome_6 rfl rfl ?_
      refine y_aload_n CC 3 dX3_placeWhereMostCome_7 rfl rfl ?_
      refine y_geti CC gl_X3_28 hc rfl (v := nI (tP τ)) hT.1 dX3_placeWhereMostCome_8 ?_
      refine z_icmp_ge CC 72 dX3_placeWhereMostCome_11 (by decide) (a := ((p : Nat) : Int)) (b := ((tP τ : Nat) : Int)) (nI_toInt (by omega)) (nI_toInt (by omega)) (fun c_2 => ?_) (fun c_2 => ?_)
      · skip
        refine y_iload_n CC 2 dX3_placeWhereMostCome_72 rfl rfl ?_
        exact y_iret CC hQ dX3_placeWhereMostCome_73 (⟨rfl, by rw [show p = tP τ by omega]⟩)
      · skip
        refine y_iconst CC (nI 0) dX3_placeWhereMostCome_14 (by decide) ?_
        refine y_istore CC [(4, .int (nI 0)), (3, .int (nI p)), (2, .int (nI ((gbS τ p).2))), (1, .int (nI ((gbS τ p).1))), (0, .ref (ad c))] dX3_placeWhereMostCome_15 (by decide) rfl ?_
        refine y_iconst CC (nI 0) dX3_placeWhereMostCome_17 (by decide) ?_
        refine y_istore CC [(5, .int (nI 0)), (4, .int (nI 0)), (3, .int (nI p)), (2, .int (nI ((gbS τ p).2))), (1, .int (nI ((gbS τ p).1))), (0, .ref (ad c))] dX3_placeWhereMostCome_18 (by decide) rfl ?_
        have L20 : ∀ (n20 : Nat) (a : Nat), tS τ - a < n20 → (a ≤ tS τ) → Y pp l ee (rmY 4 92) ss mm aa bb me cd D ad kI kS kL AA 6 0 0 QQ 20 [(5, .int (nI a)), (4, .int (nI (cmS τ p a))), (3, .int (nI p)), (2, .int (nI ((gbS τ p).2))), (1, .int (nI ((gbS τ p).1))), (0, .ref (ad c))] [] μ := by
          intro n20
          induction n20 with
          | zero => intro a hm20; exact absurd hm20 (Nat.not_lt_zero _)
          | succ n20 ih20 =>
            intro a hm20 ha
            have hcm := cmS_le τ p a
            refine y_iload CC 0 dX3_placeWhereMostCome_20 rfl ?_
            refine y_aload_n CC 5 dX3_placeWhereMostCome_22 rfl rfl ?_
            refine y_geti CC gl_X3_24 hc rfl (v := nI (tS τ)) hT.2.1 dX3_placeWhereMostCome_23 ?_
            refine z_icmp_ge CC 55 dX3_placeWhereMostCome_26 (by decide) (a := ((a : Nat) : Int)) (b := ((tS τ : Nat) : Int)) (nI_toInt (by omega)) (nI_toInt (by omega)) (fun c_4 => ?_) (fun c_4 => ?_)
            · skip
              refine y_lvE (lv2 := [(5, .int (nI a)), (4, .int (nI (cmS τ p (tS τ)))), (3, .int (nI p)), (2, .int (nI ((gbS τ p).2))), (1, .int (nI ((gbS τ p).1))), (0, .ref (ad c))]) (by rw [show a = tS τ by omega]) ?_
              have hcm2 := cmS_le τ p (tS τ)
              refine y_iload CC 1 dX3_placeWhereMostCome_55 rfl ?_
              refine y_iload_n CC 3 dX3_placeWhereMostCome_57 rfl rfl ?_
              refine z_icmp_le CC 66 dX3_placeWhereMostCome_58 (by decide) (a := ((cmS τ p (tS τ) : Nat) : Int)) (b := (((gbS τ p).2 : Nat) : Int)) (nI_toInt (by omega)) (nI_toInt (by omega)) (fun c_5 => ?_) (fun c_5 => ?_)
              · skip
                refine y_lvE (lv2 := [(5, .int (nI a)), (4, .int (nI (cmS τ p (tS τ)))), (3, .int (nI p)), (2, .int (nI ((gbS τ (p + 1)).2))), (1, .int (nI ((gbS τ (p + 1)).1))), (0, .ref (ad c))]) (by rw [show gbS τ (p + 1) = gbS τ p from by rw [gbS, if_neg (by omega)]]) ?_
                refine y_iinc CC 2 (nI (p + 1)) [(3, .int (nI (p + 1))), (5, .int (nI a)), (4, .int (nI (cmS τ p (tS τ)))), (2, .int (nI ((gbS τ (p + 1)).2))), (1, .int (nI ((gbS τ (p + 1)).1))), (0, .ref (ad c))] dX3_placeWhereMostCome_66 rfl (i_inc _) (by decide) rfl ?_
                refine y_goto CC 6 dX3_placeWhereMostCome_69 (by decide) ?_
                refine y_lv [0, 3, 4, 5] rfl ?_
                exact ih6 (p + 1) (by omega) (by omega)
              · skip
                refine y_iload CC 1 dX3_placeWhereMostCome_61 rfl ?_
                refine y_istore_n CC [(2, .int (nI (cmS τ p (tS τ)))), (5, .int (nI a)), (4, .int (nI (cmS τ p (tS τ)))), (3, .int (nI p)), (1, .int (nI ((gbS τ p).1))), (0, .ref (ad c))] dX3_placeWhereMostCome_63 rfl (by decide) rfl ?_
                refine y_iload_n CC 3 dX3_placeWhereMostCome_64 rfl rfl ?_
                refine y_istore_n CC [(1, .int (nI p)), (2, .int (nI (cmS τ p (tS τ)))), (5, .int (nI a)), (4, .int (nI (cmS τ p (tS τ)))), (3, .int (nI p)), (0, .ref (ad c))] dX3_placeWhereMostCome_65 rfl (by decide) rfl ?_
                refine y_lvE (lv2 := [(1, .int (nI ((gbS τ (p + 1)).1))), (2, .int (nI ((gbS τ (p + 1)).2))), (5, .int (nI a)), (4, .int (nI (cmS τ p (tS τ)))), (3, .int (nI p)), (0, .ref (ad c))]) (by rw [show gbS τ (p + 1) = (p, cmS τ p (tS τ)) from by rw [gbS, if_pos (by omega)]]) ?_
                refine y_iinc CC 4 (nI (p + 1)) [(3, .int (nI (p + 1))), (1, .int (nI ((gbS τ (p + 1)).1))), (2, .int (nI ((gbS τ (p + 1)).2))), (5, .int (nI a)), (4, .int (nI (cmS τ p (tS τ)))), (0, .ref (ad c))] dX3_placeWhereMostCome_66 rfl (i_inc _) (by decide) rfl ?_
                refine y_goto CC 6 dX3_placeWhereMostCome_69 (by decide) ?_
                refine y_lv [0, 2, 1, 5] rfl ?_
                exact ih6 (p + 1) (by omega) (by omega)
            · skip
              refine y_iload CC 1 dX3_placeWhereMostCome_29 rfl ?_
              refine y_aload_n CC 5 dX3_placeWhereMostCome_31 rfl rfl ?_
              refine y_iload CC 0 dX3_placeWhereMostCome_32 rfl ?_
              refine y_iload_n CC 2 dX3_placeWhereMostCome_34 rfl rfl ?_
              refine y_callVI (st := [.int (nI (cmS τ p a))]) CC cl_X3_141 (k_comesTo l D ad kI kS kL μ c hc τ hT hB hP a p (by omega) (by omega)) hc rfl rfl rfl (Nat.le_of_ble_eq_true rfl) ⟨by decide, by decide⟩ ⟨Nat.zero_le _, Nat.zero_le _⟩ dX3_placeWhereMostCome_35 (fun r_ μ_ w_7 => ?_)
              rcases w_7 with ⟨rfl, ⟨b_6, rfl⟩ | ⟨b_6, rfl⟩⟩
              · skip
                refine z_if_eqF CC 45 dX3_placeWhereMostCome_38 (by decide) (a := (1 : Int)) (nI_toInt (by decide)) (by decide) ?_
                refine y_iconst CC (nI 1) dX3_placeWhereMostCome_41 (by decide) ?_
                refine y_goto CC 46 dX3_placeWhereMostCome_42 (by decide) ?_
                refine y_iadd CC dX3_placeWhereMostCome_46 (v := nI (cmS τ p (a + 1))) ((nI_add _ _).trans (by rw [cmS, b_6]; rfl)) ?_
                refine y_istore CC [(4, .int (nI (cmS τ p (a + 1)))), (5, .int (nI a)), (3, .int (nI p)), (2, .int (nI ((gbS τ p).2))), (1, .int (nI ((gbS τ p).1))), (0, .ref (ad c))] dX3_placeWhereMostCome_47 (by decide) rfl ?_
                refine y_iinc CC 1 (nI (a + 1)) [(5, .int (nI (a + 1))), (4, .int (nI (cmS τ p (a + 1)))), (3, .int (nI p)), (2, .int (nI ((gbS τ p).2))), (1, .int (nI ((gbS τ p).1))), (0, .ref (ad c))] dX3_placeWhereMostCome_49 rfl (i_inc _) (by decide) rfl ?_
                refine y_goto CC 20 dX3_placeWhereMostCome_52 (by decide) ?_
                exact ih20 (a + 1) (by omega) (by omega)
              · skip
                refine z_if_eqT CC 45 dX3_placeWhereMostCome_38 (by decide) (a := (0 : Int)) (nI_toInt (by decide)) (by decide) ?_
                refine y_iconst CC (nI 0) dX3_placeWhereMostCome_45 (by decide) ?_
                refine y_iadd CC dX3_placeWhereMostCome_46 (v := nI (cmS τ p (a + 1))) ((nI_add _ _).trans (by rw [cmS, b_6]; rfl)) ?_
                refine y_istore CC [(4, .int (nI (cmS τ p (a + 1)))), (5, .int (nI a)), (3, .int (nI p)), (2, .int (nI ((gbS τ p).2))), (1, .int (nI ((gbS τ p).1))), (0, .ref (ad c))] dX3_placeWhereMostCome_47 (by decide) rfl ?_
                refine y_iinc CC 1 (nI (a + 1)) [(5, .int (nI (a + 1))), (4, .int (nI (cmS τ p (a + 1)))), (3, .int (nI p)), (2, .int (nI ((gbS τ p).2))), (1, .int (nI ((gbS τ p).1))), (0, .ref (ad c))] dX3_placeWhereMostCome_49 rfl (i_inc _) (by decide) rfl ?_
                refine y_goto CC 20 dX3_placeWhereMostCome_52 (by decide) ?_
                exact ih20 (a + 1) (by omega) (by omega)
        exact L20 _ 0 (Nat.lt_succ_self _) (Nat.zero_le _)
  exact L6 _ 0 (Nat.lt_succ_self _) (Nat.zero_le _)

set_option maxRecDepth 100000 in
set_option maxHeartbeats 4000000 in
theorem k_goodsTakenBy (l : Launch) (D : va_G) (ad : Nat → Nat) (kI kS kL : ClassId) (μ : Mem) (c : Nat) (hc : isO 3 c) (τ : Tn) (hT : TX μ c τ) (hB : tB τ) (hP : 0 < tP τ) (a M : Nat) (ha : a < tS τ) (hM : M ≤ 60) : MI l D ad kI kS kL yX3_goodsTakenBy cX3_goodsTakenBy 8 (some .int) 3 69 [.ref (ad c), .int (nI a), .int (nI M)] μ (fun r μ2 => μ = μ2 ∧ r = nI (tk τ a ((M + 1) * tS τ))) := by
  refine met_I RX3 rfl (by decide) (lv := [(0, .ref (ad c)), (1, .int (nI a)), (2, .int (nI M))]) rfl (Nat.le_of_ble_eq_true rfl) ?_
  intro pp ee ss mm aa bb me cd AA hA0 CC hnm QQ hQ
  have hP9 : tP τ ≤ 9 := hB.1
  have hS4 : tS τ ≤ 4 := hB.2.1
  have hc2 : 1 ≤ c ∧ c ≤ 2 := by omega
  refine y_iconst CC (nI 0) dX3_goodsTakenBy_0 (by decide) ?_
  refine y_istore_n CC [(3, .int (nI 0)), (0, .ref (ad c)), (1, .int (nI a)), (2, .int (nI M))] dX3_goodsTakenBy_1 rfl (by decide) rfl ?_
  refine y_iconst CC (nI 0) dX3_goodsTakenBy_2 (by decide) ?_
  refine y_istore CC [(4, .int (nI 0)), (3, .int (nI 0)), (0, .ref (ad c)), (1, .int (nI a)), (2, .int (nI M))] dX3_goodsTakenBy_3 (by decide) rfl ?_
  refine y_iconst CC (nI 0) dX3_goodsTakenBy_5 (by decide) ?_
  refine y_istore CC [(5, .int (nI 0)), (4, .int (nI 0)), (3, .int (nI 0)), (0, .ref (ad c)), (1, .int (nI a)), (2, .int (nI M))] dX3_goodsTakenBy_6 (by decide) rfl ?_
  have L8 : ∀ (n8 : Nat) (m : Nat), M + 1 - m < n8 → (m ≤ M + 1) → Y pp l ee (rmY 3 69) ss mm aa bb me cd D ad kI kS kL AA 8 0 0 QQ 8 [(5, .int (nI m)), (4, .int (nI (tk τ a (m * tS τ)))), (3, .int (nI (vis τ (m * tS τ)))), (0, .ref (ad c)), (1, .int (nI a)), (2, .int (nI M))] [] μ := by
    intro n8
    induction n8 with
    | zero => intro m hm8; exact absurd hm8 (Nat.not_lt_zero _)
    | succ n8 ih8 =>
      intro m hm8 hm
      refine y_iload CC 0 dX3_goodsTakenBy_8 rfl ?_
      refine y_iload_n CC 5 dX3_goodsTakenBy_10 rfl rfl ?_
      refine z_icmp_gt CC 89 dX3_goodsTakenBy_11 (by decide) (a := ((m : Nat) : Int)) (b := ((M : Nat) : Int)) (nI_toInt (by omega)) (nI_toInt (by omega)) (fun c_2 => ?_) (fun c_2 => ?_)
      · skip
        refine y_iload CC 1 dX3_goodsTakenBy_89 rfl ?_
        exact y_iret CC hQ dX3_goodsTakenBy_91 (⟨rfl, by rw [show m = M + 1 by omega]⟩)
      · skip
        refine y_iload CC 0 dX3_goodsTakenBy_14 rfl ?_
        refine y_bipush CC (nI 60) dX3_goodsTakenBy_16 (by decide) ?_
        refine z_icmp_gtF CC 89 dX3_goodsTakenBy_18 (by decide) (a := ((m : Nat) : Int)) (b := (60 : Int)) (nI_toInt (by omega)) (nI_toInt (by decide)) (by omega) ?_
        refine y_iconst CC (nI 0) dX3_goodsTakenBy_21 (by decide) ?_
        refine y_istore CC [(6, .int (nI 0)), (5, .int (nI m)), (4, .int (nI (tk τ a (m * tS τ)))), (3, .int (nI (vis τ (m * tS τ)))), (0, .ref (ad c)), (1, .int (nI a)), (2, .int (nI M))] dX3_goodsTakenBy_22 (by decide) rfl ?_
        have L24 : ∀ (n24 : Nat) (b : Nat), tS τ - b < n24 → (b ≤ tS τ) → Y pp l ee (rmY 3 69) ss mm aa bb me cd D ad kI kS kL AA 8 0 0 QQ 24 [(6, .int (nI b)), (5, .int (nI m)), (4, .int (nI (tk τ a (m * tS τ + b)))), (3, .int (nI (vis τ (m * tS τ + b)))), (0, .ref (ad c)), (1, .int (nI a)), (2, .int (nI M))] [] μ := by
          intro n24
          induction n24 with
          | zero => intro b hm24; exact absurd hm24 (Nat.not_lt_zero _)
          | succ n24 ih24 =>
            intro b hm24 hb
            have hv9 := set9 hP9 (vis_lt hP (m * tS τ + b))
            refine y_iload CC 0 dX3_goodsTakenBy_24 rfl ?_
            refine y_aload_n CC 4 dX3_goodsTakenBy_26 rfl rfl ?_
            refine y_geti CC gl_X3_24 hc rfl (v := nI (tS τ)) hT.2.1 dX3_goodsTakenBy_27 ?_
            refine z_icmp_ge CC 83 dX3_goodsTakenBy_30 (by decide) (a := ((b : Nat) : Int)) (b := ((tS τ : Nat) : Int)) (nI_toInt (by omega)) (nI_toInt (by omega)) (fun c_4 => ?_) (fun c_4 => ?_)
            · skip
              refine y_lvE (lv2 := [(6, .int (nI b)), (5, .int (nI m)), (4, .int (nI (tk τ a ((m + 1) * tS τ)))), (3, .int (nI (vis τ ((m + 1) * tS τ)))), (0, .ref (ad c)), (1, .int (nI a)), (2, .int (nI M))]) (by rw [show (m + 1) * tS τ = m * tS τ + b from by rw [Nat.succ_mul, show b = tS τ by omega]]) ?_
              refine y_iinc CC 1 (nI (m + 1)) [(5, .int (nI (m + 1))), (6, .int (nI b)), (4, .int (nI (tk τ a ((m + 1) * tS τ)))), (3, .int (nI (vis τ ((m + 1) * tS τ)))), (0, .ref (ad c)), (1, .int (nI a)), (2, .int (nI M))] dX3_goodsTakenBy_83 rfl (i_inc _) (by decide) rfl ?_
              refine y_goto CC 8 dX3_goodsTakenBy_86 (by decide) ?_
              refine y_lv [0, 2, 3, 4, 5, 6] rfl ?_
              exact ih8 (m + 1) (by omega) (by omega)
            · skip
              refine y_aload_n CC 4 dX3_goodsTakenBy_33 rfl rfl ?_
              refine y_iload CC 0 dX3_goodsTakenBy_34 rfl ?_
              refine y_iload CC 1 dX3_goodsTakenBy_36 rfl ?_
              refine y_callVI (st := []) CC cl_X3_106 (k_placeOf l D ad kI kS kL μ c hc τ hT hB hP b m (by omega) (by omega)) hc rfl rfl rfl (Nat.le_of_ble_eq_true rfl) ⟨by decide, by decide⟩ ⟨Nat.zero_le _, Nat.zero_le _⟩ dX3_goodsTakenBy_38 (fun r_ μ_ w_6 => ?_)
              obtain ⟨rfl, rfl⟩ := w_6
              have h_pl_5 := pl_lt (τ := τ) hP b m
              refine y_istore CC [(7, .int (nI (pl τ b m))), (6, .int (nI b)), (5, .int (nI m)), (4, .int (nI (tk τ a (m * tS τ + b)))), (3, .int (nI (vis τ (m * tS τ + b)))), (0, .ref (ad c)), (1, .int (nI a)), (2, .int (nI M))] dX3_goodsTakenBy_41 (by decide) rfl ?_
              refine y_iload CC 1 dX3_goodsTakenBy_43 rfl ?_
              refine y_iload_n CC 6 dX3_goodsTakenBy_45 rfl rfl ?_
              refine z_icmp_ne CC 69 dX3_goodsTakenBy_46 (by decide) (a := ((b : Nat) : Int)) (b := ((a : Nat) : Int)) (nI_toInt (by omega)) (nI_toInt (by omega)) (fun c_7 => ?_) (fun c_7 => ?_)
              · skip
                refine y_iload_n CC 4 dX3_goodsTakenBy_69 rfl rfl ?_
                refine y_iload CC 0 dX3_goodsTakenBy_70 rfl ?_
                refine y_callTI (st := [.int (nI (vis τ (m * tS τ + b)))]) CC CC.2.2.2.2.2.1.2.2.2.2.2.2 cl_X3_114 (k_bit l D ad kI kS kL μ (pl τ b m) (by omega)) rfl rfl (Nat.le_of_ble_eq_true rfl) ⟨by decide, by decide⟩ ⟨Nat.zero_le _, Nat.zero_le _⟩ dX3_goodsTakenBy_72 (fun r_ μ_ w_8 => ?_)
                obtain ⟨rfl, rfl⟩ := w_8
                refine y_ior CC dX3_goodsTakenBy_75 (v := nI ((vis τ (m * tS τ + b)) ||| (2 ^ (pl τ b m)))) (i_or _ _) ?_
                refine y_istore_n CC [(3, .int (nI ((vis τ (m * tS τ + b)) ||| (2 ^ (pl τ b m))))), (7, .int (nI (pl τ b m))), (6, .int (nI b)), (5, .int (nI m)), (4, .int (nI (tk τ a (m * tS τ + b)))), (0, .ref (ad c)), (1, .int (nI a)), (2, .int (nI M))] dX3_goodsTakenBy_76 rfl (by decide) rfl ?_
                refine y_iinc CC 2 (nI (b + 1)) [(6, .int (nI (b + 1))), (3, .int (nI ((vis τ (m * tS τ + b)) ||| (2 ^ (pl τ b m))))), (7, .int (nI (pl τ b m))), (5, .int (nI m)), (4, .int (nI (tk τ a (m * tS τ + b)))), (0, .ref (ad c)), (1, .int (nI a)), (2, .int (nI M))] dX3_goodsTakenBy_77 rfl (i_inc _) (by decide) rfl ?_
                refine y_goto CC 24 dX3_goodsTakenBy_80 (by decide) ?_
                refine y_lvE (lv2 := [(6, .int (nI (b + 1))), (3, .int (nI (vis τ (m * tS τ + (b + 1))))), (7, .int (nI (pl τ b m))), (5, .int (nI m)), (4, .int (nI (tk τ a (m * tS τ + (b + 1))))), (0, .ref (ad c)), (1, .int (nI a)), (2, .int (nI M))]) (by rw [show m * tS τ + (b + 1) = m * tS τ + b + 1 from rfl, vis_s (by omega), (tk_f (τ := τ) (a := a) (m := m) (b := b) (by omega) (Or.inl (by omega)))]) ?_
                refine y_lv [0, 3, 4, 1, 5, 6, 7] rfl ?_
                exact ih24 (b + 1) (by omega) (by omega)
              · skip
                refine y_iload_n CC 4 dX3_goodsTakenBy_49 rfl rfl ?_
                refine y_iload CC 0 dX3_goodsTakenBy_50 rfl ?_
                refine y_callTI (st := []) CC CC.2.2.2.2.2.1.2.2.2.2.2.1 cl_X3_110 (k_isIn l D ad kI kS kL μ (vis τ (m * tS τ + b)) (pl τ b m) (by omega) (by omega)) rfl rfl (Nat.le_of_ble_eq_true rfl) ⟨by decide, by decide⟩ ⟨Nat.zero_le _, Nat.zero_le _⟩ dX3_goodsTakenBy_52 (fun r_ μ_ w_10 => ?_)
                rcases w_10 with ⟨rfl, ⟨b_9, rfl⟩ | ⟨b_9, rfl⟩⟩
                · skip
                  refine z_if_neT CC 69 dX3_goodsTakenBy_55 (by decide) (a := (1 : Int)) (nI_toInt (by decide)) (by decide) ?_
                  refine y_iload_n CC 4 dX3_goodsTakenBy_69 rfl rfl ?_
                  refine y_iload CC 0 dX3_goodsTakenBy_70 rfl ?_
                  refine y_callTI (st := [.int (nI (vis τ (m * tS τ + b)))]) CC CC.2.2.2.2.2.1.2.2.2.2.2.2 cl_X3_114 (k_bit l D ad kI kS kL μ (pl τ b m) (by omega)) rfl rfl (Nat.le_of_ble_eq_true rfl) ⟨by decide, by decide⟩ ⟨Nat.zero_le _, Nat.zero_le _⟩ dX3_goodsTakenBy_72 (fun r_ μ_ w_11 => ?_)
                  obtain ⟨rfl, rfl⟩ := w_11
                  refine y_ior CC dX3_goodsTakenBy_75 (v := nI ((vis τ (m * tS τ + b)) ||| (2 ^ (pl τ b m)))) (i_or _ _) ?_
                  refine y_istore_n CC [(3, .int (nI ((vis τ (m * tS τ + b)) ||| (2 ^ (pl τ b m))))), (7, .int (nI (pl τ b m))), (6, .int (nI b)), (5, .int (nI m)), (4, .int (nI (tk τ a (m * tS τ + b)))), (0, .ref (ad c)), (1, .int (nI a)), (2, .int (nI M))] dX3_goodsTakenBy_76 rfl (by decide) rfl ?_
                  refine y_iinc CC 2 (nI (b + 1)) [(6, .int (nI (b + 1))), (3, .int (nI ((vis τ (m * tS τ + b)) ||| (2 ^ (pl τ b m))))), (7, .int (nI (pl τ b m))), (5, .int (nI m)), (4, .int (nI (tk τ a (m * tS τ + b)))), (0, .ref (ad c)), (1, .int (nI a)), (2, .int (nI M))] dX3_goodsTakenBy_77 rfl (i_inc _) (by decide) rfl ?_
                  refine y_goto CC 24 dX3_goodsTakenBy_80 (by decide) ?_
                  refine y_lvE (lv2 := [(6, .int (nI (b + 1))), (3, .int (nI (vis τ (m * tS τ + (b + 1))))), (7, .int (nI (pl τ b m))), (5, .int (nI m)), (4, .int (nI (tk τ a (m * tS τ + (b + 1))))), (0, .ref (ad c)), (1, .int (nI a)), (2, .int (nI M))]) (by rw [show m * tS τ + (b + 1) = m * tS τ + b + 1 from rfl, vis_s (by omega), (tk_f (τ := τ) (a := a) (m := m) (b := b) (by omega) (Or.inr b_9))]) ?_
                  refine y_lv [0, 3, 4, 1, 5, 6, 7] rfl ?_
                  exact ih24 (b + 1) (by omega) (by omega)
                · skip
                  refine z_if_neF CC 69 dX3_goodsTakenBy_55 (by decide) (a := (0 : Int)) (nI_toInt (by decide)) (by decide) ?_
                  refine y_iload CC 3 dX3_goodsTakenBy_58 rfl ?_
                  refine y_aload_n CC 5 dX3_goodsTakenBy_60 rfl rfl ?_
                  refine y_iload CC 0 dX3_goodsTakenBy_61 rfl ?_
                  refine y_callVI (st := [.int (nI (tk τ a (m * tS τ + b)))]) CC cl_X3_95 (k_goodsAt l D ad kI kS kL μ c hc τ hT hB (nI (pl τ b m))) hc rfl rfl rfl (Nat.le_of_ble_eq_true rfl) ⟨by decide, by decide⟩ ⟨Nat.zero_le _, Nat.zero_le _⟩ dX3_goodsTakenBy_63 (fun r_ μ_ w_12 => ?_)
                  obtain ⟨rfl, rfl⟩ := w_12
                  refine y_top (y := nI (tG τ (pl τ b m))) (by rw [if_pos (inB_nI (by omega) (by omega)), ix_nI (by omega)]) ?_
                  refine y_iadd CC dX3_goodsTakenBy_66 (v := nI ((tk τ a (m * tS τ + b)) + (tG τ (pl τ b m)))) (nI_add _ _) ?_
                  refine y_istore CC [(4, .int (nI ((tk τ a (m * tS τ + b)) + (tG τ (pl τ b m))))), (7, .int (nI (pl τ b m))), (6, .int (nI b)), (5, .int (nI m)), (3, .int (nI (vis τ (m * tS τ + b)))), (0, .ref (ad c)), (1, .int (nI a)), (2, .int (nI M))] dX3_goodsTakenBy_67 (by decide) rfl ?_
                  refine y_iload_n CC 4 dX3_goodsTakenBy_69 rfl rfl ?_
                  refine y_iload CC 1 dX3_goodsTakenBy_70 rfl ?_
                  refine y_callTI (st := [.int (nI (vis τ (m * tS τ + b)))]) CC CC.2.2.2.2.2.1.2.2.2.2.2.2 cl_X3_114 (k_bit l D ad kI kS kL μ (pl τ b m) (by omega)) rfl rfl (Nat.le_of_ble_eq_true rfl) ⟨by decide, by decide⟩ ⟨Nat.zero_le _, Nat.zero_le _⟩ dX3_goodsTakenBy_72 (fun r_ μ_ w_13 => ?_)
                  obtain ⟨rfl, rfl⟩ := w_13
                  refine y_ior CC dX3_goodsTakenBy_75 (v := nI ((vis τ (m * tS τ + b)) ||| (2 ^ (pl τ b m)))) (i_or _ _) ?_
                  refine y_istore_n CC [(3, .int (nI ((vis τ (m * tS τ + b)) ||| (2 ^ (pl τ b m))))), (4, .int (nI ((tk τ a (m * tS τ + b)) + (tG τ (pl τ b m))))), (7, .int (nI (pl τ b m))), (6, .int (nI b)), (5, .int (nI m)), (0, .ref (ad c)), (1, .int (nI a)), (2, .int (nI M))] dX3_goodsTakenBy_76 rfl (by decide) rfl ?_
                  refine y_iinc CC 3 (nI (b + 1)) [(6, .int (nI (b + 1))), (3, .int (nI ((vis τ (m * tS τ + b)) ||| (2 ^ (pl τ b m))))), (4, .int (nI ((tk τ a (m * tS τ + b)) + (tG τ (pl τ b m))))), (7, .int (nI (pl τ b m))), (5, .int (nI m)), (0, .ref (ad c)), (1, .int (nI a)), (2, .int (nI M))] dX3_goodsTakenBy_77 rfl (i_inc _) (by decide) rfl ?_
                  refine y_goto CC 24 dX3_goodsTakenBy_80 (by decide) ?_
                  refine y_lvE (lv2 := [(6, .int (nI (b + 1))), (3, .int (nI (vis τ (m * tS τ + (b + 1))))), (4, .int (nI (tk τ a (m * tS τ + (b + 1))))), (7, .int (nI (pl τ b m))), (5, .int (nI m)), (0, .ref (ad c)), (1, .int (nI a)), (2, .int (nI M))]) (by rw [show m * tS τ + (b + 1) = m * tS τ + b + 1 from rfl, vis_s (by omega), show tk τ a (m * tS τ + b + 1) = tk τ a (m * tS τ + b) + tG τ (pl τ b m) from (by obtain rfl : b = a := (by omega); exact (tk_t (τ := τ) (m := m) (b := b) (by omega) b_9))]) ?_
                  refine y_lv [0, 4, 2, 1, 5, 6, 7] rfl ?_
                  exact ih24 (b + 1) (by omega) (by omega)
        exact L24 _ 0 (Nat.lt_succ_self _) (Nat.zero_le _)
  refine y_lvE (lv2 := [(5, .int (nI 0)), (4, .int (nI (tk τ a (0 * tS τ)))), (3, .int (nI (vis τ (0 * tS τ)))), (0, .ref (ad c)), (1, .int (nI a)), (2, .int (nI M))]) (by rw [Nat.zero_mul]; rfl) ?_
  exact L8 _ 0 (Nat.lt_succ_self _) (Nat.zero_le _)
end
section
theorem i_min {x y : Nat} (hx : x < 2 ^ 31) (hy : y < 2 ^ 31) : (if nI y < nI x then nI y else nI x) = nI (min x y) := by
  by_cases h : y < x
  · rw [if_pos ((nI_ltI hy hx).mpr h), Nat.min_eq_right (by omega)]
  · rw [if_neg (fun q => h ((nI_ltI hy hx).mp q)), Nat.min_eq_left (by omega)]
theorem i_pred {k : Nat} (h : k < 2 ^ 31) : (nI k - 1).toInt = (k : Int) - 1 := by
  rw [show (1 : Int32) = nI 1 from rfl]
  cases k with
  | zero => decide
  | succ k => rw [show nI (k + 1) - nI 1 = nI k from nI_pred k, nI_toInt (by omega)]; omega

set_option maxRecDepth 100000 in
set_option maxHeartbeats 4000000 in
theorem k_firstActInto (l : Launch) (D : va_G) (ad : Nat → Nat) (kI kS kL : ClassId) (μ : Mem) (c : Nat) (hc : isO 3 c) (τ : Tn) (hT : TX μ c τ) (hB : tB τ) (x p : Nat) (hx : x < 2 ^ 31) (hp : p < tP τ) : MI l D ad kI kS kL yX3_firstActInto cX3_firstActInto 4 (some .int) 2 41 [.ref (ad c), .int (nI x), .int (nI p)] μ (fun r μ2 => μ = μ2 ∧ r = oI (faS (tP τ) x p)) := by
  refine met_I RX3 rfl (by decide) (lv := [(0, .ref (ad c)), (1, .int (nI x)), (2, .int (nI p))]) rfl (Nat.le_of_ble_eq_true rfl) ?_
  intro pp ee ss mm aa bb me cd AA hA0 CC hnm QQ hQ
  have hP9 : tP τ ≤ 9 := hB.1
  have hS4 : tS τ ≤ 4 := hB.2.1
  have hc2 : 1 ≤ c ∧ c ≤ 2 := by omega
  have hl0 := after_lt (act := 0) hp
  have hl1 := after_lt (act := 1) hp
  have hl2 := after_lt (act := 2) hp
  refine y_iconst CC (nI 0) dX3_firstActInto_0 (by decide) ?_
  refine y_istore_n CC [(3, .int (nI 0)), (0, .ref (ad c)), (1, .int (nI x)), (2, .int (nI p))] dX3_firstActInto_1 rfl (by decide) rfl ?_
  refine y_iload_n CC 0 dX3_firstActInto_2 rfl rfl ?_
  refine y_iconst CC (nI 2) dX3_firstActInto_3 (by decide) ?_
  refine z_icmp_gtF CC 28 dX3_firstActInto_4 (by decide) (a := (0 : Int)) (b := (2 : Int)) (nI_toInt (by decide)) (nI_toInt (by decide)) (by decide) ?_
  refine y_iload_n CC 2 dX3_firstActInto_7 rfl rfl ?_
  refine y_aload_n CC 1 dX3_firstActInto_8 rfl rfl ?_
  refine y_iload_n CC 3 dX3_firstActInto_9 rfl rfl ?_
  refine y_iload_n CC 0 dX3_firstActInto_10 rfl rfl ?_
  refine y_callVI (st := [.int (nI x)]) CC cl_X3_133 (k_placeAfter l D ad kI kS kL μ c hc τ hT hB p 0 (by omega) (by omega)) hc rfl rfl rfl (Nat.le_of_ble_eq_true rfl) ⟨by decide, by decide⟩ ⟨Nat.zero_le _, Nat.zero_le _⟩ dX3_firstActInto_11 (fun r_ μ_ w_1 => ?_)
  obtain ⟨rfl, rfl⟩ := w_1
  refine y_callTI (st := []) CC CC.2.2.2.2.2.1.2.2.2.2.2.1 cl_X3_110 (k_isIn l D ad kI kS kL μ x (after (tP τ) p 0) (by omega) (by omega)) rfl rfl (Nat.le_of_ble_eq_true rfl) ⟨by decide, by decide⟩ ⟨Nat.zero_le _, Nat.zero_le _⟩ dX3_firstActInto_14 (fun r_ μ_ w_3 => ?_)
  rcases w_3 with ⟨rfl, ⟨b_2, rfl⟩ | ⟨b_2, rfl⟩⟩
  · skip
    refine z_if_eqF CC 22 dX3_firstActInto_17 (by decide) (a := (1 : Int)) (nI_toInt (by decide)) (by decide) ?_
    refine y_iload_n CC 0 dX3_firstActInto_20 rfl rfl ?_
    exact y_iret CC hQ dX3_firstActInto_21 (⟨rfl, by unfold faS; rw [if_pos b_2]; rfl⟩)
  · skip
    refine z_if_eqT CC 22 dX3_firstActInto_17 (by decide) (a := (0 : Int)) (nI_toInt (by decide)) (by decide) ?_
    refine y_iinc CC 0 (nI 1) [(3, .int (nI 1)), (0, .ref (ad c)), (1, .int (nI x)), (2, .int (nI p))] dX3_firstActInto_22 rfl (i_inc _) (by decide) rfl ?_
    refine y_goto CC 2 dX3_firstActInto_25 (by decide) ?_
    refine y_iload_n CC 0 dX3_firstActInto_2 rfl rfl ?_
    refine y_iconst CC (nI 2) dX3_firstActInto_3 (by decide) ?_
    refine z_icmp_gtF CC 28 dX3_firstActInto_4 (by decide) (a := (1 : Int)) (b := (2 : Int)) (nI_toInt (by decide)) (nI_toInt (by decide)) (by decide) ?_
    refine y_iload_n CC 2 dX3_firstActInto_7 rfl rfl ?_
    refine y_aload_n CC 1 dX3_firstActInto_8 rfl rfl ?_
    refine y_iload_n CC 3 dX3_firstActInto_9 rfl rfl ?_
    refine y_iload_n CC 0 dX3_firstActInto_10 rfl rfl ?_
    refine y_callVI (st := [.int (nI x)]) CC cl_X3_133 (k_placeAfter l D ad kI kS kL μ c hc τ hT hB p 1 (by omega) (by omega)) hc rfl rfl rfl (Nat.le_of_ble_eq_true rfl) ⟨by decide, by decide⟩ ⟨Nat.zero_le _, Nat.zero_le _⟩ dX3_firstActInto_11 (fun r_ μ_ w_4 => ?_)
    obtain ⟨rfl, rfl⟩ := w_4
    refine y_callTI (st := []) CC CC.2.2.2.2.2.1.2.2.2.2.2.1 cl_X3_110 (k_isIn l D ad kI kS kL μ x (after (tP τ) p 1) (by omega) (by omega)) rfl rfl (Nat.le_of_ble_eq_true rfl) ⟨by decide, by decide⟩ ⟨Nat.zero_le _, Nat.zero_le _⟩ dX3_firstActInto_14 (fun r_ μ_ w_6 => ?_)
    rcases w_6 with ⟨rfl, ⟨b_5, rfl⟩ | ⟨b_5, rfl⟩⟩
    · skip
      refine z_if_eqF CC 22 dX3_firstActInto_17 (by decide) (a := (1 : Int)) (nI_toInt (by decide)) (by decide) ?_
      refine y_iload_n CC 0 dX3_firstActInto_20 rfl rfl ?_
      exact y_iret CC hQ dX3_firstActInto_21 (⟨rfl, by unfold faS; rw [if_neg (by rw [b_2]; decide), if_pos b_5]; rfl⟩)
    · skip
      refine z_if_eqT CC 22 dX3_firstActInto_17 (by decide) (a := (0 : Int)) (nI_toInt (by decide)) (by decide) ?_
      refine y_iinc CC 0 (nI 2) [(3, .int (nI 2)), (0, .ref (ad c)), (1, .int (nI x)), (2, .int (nI p))] dX3_firstActInto_22 rfl (i_inc _) (by decide) rfl ?_
      refine y_goto CC 2 dX3_firstActInto_25 (by decide) ?_
      refine y_iload_n CC 0 dX3_firstActInto_2 rfl rfl ?_
      refine y_iconst CC (nI 2) dX3_firstActInto_3 (by decide) ?_
      refine z_icmp_gtF CC 28 dX3_firstActInto_4 (by decide) (a := (2 : Int)) (b := (2 : Int)) (nI_toInt (by decide)) (nI_toInt (by decide)) (by decide) ?_
      refine y_iload_n CC 2 dX3_firstActInto_7 rfl rfl ?_
      refine y_aload_n CC 1 dX3_firstActInto_8 rfl rfl ?_
      refine y_iload_n CC 3 dX3_firstActInto_9 rfl rfl ?_
      refine y_iload_n CC 0 dX3_firstActInto_10 rfl rfl ?_
      refine y_callVI (st := [.int (nI x)]) CC cl_X3_133 (k_placeAfter l D ad kI kS kL μ c hc τ hT hB p 2 (by omega) (by omega)) hc rfl rfl rfl (Nat.le_of_ble_eq_true rfl) ⟨by decide, by decide⟩ ⟨Nat.zero_le _, Nat.zero_le _⟩ dX3_firstActInto_11 (fun r_ μ_ w_7 => ?_)
      obtain ⟨rfl, rfl⟩ := w_7
      refine y_callTI (st := []) CC CC.2.2.2.2.2.1.2.2.2.2.2.1 cl_X3_110 (k_isIn l D ad kI kS kL μ x (after (tP τ) p 2) (by omega) (by omega)) rfl rfl (Nat.le_of_ble_eq_true rfl) ⟨by decide, by decide⟩ ⟨Nat.zero_le _, Nat.zero_le _⟩ dX3_firstActInto_14 (fun r_ μ_ w_9 => ?_)
      rcases w_9 with ⟨rfl, ⟨b_8, rfl⟩ | ⟨b_8, rfl⟩⟩
      · skip
        refine z_if_eqF CC 22 dX3_firstActInto_17 (by decide) (a := (1 : Int)) (nI_toInt (by decide)) (by decide) ?_
        refine y_iload_n CC 0 dX3_firstActInto_20 rfl rfl ?_
        exact y_iret CC hQ dX3_firstActInto_21 (⟨rfl, by unfold faS; rw [if_neg (by rw [b_2]; decide), if_neg (by rw [b_5]; decide), if_pos b_8]; rfl⟩)
      · skip
        refine z_if_eqT CC 22 dX3_firstActInto_17 (by decide) (a := (0 : Int)) (nI_toInt (by decide)) (by decide) ?_
        refine y_iinc CC 0 (nI 3) [(3, .int (nI 3)), (0, .ref (ad c)), (1, .int (nI x)), (2, .int (nI p))] dX3_firstActInto_22 rfl (i_inc _) (by decide) rfl ?_
        refine y_goto CC 2 dX3_firstActInto_25 (by decide) ?_
        refine y_iload_n CC 0 dX3_firstActInto_2 rfl rfl ?_
        refine y_iconst CC (nI 2) dX3_firstActInto_3 (by decide) ?_
        refine z_icmp_gtT CC 28 dX3_firstActInto_4 (by decide) (a := (3 : Int)) (b := (2 : Int)) (nI_toInt (by decide)) (nI_toInt (by decide)) (by decide) ?_
        refine y_bipush CC ((-9)) dX3_firstActInto_28 (by decide) ?_
        exact y_iret CC hQ dX3_firstActInto_30 (⟨rfl, by unfold faS; rw [if_neg (by rw [b_2]; decide), if_neg (by rw [b_5]; decide), if_neg (by rw [b_8]; decide)]; rfl⟩)

set_option maxRecDepth 100000 in
set_option maxHeartbeats 4000000 in
theorem k_findTheWay (l : Launch) (D : va_G) (ad : Nat → Nat) (kI kS kL : ClassId) (μ : Mem) (c : Nat) (hc : isO 3 c) (τ : Tn) (hT : TX μ c τ) (hB : tB τ) (hP3 : 3 ≤ tP τ) (t n : Nat) (ht : t < tP τ) (hn : n ≤ 60) : MV l D ad kI kS kL yX3_findTheWay cX3_findTheWay 5 none 4 93 [.ref (ad c), .int (nI t), .int (nI n)] μ (fun μ2 => (∀ c1 k1, c1 ≠ c + 8 → μ2 c1 k1 = μ c1 k1) ∧ ∀ m, m ≤ n → μ2 (c + 8) m = nI (bwS τ t n m)) := by
  refine met_V RX3 rfl (by decide) (lv := [(0, .ref (ad c)), (1, .int (nI t)), (2, .int (nI n))]) rfl (Nat.le_of_ble_eq_true rfl) ?_
  intro pp ee ss mm aa bb me cd AA hA0 CC hnm QQ hQ
  have hP9 : tP τ ≤ 9 := hB.1
  have hS4 : tS τ ≤ 4 := hB.2.1
  have hc2 : 1 ≤ c ∧ c ≤ 2 := by omega
  refine y_iload_n CC 1 dX3_findTheWay_0 rfl rfl ?_
  refine y_callTI (st := []) CC CC.2.2.2.2.2.1.2.2.2.2.2.2 cl_X3_114 (k_bit l D ad kI kS kL μ t (by omega)) rfl rfl (Nat.le_of_ble_eq_true rfl) ⟨by decide, by decide⟩ ⟨Nat.zero_le _, Nat.zero_le _⟩ dX3_findTheWay_1 (fun r_ μ_ w_1 => ?_)
  obtain ⟨rfl, rfl⟩ := w_1
  refine y_istore_n CC [(3, .int (nI (2 ^ t))), (0, .ref (ad c)), (1, .int (nI t)), (2, .int (nI n))] dX3_findTheWay_4 rfl (by decide) rfl ?_
  refine y_iload_n CC 3 dX3_findTheWay_5 rfl rfl ?_
  refine y_aload_n CC 1 dX3_findTheWay_6 rfl rfl ?_
  refine y_getr CC gl_X3_21 hc (d := (c + 8)) rfl dX3_findTheWay_7 ?_
  refine y_alen CC (n := 61) (by omega) (by unfold alen; rw [if_neg (by omega), if_pos (by omega)]) dX3_findTheWay_10 ?_
  refine y_iconst CC (nI 1) dX3_findTheWay_11 (by decide) ?_
  refine y_isub CC dX3_findTheWay_12 (v := nI 60) (pk_sub (by omega)) ?_
  refine y_mmin CC mm_X3_136 (by decide) (by decide) ⟨Nat.zero_le _, Nat.zero_le _⟩ (v := nI (min n 60)) (i_min (by omega) (by omega)) dX3_findTheWay_13 ?_
  refine y_istore CC [(4, .int (nI (min n 60))), (3, .int (nI (2 ^ t))), (0, .ref (ad c)), (1, .int (nI t)), (2, .int (nI n))] dX3_findTheWay_16 (by decide) rfl ?_
  have L18 : ∀ (n18 : Nat) (j : Nat) (ν : Mem), n + 1 - j < n18 → (j ≤ n + 1) → (∀ c1 k1, c1 ≠ c + 8 → ν c1 k1 = μ c1 k1) → (∀ m, n + 1 ≤ m + j → m ≤ n → ν (c + 8) m = nI (bwS τ t n m)) → Y pp l ee (rmY 4 93) ss mm aa bb me cd D ad kI kS kL AA 5 0 0 QQ 18 [(4, .int (nI (n + 1 - j) - 1)), (3, .int (nI (bj τ t n j))), (0, .ref (ad c)), (1, .int (nI t)), (2, .int (nI n))] [] ν := by
    intro n18
    induction n18 with
    | zero => intro j ν hm18; exact absurd hm18 (Nat.not_lt_zero _)
    | succ n18 ih18 =>
      intro j ν hm18 hj hF hW
      have hT2 : TX ν c τ := hT.same (fun k _ => hF c k (by omega)) (fun a k _ => hF _ k (by omega)) (fun p => hF _ p (by omega))
      have hbj := set9 hP9 (bj_lt (n := n) ht j)
      refine y_iload CC 0 dX3_findTheWay_18 rfl ?_
      refine z_if_lt CC 58 dX3_findTheWay_20 (by decide) (a := ((n + 1 - j : Nat) : Int) - 1) (i_pred (by omega)) (fun c_3 => ?_) (fun c_3 => ?_)
      · skip
        exact y_vret CC hQ dX3_findTheWay_58 (⟨hF, fun m h => hW m (by omega) h⟩)
      · skip
        refine y_lvE (lv2 := [(4, .int (nI (n - j))), (3, .int (nI (bj τ t n j))), (0, .ref (ad c)), (1, .int (nI t)), (2, .int (nI n))]) (by rw [show n + 1 - j = (n - j) + 1 by omega, nI_pred]) ?_
        refine y_aload_n CC 2 dX3_findTheWay_23 rfl rfl ?_
        refine y_getr CC gl_X3_21 hc (d := (c + 8)) rfl dX3_findTheWay_24 ?_
        refine y_iload CC 0 dX3_findTheWay_27 rfl ?_
        refine y_iload_n CC 1 dX3_findTheWay_29 rfl rfl ?_
        refine y_aload_n CC 2 dX3_findTheWay_30 rfl rfl ?_
        refine y_iload CC 0 dX3_findTheWay_31 rfl ?_
        refine y_bipush CC (nI 15) dX3_findTheWay_33 (by decide) ?_
        refine y_callVI (st := [.int (nI (bj τ t n j)), .int (nI (n - j)), .ref (ad (c + 8))]) CC cl_X3_124 (k_freePlaces l D ad kI kS kL ν c hc τ hT2 hB hP3 (n - j) 15 (by omega) (by omega)) hc rfl rfl rfl (Nat.le_of_ble_eq_true rfl) ⟨by decide, by decide⟩ ⟨Nat.zero_le _, Nat.zero_le _⟩ dX3_findTheWay_35 (fun r_ μ_ w_5 => ?_)
        obtain ⟨rfl, rfl⟩ := w_5
        have h_fr_4 := set9 (P := tP τ) (by omega) (frS_lt τ 15 (n - j))
        refine y_iand CC dX3_findTheWay_38 (v := nI (bj τ t n j &&& frS τ 15 (n - j))) (i_and _ _) ?_
        refine y_iastN CC (n := 61) (by omega) (by unfold alen; rw [if_neg (by omega), if_pos (by omega)]) (by omega) (by omega) dX3_findTheWay_39 ?_
        have hT3 : TX (mu ν (c + 8) (n - j) (nI (bj τ t n j &&& frS τ 15 (n - j)))) c τ := hT2.same (fun k _ => mu_ne _ _ (Or.inl (by omega))) (fun a k _ => mu_ne _ _ (Or.inl (by omega))) (fun p => mu_ne _ _ (Or.inl (by omega)))
        have hs_ : bj τ t n j &&& frS τ 15 (n - j) < 2 ^ tP τ := Nat.lt_of_le_of_lt Nat.and_le_right (frS_lt _ _ _)
        refine y_aload_n CC 2 dX3_findTheWay_40 rfl rfl ?_
        refine y_aload_n CC 2 dX3_findTheWay_41 rfl rfl ?_
        refine y_getr CC gl_X3_21 hc (d := (c + 8)) rfl dX3_findTheWay_42 ?_
        refine y_iload CC 0 dX3_findTheWay_45 rfl ?_
        refine y_ialdN CC (n := 61) (by omega) (by unfold alen; rw [if_neg (by omega), if_pos (by omega)]) (by omega) (by omega) (v := nI (bj τ t n j &&& frS τ 15 (n - j))) (mu_at _ _ _ _) dX3_findTheWay_47 ?_
        refine y_callVI (st := []) CC cl_X3_121 (k_withNeighbours l D ad kI kS kL (mu ν (c + 8) (n - j) (nI (bj τ t n j &&& frS τ 15 (n - j)))) c hc τ hT3 hB hP3 (bj τ t n j &&& frS τ 15 (n - j)) hs_) hc rfl rfl rfl (Nat.le_of_ble_eq_true rfl) ⟨by decide, by decide⟩ ⟨Nat.zero_le _, Nat.zero_le _⟩ dX3_findTheWay_48 (fun r_ μ_ w_6 => ?_)
        obtain ⟨rfl, rfl⟩ := w_6
        refine y_istore_n CC [(3, .int (nI (nbS (tP τ) (bj τ t n j &&& frS τ 15 (n - j))))), (4, .int (nI (n - j))), (0, .ref (ad c)), (1, .int (nI t)), (2, .int (nI n))] dX3_findTheWay_51 rfl (by decide) rfl ?_
        refine y_iinc CC 1 (nI (n + 1 - (j + 1)) - 1) [(4, .int (nI (n + 1 - (j + 1)) - 1)), (3, .int (nI (nbS (tP τ) (bj τ t n j &&& frS τ 15 (n - j))))), (0, .ref (ad c)), (1, .int (nI t)), (2, .int (nI n))] dX3_findTheWay_52 rfl (by rw [show n + 1 - (j + 1) = n - j by omega, Int32.sub_eq_add_neg]; rfl) (by decide) rfl ?_
        refine y_goto CC 18 dX3_findTheWay_55 (by decide) ?_
        exact ih18 (j + 1) (mu ν (c + 8) (n - j) (nI (bj τ t n j &&& frS τ 15 (n - j)))) (by omega) (by omega) (fun c1 k1 h => by rw [mu_ne _ _ (Or.inl h)]; exact hF c1 k1 h) (fun m h1 h2 => by rcases (show m = n - j ∨ n + 1 ≤ m + j by omega) with rfl | h; rw [mu_at, bwS_j (by omega)]; rw [mu_k _ _ (by omega)]; exact hW m h h2)
  refine y_lvE (lv2 := [(4, .int (nI (n + 1 - 0) - 1)), (3, .int (nI (2 ^ t))), (0, .ref (ad c)), (1, .int (nI t)), (2, .int (nI n))]) (by rw [show min n 60 = n by omega, show n + 1 - 0 = n + 1 by omega, nI_pred]) ?_
  exact L18 _ 0 μ (Nat.lt_succ_self _) (Nat.zero_le _) (fun _ _ _ => rfl) (fun m h1 h2 => absurd h1 (by omega))

set_option maxRecDepth 100000 in
set_option maxHeartbeats 4000000 in
theorem k_actOfSoonest (l : Launch) (D : va_G) (ad : Nat → Nat) (kI kS kL : ClassId) (μ : Mem) (c : Nat) (hc : isO 3 c) (τ : Tn) (hT : TX μ c τ) (hB : tB τ) (hP3 : 3 ≤ tP τ) (f t n k : Nat) (hf : f < tP τ) (ht : t < tP τ) (hn : n ≤ 60) (hk : k < n) (hw : (bwS τ t n 0).testBit f = true) : MI l D ad kI kS kL yX3_actOfSoonest cX3_actOfSoonest 8 (some .int) 5 117 [.ref (ad c), .int (nI f), .int (nI t), .int (nI n), .int (nI k)] μ (fun r μ2 => (∀ c1 k1, c1 ≠ c + 8 → μ2 c1 k1 = μ c1 k1) ∧ r = nI (actS τ t n f k)) := by
  refine met_I RX3 rfl (by decide) (lv := [(0, .ref (ad c)), (1, .int (nI f)), (2, .int (nI t)), (3, .int (nI n)), (4, .int (nI k))]) rfl (Nat.le_of_ble_eq_true rfl) ?_
  intro pp ee ss mm aa bb me cd AA hA0 CC hnm QQ hQ
  have hP9 : tP τ ≤ 9 := hB.1
  have hS4 : tS τ ≤ 4 := hB.2.1
  have hc2 : 1 ≤ c ∧ c ≤ 2 := by omega
  refine y_aload_n CC 0 dX3_actOfSoonest_0 rfl rfl ?_
  refine y_iload_n CC 2 dX3_actOfSoonest_1 rfl rfl ?_
  refine y_iload_n CC 3 dX3_actOfSoonest_2 rfl rfl ?_
  refine y_callVV (st := []) CC cl_X3_127 (k_findTheWay l D ad kI kS kL μ c hc τ hT hB hP3 t n ht hn) hc rfl rfl rfl (Nat.le_of_ble_eq_true rfl) ⟨by decide, by decide⟩ ⟨Nat.zero_le _, Nat.zero_le _⟩ dX3_actOfSoonest_3 (fun μ_ w_2 => ?_)
  obtain ⟨hF, hW⟩ := w_2
  have hT2 : TX μ_ c τ := hT.same (fun k _ => hF c k (by omega)) (fun a k _ => hF _ k (by omega)) (fun p => hF _ p (by omega))
  refine y_iload_n CC 1 dX3_actOfSoonest_6 rfl rfl ?_
  refine y_istore CC [(5, .int (nI f)), (0, .ref (ad c)), (1, .int (nI f)), (2, .int (nI t)), (3, .int (nI n)), (4, .int (nI k))] dX3_actOfSoonest_7 (by decide) rfl ?_
  refine y_bipush CC ((-9)) dX3_actOfSoonest_9 (by decide) ?_
  refine y_istore CC [(6, .int (-9)), (5, .int (nI f)), (0, .ref (ad c)), (1, .int (nI f)), (2, .int (nI t)), (3, .int (nI n)), (4, .int (nI k))] dX3_actOfSoonest_11 (by decide) rfl ?_
  refine y_iconst CC (nI 1) dX3_actOfSoonest_13 (by decide) ?_
  refine y_istore CC [(7, .int (nI 1)), (6, .int (-9)), (5, .int (nI f)), (0, .ref (ad c)), (1, .int (nI f)), (2, .int (nI t)), (3, .int (nI n)), (4, .int (nI k))] dX3_actOfSoonest_14 (by decide) rfl ?_
  have L16 : ∀ (n16 : Nat) (x : Nat) (av : Int32), k + 1 - x < n16 → (x ≤ k + 1) → (posS τ t n f x < tP τ) → ((bwS τ t n x).testBit (posS τ t n f x) = true) → (0 < x → av = nI (actS τ t n f (x - 1))) → Y pp l ee (rmY 5 117) ss mm aa bb me cd D ad kI kS kL AA 8 0 0 QQ 16 [(7, .int (nI (x + 1))), (6, .int av), (5, .int (nI (posS τ t n f x))), (0, .ref (ad c)), (1, .int (nI f)), (2, .int (nI t)), (3, .int (nI n)), (4, .int (nI k))] [] μ_ := by
    intro n16
    induction n16 with
    | zero => intro x av hm16; exact absurd hm16 (Nat.not_lt_zero _)
    | succ n16 ih16 =>
      intro x av hm16 hx hp hin hav
      refine y_iload CC 0 dX3_actOfSoonest_16 rfl ?_
      refine y_iload CC 7 dX3_actOfSoonest_18 rfl ?_
      refine y_iconst CC (nI 1) dX3_actOfSoonest_20 (by decide) ?_
      refine y_iadd CC dX3_actOfSoonest_21 (v := nI (k + 1)) (nI_add _ _) ?_
      refine z_icmp_gt CC 66 dX3_actOfSoonest_22 (by decide) (a := ((x + 1 : Nat) : Int)) (b := ((k + 1 : Nat) : Int)) (nI_toInt (by omega)) (nI_toInt (by omega)) (fun c_4 => ?_) (fun c_4 => ?_)
      · skip
        refine y_iload CC 1 dX3_actOfSoonest_66 rfl ?_
        exact y_iret CC hQ dX3_actOfSoonest_68 (⟨hF, hav (by omega) ▸ by rw [show x - 1 = k by omega]⟩)
      · skip
        refine y_iload CC 0 dX3_actOfSoonest_25 rfl ?_
        refine y_aload_n CC 3 dX3_actOfSoonest_27 rfl rfl ?_
        refine y_getr CC gl_X3_21 hc (d := (c + 8)) rfl dX3_actOfSoonest_28 ?_
        refine y_alen CC (n := 61) (by omega) (by unfold alen; rw [if_neg (by omega), if_pos (by omega)]) dX3_actOfSoonest_31 ?_
        refine z_icmp_ge CC 66 dX3_actOfSoonest_32 (by decide) (a := ((x + 1 : Nat) : Int)) (b := (61 : Int)) (nI_toInt (by omega)) (nI_toInt (by decide)) (fun c_5 => ?_) (fun c_5 => ?_)
        · skip
          exfalso; omega
        · skip
          have hb9 := set9 hP9 (bwS_lt (τ := τ) (t := t) (n := n) (x + 1))
          have hst := way_step hp (by omega) hin
          refine y_aload_n CC 3 dX3_actOfSoonest_35 rfl rfl ?_
          refine y_aload_n CC 3 dX3_actOfSoonest_36 rfl rfl ?_
          refine y_getr CC gl_X3_21 hc (d := (c + 8)) rfl dX3_actOfSoonest_37 ?_
          refine y_iload CC 0 dX3_actOfSoonest_40 rfl ?_
          refine y_ialdN CC (n := 61) (by omega) (by unfold alen; rw [if_neg (by omega), if_pos (by omega)]) (by omega) (by omega) (v := nI (bwS τ t n (x + 1))) (hW (x + 1) (by omega)) dX3_actOfSoonest_42 ?_
          refine y_iload CC 2 dX3_actOfSoonest_43 rfl ?_
          refine y_callVI (st := []) CC cl_X3_130 (k_firstActInto l D ad kI kS kL μ_ c hc τ hT2 hB (bwS τ t n (x + 1)) (posS τ t n f x) (by omega) hp) hc rfl rfl rfl (Nat.le_of_ble_eq_true rfl) ⟨by decide, by decide⟩ ⟨Nat.zero_le _, Nat.zero_le _⟩ dX3_actOfSoonest_45 (fun r_ μ_ w_6 => ?_)
          obtain ⟨rfl, rfl⟩ := w_6
          refine y_top (y := nI (actS τ t n f x)) (by rw [hst.2.1]; rfl) ?_
          have ha2 := hst.1
          refine y_istore CC [(6, .int (nI (actS τ t n f x))), (7, .int (nI (x + 1))), (5, .int (nI (posS τ t n f x))), (0, .ref (ad c)), (1, .int (nI f)), (2, .int (nI t)), (3, .int (nI n)), (4, .int (nI k))] dX3_actOfSoonest_48 (by decide) rfl ?_
          refine y_aload_n CC 3 dX3_actOfSoonest_50 rfl rfl ?_
          refine y_iload CC 2 dX3_actOfSoonest_51 rfl ?_
          refine y_iload CC 0 dX3_actOfSoonest_53 rfl ?_
          refine y_callVI (st := []) CC cl_X3_133 (k_placeAfter l D ad kI kS kL μ_ c hc τ hT2 hB (posS τ t n f x) (actS τ t n f x) (by omega) (by omega)) hc rfl rfl rfl (Nat.le_of_ble_eq_true rfl) ⟨by decide, by decide⟩ ⟨Nat.zero_le _, Nat.zero_le _⟩ dX3_actOfSoonest_55 (fun r_ μ_ w_7 => ?_)
          obtain ⟨rfl, rfl⟩ := w_7
          refine y_istore CC [(5, .int (nI (after (tP τ) (posS τ t n f x) (actS τ t n f x)))), (6, .int (nI (actS τ t n f x))), (7, .int (nI (x + 1))), (0, .ref (ad c)), (1, .int (nI f)), (2, .int (nI t)), (3, .int (nI n)), (4, .int (nI k))] dX3_actOfSoonest_58 (by decide) rfl ?_
          refine y_iinc CC 2 (nI ((x + 1) + 1)) [(7, .int (nI ((x + 1) + 1))), (5, .int (nI (after (tP τ) (posS τ t n f x) (actS τ t n f x)))), (6, .int (nI (actS τ t n f x))), (0, .ref (ad c)), (1, .int (nI f)), (2, .int (nI t)), (3, .int (nI n)), (4, .int (nI k))] dX3_actOfSoonest_60 rfl (i_inc _) (by decide) rfl ?_
          refine y_goto CC 16 dX3_actOfSoonest_63 (by decide) ?_
          refine y_lv [0, 2, 1, 3, 4, 5, 6, 7] rfl ?_
          exact ih16 (x + 1) (nI (actS τ t n f x)) (by omega) (by omega) (after_lt hp) hst.2.2 (fun _ => rfl)
  exact L16 _ 0 (-9) (Nat.lt_succ_self _) (Nat.zero_le _) hf hw (fun h => absurd h (Nat.lt_irrefl 0))
end
section
/-- readings: rows 0 sleepers, 1 minutes, 2 places; how many: 3 0 -/
def RX (μ : Mem) (ρ : Tn) : Prop := μ 3 3 = nI (ρ 3 0) ∧ ∀ i, i < 8 → μ 11 i = nI (ρ 0 i) ∧ μ 12 i = nI (ρ 1 i) ∧ μ 13 i = nI (ρ 2 i)
def RM (μ : Mem) (ρ : Tn) : Prop := μ 30 21 = nI (ρ 3 0) ∧ ∀ i, i < ρ 3 0 → μ 41 i = nI (ρ 0 i) ∧ μ 42 i = nI (ρ 1 i) ∧ μ 43 i = nI (ρ 2 i)
def rB (τ ρ : Tn) : Prop := ρ 3 0 ≤ 8 ∧ ∀ i, i < ρ 3 0 → ρ 0 i < tS τ ∧ ρ 1 i ≤ 60 ∧ ρ 2 i < tP τ
/-- all readings are so in a town -/
def soB (τ ρ : Tn) : Bool := (List.range (ρ 3 0)).all (fun i => decide (pl τ (ρ 0 i) (ρ 1 i) = ρ 2 i))
theorem soB_t {τ ρ : Tn} (h : ∀ i, i < ρ 3 0 → pl τ (ρ 0 i) (ρ 1 i) = ρ 2 i) : soB τ ρ = true := List.all_eq_true.mpr (fun i hi => decide_eq_true (h i (List.mem_range.mp hi)))
theorem soB_f {τ ρ : Tn} {i : Nat} (hi : i < ρ 3 0) (h : ¬ pl τ (ρ 0 i) (ρ 1 i) = ρ 2 i) : soB τ ρ = false := by
  cases hb : soB τ ρ with
  | false => rfl
  | true => exact absurd (of_decide_eq_true (List.all_eq_true.mp hb i (List.mem_range.mpr hi))) h
/-- the class's sheet at cell q: its lane and one (0: nothing), its length, its cells -/
def SQ (μ : Mem) (q ln len : Nat) (ζ : Nat → Int32) : Prop := μ q 1 = nI ln - 1 ∧ μ q 2 = nI len ∧ ln ≤ 3 ∧ len ≤ 60 ∧ ∀ i, i < len → μ (q + 4) i = ζ i
def SX (μ : Mem) (θ : Tn) (ζ : Nat → Nat → Int32) : Prop := ∀ k, k < 4 → SQ μ (14 + k) (θ k 0) (θ k 1) (ζ k)
/-- the reference's -/
def SM (μ : Mem) (θ : Tn) (ζ : Nat → Nat → Int32) : Prop := ∀ k, k < 4 → (θ k 0 = 0 → μ 44 k = -1) ∧ (0 < θ k 0 → μ 44 k = nI (θ k 1) ∧ μ 45 k = nI (θ k 0 - 1)) ∧ ∀ i, i < θ k 1 → μ 46 (60 * k + i) = ζ k i
def cutI (ln : Nat) (v : Int32) : Int32 := if ln = 1 then v.toInt8.toInt32 else if ln = 2 then v.toInt16.toInt32 else v
/-- fault of a row taken as one of lane j; of n cells from i on -/
def farF (ln j : Nat) : Nat := if ln = 0 then 1 else if ln = j + 1 then 0 else 2
def focB (len : Nat) (i n : Int32) : Bool := decide (0 ≤ i.toInt ∧ 0 ≤ n.toInt ∧ i.toInt + n.toInt ≤ (len : Int))
def focR (r : Int32) (len : Nat) (i n : Int32) : Prop := (focB len i n = true ∧ r = nI 0) ∨ (focB len i n = false ∧ r = nI 3)
theorem len_sub {len : Nat} {i : Int32} (hl : len ≤ 60) (h0 : 0 ≤ i.toInt) (h1 : i.toInt ≤ len) : (nI len - i).toInt = len - i.toInt := by
  rw [Int32.toInt_sub, nI_toInt (by omega), Int.bmod_eq_of_le] <;> omega

set_option maxRecDepth 100000 in
set_option maxHeartbeats 4000000 in
theorem k_howMany (l : Launch) (D : va_G) (ad : Nat → Nat) (kI kS kL : ClassId) (μ : Mem) (ρ : Tn) (hR : RX μ ρ) (hR8 : ρ 3 0 ≤ 8)  : MI l D ad kI kS kL yX0_howMany cX0_howMany 1 (some .int) 0 0 [.ref (ad 3)] μ (fun r μ2 => μ = μ2 ∧ r = nI (ρ 3 0)) := by
  refine met_I RX0 rfl (by decide) (lv := [(0, .ref (ad 3))]) rfl (Nat.le_of_ble_eq_true rfl) ?_
  intro pp ee ss mm aa bb me cd AA hA0 CC hnm QQ hQ
  refine y_aload_n CC 0 dX0_howMany_0 rfl rfl ?_
  refine y_geti CC gl_X0_21 (by omega) rfl (v := nI (ρ 3 0)) hR.1 dX0_howMany_1 ?_
  exact y_iret CC hQ dX0_howMany_4 (⟨rfl, rfl⟩)

set_option maxRecDepth 100000 in
set_option maxHeartbeats 4000000 in
theorem k_keepFirst (l : Launch) (D : va_G) (ad : Nat → Nat) (kI kS kL : ClassId) (μ : Mem) (ρ : Tn) (hR : RX μ ρ) (hR8 : ρ 3 0 ≤ 8) (n : Nat) : MV l D ad kI kS kL yX0_keepFirst cX0_keepFirst 2 none 0 0 [.ref (ad 3), .int (nI n)] μ (fun μ2 => μ2 = mu μ 3 3 (nI n)) := by
  refine met_V RX0 rfl (by decide) (lv := [(0, .ref (ad 3)), (1, .int (nI n))]) rfl (Nat.le_of_ble_eq_true rfl) ?_
  intro pp ee ss mm aa bb me cd AA hA0 CC hnm QQ hQ
  refine y_aload_n CC 0 dX0_keepFirst_0 rfl rfl ?_
  refine y_iload_n CC 1 dX0_keepFirst_1 rfl rfl ?_
  refine y_puti CC pl_X0_21 (by omega) rfl (Nat.le_of_ble_eq_true rfl) dX0_keepFirst_2 ?_
  exact y_vret CC hQ dX0_keepFirst_5 rfl

set_option maxRecDepth 100000 in
set_option maxHeartbeats 4000000 in
theorem k_add (l : Launch) (D : va_G) (ad : Nat → Nat) (kI kS kL : ClassId) (μ : Mem) (ρ : Tn) (hR : RX μ ρ) (hR8 : ρ 3 0 ≤ 8) (a m p : Nat) : MI l D ad kI kS kL yX0_add cX0_add 4 (some .int) 0 0 [.ref (ad 3), .int (nI a), .int (nI m), .int (nI p)] μ (fun r μ2 => (ρ 3 0 = 8 ∧ μ = μ2 ∧ r = -4) ∨ (ρ 3 0 < 8 ∧ r = nI (ρ 3 0) ∧ μ2 = mu (mu (mu (mu μ 11 (ρ 3 0) (nI a)) 12 (ρ 3 0) (nI m)) 13 (ρ 3 0) (nI p)) 3 3 (nI (ρ 3 0 + 1)))) := by
  refine met_I RX0 rfl (by decide) (lv := [(0, .ref (ad 3)), (1, .int (nI a)), (2, .int (nI m)), (3, .int (nI p))]) rfl (Nat.le_of_ble_eq_true rfl) ?_
  intro pp ee ss mm aa bb me cd AA hA0 CC hnm QQ hQ
  refine y_aload_n CC 0 dX0_add_0 rfl rfl ?_
  refine y_geti CC gl_X0_21 (by omega) rfl (v := nI (ρ 3 0)) hR.1 dX0_add_1 ?_
  refine z_if_lt CC 16 dX0_add_4 (by decide) (a := ((ρ 3 0 : Nat) : Int)) (nI_toInt (by omega)) (fun c_1 => ?_) (fun c_1 => ?_)
  · skip
    exfalso; omega
  · skip
    refine y_aload_n CC 0 dX0_add_7 rfl rfl ?_
    refine y_geti CC gl_X0_21 (by omega) rfl (v := nI (ρ 3 0)) hR.1 dX0_add_8 ?_
    refine y_bipush CC (nI 8) dX0_add_11 (by decide) ?_
    refine z_icmp_lt CC 19 dX0_add_13 (by decide) (a := ((ρ 3 0 : Nat) : Int)) (b := (8 : Int)) (nI_toInt (by omega)) (nI_toInt (by decide)) (fun c_2 => ?_) (fun c_2 => ?_)
    · skip
      refine y_aload_n CC 0 dX0_add_19 rfl rfl ?_
      refine y_getr CC gl_X0_9 (by omega) (d := 11) rfl dX0_add_20 ?_
      refine y_aload_n CC 0 dX0_add_23 rfl rfl ?_
      refine y_geti CC gl_X0_21 (by omega) rfl (v := nI (ρ 3 0)) hR.1 dX0_add_24 ?_
      refine y_iload_n CC 1 dX0_add_27 rfl rfl ?_
      refine y_iastN CC (n := 8) (by omega) (by decide) (by omega) (by omega) dX0_add_28 ?_
      refine y_aload_n CC 0 dX0_add_29 rfl rfl ?_
      refine y_getr CC gl_X0_15 (by omega) (d := 12) rfl dX0_add_30 ?_
      refine y_aload_n CC 0 dX0_add_33 rfl rfl ?_
      refine y_geti CC gl_X0_21 (by omega) rfl (v := nI (ρ 3 0)) (by rw [mu_ne _ _ (Or.inl (by decide))]; exact hR.1) dX0_add_34 ?_
      refine y_iload_n CC 2 dX0_add_37 rfl rfl ?_
      refine y_iastN CC (n := 8) (by omega) (by decide) (by omega) (by omega) dX0_add_38 ?_
      refine y_aload_n CC 0 dX0_add_39 rfl rfl ?_
      refine y_getr CC gl_X0_18 (by omega) (d := 13) rfl dX0_add_40 ?_
      refine y_aload_n CC 0 dX0_add_43 rfl rfl ?_
      refine y_geti CC gl_X0_21 (by omega) rfl (v := nI (ρ 3 0)) (by rw [mu_ne _ _ (Or.inl (by decide))]; rw [mu_ne _ _ (Or.inl (by decide))]; exact hR.1) dX0_add_44 ?_
      refine y_iload_n CC 3 dX0_add_47 rfl rfl ?_
      refine y_iastN CC (n := 8) (by omega) (by decide) (by omega) (by omega) dX0_add_48 ?_
      refine y_aload_n CC 0 dX0_add_49 rfl rfl ?_
      refine y_dup CC dX0_add_50 rfl ?_
      refine y_geti CC gl_X0_21 (by omega) rfl (v := nI (ρ 3 0)) (by rw [mu_ne _ _ (Or.inl (by decide))]; rw [mu_ne _ _ (Or.inl (by decide))]; rw [mu_ne _ _ (Or.inl (by decide))]; exact hR.1) dX0_add_51 ?_
      refine y_iconst CC (nI 1) dX0_add_54 (by decide) ?_
      refine y_iadd CC dX0_add_55 (v := nI ((ρ 3 0) + 1)) (nI_add _ _) ?_
      refine y_puti CC pl_X0_21 (by omega) rfl (Nat.le_of_ble_eq_true rfl) dX0_add_56 ?_
      refine y_aload_n CC 0 dX0_add_59 rfl rfl ?_
      refine y_geti CC gl_X0_21 (by omega) rfl (v := nI (ρ 3 0 + 1)) (mu_at _ _ _ _) dX0_add_60 ?_
      refine y_iconst CC (nI 1) dX0_add_63 (by decide) ?_
      refine y_isub CC dX0_add_64 (v := nI (ρ 3 0)) ((pk_sub (by omega)).trans (by rw [Nat.add_sub_cancel])) ?_
      exact y_iret CC hQ dX0_add_65 (Or.inr ⟨by omega, rfl, rfl⟩)
    · skip
      refine y_bipush CC ((-4)) dX0_add_16 (by decide) ?_
      exact y_iret CC hQ dX0_add_18 (Or.inl ⟨by omega, rfl, rfl⟩)

set_option maxRecDepth 100000 in
set_option maxHeartbeats 4000000 in
theorem k_areSo (l : Launch) (D : va_G) (ad : Nat → Nat) (kI kS kL : ClassId) (μ : Mem) (ρ : Tn) (hR : RX μ ρ) (hR8 : ρ 3 0 ≤ 8) (c : Nat) (hc : isO 3 c) (τ : Tn) (hT : TX μ c τ) (hB : tB τ) (hP : 0 < tP τ) (hrb : rB τ ρ) (τ2 : Tn) (a k st d : Nat) (ha : a < 2 ^ 31) (hk : k ≤ 2) (hst : st ≤ 9) (hd : d ≤ 9) (h1 : ∀ m, pif τ k st d m = pl τ2 a m) (h2 : ∀ b m, b ≠ a → pl τ b m = pl τ2 b m) : MI l D ad kI kS kL yX0_areSo cX0_areSo 8 (some .boolean) 3 69 [.ref (ad 3), .ref (ad c), .int (nI a), .int (nI k), .int (nI st), .int (nI d)] μ (fun r μ2 => μ = μ2 ∧ bo r (soB τ2 ρ)) := by
  refine met_I RX0 rfl (by decide) (lv := [(0, .ref (ad 3)), (1, .ref (ad c)), (2, .int (nI a)), (3, .int (nI k)), (4, .int (nI st)), (5, .int (nI d))]) rfl (Nat.le_of_ble_eq_true rfl) ?_
  intro pp ee ss mm aa bb me cd AA hA0 CC hnm QQ hQ
  have hP9 : tP τ ≤ 9 := hB.1
  have hS4 : tS τ ≤ 4 := hB.2.1
  have hc2 : 1 ≤ c ∧ c ≤ 2 := by omega
  refine y_iconst CC (nI 0) dX0_areSo_0 (by decide) ?_
  refine y_istore CC [(6, .int (nI 0)), (0, .ref (ad 3)), (1, .ref (ad c)), (2, .int (nI a)), (3, .int (nI k)), (4, .int (nI st)), (5, .int (nI d))] dX0_areSo_1 (by decide) rfl ?_
  have L3 : ∀ (n3 : Nat) (i : Nat), ρ 3 0 - i < n3 → (i ≤ ρ 3 0) → (∀ j, j < i → pl τ2 (ρ 0 j) (ρ 1 j) = ρ 2 j) → Y pp l ee (rmY 3 69) ss mm aa bb me cd D ad kI kS kL AA 8 0 0 QQ 3 [(6, .int (nI i)), (0, .ref (ad 3)), (1, .ref (ad c)), (2, .int (nI a)), (3, .int (nI k)), (4, .int (nI st)), (5, .int (nI d))] [] μ := by
    intro n3
    induction n3 with
    | zero => intro i hm3; exact absurd hm3 (Nat.not_lt_zero _)
    | succ n3 ih3 =>
      intro i hm3 hi hn
      refine y_iload CC 0 dX0_areSo_3 rfl ?_
      refine y_aload_n CC 1 dX0_areSo_5 rfl rfl ?_
      refine y_geti CC gl_X0_21 (by omega) rfl (v := nI (ρ 3 0)) hR.1 dX0_areSo_6 ?_
      refine z_icmp_ge CC 89 dX0_areSo_9 (by decide) (a := ((i : Nat) : Int)) (b := ((ρ 3 0 : Nat) : Int)) (nI_toInt (by omega)) (nI_toInt (by omega)) (fun c_2 => ?_) (fun c_2 => ?_)
      · skip
        refine y_iconst CC (nI 1) dX0_areSo_89 (by decide) ?_
        exact y_zret CC hQ dX0_areSo_90 (by decide) (⟨rfl, Or.inl ⟨soB_t (fun j hj => hn j (by omega)), rfl⟩⟩)
      · skip
        refine y_iload CC 0 dX0_areSo_12 rfl ?_
        refine y_bipush CC (nI 8) dX0_areSo_14 (by decide) ?_
        refine z_icmp_geF CC 89 dX0_areSo_16 (by decide) (a := ((i : Nat) : Int)) (b := (8 : Int)) (nI_toInt (by omega)) (nI_toInt (by decide)) (by omega) ?_
        have hri := hrb.2 i (by omega)
        refine y_aload_n CC 1 dX0_areSo_19 rfl rfl ?_
        refine y_getr CC gl_X0_9 (by omega) (d := 11) rfl dX0_areSo_20 ?_
        refine y_iload CC 0 dX0_areSo_23 rfl ?_
        refine y_ialdN CC (n := 8) (by omega) (by decide) (by omega) (by omega) (v := nI (ρ 0 i)) (hR.2 i (by omega)).1 dX0_areSo_25 ?_
        refine y_iload_n CC 3 dX0_areSo_26 rfl rfl ?_
        refine z_icmp_ne CC 49 dX0_areSo_27 (by decide) (a := ((ρ 0 i : Nat) : Int)) (b := ((a : Nat) : Int)) (nI_toInt (by omega)) (nI_toInt (by omega)) (fun c_3 => ?_) (fun c_3 => ?_)
        · skip
          refine y_aload_n CC 2 dX0_areSo_49 rfl rfl ?_
          refine y_aload_n CC 1 dX0_areSo_50 rfl rfl ?_
          refine y_getr CC gl_X0_9 (by omega) (d := 11) rfl dX0_areSo_51 ?_
          refine y_iload CC 0 dX0_areSo_54 rfl ?_
          refine y_ialdN CC (n := 8) (by omega) (by decide) (by omega) (by omega) (v := nI (ρ 0 i)) (hR.2 i (by omega)).1 dX0_areSo_56 ?_
          refine y_aload_n CC 1 dX0_areSo_57 rfl rfl ?_
          refine y_getr CC gl_X0_15 (by omega) (d := 12) rfl dX0_areSo_58 ?_
          refine y_iload CC 0 dX0_areSo_61 rfl ?_
          refine y_ialdN CC (n := 8) (by omega) (by decide) (by omega) (by omega) (v := nI (ρ 1 i)) (hR.2 i (by omega)).2.1 dX0_areSo_63 ?_
          refine y_callVI (st := []) CC cl_X0_31 (k_placeOf l D ad kI kS kL μ c hc τ hT hB hP (ρ 0 i) (ρ 1 i) (by omega) (by omega)) hc rfl rfl rfl (Nat.le_of_ble_eq_true rfl) ⟨by decide, by decide⟩ ⟨Nat.zero_le _, Nat.zero_le _⟩ dX0_areSo_64 (fun r_ μ_ w_5 => ?_)
          obtain ⟨rfl, rfl⟩ := w_5
          have h_pl_4 := pl_lt (τ := τ) hP (ρ 0 i) (ρ 1 i)
          have hv2 := h2 (ρ 0 i) (ρ 1 i) (by omega)
          refine y_istore CC [(7, .int (nI (pl τ (ρ 0 i) (ρ 1 i)))), (6, .int (nI i)), (0, .ref (ad 3)), (1, .ref (ad c)), (2, .int (nI a)), (3, .int (nI k)), (4, .int (nI st)), (5, .int (nI d))] dX0_areSo_67 (by decide) rfl ?_
          refine y_iload CC 0 dX0_areSo_69 rfl ?_
          refine y_aload_n CC 2 dX0_areSo_71 rfl rfl ?_
          refine y_getr CC gl_X0_18 (by omega) (d := 13) rfl dX0_areSo_72 ?_
          refine y_iload CC 1 dX0_areSo_75 rfl ?_
          refine y_ialdN CC (n := 8) (by omega) (by decide) (by omega) (by omega) (v := nI (ρ 2 i)) (hR.2 i (by omega)).2.2 dX0_areSo_77 ?_
          refine z_icmp_eq CC 83 dX0_areSo_78 (by decide) (a := ((pl τ (ρ 0 i) (ρ 1 i) : Nat) : Int)) (b := ((ρ 2 i : Nat) : Int)) (nI_toInt (by omega)) (nI_toInt (by omega)) (fun c_6 => ?_) (fun c_6 => ?_)
          · skip
            refine y_iinc CC 1 (nI (i + 1)) [(6, .int (nI (i + 1))), (7, .int (nI (pl τ (ρ 0 i) (ρ 1 i)))), (0, .ref (ad 3)), (1, .ref (ad c)), (2, .int (nI a)), (3, .int (nI k)), (4, .int (nI st)), (5, .int (nI d))] dX0_areSo_83 rfl (i_inc _) (by decide) rfl ?_
            refine y_goto CC 3 dX0_areSo_86 (by decide) ?_
            refine y_lv [0, 2, 3, 4, 5, 6, 7] rfl ?_
            exact ih3 (i + 1) (by omega) (by omega) (fun j hj => by rcases (show j < i ∨ j = i by omega) with h | rfl; exact hn j h; omega)
          · skip
            refine y_iconst CC (nI 0) dX0_areSo_81 (by decide) ?_
            exact y_zret CC hQ dX0_areSo_82 (by decide) (⟨rfl, Or.inr ⟨soB_f (i := i) (by omega) (by omega), rfl⟩⟩)
        · skip
          refine y_aload_n CC 2 dX0_areSo_30 rfl rfl ?_
          refine y_iload_n CC 4 dX0_areSo_31 rfl rfl ?_
          refine y_iload CC 5 dX0_areSo_32 rfl ?_
          refine y_iload CC 6 dX0_areSo_34 rfl ?_
          refine y_aload_n CC 1 dX0_areSo_36 rfl rfl ?_
          refine y_getr CC gl_X0_15 (by omega) (d := 12) rfl dX0_areSo_37 ?_
          refine y_iload CC 0 dX0_areSo_40 rfl ?_
          refine y_ialdN CC (n := 8) (by omega) (by decide) (by omega) (by omega) (v := nI (ρ 1 i)) (hR.2 i (by omega)).2.1 dX0_areSo_42 ?_
          refine y_callVI (st := []) CC cl_X0_25 (k_placeIf l D ad kI kS kL μ c hc τ hT hB hP k st d (ρ 1 i) (by omega) (by omega) (by omega) (by omega)) hc rfl rfl rfl (Nat.le_of_ble_eq_true rfl) ⟨by decide, by decide⟩ ⟨Nat.zero_le _, Nat.zero_le _⟩ dX0_areSo_43 (fun r_ μ_ w_7 => ?_)
          obtain ⟨rfl, rfl⟩ := w_7
          have hv := h1 (ρ 1 i)
          have hlt := pif_lt hP k st d (ρ 1 i)
          have hv2 : pif τ k st d (ρ 1 i) = pl τ2 (ρ 0 i) (ρ 1 i) := by rw [show ρ 0 i = a by omega]; exact hv
          refine y_goto CC 67 dX0_areSo_46 (by decide) ?_
          refine y_istore CC [(7, .int (nI (pif τ k st d (ρ 1 i)))), (6, .int (nI i)), (0, .ref (ad 3)), (1, .ref (ad c)), (2, .int (nI a)), (3, .int (nI k)), (4, .int (nI st)), (5, .int (nI d))] dX0_areSo_67 (by decide) rfl ?_
          refine y_iload CC 0 dX0_areSo_69 rfl ?_
          refine y_aload_n CC 2 dX0_areSo_71 rfl rfl ?_
          refine y_getr CC gl_X0_18 (by omega) (d := 13) rfl dX0_areSo_72 ?_
          refine y_iload CC 1 dX0_areSo_75 rfl ?_
          refine y_ialdN CC (n := 8) (by omega) (by decide) (by omega) (by omega) (v := nI (ρ 2 i)) (hR.2 i (by omega)).2.2 dX0_areSo_77 ?_
          refine z_icmp_eq CC 83 dX0_areSo_78 (by decide) (a := ((pif τ k st d (ρ 1 i) : Nat) : Int)) (b := ((ρ 2 i : Nat) : Int)) (nI_toInt (by omega)) (nI_toInt (by omega)) (fun c_8 => ?_) (fun c_8 => ?_)
          · skip
            refine y_iinc CC 1 (nI (i + 1)) [(6, .int (nI (i + 1))), (7, .int (nI (pif τ k st d (ρ 1 i)))), (0, .ref (ad 3)), (1, .ref (ad c)), (2, .int (nI a)), (3, .int (nI k)), (4, .int (nI st)), (5, .int (nI d))] dX0_areSo_83 rfl (i_inc _) (by decide) rfl ?_
            refine y_goto CC 3 dX0_areSo_86 (by decide) ?_
            refine y_lv [0, 2, 3, 4, 5, 6, 7] rfl ?_
            exact ih3 (i + 1) (by omega) (by omega) (fun j hj => by rcases (show j < i ∨ j = i by omega) with h | rfl; exact hn j h; omega)
          · skip
            refine y_iconst CC (nI 0) dX0_areSo_81 (by decide) ?_
            exact y_zret CC hQ dX0_areSo_82 (by decide) (⟨rfl, Or.inr ⟨soB_f (i := i) (by omega) (by omega), rfl⟩⟩)
  exact L3 _ 0 (Nat.lt_succ_self _) (Nat.zero_le _) (fun j hj => absurd hj (Nat.not_lt_zero j))

set_option maxRecDepth 100000 in
set_option maxHeartbeats 4000000 in
theorem k_hasNothing (l : Launch) (D : va_G) (ad : Nat → Nat) (kI kS kL : ClassId) (μ : Mem) (q : Nat) (hq : isO 1 q) (ln len : Nat) (ζ : Nat → Int32) (hS : SQ μ q ln len ζ)  : MI l D ad kI kS kL yX1_hasNothing cX1_hasNothing 1 (some .boolean) 0 0 [.ref (ad q)] μ (fun r μ2 => μ = μ2 ∧ bo r (decide (ln = 0))) := by
  refine met_I RX1 rfl (by decide) (lv := [(0, .ref (ad q))]) rfl (Nat.le_of_ble_eq_true rfl) ?_
  intro pp ee ss mm aa bb me cd AA hA0 CC hnm QQ hQ
  have hln := hS.2.2.1
  have hlen := hS.2.2.2.1
  have hq4 : 14 ≤ q ∧ q ≤ 17 := by omega
  refine y_aload_n CC 0 dX1_hasNothing_0 rfl rfl ?_
  refine y_geti CC gl_X1_15 hq rfl (v := nI ln - 1) hS.1 dX1_hasNothing_1 ?_
  refine y_iconst CC ((-1)) dX1_hasNothing_4 (by decide) ?_
  refine z_icmp_ne CC 12 dX1_hasNothing_5 (by decide) (a := ((ln : Nat) : Int) - 1) (b := (-1 : Int)) (i_pred (by omega)) (by decide) (fun c_1 => ?_) (fun c_1 => ?_)
  · skip
    refine y_iconst CC (nI 0) dX1_hasNothing_12 (by decide) ?_
    exact y_zret CC hQ dX1_hasNothing_13 (by decide) (⟨rfl, Or.inr ⟨decide_eq_false (by omega), rfl⟩⟩)
  · skip
    refine y_iconst CC (nI 1) dX1_hasNothing_8 (by decide) ?_
    refine y_goto CC 13 dX1_hasNothing_9 (by decide) ?_
    exact y_zret CC hQ dX1_hasNothing_13 (by decide) (⟨rfl, Or.inl ⟨decide_eq_true (by omega), rfl⟩⟩)

set_option maxRecDepth 100000 in
set_option maxHeartbeats 4000000 in
theorem k_drop (l : Launch) (D : va_G) (ad : Nat → Nat) (kI kS kL : ClassId) (μ : Mem) (q : Nat) (hq : isO 1 q) (ln len : Nat) (ζ : Nat → Int32) (hS : SQ μ q ln len ζ)  : MV l D ad kI kS kL yX1_drop cX1_drop 1 none 0 0 [.ref (ad q)] μ (fun μ2 => μ2 = mu (mu μ q 1 (-1)) q 2 (nI 0)) := by
  refine met_V RX1 rfl (by decide) (lv := [(0, .ref (ad q))]) rfl (Nat.le_of_ble_eq_true rfl) ?_
  intro pp ee ss mm aa bb me cd AA hA0 CC hnm QQ hQ
  have hln := hS.2.2.1
  have hlen := hS.2.2.2.1
  have hq4 : 14 ≤ q ∧ q ≤ 17 := by omega
  refine y_aload_n CC 0 dX1_drop_0 rfl rfl ?_
  refine y_iconst CC ((-1)) dX1_drop_1 (by decide) ?_
  refine y_puti CC pl_X1_15 hq rfl (Nat.le_of_ble_eq_true rfl) dX1_drop_2 ?_
  refine y_aload_n CC 0 dX1_drop_5 rfl rfl ?_
  refine y_iconst CC (nI 0) dX1_drop_6 (by decide) ?_
  refine y_puti CC pl_X1_19 hq rfl (Nat.le_of_ble_eq_true rfl) dX1_drop_7 ?_
  exact y_vret CC hQ dX1_drop_10 rfl

set_option maxRecDepth 100000 in
set_option maxHeartbeats 4000000 in
theorem k_hasCell (l : Launch) (D : va_G) (ad : Nat → Nat) (kI kS kL : ClassId) (μ : Mem) (q : Nat) (hq : isO 1 q) (ln len : Nat) (ζ : Nat → Int32) (hS : SQ μ q ln len ζ) (x : Int32) : MI l D ad kI kS kL yX1_hasCell cX1_hasCell 2 (some .boolean) 0 0 [.ref (ad q), .int x] μ (fun r μ2 => μ = μ2 ∧ bo r (inB x len)) := by
  refine met_I RX1 rfl (by decide) (lv := [(0, .ref (ad q)), (1, .int x)]) rfl (Nat.le_of_ble_eq_true rfl) ?_
  intro pp ee ss mm aa bb me cd AA hA0 CC hnm QQ hQ
  have hln := hS.2.2.1
  have hlen := hS.2.2.2.1
  have hq4 : 14 ≤ q ∧ q ≤ 17 := by omega
  refine y_iload_n CC 1 dX1_hasCell_0 rfl rfl ?_
  refine z_if_lt CC 25 dX1_hasCell_1 (by decide) (a := (x).toInt) rfl (fun c_1 => ?_) (fun c_1 => ?_)
  · skip
    refine y_iconst CC (nI 0) dX1_hasCell_25 (by decide) ?_
    exact y_zret CC hQ dX1_hasCell_26 (by decide) (⟨rfl, Or.inr ⟨inB_f (by omega), rfl⟩⟩)
  · skip
    refine y_iload_n CC 1 dX1_hasCell_4 rfl rfl ?_
    refine y_aload_n CC 0 dX1_hasCell_5 rfl rfl ?_
    refine y_geti CC gl_X1_19 hq rfl (v := nI len) hS.2.1 dX1_hasCell_6 ?_
    refine z_icmp_ge CC 25 dX1_hasCell_9 (by decide) (a := (x).toInt) (b := ((len : Nat) : Int)) rfl (nI_toInt (by omega)) (fun c_2 => ?_) (fun c_2 => ?_)
    · skip
      refine y_iconst CC (nI 0) dX1_hasCell_25 (by decide) ?_
      exact y_zret CC hQ dX1_hasCell_26 (by decide) (⟨rfl, Or.inr ⟨inB_f (by omega), rfl⟩⟩)
    · skip
      refine y_iload_n CC 1 dX1_hasCell_12 rfl rfl ?_
      refine y_aload_n CC 0 dX1_hasCell_13 rfl rfl ?_
      refine y_getr CC gl_X1_9 hq (d := (q + 4)) rfl dX1_hasCell_14 ?_
      refine y_alen CC (n := 60) (by omega) (by unfold alen; rw [if_neg (by omega), if_neg (by omega), if_neg (by omega), if_pos (by omega)]) dX1_hasCell_17 ?_
      refine z_icmp_ge CC 25 dX1_hasCell_18 (by decide) (a := (x).toInt) (b := (60 : Int)) rfl (nI_toInt (by decide)) (fun c_3 => ?_) (fun c_3 => ?_)
      · skip
        refine y_iconst CC (nI 0) dX1_hasCell_25 (by decide) ?_
        exact y_zret CC hQ dX1_hasCell_26 (by decide) (⟨rfl, Or.inr ⟨inB_f (by omega), rfl⟩⟩)
      · skip
        refine y_iconst CC (nI 1) dX1_hasCell_21 (by decide) ?_
        refine y_goto CC 26 dX1_hasCell_22 (by decide) ?_
        exact y_zret CC hQ dX1_hasCell_26 (by decide) (⟨rfl, Or.inl ⟨inB_t (by omega), rfl⟩⟩)

set_option maxRecDepth 100000 in
set_option maxHeartbeats 4000000 in
theorem k_at (l : Launch) (D : va_G) (ad : Nat → Nat) (kI kS kL : ClassId) (μ : Mem) (q : Nat) (hq : isO 1 q) (ln len : Nat) (ζ : Nat → Int32) (hS : SQ μ q ln len ζ) (x : Int32) : MI l D ad kI kS kL yX1_at cX1_at 2 (some .int) 1 21 [.ref (ad q), .int x] μ (fun r μ2 => μ = μ2 ∧ r = if inB x len = true then ζ (ix x) else nI 0) := by
  refine met_I RX1 rfl (by decide) (lv := [(0, .ref (ad q)), (1, .int x)]) rfl (Nat.le_of_ble_eq_true rfl) ?_
  intro pp ee ss mm aa bb me cd AA hA0 CC hnm QQ hQ
  have hln := hS.2.2.1
  have hlen := hS.2.2.2.1
  have hq4 : 14 ≤ q ∧ q ≤ 17 := by omega
  refine y_aload_n CC 0 dX1_at_0 rfl rfl ?_
  refine y_iload_n CC 1 dX1_at_1 rfl rfl ?_
  refine y_callVI (st := []) CC cl_X1_28 (k_hasCell l D ad kI kS kL μ q hq ln len ζ hS x) hq rfl rfl rfl (Nat.le_of_ble_eq_true rfl) ⟨by decide, by decide⟩ ⟨Nat.zero_le _, Nat.zero_le _⟩ dX1_at_2 (fun r_ μ_ w_2 => ?_)
  rcases w_2 with ⟨rfl, ⟨b_1, rfl⟩ | ⟨b_1, rfl⟩⟩
  · skip
    obtain ⟨j, hj, rfl⟩ := inB_of b_1 (by omega)
    refine z_if_eqF CC 17 dX1_at_5 (by decide) (a := (1 : Int)) (nI_toInt (by decide)) (by decide) ?_
    refine y_aload_n CC 0 dX1_at_8 rfl rfl ?_
    refine y_getr CC gl_X1_9 hq (d := (q + 4)) rfl dX1_at_9 ?_
    refine y_iload_n CC 1 dX1_at_12 rfl rfl ?_
    refine y_ialdN CC (n := 60) (by omega) (by unfold alen; rw [if_neg (by omega), if_neg (by omega), if_neg (by omega), if_pos (by omega)]) (by omega) (by omega) (v := ζ j) (hS.2.2.2.2 j (by omega)) dX1_at_13 ?_
    refine y_goto CC 18 dX1_at_14 (by decide) ?_
    exact y_iret CC hQ dX1_at_18 (⟨rfl, by rw [if_pos b_1, ix_nI (by omega)]⟩)
  · skip
    refine z_if_eqT CC 17 dX1_at_5 (by decide) (a := (0 : Int)) (nI_toInt (by decide)) (by decide) ?_
    refine y_iconst CC (nI 0) dX1_at_17 (by decide) ?_
    exact y_iret CC hQ dX1_at_18 (⟨rfl, by rw [b_1]; rfl⟩)

set_option maxRecDepth 100000 in
set_option maxHeartbeats 4000000 in
theorem k_set (l : Launch) (D : va_G) (ad : Nat → Nat) (kI kS kL : ClassId) (μ : Mem) (q : Nat) (hq : isO 1 q) (ln len : Nat) (ζ : Nat → Int32) (hS : SQ μ q ln len ζ) (x v : Int32) : MV l D ad kI kS kL yX1_set cX1_set 3 none 1 21 [.ref (ad q), .int x, .int v] μ (fun μ2 => (inB x len = true → μ2 = mu μ (q + 4) (ix x) (cutI ln v)) ∧ (inB x len = false → μ2 = μ)) := by
  refine met_V RX1 rfl (by decide) (lv := [(0, .ref (ad q)), (1, .int x), (2, .int v)]) rfl (Nat.le_of_ble_eq_true rfl) ?_
  intro pp ee ss mm aa bb me cd AA hA0 CC hnm QQ hQ
  have hln := hS.2.2.1
  have hlen := hS.2.2.2.1
  have hq4 : 14 ≤ q ∧ q ≤ 17 := by omega
  refine y_aload_n CC 0 dX1_set_0 rfl rfl ?_
  refine y_iload_n CC 1 dX1_set_1 rfl rfl ?_
  refine y_callVI (st := []) CC cl_X1_28 (k_hasCell l D ad kI kS kL μ q hq ln len ζ hS x) hq rfl rfl rfl (Nat.le_of_ble_eq_true rfl) ⟨by decide, by decide⟩ ⟨Nat.zero_le _, Nat.zero_le _⟩ dX1_set_2 (fun r_ μ_ w_2 => ?_)
  rcases w_2 with ⟨rfl, ⟨b_1, rfl⟩ | ⟨b_1, rfl⟩⟩
  · skip
    obtain ⟨j, hj, rfl⟩ := inB_of b_1 (by omega)
    refine z_if_eqF CC 40 dX1_set_5 (by decide) (a := (1 : Int)) (nI_toInt (by decide)) (by decide) ?_
    refine y_aload_n CC 0 dX1_set_8 rfl rfl ?_
    refine y_getr CC gl_X1_9 hq (d := (q + 4)) rfl dX1_set_9 ?_
    refine y_iload_n CC 1 dX1_set_12 rfl rfl ?_
    refine y_aload_n CC 0 dX1_set_13 rfl rfl ?_
    refine y_geti CC gl_X1_15 hq rfl (v := nI ln - 1) hS.1 dX1_set_14 ?_
    refine z_if_ne CC 25 dX1_set_17 (by decide) (a := ((ln : Nat) : Int) - 1) (i_pred (by omega)) (fun c_3 => ?_) (fun c_3 => ?_)
    · skip
      refine y_aload_n CC 0 dX1_set_25 rfl rfl ?_
      refine y_geti CC gl_X1_15 hq rfl (v := nI ln - 1) hS.1 dX1_set_26 ?_
      refine y_iconst CC (nI 1) dX1_set_29 (by decide) ?_
      refine z_icmp_ne CC 38 dX1_set_30 (by decide) (a := ((ln : Nat) : Int) - 1) (b := (1 : Int)) (i_pred (by omega)) (nI_toInt (by decide)) (fun c_4 => ?_) (fun c_4 => ?_)
      · skip
        refine y_iload_n CC 2 dX1_set_38 rfl rfl ?_
        refine y_iastN CC (n := 60) (by omega) (by unfold alen; rw [if_neg (by omega), if_neg (by omega), if_neg (by omega), if_pos (by omega)]) (by omega) (by omega) dX1_set_39 ?_
        exact y_vret CC hQ dX1_set_40 (⟨fun _ => by rw [ix_nI (by omega)]; unfold cutI; first | rw [if_pos (by omega)] | rw [if_neg (by omega), if_pos (by omega)] | rw [if_neg (by omega), if_neg (by omega)], fun h => (by rw [b_1] at h; cases h)⟩)
      · skip
        refine y_iload_n CC 2 dX1_set_33 rfl rfl ?_
        refine y_i2s CC dX1_set_34 (v := (v).toInt16.toInt32) rfl ?_
        refine y_goto CC 39 dX1_set_35 (by decide) ?_
        refine y_iastN CC (n := 60) (by omega) (by unfold alen; rw [if_neg (by omega), if_neg (by omega), if_neg (by omega), if_pos (by omega)]) (by omega) (by omega) dX1_set_39 ?_
        exact y_vret CC hQ dX1_set_40 (⟨fun _ => by rw [ix_nI (by omega)]; unfold cutI; first | rw [if_pos (by omega)] | rw [if_neg (by omega), if_pos (by omega)] | rw [if_neg (by omega), if_neg (by omega)], fun h => (by rw [b_1] at h; cases h)⟩)
    · skip
      refine y_iload_n CC 2 dX1_set_20 rfl rfl ?_
      refine y_i2b CC dX1_set_21 (v := (v).toInt8.toInt32) rfl ?_
      refine y_goto CC 39 dX1_set_22 (by decide) ?_
      refine y_iastN CC (n := 60) (by omega) (by unfold alen; rw [if_neg (by omega), if_neg (by omega), if_neg (by omega), if_pos (by omega)]) (by omega) (by omega) dX1_set_39 ?_
      exact y_vret CC hQ dX1_set_40 (⟨fun _ => by rw [ix_nI (by omega)]; unfold cutI; first | rw [if_pos (by omega)] | rw [if_neg (by omega), if_pos (by omega)] | rw [if_neg (by omega), if_neg (by omega)], fun h => (by rw [b_1] at h; cases h)⟩)
  · skip
    refine z_if_eqT CC 40 dX1_set_5 (by decide) (a := (0 : Int)) (nI_toInt (by decide)) (by decide) ?_
    exact y_vret CC hQ dX1_set_40 (⟨fun h => (by rw [b_1] at h; cases h), fun _ => rfl⟩)

set_option maxRecDepth 100000 in
set_option maxHeartbeats 4000000 in
theorem k_faultAsRow (l : Launch) (D : va_G) (ad : Nat → Nat) (kI kS kL : ClassId) (μ : Mem) (q : Nat) (hq : isO 1 q) (ln len : Nat) (ζ : Nat → Int32) (hS : SQ μ q ln len ζ) (j : Nat) (hj : j < 3) : MI l D ad kI kS kL yX1_faultAsRow cX1_faultAsRow 2 (some .int) 1 20 [.ref (ad q), .int (nI j)] μ (fun r μ2 => μ = μ2 ∧ r = nI (farF ln j)) := by
  refine met_I RX1 rfl (by decide) (lv := [(0, .ref (ad q)), (1, .int (nI j))]) rfl (Nat.le_of_ble_eq_true rfl) ?_
  intro pp ee ss mm aa bb me cd AA hA0 CC hnm QQ hQ
  have hln := hS.2.2.1
  have hlen := hS.2.2.2.1
  have hq4 : 14 ≤ q ∧ q ≤ 17 := by omega
  refine y_aload_n CC 0 dX1_faultAsRow_0 rfl rfl ?_
  refine y_callVI (st := []) CC cl_X1_32 (k_hasNothing l D ad kI kS kL μ q hq ln len ζ hS) hq rfl rfl rfl (Nat.le_of_ble_eq_true rfl) ⟨by decide, by decide⟩ ⟨Nat.zero_le _, Nat.zero_le _⟩ dX1_faultAsRow_1 (fun r_ μ_ w_2 => ?_)
  rcases w_2 with ⟨rfl, ⟨b_1, rfl⟩ | ⟨b_1, rfl⟩⟩
  · skip
    have hb_b_1 := of_decide_eq_true b_1
    refine z_if_eqF CC 9 dX1_faultAsRow_4 (by decide) (a := (1 : Int)) (nI_toInt (by decide)) (by decide) ?_
    refine y_iconst CC (nI 1) dX1_faultAsRow_7 (by decide) ?_
    exact y_iret CC hQ dX1_faultAsRow_8 (⟨rfl, by unfold farF; first | rw [if_pos (by omega)] | rw [if_neg (by omega), if_pos (by omega)] | rw [if_neg (by omega), if_neg (by omega)]⟩)
  · skip
    have hb_b_1 := of_decide_eq_false b_1
    refine z_if_eqT CC 9 dX1_faultAsRow_4 (by decide) (a := (0 : Int)) (nI_toInt (by decide)) (by decide) ?_
    refine y_aload_n CC 0 dX1_faultAsRow_9 rfl rfl ?_
    refine y_geti CC gl_X1_15 hq rfl (v := nI ln - 1) hS.1 dX1_faultAsRow_10 ?_
    refine y_iload_n CC 1 dX1_faultAsRow_13 rfl rfl ?_
    refine z_icmp_ne CC 21 dX1_faultAsRow_14 (by decide) (a := ((ln : Nat) : Int) - 1) (b := ((j : Nat) : Int)) (i_pred (by omega)) (nI_toInt (by omega)) (fun c_3 => ?_) (fun c_3 => ?_)
    · skip
      refine y_iconst CC (nI 2) dX1_faultAsRow_21 (by decide) ?_
      exact y_iret CC hQ dX1_faultAsRow_22 (⟨rfl, by unfold farF; first | rw [if_pos (by omega)] | rw [if_neg (by omega), if_pos (by omega)] | rw [if_neg (by omega), if_neg (by omega)]⟩)
    · skip
      refine y_iconst CC (nI 0) dX1_faultAsRow_17 (by decide) ?_
      refine y_goto CC 22 dX1_faultAsRow_18 (by decide) ?_
      exact y_iret CC hQ dX1_faultAsRow_22 (⟨rfl, by unfold farF; first | rw [if_pos (by omega)] | rw [if_neg (by omega), if_pos (by omega)] | rw [if_neg (by omega), if_neg (by omega)]⟩)

set_option maxRecDepth 100000 in
set_option maxHeartbeats 4000000 in
theorem k_faultOfCells (l : Launch) (D : va_G) (ad : Nat → Nat) (kI kS kL : ClassId) (μ : Mem) (q : Nat) (hq : isO 1 q) (ln len : Nat) (ζ : Nat → Int32) (hS : SQ μ q ln len ζ) (i n : Int32) : MI l D ad kI kS kL yX1_faultOfCells cX1_faultOfCells 3 (some .int) 0 0 [.ref (ad q), .int i, .int n] μ (fun r μ2 => μ = μ2 ∧ focR r len i n) := by
  refine met_I RX1 rfl (by decide) (lv := [(0, .ref (ad q)), (1, .int i), (2, .int n)]) rfl (Nat.le_of_ble_eq_true rfl) ?_
  intro pp ee ss mm aa bb me cd AA hA0 CC hnm QQ hQ
  have hln := hS.2.2.1
  have hlen := hS.2.2.2.1
  have hq4 : 14 ≤ q ∧ q ≤ 17 := by omega
  refine y_iload_n CC 1 dX1_faultOfCells_0 rfl rfl ?_
  refine z_if_lt CC 26 dX1_faultOfCells_1 (by decide) (a := (i).toInt) rfl (fun c_1 => ?_) (fun c_1 => ?_)
  · skip
    refine y_iconst CC (nI 3) dX1_faultOfCells_26 (by decide) ?_
    refine y_goto CC 31 dX1_faultOfCells_27 (by decide) ?_
    exact y_iret CC hQ dX1_faultOfCells_31 (⟨rfl, Or.inr ⟨decide_eq_false (by omega), rfl⟩⟩)
  · skip
    refine y_iload_n CC 2 dX1_faultOfCells_4 rfl rfl ?_
    refine z_if_lt CC 26 dX1_faultOfCells_5 (by decide) (a := (n).toInt) rfl (fun c_2 => ?_) (fun c_2 => ?_)
    · skip
      refine y_iconst CC (nI 3) dX1_faultOfCells_26 (by decide) ?_
      refine y_goto CC 31 dX1_faultOfCells_27 (by decide) ?_
      exact y_iret CC hQ dX1_faultOfCells_31 (⟨rfl, Or.inr ⟨decide_eq_false (by omega), rfl⟩⟩)
    · skip
      refine y_iload_n CC 1 dX1_faultOfCells_8 rfl rfl ?_
      refine y_aload_n CC 0 dX1_faultOfCells_9 rfl rfl ?_
      refine y_geti CC gl_X1_19 hq rfl (v := nI len) hS.2.1 dX1_faultOfCells_10 ?_
      refine z_icmp_gt CC 26 dX1_faultOfCells_13 (by decide) (a := (i).toInt) (b := ((len : Nat) : Int)) rfl (nI_toInt (by omega)) (fun c_3 => ?_) (fun c_3 => ?_)
      · skip
        refine y_iconst CC (nI 3) dX1_faultOfCells_26 (by decide) ?_
        refine y_goto CC 31 dX1_faultOfCells_27 (by decide) ?_
        exact y_iret CC hQ dX1_faultOfCells_31 (⟨rfl, Or.inr ⟨decide_eq_false (by omega), rfl⟩⟩)
      · skip
        refine y_iload_n CC 2 dX1_faultOfCells_16 rfl rfl ?_
        refine y_aload_n CC 0 dX1_faultOfCells_17 rfl rfl ?_
        refine y_geti CC gl_X1_19 hq rfl (v := nI len) hS.2.1 dX1_faultOfCells_18 ?_
        refine y_iload_n CC 1 dX1_faultOfCells_21 rfl rfl ?_
        refine y_isub CC dX1_faultOfCells_22 (v := nI len - i) (by rfl) ?_
        refine z_icmp_le CC 30 dX1_faultOfCells_23 (by decide) (a := (n).toInt) (b := ((len : Nat) : Int) - i.toInt) rfl (len_sub hlen (by omega) (by omega)) (fun c_4 => ?_) (fun c_4 => ?_)
        · skip
          refine y_iconst CC (nI 0) dX1_faultOfCells_30 (by decide) ?_
          exact y_iret CC hQ dX1_faultOfCells_31 (⟨rfl, Or.inl ⟨decide_eq_true (by omega), rfl⟩⟩)
        · skip
          refine y_iconst CC (nI 3) dX1_faultOfCells_26 (by decide) ?_
          refine y_goto CC 31 dX1_faultOfCells_27 (by decide) ?_
          exact y_iret CC hQ dX1_faultOfCells_31 (⟨rfl, Or.inr ⟨decide_eq_false (by omega), rfl⟩⟩)

set_option maxRecDepth 100000 in
set_option maxHeartbeats 4000000 in
theorem k_fill (l : Launch) (D : va_G) (ad : Nat → Nat) (kI kS kL : ClassId) (μ : Mem) (c n : Nat) (hc : isA c) (hn : alen c = n) (hn9 : n < 1000) (v : Int32) : MV l D ad kI kS kL yJ7_fill_53178 cJ7_fill_53178 4 none 0 0 [.ref (ad c), .int v] μ (fun μ2 => (∀ c1 k1, c1 ≠ c → μ2 c1 k1 = μ c1 k1) ∧ ∀ j, j < n → μ2 c j = v) := by
  refine met_V RJ7 rfl (by decide) (lv := [(0, .ref (ad c)), (1, .int v)]) rfl (Nat.le_of_ble_eq_true rfl) ?_
  intro pp ee ss mm aa bb me cd AA hA0 CC hnm QQ hQ
  refine y_iconst CC (nI 0) dJ7_fill_53178_0 (by decide) ?_
  refine y_istore_n CC [(2, .int (nI 0)), (0, .ref (ad c)), (1, .int v)] dJ7_fill_53178_1 rfl (by decide) rfl ?_
  refine y_aload_n CC 1 dJ7_fill_53178_2 rfl rfl ?_
  refine y_alen CC (n := n) hc hn dJ7_fill_53178_3 ?_
  refine y_istore_n CC [(3, .int (nI n)), (2, .int (nI 0)), (0, .ref (ad c)), (1, .int v)] dJ7_fill_53178_4 rfl (by decide) rfl ?_
  have L5 : ∀ (n5 : Nat) (j : Nat) (ν : Mem), n - j < n5 → (j ≤ n) → (∀ c1 k1, c1 ≠ c → ν c1 k1 = μ c1 k1) → (∀ i, i < j → ν c i = v) → Y pp l ee (rmY 0 0) ss mm aa bb me cd D ad kI kS kL AA 4 0 0 QQ 5 [(3, .int (nI n)), (2, .int (nI j)), (0, .ref (ad c)), (1, .int v)] [] ν := by
    intro n5
    induction n5 with
    | zero => intro j ν hm5; exact absurd hm5 (Nat.not_lt_zero _)
    | succ n5 ih5 =>
      intro j ν hm5 hj hF hW
      refine y_iload_n CC 1 dJ7_fill_53178_5 rfl rfl ?_
      refine y_iload_n CC 0 dJ7_fill_53178_6 rfl rfl ?_
      refine z_icmp_ge CC 20 dJ7_fill_53178_7 (by decide) (a := ((j : Nat) : Int)) (b := ((n : Nat) : Int)) (nI_toInt (by omega)) (nI_toInt (by omega)) (fun c_2 => ?_) (fun c_2 => ?_)
      · skip
        exact y_vret CC hQ dJ7_fill_53178_20 (⟨hF, fun j h => hW j (by omega)⟩)
      · skip
        refine y_aload_n CC 2 dJ7_fill_53178_10 rfl rfl ?_
        refine y_iload_n CC 1 dJ7_fill_53178_11 rfl rfl ?_
        refine y_iload_n CC 3 dJ7_fill_53178_12 rfl rfl ?_
        refine y_iastN CC (n := n) hc hn (by omega) (by omega) dJ7_fill_53178_13 ?_
        refine y_iinc CC 1 (nI (j + 1)) [(2, .int (nI (j + 1))), (3, .int (nI n)), (0, .ref (ad c)), (1, .int v)] dJ7_fill_53178_14 rfl (i_inc _) (by decide) rfl ?_
        refine y_goto CC 5 dJ7_fill_53178_17 (by decide) ?_
        refine y_lv [1, 0, 2, 3] rfl ?_
        exact ih5 (j + 1) (mu ν c j v) (by omega) (by omega) (fun c1 k1 h => by rw [mu_ne _ _ (Or.inl h)]; exact hF c1 k1 h) (fun i h => by rcases (show i < j ∨ i = j by omega) with h2 | rfl; rw [mu_k _ _ (by omega)]; exact hW i h2; exact mu_at _ _ _ _)
  exact L5 _ 0 μ (Nat.lt_succ_self _) (Nat.zero_le _) (fun _ _ _ => rfl) (fun i h => absurd h (Nat.not_lt_zero i))

set_option maxRecDepth 100000 in
set_option maxHeartbeats 4000000 in
theorem k_renew (l : Launch) (D : va_G) (ad : Nat → Nat) (kI kS kL : ClassId) (μ : Mem) (q : Nat) (hq : isO 1 q) (ln len : Nat) (ζ : Nat → Int32) (hS : SQ μ q ln len ζ) (x y : Int32) : MV l D ad kI kS kL yX1_renew cX1_renew 3 none 1 23 [.ref (ad q), .int x, .int y] μ (fun μ2 => (∀ c1 k1, c1 ≠ q → c1 ≠ q + 4 → μ2 c1 k1 = μ c1 k1) ∧ (∀ j, j < 60 → μ2 (q + 4) j = nI 0) ∧ μ2 q 1 = x ∧ μ2 q 2 = y) := by
  refine met_V RX1 rfl (by decide) (lv := [(0, .ref (ad q)), (1, .int x), (2, .int y)]) rfl (Nat.le_of_ble_eq_true rfl) ?_
  intro pp ee ss mm aa bb me cd AA hA0 CC hnm QQ hQ
  have hln := hS.2.2.1
  have hlen := hS.2.2.2.1
  have hq4 : 14 ≤ q ∧ q ≤ 17 := by omega
  refine y_aload_n CC 0 dX1_renew_0 rfl rfl ?_
  refine y_getr CC gl_X1_9 hq (d := (q + 4)) rfl dX1_renew_1 ?_
  refine y_iconst CC (nI 0) dX1_renew_4 (by decide) ?_
  refine y_callSV (st := []) CC cl_X1_22 (k_fill l D ad kI kS kL μ (q + 4) 60 (by omega) (by unfold alen; rw [if_neg (by omega), if_neg (by omega), if_neg (by omega), if_pos (by omega)]) (by omega) (nI 0)) rfl rfl (Nat.le_of_ble_eq_true rfl) ⟨by decide, by decide⟩ ⟨Nat.zero_le _, Nat.zero_le _⟩ dX1_renew_5 (fun μ_ w_1 => ?_)
  obtain ⟨hF, hW⟩ := w_1
  refine y_aload_n CC 0 dX1_renew_8 rfl rfl ?_
  refine y_iload_n CC 1 dX1_renew_9 rfl rfl ?_
  refine y_puti CC pl_X1_15 hq rfl (Nat.le_of_ble_eq_true rfl) dX1_renew_10 ?_
  refine y_aload_n CC 0 dX1_renew_13 rfl rfl ?_
  refine y_iload_n CC 2 dX1_renew_14 rfl rfl ?_
  refine y_puti CC pl_X1_19 hq rfl (Nat.le_of_ble_eq_true rfl) dX1_renew_15 ?_
  exact y_vret CC hQ dX1_renew_18 (⟨fun c1 k1 h1 h2 => by rw [mu_ne _ _ (Or.inl h1), mu_ne _ _ (Or.inl h1)]; exact hF c1 k1 h2, fun j h => by rw [mu_ne _ _ (Or.inl (by omega)), mu_ne _ _ (Or.inl (by omega))]; exact hW j h, by rw [mu_k _ _ (by decide)]; exact mu_at _ _ _ _, mu_at _ _ _ _⟩)
end
section
/-! what each call answers -/
def fs (p : Nat → Bool) : Nat → Nat → Option Nat
  | _, 0 => none
  | n, k + 1 => if p n = true then some n else fs p (n + 1) k
theorem fs_t {p : Nat → Bool} {n K : Nat} (h : p n = true) (hn : n < K) : fs p n (K - n) = some n := by
  obtain ⟨k, hk⟩ : ∃ k, K - n = k + 1 := ⟨K - n - 1, by omega⟩
  rw [hk, fs, if_pos h]
theorem fs_f {p : Nat → Bool} {n K : Nat} (h : p n = false) (hn : n < K) : fs p n (K - n) = fs p (n + 1) (K - (n + 1)) := by
  obtain ⟨k, hk⟩ : ∃ k, K - n = k + 1 := ⟨K - n - 1, by omega⟩
  rw [hk, fs, if_neg (by rw [h]; decide), show K - (n + 1) = k by omega]
theorem fs_0 {p : Nat → Bool} {n K : Nat} (hn : n = K) : fs p n (K - n) = none := by
  rw [hn, Nat.sub_self, fs]
def q_ofSleeper (τ : Tn) (a w : Int32) : Int32 := if inB a (tS τ) = true then (if w.toInt = 0 then nI (tK τ (ix a)) else if w.toInt = 1 then nI (tA τ (ix a)) else if w.toInt = 2 then nI (tD τ (ix a)) else -2) else -1
def q_goods (τ : Tn) (p : Int32) : Int32 := if inB p (tP τ) = true then nI (tG τ (ix p)) else -1
def q_lay (τ : Tn) (p v : Int32) : Int32 := if inB p (tP τ) = true then (if inB v 10 = true then nI (tG τ (ix p)) else -2) else -1
def ok_lay (τ : Tn) (p v : Int32) : Bool := inB p (tP τ) && inB v 10
def q_stride (τ : Tn) (a v : Int32) : Int32 := if inB a (tS τ) = true then (if inB v 4 = true then nI (tD τ (ix a)) else -2) else -1
def ok_stride (τ : Tn) (a v : Int32) : Bool := inB a (tS τ) && inB v 4
def q_where (τ : Tn) (a m : Int32) : Int32 := if inB a (tS τ) = true then (if inB m 61 = true then nI (pl τ (ix a) (ix m)) else -2) else -1
def q_taken (τ : Tn) (a m : Int32) : Int32 := if inB a (tS τ) = true then (if inB m 61 = true then nI (tk τ (ix a) ((ix m + 1) * tS τ)) else -2) else -1
def q_free (τ : Tn) (m : Int32) : Int32 := if inB m 61 = true then (if 0 < tP τ then nI (frS τ 15 (ix m)) else -3) else -2
def mtB (τ : Tn) (a b m : Nat) : Bool := decide (pl τ a m = pl τ b m)
def q_meet (τ : Tn) (a b : Int32) : Int32 := if inB a (tS τ) = true then (if inB b (tS τ) = true then (if ix a = ix b then -1 else oI (fs (mtB τ (ix a) (ix b)) 0 61)) else -1) else -1
def dst (v d : Nat) : Nat := (v - d) + (d - v)
def stS (τ : Tn) (a p m : Nat) : Nat → Option Nat
  | 0 => none
  | v + 1 => match stS τ a p m v with
    | none => if pif τ (tK τ a) (tA τ a) v m = p then some v else none
    | some b => if dst v (tD τ a) < dst b (tD τ a) ∧ pif τ (tK τ a) (tA τ a) v m = p then some v else some b
theorem stS_lt {τ : Tn} {a p m : Nat} : ∀ {v b : Nat}, stS τ a p m v = some b → b < v
  | 0, b, h => by cases h
  | v + 1, b, h => by
    rw [stS] at h
    cases e : stS τ a p m v with
    | none =>
      rw [e] at h
      dsimp only at h
      split at h
      · cases h; omega
      · cases h
    | some c =>
      have := stS_lt e
      rw [e] at h
      dsimp only at h
      split at h
      · cases h; omega
      · cases h; omega
theorem stS_n {τ : Tn} {a p m v : Nat} (h : stS τ a p m v = none) : stS τ a p m (v + 1) = if pif τ (tK τ a) (tA τ a) v m = p then some v else none := by rw [stS, h]
theorem stS_s {τ : Tn} {a p m v b : Nat} (h : stS τ a p m v = some b) : stS τ a p m (v + 1) = if dst v (tD τ a) < dst b (tD τ a) ∧ pif τ (tK τ a) (tA τ a) v m = p then some v else some b := by rw [stS, h]
theorem i_abs {v d : Nat} (hv : v < 1000) (hd : d < 1000) : (if 0 ≤ nI v - nI d then nI v - nI d else 0 - (nI v - nI d)) = nI (dst v d) := by
  have h : (nI v - nI d).toInt = (v : Int) - d := pk_sub_toInt (by omega) (by omega)
  by_cases c : d ≤ v
  · rw [if_pos (Int32.le_iff_toInt_le.mpr (by rw [h, Int32.toInt_zero]; omega)), pk_sub c, dst, show d - v = 0 by omega, Nat.add_zero]
  · rw [if_neg (fun q => by have := Int32.le_iff_toInt_le.mp q; rw [h, Int32.toInt_zero] at this; omega)]
    apply Int32.toInt_inj.mp
    rw [Int32.toInt_sub, h, Int32.toInt_zero, nI_toInt (by unfold dst; omega), Int.bmod_eq_of_le] <;> first | omega | (unfold dst; omega)
def q_steer (τ : Tn) (a p m : Int32) : Int32 := if inB a (tS τ) = true then (if inB p (tP τ) = true then (if inB m 61 = true then oI (stS τ (ix a) (ix p) (ix m) 4) else -2) else -1) else -1
def q_guard (τ : Tn) : Int32 := if 0 < tP τ then nI (gbS τ (tP τ)).1 else -3
def q_reading (τ ρ : Tn) (a m p : Int32) : Int32 := if inB a (tS τ) = true then (if inB p (tP τ) = true then (if inB m 61 = true then (if ρ 3 0 = 8 then -4 else nI (ρ 3 0)) else -2) else -1) else -1
def ok_reading (τ ρ : Tn) (a m p : Int32) : Bool := inB a (tS τ) && (inB p (tP τ) && (inB m 61 && decide (ρ 3 0 < 8)))
def q_back (ρ : Tn) (k : Int32) : Int32 := if inB k (ρ 3 0 + 1) = true then nI (ρ 3 0 - ix k) else -2
def q_strides (τ ρ : Tn) (a : Int32) : Int32 := if inB a (tS τ) = true then nI (bs 4 (fun v => soB (tu τ 3 (ix a) v) ρ)) else -1
def q_kinds (τ ρ : Tn) (a : Int32) : Int32 := if inB a (tS τ) = true then nI (bs 3 (fun v => soB (tu τ 1 (ix a) v) ρ)) else -1
def q_starts (τ ρ : Tn) (a : Int32) : Int32 := if inB a (tS τ) = true then nI (bs (tP τ) (fun v => soB (tu τ 2 (ix a) v) ρ)) else -1
def q_many (τ ρ : Tn) (w : Int32) : Int32 := if w.toInt = 0 then nI (tS τ) else if w.toInt = 1 then nI (tP τ) else if w.toInt = 2 then nI (gsm τ (tP τ)) else if w.toInt = 3 then nI (ρ 3 0) else -2
/-- a trace behind a body -/
def lv31 (t b : Int32) : Int32 := nI 31 * t + b
def q_tell (τ : Tn) (a : Int32) : Int32 := if inB a (tS τ) = true then (if tK τ (ix a) = 0 then nI (tD τ (ix a)) else if tK τ (ix a) = 1 then nI (tD τ (ix a) + 100) else nI (tD τ (ix a) + 100 + tD τ (ix a))) else -1
def tr_tell (τ : Tn) (a t : Int32) : Int32 := if tK τ (ix a) = 0 then lv31 t (nI 1) else if tK τ (ix a) = 1 then lv31 (lv31 t (nI 2)) (nI 1) else lv31 (lv31 (lv31 (lv31 t (nI 3)) (nI 2)) (nI 1)) (nI 1)
def q_waken (τ : Tn) (a : Int32) : Int32 := if inB a (tS τ) = true then (if tK τ (ix a) = 2 then nI 90 else a) else -1
def tr_waken (τ : Tn) (a t : Int32) : Int32 := if tK τ (ix a) = 2 then lv31 t (nI 5) else lv31 t (nI 4)
def q_as (τ : Tn) (a k : Int32) : Int32 := if inB a (tS τ) = true then (if inB k 3 = true then (if ix k ≤ tK τ (ix a) then nI 1 else -12) else -2) else -1
def f_as (τ : Tn) (a k : Int32) : Nat := if inB a (tS τ) = true ∧ inB k 3 = true ∧ tK τ (ix a) < ix k then 2 else 0
theorem mu_mu (μ : Mem) (c k : Nat) (v w : Int32) : mu (mu μ c k v) c k w = mu μ c k w := by
  funext c' k'
  by_cases h : c' = c
  · subst h
    rw [mu_row, mu_row, mu_row]
    simp only [upd]
    split <;> rfl
  · rw [mu_c _ _ _ h, mu_c _ _ _ h, mu_c _ _ _ h]
theorem TX.f0 {μ : Mem} {τ : Tn} (h : TX μ 1 τ) (k : Nat) (v : Int32) : TX (mu μ 0 k v) 1 τ := h.same (fun _ _ => mu_ne _ _ (Or.inl (by decide))) (fun _ _ _ => mu_ne _ _ (Or.inl (by omega))) (fun _ => mu_ne _ _ (Or.inl (by decide)))
theorem SX.f0 {μ : Mem} {θ : Tn} {ζ : Nat → Nat → Int32} (h : SX μ θ ζ) (k : Nat) (v : Int32) : SX (mu μ 0 k v) θ ζ := fun j hj => by
  obtain ⟨h1, h2, h3, h4, h5⟩ := h j hj
  exact ⟨by rw [mu_ne _ _ (Or.inl (by omega))]; exact h1, by rw [mu_ne _ _ (Or.inl (by omega))]; exact h2, h3, h4, fun i hi => by rw [mu_ne _ _ (Or.inl (by omega))]; exact h5 i hi⟩
end
section
set_option maxRecDepth 100000 in
set_option maxHeartbeats 4000000 in
theorem x_ofSleeper (l : Launch) (D : va_G) (ad : Nat → Nat) (kI kS kL : ClassId) (μ : Mem) (τ : Tn) (hT : TX μ 1 τ) (hV : tV τ) (a w : Int32) : MI l D ad kI kS kL yX4_ofSleeper cX4_ofSleeper 4 (some .int) 2 42 [.ref (ad 0), .int a, .int w] μ (fun r μ2 => μ = μ2 ∧ r = q_ofSleeper τ a w) := by
  refine met_I RX4 rfl (by decide) (lv := [(0, .ref (ad 0)), (1, .int a), (2, .int w)]) rfl (Nat.le_of_ble_eq_true rfl) ?_
  intro pp ee ss mm aa bb me cd AA hA0 CC hnm QQ hQ
  have hB := hV.1
  have hP9 : tP τ ≤ 9 := hB.1
  have hS4 : tS τ ≤ 4 := hB.2.1
  have hVc := hV.2.1
  refine y_aload_n CC 0 dX4_ofSleeper_0 rfl rfl ?_
  refine y_getr CC gl_X4_14 (by omega) (d := 1) rfl dX4_ofSleeper_1 ?_
  refine y_iload_n CC 1 dX4_ofSleeper_4 rfl rfl ?_
  refine y_callVN (ci := 3) (st := []) CC cl_X4_73 (k_sleeperOrNull l D ad kI kS kL μ 1 (by omega) τ hT hB a) (by omega) rfl rfl rfl (Nat.le_of_ble_eq_true rfl) ⟨by decide, by decide⟩ ⟨Nat.zero_le _, Nat.zero_le _⟩ dX4_ofSleeper_5 (fun r_ μ_ w_3 => ?_)
  rcases w_3 with ⟨rfl, ⟨b_1, rfl⟩ | ⟨b_1, rfl⟩⟩
  · skip
    obtain ⟨j_2, hj_2, rfl⟩ := inB_of b_1 (by omega)
    refine y_eq (st2 := [.ref (ad (4 * 1 + 18 + j_2))]) (by rw [ix_nI (by omega)]; rfl) ?_
    refine y_astore_n CC [(3, .ref (ad (4 * 1 + 18 + j_2))), (0, .ref (ad 0)), (1, .int (nI j_2)), (2, .int w)] dX4_ofSleeper_8 rfl (by decide) rfl ?_
    refine y_aload_n CC 0 dX4_ofSleeper_9 rfl rfl ?_
    refine y_ifnonnull CC 15 dX4_ofSleeper_10 (by decide) ?_
    refine y_iload_n CC 3 dX4_ofSleeper_15 rfl rfl ?_
    rcases (show (w).toInt = 0 ∨ (w).toInt = 1 ∨ (w).toInt = 2 ∨ ((w).toInt < 0 ∨ 2 < (w).toInt) by omega) with sw_4 | sw_4 | sw_4 | sw_4
    · skip
      refine y_tableIn CC (off := 28) 44 dX4_ofSleeper_16 (by omega) (by omega) (by rw [sw_4]; rfl) (by decide) ?_
      refine y_aload_n CC 0 dX4_ofSleeper_44 rfl rfl ?_
      refine y_geti CC gl_X4_77 (by omega) rfl (v := nI (tK τ j_2)) (hT.2.2.1 j_2 (by omega)).1 dX4_ofSleeper_45 ?_
      exact y_iret CC hQ dX4_ofSleeper_48 (⟨rfl, by simp [q_ofSleeper, b_1, ix_nI (show j_2 < 2 ^ 31 by omega), sw_4]⟩)
    · skip
      refine y_tableIn CC (off := 33) 49 dX4_ofSleeper_16 (by omega) (by omega) (by rw [sw_4]; rfl) (by decide) ?_
      refine y_aload_n CC 0 dX4_ofSleeper_49 rfl rfl ?_
      refine y_geti CC gl_X4_82 (by omega) rfl (v := nI (tA τ j_2)) (hT.2.2.1 j_2 (by omega)).2.1 dX4_ofSleeper_50 ?_
      exact y_iret CC hQ dX4_ofSleeper_53 (⟨rfl, by simp [q_ofSleeper, b_1, ix_nI (show j_2 < 2 ^ 31 by omega), sw_4]⟩)
    · skip
      refine y_tableIn CC (off := 38) 54 dX4_ofSleeper_16 (by omega) (by omega) (by rw [sw_4]; rfl) (by decide) ?_
      refine y_aload_n CC 0 dX4_ofSleeper_54 rfl rfl ?_
      refine y_geti CC gl_X4_85 (by omega) rfl (v := nI (tD τ j_2)) (hT.2.2.1 j_2 (by omega)).2.2 dX4_ofSleeper_55 ?_
      exact y_iret CC hQ dX4_ofSleeper_58 (⟨rfl, by simp [q_ofSleeper, b_1, ix_nI (show j_2 < 2 ^ 31 by omega), sw_4]⟩)
    · skip
      refine y_tableOut CC 59 dX4_ofSleeper_16 sw_4 (by decide) ?_
      refine y_bipush CC ((-2)) dX4_ofSleeper_59 (by decide) ?_
      exact y_iret CC hQ dX4_ofSleeper_61 (⟨rfl, by unfold q_ofSleeper; rw [if_pos b_1, if_neg (by omega), if_neg (by omega), if_neg (by omega)]⟩)
  · skip
    refine y_eq (st2 := [.null]) rfl ?_
    refine y_astore_nN CC [(3, .null), (0, .ref (ad 0)), (1, .int a), (2, .int w)] dX4_ofSleeper_8 rfl (by decide) rfl ?_
    refine y_aload_nN CC 0 dX4_ofSleeper_9 rfl rfl ?_
    refine y_ifnonnullN CC 15 dX4_ofSleeper_10 (by decide) ?_
    refine y_iconst CC ((-1)) dX4_ofSleeper_13 (by decide) ?_
    exact y_iret CC hQ dX4_ofSleeper_14 (⟨rfl, by simp [q_ofSleeper, b_1]⟩)

set_option maxRecDepth 100000 in
set_option maxHeartbeats 4000000 in
theorem x_goods (l : Launch) (D : va_G) (ad : Nat → Nat) (kI kS kL : ClassId) (μ : Mem) (τ : Tn) (hT : TX μ 1 τ) (hV : tV τ) (p : Int32) : MI l D ad kI kS kL yX4_goods cX4_goods 2 (some .int) 2 42 [.ref (ad 0), .int p] μ (fun r μ2 => μ = μ2 ∧ r = q_goods τ p) := by
  refine met_I RX4 rfl (by decide) (lv := [(0, .ref (ad 0)), (1, .int p)]) rfl (Nat.le_of_ble_eq_true rfl) ?_
  intro pp ee ss mm aa bb me cd AA hA0 CC hnm QQ hQ
  have hB := hV.1
  have hP9 : tP τ ≤ 9 := hB.1
  have hS4 : tS τ ≤ 4 := hB.2.1
  have hVc := hV.2.1
  refine y_aload_n CC 0 dX4_goods_0 rfl rfl ?_
  refine y_getr CC gl_X4_14 (by omega) (d := 1) rfl dX4_goods_1 ?_
  refine y_iload_n CC 1 dX4_goods_4 rfl rfl ?_
  refine y_callVI (ci := 3) (st := []) CC cl_X4_88 (k_hasPlace l D ad kI kS kL μ 1 (by omega) τ hT hB p) (by omega) rfl rfl rfl (Nat.le_of_ble_eq_true rfl) ⟨by decide, by decide⟩ ⟨Nat.zero_le _, Nat.zero_le _⟩ dX4_goods_5 (fun r_ μ_ w_3 => ?_)
  rcases w_3 with ⟨rfl, ⟨b_1, rfl⟩ | ⟨b_1, rfl⟩⟩
  · skip
    obtain ⟨j_2, hj_2, rfl⟩ := inB_of b_1 (by omega)
    refine z_if_eqF CC 22 dX4_goods_8 (by decide) (a := (1 : Int)) (nI_toInt (by decide)) (by decide) ?_
    refine y_aload_n CC 0 dX4_goods_11 rfl rfl ?_
    refine y_getr CC gl_X4_14 (by omega) (d := 1) rfl dX4_goods_12 ?_
    refine y_iload_n CC 1 dX4_goods_15 rfl rfl ?_
    refine y_callVI (ci := 3) (st := []) CC cl_X4_91 (k_goodsAt l D ad kI kS kL μ 1 (by omega) τ hT hB (nI j_2)) (by omega) rfl rfl rfl (Nat.le_of_ble_eq_true rfl) ⟨by decide, by decide⟩ ⟨Nat.zero_le _, Nat.zero_le _⟩ dX4_goods_16 (fun r_ μ_ w_4 => ?_)
    obtain ⟨rfl, rfl⟩ := w_4
    refine y_top (y := nI (tG τ j_2)) (by rw [if_pos (inB_nI (by omega) (by omega)), ix_nI (by omega)]) ?_
    refine y_goto CC 23 dX4_goods_19 (by decide) ?_
    exact y_iret CC hQ dX4_goods_23 (⟨rfl, by simp [q_goods, b_1, ix_nI (show j_2 < 2 ^ 31 by omega)]⟩)
  · skip
    refine z_if_eqT CC 22 dX4_goods_8 (by decide) (a := (0 : Int)) (nI_toInt (by decide)) (by decide) ?_
    refine y_iconst CC ((-1)) dX4_goods_22 (by decide) ?_
    exact y_iret CC hQ dX4_goods_23 (⟨rfl, by simp [q_goods, b_1]⟩)

set_option maxRecDepth 100000 in
set_option maxHeartbeats 4000000 in
theorem x_lay (l : Launch) (D : va_G) (ad : Nat → Nat) (kI kS kL : ClassId) (μ : Mem) (τ : Tn) (hT : TX μ 1 τ) (hV : tV τ) (p v : Int32) : MI l D ad kI kS kL yX4_lay cX4_lay 4 (some .int) 2 43 [.ref (ad 0), .int p, .int v] μ (fun r μ2 => (μ2 = if ok_lay τ p v = true then mu μ 7 (ix p) v else μ) ∧ r = q_lay τ p v) := by
  refine met_I RX4 rfl (by decide) (lv := [(0, .ref (ad 0)), (1, .int p), (2, .int v)]) rfl (Nat.le_of_ble_eq_true rfl) ?_
  intro pp ee ss mm aa bb me cd AA hA0 CC hnm QQ hQ
  have hB := hV.1
  have hP9 : tP τ ≤ 9 := hB.1
  have hS4 : tS τ ≤ 4 := hB.2.1
  have hVc := hV.2.1
  refine y_aload_n CC 0 dX4_lay_0 rfl rfl ?_
  refine y_getr CC gl_X4_14 (by omega) (d := 1) rfl dX4_lay_1 ?_
  refine y_iload_n CC 1 dX4_lay_4 rfl rfl ?_
  refine y_callVI (ci := 3) (st := []) CC cl_X4_88 (k_hasPlace l D ad kI kS kL μ 1 (by omega) τ hT hB p) (by omega) rfl rfl rfl (Nat.le_of_ble_eq_true rfl) ⟨by decide, by decide⟩ ⟨Nat.zero_le _, Nat.zero_le _⟩ dX4_lay_5 (fun r_ μ_ w_3 => ?_)
  rcases w_3 with ⟨rfl, ⟨b_1, rfl⟩ | ⟨b_1, rfl⟩⟩
  · skip
    obtain ⟨j_2, hj_2, rfl⟩ := inB_of b_1 (by omega)
    refine z_if_neT CC 13 dX4_lay_8 (by decide) (a := (1 : Int)) (nI_toInt (by decide)) (by decide) ?_
    refine y_iload_n CC 2 dX4_lay_13 rfl rfl ?_
    refine z_if_lt CC 23 dX4_lay_14 (by decide) (a := (v).toInt) rfl (fun c_4 => ?_) (fun c_4 => ?_)
    · skip
      have hv_ : inB v 10 = false := inB_f (by omega)
      refine y_bipush CC ((-2)) dX4_lay_23 (by decide) ?_
      exact y_iret CC hQ dX4_lay_25 (⟨by simp [ok_lay, b_1, ix_nI (show j_2 < 2 ^ 31 by omega), hv_], by simp [q_lay, b_1, ix_nI (show j_2 < 2 ^ 31 by omega), hv_]⟩)
    · skip
      refine y_iload_n CC 2 dX4_lay_17 rfl rfl ?_
      refine y_bipush CC (nI 9) dX4_lay_18 (by decide) ?_
      refine z_icmp_le CC 26 dX4_lay_20 (by decide) (a := (v).toInt) (b := (9 : Int)) rfl (nI_toInt (by decide)) (fun c_5 => ?_) (fun c_5 => ?_)
      · skip
        have hv_ : inB v 10 = true := inB_t (by omega)
        refine y_aload_n CC 0 dX4_lay_26 rfl rfl ?_
        refine y_getr CC gl_X4_14 (by omega) (d := 1) rfl dX4_lay_27 ?_
        refine y_iload_n CC 1 dX4_lay_30 rfl rfl ?_
        refine y_callVI (ci := 3) (st := []) CC cl_X4_91 (k_goodsAt l D ad kI kS kL μ 1 (by omega) τ hT hB (nI j_2)) (by omega) rfl rfl rfl (Nat.le_of_ble_eq_true rfl) ⟨by decide, by decide⟩ ⟨Nat.zero_le _, Nat.zero_le _⟩ dX4_lay_31 (fun r_ μ_ w_6 => ?_)
        obtain ⟨rfl, rfl⟩ := w_6
        refine y_top (y := nI (tG τ j_2)) (by rw [if_pos (inB_nI (by omega) (by omega)), ix_nI (by omega)]) ?_
        refine y_istore_n CC [(3, .int (nI (tG τ j_2))), (0, .ref (ad 0)), (1, .int (nI j_2)), (2, .int v)] dX4_lay_34 rfl (by decide) rfl ?_
        refine y_aload_n CC 1 dX4_lay_35 rfl rfl ?_
        refine y_getr CC gl_X4_14 (by omega) (d := 1) rfl dX4_lay_36 ?_
        refine y_iload_n CC 2 dX4_lay_39 rfl rfl ?_
        refine y_iload_n CC 3 dX4_lay_40 rfl rfl ?_
        refine y_callVV (ci := 3) (st := []) CC cl_X4_94 (k_setGoods l D ad kI kS kL μ 1 (by omega) τ hT hB (nI j_2) v) (by omega) rfl rfl rfl (Nat.le_of_ble_eq_true rfl) ⟨by decide, by decide⟩ ⟨Nat.zero_le _, Nat.zero_le _⟩ dX4_lay_41 (fun μ_ w_7 => ?_)
        obtain rfl := w_7
        refine y_mem (if_pos (by assumption)) ?_
        refine y_iload_n CC 0 dX4_lay_44 rfl rfl ?_
        exact y_iret CC hQ dX4_lay_45 (⟨by simp [ok_lay, b_1, ix_nI (show j_2 < 2 ^ 31 by omega), hv_], by simp [q_lay, b_1, ix_nI (show j_2 < 2 ^ 31 by omega), hv_]⟩)
      · skip
        have hv_ : inB v 10 = false := inB_f (by omega)
        refine y_bipush CC ((-2)) dX4_lay_23 (by decide) ?_
        exact y_iret CC hQ dX4_lay_25 (⟨by simp [ok_lay, b_1, ix_nI (show j_2 < 2 ^ 31 by omega), hv_], by simp [q_lay, b_1, ix_nI (show j_2 < 2 ^ 31 by omega), hv_]⟩)
  · skip
    refine z_if_neF CC 13 dX4_lay_8 (by decide) (a := (0 : Int)) (nI_toInt (by decide)) (by decide) ?_
    refine y_iconst CC ((-1)) dX4_lay_11 (by decide) ?_
    exact y_iret CC hQ dX4_lay_12 (⟨by simp [ok_lay, b_1], by simp [q_lay, b_1]⟩)

set_option maxRecDepth 100000 in
set_option maxHeartbeats 4000000 in
theorem x_stride (l : Launch) (D : va_G) (ad : Nat → Nat) (kI kS kL : ClassId) (μ : Mem) (τ : Tn) (hT : TX μ 1 τ) (hV : tV τ) (a v : Int32) : MI l D ad kI kS kL yX4_stride cX4_stride 5 (some .int) 2 42 [.ref (ad 0), .int a, .int v] μ (fun r μ2 => (μ2 = if ok_stride τ a v = true then mu μ (4 * 1 + 18 + ix a) 2 v else μ) ∧ r = q_stride τ a v) := by
  refine met_I RX4 rfl (by decide) (lv := [(0, .ref (ad 0)), (1, .int a), (2, .int v)]) rfl (Nat.le_of_ble_eq_true rfl) ?_
  intro pp ee ss mm aa bb me cd AA hA0 CC hnm QQ hQ
  have hB := hV.1
  have hP9 : tP τ ≤ 9 := hB.1
  have hS4 : tS τ ≤ 4 := hB.2.1
  have hVc := hV.2.1
  refine y_aload_n CC 0 dX4_stride_0 rfl rfl ?_
  refine y_getr CC gl_X4_14 (by omega) (d := 1) rfl dX4_stride_1 ?_
  refine y_iload_n CC 1 dX4_stride_4 rfl rfl ?_
  refine y_callVN (ci := 3) (st := []) CC cl_X4_73 (k_sleeperOrNull l D ad kI kS kL μ 1 (by omega) τ hT hB a) (by omega) rfl rfl rfl (Nat.le_of_ble_eq_true rfl) ⟨by decide, by decide⟩ ⟨Nat.zero_le _, Nat.zero_le _⟩ dX4_stride_5 (fun r_ μ_ w_3 => ?_)
  rcases w_3 with ⟨rfl, ⟨b_1, rfl⟩ | ⟨b_1, rfl⟩⟩
  · skip
    obtain ⟨j_2, hj_2, rfl⟩ := inB_of b_1 (by omega)
    refine y_eq (st2 := [.ref (ad (4 * 1 + 18 + j_2))]) (by rw [ix_nI (by omega)]; rfl) ?_
    refine y_astore_n CC [(3, .ref (ad (4 * 1 + 18 + j_2))), (0, .ref (ad 0)), (1, .int (nI j_2)), (2, .int v)] dX4_stride_8 rfl (by decide) rfl ?_
    refine y_aload_n CC 0 dX4_stride_9 rfl rfl ?_
    refine y_ifnonnull CC 15 dX4_stride_10 (by decide) ?_
    refine y_iload_n CC 3 dX4_stride_15 rfl rfl ?_
    refine z_if_lt CC 24 dX4_stride_16 (by decide) (a := (v).toInt) rfl (fun c_4 => ?_) (fun c_4 => ?_)
    · skip
      have hv_ : inB v 4 = false := inB_f (by omega)
      refine y_bipush CC ((-2)) dX4_stride_24 (by decide) ?_
      exact y_iret CC hQ dX4_stride_26 (⟨by simp [ok_stride, b_1, ix_nI (show j_2 < 2 ^ 31 by omega), hv_], by simp [q_stride, b_1, ix_nI (show j_2 < 2 ^ 31 by omega), hv_]⟩)
    · skip
      refine y_iload_n CC 3 dX4_stride_19 rfl rfl ?_
      refine y_iconst CC (nI 3) dX4_stride_20 (by decide) ?_
      refine z_icmp_le CC 27 dX4_stride_21 (by decide) (a := (v).toInt) (b := (3 : Int)) rfl (nI_toInt (by decide)) (fun c_5 => ?_) (fun c_5 => ?_)
      · skip
        have hv_ : inB v 4 = true := inB_t (by omega)
        refine y_aload_n CC 0 dX4_stride_27 rfl rfl ?_
        refine y_geti CC gl_X4_85 (by omega) rfl (v := nI (tD τ j_2)) (hT.2.2.1 j_2 (by omega)).2.2 dX4_stride_28 ?_
        refine y_istore CC [(4, .int (nI (tD τ j_2))), (3, .ref (ad (4 * 1 + 18 + j_2))), (0, .ref (ad 0)), (1, .int (nI j_2)), (2, .int v)] dX4_stride_31 (by decide) rfl ?_
        refine y_aload_n CC 1 dX4_stride_33 rfl rfl ?_
        refine y_iload_n CC 4 dX4_stride_34 rfl rfl ?_
        refine y_puti CC pl_X4_85 (by omega) rfl (Nat.le_of_ble_eq_true rfl) dX4_stride_35 ?_
        refine y_iload CC 0 dX4_stride_38 rfl ?_
        exact y_iret CC hQ dX4_stride_40 (⟨by simp [ok_stride, b_1, ix_nI (show j_2 < 2 ^ 31 by omega), hv_], by simp [q_stride, b_1, ix_nI (show j_2 < 2 ^ 31 by omega), hv_]⟩)
      · skip
        have hv_ : inB v 4 = false := inB_f (by omega)
        refine y_bipush CC ((-2)) dX4_stride_24 (by decide) ?_
        exact y_iret CC hQ dX4_stride_26 (⟨by simp [ok_stride, b_1, ix_nI (show j_2 < 2 ^ 31 by omega), hv_], by simp [q_stride, b_1, ix_nI (show j_2 < 2 ^ 31 by omega), hv_]⟩)
  · skip
    refine y_eq (st2 := [.null]) rfl ?_
    refine y_astore_nN CC [(3, .null), (0, .ref (ad 0)), (1, .int a), (2, .int v)] dX4_stride_8 rfl (by decide) rfl ?_
    refine y_aload_nN CC 0 dX4_stride_9 rfl rfl ?_
    refine y_ifnonnullN CC 15 dX4_stride_10 (by decide) ?_
    refine y_iconst CC ((-1)) dX4_stride_13 (by decide) ?_
    exact y_iret CC hQ dX4_stride_14 (⟨by simp [ok_stride, b_1], by simp [q_stride, b_1]⟩)

set_option maxRecDepth 100000 in
set_option maxHeartbeats 4000000 in
theorem x_where (l : Launch) (D : va_G) (ad : Nat → Nat) (kI kS kL : ClassId) (μ : Mem) (τ : Tn) (hT : TX μ 1 τ) (hV : tV τ) (a m : Int32) : MI l D ad kI kS kL yX4_where cX4_where 3 (some .int) 3 69 [.ref (ad 0), .int a, .int m] μ (fun r μ2 => μ = μ2 ∧ r = q_where τ a m) := by
  refine met_I RX4 rfl (by decide) (lv := [(0, .ref (ad 0)), (1, .int a), (2, .int m)]) rfl (Nat.le_of_ble_eq_true rfl) ?_
  intro pp ee ss mm aa bb me cd AA hA0 CC hnm QQ hQ
  have hB := hV.1
  have hP9 : tP τ ≤ 9 := hB.1
  have hS4 : tS τ ≤ 4 := hB.2.1
  have hVc := hV.2.1
  refine y_aload_n CC 0 dX4_where_0 rfl rfl ?_
  refine y_getr CC gl_X4_14 (by omega) (d := 1) rfl dX4_where_1 ?_
  refine y_iload_n CC 1 dX4_where_4 rfl rfl ?_
  refine y_callVI (ci := 3) (st := []) CC cl_X4_98 (k_hasSleeper l D ad kI kS kL μ 1 (by omega) τ hT hB a) (by omega) rfl rfl rfl (Nat.le_of_ble_eq_true rfl) ⟨by decide, by decide⟩ ⟨Nat.zero_le _, Nat.zero_le _⟩ dX4_where_5 (fun r_ μ_ w_3 => ?_)
  rcases w_3 with ⟨rfl, ⟨b_1, rfl⟩ | ⟨b_1, rfl⟩⟩
  · skip
    obtain ⟨j_2, hj_2, rfl⟩ := inB_of b_1 (by omega)
    refine z_if_neT CC 13 dX4_where_8 (by decide) (a := (1 : Int)) (nI_toInt (by decide)) (by decide) ?_
    refine y_iload_n CC 2 dX4_where_13 rfl rfl ?_
    refine y_callSI (st := []) CC cl_X4_101 (k_isMinute l D ad kI kS kL μ m) rfl rfl (Nat.le_of_ble_eq_true rfl) ⟨by decide, by decide⟩ ⟨Nat.zero_le _, Nat.zero_le _⟩ dX4_where_14 (fun r_ μ_ w_6 => ?_)
    rcases w_6 with ⟨rfl, ⟨b_4, rfl⟩ | ⟨b_4, rfl⟩⟩
    · skip
      obtain ⟨m_5, hm_5, rfl⟩ := inB_of b_4 (by omega)
      refine z_if_eqF CC 32 dX4_where_17 (by decide) (a := (1 : Int)) (nI_toInt (by decide)) (by decide) ?_
      refine y_aload_n CC 0 dX4_where_20 rfl rfl ?_
      refine y_getr CC gl_X4_14 (by omega) (d := 1) rfl dX4_where_21 ?_
      refine y_iload_n CC 1 dX4_where_24 rfl rfl ?_
      refine y_iload_n CC 2 dX4_where_25 rfl rfl ?_
      refine y_callVI (ci := 3) (st := []) CC cl_X4_104 (k_placeOf l D ad kI kS kL μ 1 (by omega) τ hT hB (by omega) j_2 m_5 (by omega) (by omega)) (by omega) rfl rfl rfl (Nat.le_of_ble_eq_true rfl) ⟨by decide, by decide⟩ ⟨Nat.zero_le _, Nat.zero_le _⟩ dX4_where_26 (fun r_ μ_ w_8 => ?_)
      obtain ⟨rfl, rfl⟩ := w_8
      have h_pl_7 := pl_lt (τ := τ) (by omega) j_2 m_5
      refine y_goto CC 34 dX4_where_29 (by decide) ?_
      exact y_iret CC hQ dX4_where_34 (⟨rfl, by simp [q_where, b_1, ix_nI (show j_2 < 2 ^ 31 by omega), b_4, ix_nI (show m_5 < 2 ^ 31 by omega)]⟩)
    · skip
      refine z_if_eqT CC 32 dX4_where_17 (by decide) (a := (0 : Int)) (nI_toInt (by decide)) (by decide) ?_
      refine y_bipush CC ((-2)) dX4_where_32 (by decide) ?_
      exact y_iret CC hQ dX4_where_34 (⟨rfl, by simp [q_where, b_1, ix_nI (show j_2 < 2 ^ 31 by omega), b_4]⟩)
  · skip
    refine z_if_neF CC 13 dX4_where_8 (by decide) (a := (0 : Int)) (nI_toInt (by decide)) (by decide) ?_
    refine y_iconst CC ((-1)) dX4_where_11 (by decide) ?_
    exact y_iret CC hQ dX4_where_12 (⟨rfl, by simp [q_where, b_1]⟩)

set_option maxRecDepth 100000 in
set_option maxHeartbeats 4000000 in
theorem x_taken (l : Launch) (D : va_G) (ad : Nat → Nat) (kI kS kL : ClassId) (μ : Mem) (τ : Tn) (hT : TX μ 1 τ) (hV : tV τ) (a m : Int32) : MI l D ad kI kS kL yX4_taken cX4_taken 3 (some .int) 4 96 [.ref (ad 0), .int a, .int m] μ (fun r μ2 => μ = μ2 ∧ r = q_taken τ a m) := by
  refine met_I RX4 rfl (by decide) (lv := [(0, .ref (ad 0)), (1, .int a), (2, .int m)]) rfl (Nat.le_of_ble_eq_true rfl) ?_
  intro pp ee ss mm aa bb me cd AA hA0 CC hnm QQ hQ
  have hB := hV.1
  have hP9 : tP τ ≤ 9 := hB.1
  have hS4 : tS τ ≤ 4 := hB.2.1
  have hVc := hV.2.1
  refine y_aload_n CC 0 dX4_taken_0 rfl rfl ?_
  refine y_getr CC gl_X4_14 (by omega) (d := 1) rfl dX4_taken_1 ?_
  refine y_iload_n CC 1 dX4_taken_4 rfl rfl ?_
  refine y_callVI (ci := 3) (st := []) CC cl_X4_98 (k_hasSleeper l D ad kI kS kL μ 1 (by omega) τ hT hB a) (by omega) rfl rfl rfl (Nat.le_of_ble_eq_true rfl) ⟨by decide, by decide⟩ ⟨Nat.zero_le _, Nat.zero_le _⟩ dX4_taken_5 (fun r_ μ_ w_3 => ?_)
  rcases w_3 with ⟨rfl, ⟨b_1, rfl⟩ | ⟨b_1, rfl⟩⟩
  · skip
    obtain ⟨j_2, hj_2, rfl⟩ := inB_of b_1 (by omega)
    refine z_if_neT CC 13 dX4_taken_8 (by decide) (a := (1 : Int)) (nI_toInt (by decide)) (by decide) ?_
    refine y_iload_n CC 2 dX4_taken_13 rfl rfl ?_
    refine y_callSI (st := []) CC cl_X4_101 (k_isMinute l D ad kI kS kL μ m) rfl rfl (Nat.le_of_ble_eq_true rfl) ⟨by decide, by decide⟩ ⟨Nat.zero_le _, Nat.zero_le _⟩ dX4_taken_14 (fun r_ μ_ w_6 => ?_)
    rcases w_6 with ⟨rfl, ⟨b_4, rfl⟩ | ⟨b_4, rfl⟩⟩
    · skip
      obtain ⟨m_5, hm_5, rfl⟩ := inB_of b_4 (by omega)
      refine z_if_eqF CC 32 dX4_taken_17 (by decide) (a := (1 : Int)) (nI_toInt (by decide)) (by decide) ?_
      refine y_aload_n CC 0 dX4_taken_20 rfl rfl ?_
      refine y_getr CC gl_X4_14 (by omega) (d := 1) rfl dX4_taken_21 ?_
      refine y_iload_n CC 1 dX4_taken_24 rfl rfl ?_
      refine y_iload_n CC 2 dX4_taken_25 rfl rfl ?_
      refine y_callVI (ci := 3) (st := []) CC cl_X4_107 (k_goodsTakenBy l D ad kI kS kL μ 1 (by omega) τ hT hB (by omega) j_2 m_5 (by omega) (by omega)) (by omega) rfl rfl rfl (Nat.le_of_ble_eq_true rfl) ⟨by decide, by decide⟩ ⟨Nat.zero_le _, Nat.zero_le _⟩ dX4_taken_26 (fun r_ μ_ w_7 => ?_)
      obtain ⟨rfl, rfl⟩ := w_7
      refine y_goto CC 34 dX4_taken_29 (by decide) ?_
      exact y_iret CC hQ dX4_taken_34 (⟨rfl, by simp [q_taken, b_1, ix_nI (show j_2 < 2 ^ 31 by omega), b_4, ix_nI (show m_5 < 2 ^ 31 by omega)]⟩)
    · skip
      refine z_if_eqT CC 32 dX4_taken_17 (by decide) (a := (0 : Int)) (nI_toInt (by decide)) (by decide) ?_
      refine y_bipush CC ((-2)) dX4_taken_32 (by decide) ?_
      exact y_iret CC hQ dX4_taken_34 (⟨rfl, by simp [q_taken, b_1, ix_nI (show j_2 < 2 ^ 31 by omega), b_4]⟩)
  · skip
    refine z_if_neF CC 13 dX4_taken_8 (by decide) (a := (0 : Int)) (nI_toInt (by decide)) (by decide) ?_
    refine y_iconst CC ((-1)) dX4_taken_11 (by decide) ?_
    exact y_iret CC hQ dX4_taken_12 (⟨rfl, by simp [q_taken, b_1]⟩)

set_option maxRecDepth 100000 in
set_option maxHeartbeats 4000000 in
theorem x_free (l : Launch) (D : va_G) (ad : Nat → Nat) (kI kS kL : ClassId) (μ : Mem) (τ : Tn) (hT : TX μ 1 τ) (hV : tV τ) (m : Int32) : MI l D ad kI kS kL yX4_free cX4_free 2 (some .int) 4 93 [.ref (ad 0), .int m] μ (fun r μ2 => μ = μ2 ∧ r = q_free τ m) := by
  refine met_I RX4 rfl (by decide) (lv := [(0, .ref (ad 0)), (1, .int m)]) rfl (Nat.le_of_ble_eq_true rfl) ?_
  intro pp ee ss mm aa bb me cd AA hA0 CC hnm QQ hQ
  have hB := hV.1
  have hP9 : tP τ ≤ 9 := hB.1
  have hS4 : tS τ ≤ 4 := hB.2.1
  have hVc := hV.2.1
  refine y_iload_n CC 1 dX4_free_0 rfl rfl ?_
  refine y_callSI (st := []) CC cl_X4_101 (k_isMinute l D ad kI kS kL μ m) rfl rfl (Nat.le_of_ble_eq_true rfl) ⟨by decide, by decide⟩ ⟨Nat.zero_le _, Nat.zero_le _⟩ dX4_free_1 (fun r_ μ_ w_3 => ?_)
  rcases w_3 with ⟨rfl, ⟨b_1, rfl⟩ | ⟨b_1, rfl⟩⟩
  · skip
    obtain ⟨m_2, hm_2, rfl⟩ := inB_of b_1 (by omega)
    refine z_if_neT CC 10 dX4_free_4 (by decide) (a := (1 : Int)) (nI_toInt (by decide)) (by decide) ?_
    refine y_aload_n CC 0 dX4_free_10 rfl rfl ?_
    refine y_getr CC gl_X4_14 (by omega) (d := 1) rfl dX4_free_11 ?_
    refine y_callVI (ci := 3) (st := []) CC cl_X4_110 (k_isThere l D ad kI kS kL μ 1 (by omega) τ hT hB) (by omega) rfl rfl rfl (Nat.le_of_ble_eq_true rfl) ⟨by decide, by decide⟩ ⟨Nat.zero_le _, Nat.zero_le _⟩ dX4_free_14 (fun r_ μ_ w_5 => ?_)
    rcases w_5 with ⟨rfl, ⟨b_4, rfl⟩ | ⟨b_4, rfl⟩⟩
    · skip
      have hb_b_4 := of_decide_eq_true b_4
      refine z_if_eqF CC 33 dX4_free_17 (by decide) (a := (1 : Int)) (nI_toInt (by decide)) (by decide) ?_
      refine y_aload_n CC 0 dX4_free_20 rfl rfl ?_
      refine y_getr CC gl_X4_14 (by omega) (d := 1) rfl dX4_free_21 ?_
      refine y_iload_n CC 1 dX4_free_24 rfl rfl ?_
      refine y_bipush CC (nI 15) dX4_free_25 (by decide) ?_
      refine y_callVI (ci := 3) (st := []) CC cl_X4_114 (k_freePlaces l D ad kI kS kL μ 1 (by omega) τ hT hB (by omega) m_2 15 (by omega) (by omega)) (by omega) rfl rfl rfl (Nat.le_of_ble_eq_true rfl) ⟨by decide, by decide⟩ ⟨Nat.zero_le _, Nat.zero_le _⟩ dX4_free_27 (fun r_ μ_ w_7 => ?_)
      obtain ⟨rfl, rfl⟩ := w_7
      have h_fr_6 := set9 (P := tP τ) (by omega) (frS_lt τ 15 m_2)
      refine y_goto CC 35 dX4_free_30 (by decide) ?_
      exact y_iret CC hQ dX4_free_35 (⟨rfl, by simp [q_free, b_1, ix_nI (show m_2 < 2 ^ 31 by omega), b_4, hb_b_4]⟩)
    · skip
      have hb_b_4 := of_decide_eq_false b_4
      refine z_if_eqT CC 33 dX4_free_17 (by decide) (a := (0 : Int)) (nI_toInt (by decide)) (by decide) ?_
      refine y_bipush CC ((-3)) dX4_free_33 (by decide) ?_
      exact y_iret CC hQ dX4_free_35 (⟨rfl, by simp [q_free, b_1, ix_nI (show m_2 < 2 ^ 31 by omega), b_4, hb_b_4]⟩)
  · skip
    refine z_if_neF CC 10 dX4_free_4 (by decide) (a := (0 : Int)) (nI_toInt (by decide)) (by decide) ?_
    refine y_bipush CC ((-2)) dX4_free_7 (by decide) ?_
    exact y_iret CC hQ dX4_free_9 (⟨rfl, by simp [q_free, b_1]⟩)

set_option maxRecDepth 100000 in
set_option maxHeartbeats 4000000 in
theorem x_meet (l : Launch) (D : va_G) (ad : Nat → Nat) (kI kS kL : ClassId) (μ : Mem) (τ : Tn) (hT : TX μ 1 τ) (hV : tV τ) (a b : Int32) : MI l D ad kI kS kL yX4_meet cX4_meet 4 (some .int) 3 69 [.ref (ad 0), .int a, .int b] μ (fun r μ2 => μ = μ2 ∧ r = q_meet τ a b) := by
  refine met_I RX4 rfl (by decide) (lv := [(0, .ref (ad 0)), (1, .int a), (2, .int b)]) rfl (Nat.le_of_ble_eq_true rfl) ?_
  intro pp ee ss mm aa bb me cd AA hA0 CC hnm QQ hQ
  have hB := hV.1
  have hP9 : tP τ ≤ 9 := hB.1
  have hS4 : tS τ ≤ 4 := hB.2.1
  have hVc := hV.2.1
  refine y_aload_n CC 0 dX4_meet_0 rfl rfl ?_
  refine y_getr CC gl_X4_14 (by omega) (d := 1) rfl dX4_meet_1 ?_
  refine y_iload_n CC 1 dX4_meet_4 rfl rfl ?_
  refine y_callVI (ci := 3) (st := []) CC cl_X4_98 (k_hasSleeper l D ad kI kS kL μ 1 (by omega) τ hT hB a) (by omega) rfl rfl rfl (Nat.le_of_ble_eq_true rfl) ⟨by decide, by decide⟩ ⟨Nat.zero_le _, Nat.zero_le _⟩ dX4_meet_5 (fun r_ μ_ w_2 => ?_)
  rcases w_2 with ⟨rfl, ⟨b_1, rfl⟩ | ⟨b_1, rfl⟩⟩
  · skip
    obtain ⟨ja, hja, rfl⟩ := inB_of b_1 (by omega)
    refine z_if_eqF CC 27 dX4_meet_8 (by decide) (a := (1 : Int)) (nI_toInt (by decide)) (by decide) ?_
    refine y_aload_n CC 0 dX4_meet_11 rfl rfl ?_
    refine y_getr CC gl_X4_14 (by omega) (d := 1) rfl dX4_meet_12 ?_
    refine y_iload_n CC 2 dX4_meet_15 rfl rfl ?_
    refine y_callVI (ci := 3) (st := []) CC cl_X4_98 (k_hasSleeper l D ad kI kS kL μ 1 (by omega) τ hT hB b) (by omega) rfl rfl rfl (Nat.le_of_ble_eq_true rfl) ⟨by decide, by decide⟩ ⟨Nat.zero_le _, Nat.zero_le _⟩ dX4_meet_16 (fun r_ μ_ w_4 => ?_)
    rcases w_4 with ⟨rfl, ⟨b_3, rfl⟩ | ⟨b_3, rfl⟩⟩
    · skip
      obtain ⟨jb, hjb, rfl⟩ := inB_of b_3 (by omega)
      refine z_if_eqF CC 27 dX4_meet_19 (by decide) (a := (1 : Int)) (nI_toInt (by decide)) (by decide) ?_
      refine y_iload_n CC 1 dX4_meet_22 rfl rfl ?_
      refine y_iload_n CC 2 dX4_meet_23 rfl rfl ?_
      refine z_icmp_ne CC 29 dX4_meet_24 (by decide) (a := ((ja : Nat) : Int)) (b := ((jb : Nat) : Int)) (nI_toInt (by omega)) (nI_toInt (by omega)) (fun c_5 => ?_) (fun c_5 => ?_)
      · skip
        have hne_ : ¬ ja = jb := by omega
        refine y_iconst CC (nI 0) dX4_meet_29 (by decide) ?_
        refine y_istore_n CC [(3, .int (nI 0)), (0, .ref (ad 0)), (1, .int (nI ja)), (2, .int (nI jb))] dX4_meet_30 rfl (by decide) rfl ?_
        have L31 : ∀ (n31 : Nat) (m : Nat), 61 - m < n31 → (m ≤ 61) → (fs (mtB τ ja jb) m (61 - m) = fs (mtB τ ja jb) 0 61) → Y pp l ee (rmY 3 69) ss mm aa bb me cd D ad kI kS kL AA 4 0 0 QQ 31 [(3, .int (nI m)), (0, .ref (ad 0)), (1, .int (nI ja)), (2, .int (nI jb))] [] μ := by
          intro n31
          induction n31 with
          | zero => intro m hm31; exact absurd hm31 (Nat.not_lt_zero _)
          | succ n31 ih31 =>
            intro m hm31 hm hs
            refine y_iload_n CC 0 dX4_meet_31 rfl rfl ?_
            refine y_bipush CC (nI 60) dX4_meet_32 (by decide) ?_
            refine z_icmp_gt CC 66 dX4_meet_34 (by decide) (a := ((m : Nat) : Int)) (b := (60 : Int)) (nI_toInt (by omega)) (nI_toInt (by decide)) (fun c_7 => ?_) (fun c_7 => ?_)
            · skip
              refine y_bipush CC ((-9)) dX4_meet_66 (by decide) ?_
              exact y_iret CC hQ dX4_meet_68 (⟨rfl, by simp [q_meet, b_1, ix_nI (show ja < 2 ^ 31 by omega), b_3, ix_nI (show jb < 2 ^ 31 by omega), hne_]; rw [← hs, fs_0 (by omega)]; rfl⟩)
            · skip
              refine y_aload_n CC 1 dX4_meet_37 rfl rfl ?_
              refine y_getr CC gl_X4_14 (by omega) (d := 1) rfl dX4_meet_38 ?_
              refine y_iload_n CC 2 dX4_meet_41 rfl rfl ?_
              refine y_iload_n CC 0 dX4_meet_42 rfl rfl ?_
              refine y_callVI (ci := 3) (st := []) CC cl_X4_104 (k_placeOf l D ad kI kS kL μ 1 (by omega) τ hT hB (by omega) ja m (by omega) (by omega)) (by omega) rfl rfl rfl (Nat.le_of_ble_eq_true rfl) ⟨by decide, by decide⟩ ⟨Nat.zero_le _, Nat.zero_le _⟩ dX4_meet_43 (fun r_ μ_ w_9 => ?_)
              obtain ⟨rfl, rfl⟩ := w_9
              have h_pl_8 := pl_lt (τ := τ) (by omega) ja m
              refine y_aload_n CC 1 dX4_meet_46 rfl rfl ?_
              refine y_getr CC gl_X4_14 (by omega) (d := 1) rfl dX4_meet_47 ?_
              refine y_iload_n CC 3 dX4_meet_50 rfl rfl ?_
              refine y_iload_n CC 0 dX4_meet_51 rfl rfl ?_
              refine y_callVI (ci := 3) (st := [.int (nI (pl τ ja m))]) CC cl_X4_104 (k_placeOf l D ad kI kS kL μ 1 (by omega) τ hT hB (by omega) jb m (by omega) (by omega)) (by omega) rfl rfl rfl (Nat.le_of_ble_eq_true rfl) ⟨by decide, by decide⟩ ⟨Nat.zero_le _, Nat.zero_le _⟩ dX4_meet_52 (fun r_ μ_ w_11 => ?_)
              obtain ⟨rfl, rfl⟩ := w_11
              have h_pl_10 := pl_lt (τ := τ) (by omega) jb m
              refine z_icmp_ne CC 60 dX4_meet_55 (by decide) (a := ((pl τ ja m : Nat) : Int)) (b := ((pl τ jb m : Nat) : Int)) (nI_toInt (by omega)) (nI_toInt (by omega)) (fun c_12 => ?_) (fun c_12 => ?_)
              · skip
                refine y_iinc CC 0 (nI (m + 1)) [(3, .int (nI (m + 1))), (0, .ref (ad 0)), (1, .int (nI ja)), (2, .int (nI jb))] dX4_meet_60 rfl (i_inc _) (by decide) rfl ?_
                refine y_goto CC 31 dX4_meet_63 (by decide) ?_
                exact ih31 (m + 1) (by omega) (by omega) (by rw [← fs_f (decide_eq_false (by omega)) (by omega)]; exact hs)
              · skip
                refine y_iload_n CC 0 dX4_meet_58 rfl rfl ?_
                exact y_iret CC hQ dX4_meet_59 (⟨rfl, by simp [q_meet, b_1, ix_nI (show ja < 2 ^ 31 by omega), b_3, ix_nI (show jb < 2 ^ 31 by omega), hne_]; rw [← hs, fs_t (decide_eq_true (by omega)) (by omega)]; rfl⟩)
        exact L31 _ 0 (Nat.lt_succ_self _) (Nat.zero_le _) rfl
      · skip
        have heq_ : ja = jb := by omega
        refine y_iconst CC ((-1)) dX4_meet_27 (by decide) ?_
        exact y_iret CC hQ dX4_meet_28 (⟨rfl, by simp [q_meet, b_1, ix_nI (show ja < 2 ^ 31 by omega), b_3, ix_nI (show jb < 2 ^ 31 by omega), heq_]⟩)
    · skip
      refine z_if_eqT CC 27 dX4_meet_19 (by decide) (a := (0 : Int)) (nI_toInt (by decide)) (by decide) ?_
      refine y_iconst CC ((-1)) dX4_meet_27 (by decide) ?_
      exact y_iret CC hQ dX4_meet_28 (⟨rfl, by simp [q_meet, b_1, ix_nI (show ja < 2 ^ 31 by omega), b_3]⟩)
  · skip
    refine z_if_eqT CC 27 dX4_meet_8 (by decide) (a := (0 : Int)) (nI_toInt (by decide)) (by decide) ?_
    refine y_iconst CC ((-1)) dX4_meet_27 (by decide) ?_
    exact y_iret CC hQ dX4_meet_28 (⟨rfl, by simp [q_meet, b_1]⟩)

set_option maxRecDepth 100000 in
set_option maxHeartbeats 4000000 in
theorem x_steer (l : Launch) (D : va_G) (ad : Nat → Nat) (kI kS kL : ClassId) (μ : Mem) (τ : Tn) (hT : TX μ 1 τ) (hV : tV τ) (a p m : Int32) : MI l D ad kI kS kL yX4_steer cX4_steer 8 (some .int) 2 46 [.ref (ad 0), .int a, .int p, .int m] μ (fun r μ2 => μ = μ2 ∧ r = q_steer τ a p m) := by
  refine met_I RX4 rfl (by decide) (lv := [(0, .ref (ad 0)), (1, .int a), (2, .int p), (3, .int m)]) rfl (Nat.le_of_ble_eq_true rfl) ?_
  intro pp ee ss mm aa bb me cd AA hA0 CC hnm QQ hQ
  have hB := hV.1
  have hP9 : tP τ ≤ 9 := hB.1
  have hS4 : tS τ ≤ 4 := hB.2.1
  have hVc := hV.2.1
  refine y_aload_n CC 0 dX4_steer_0 rfl rfl ?_
  refine y_getr CC gl_X4_14 (by omega) (d := 1) rfl dX4_steer_1 ?_
  refine y_iload_n CC 1 dX4_steer_4 rfl rfl ?_
  refine y_callVN (ci := 3) (st := []) CC cl_X4_73 (k_sleeperOrNull l D ad kI kS kL μ 1 (by omega) τ hT hB a) (by omega) rfl rfl rfl (Nat.le_of_ble_eq_true rfl) ⟨by decide, by decide⟩ ⟨Nat.zero_le _, Nat.zero_le _⟩ dX4_steer_5 (fun r_ μ_ w_2 => ?_)
  rcases w_2 with ⟨rfl, ⟨b_1, rfl⟩ | ⟨b_1, rfl⟩⟩
  · skip
    obtain ⟨j, hj, rfl⟩ := inB_of b_1 (by omega)
    refine y_eq (st2 := [.ref (ad (4 * 1 + 18 + j))]) (by rw [ix_nI (by omega)]; rfl) ?_
    refine y_astore CC [(4, .ref (ad (4 * 1 + 18 + j))), (0, .ref (ad 0)), (1, .int (nI j)), (2, .int p), (3, .int m)] dX4_steer_8 (by decide) rfl ?_
    refine y_aload CC 0 dX4_steer_10 rfl ?_
    refine y_ifnull CC 26 dX4_steer_12 (by decide) ?_
    refine y_aload_n CC 1 dX4_steer_15 rfl rfl ?_
    refine y_getr CC gl_X4_14 (by omega) (d := 1) rfl dX4_steer_16 ?_
    refine y_iload_n CC 3 dX4_steer_19 rfl rfl ?_
    refine y_callVI (ci := 3) (st := []) CC cl_X4_88 (k_hasPlace l D ad kI kS kL μ 1 (by omega) τ hT hB p) (by omega) rfl rfl rfl (Nat.le_of_ble_eq_true rfl) ⟨by decide, by decide⟩ ⟨Nat.zero_le _, Nat.zero_le _⟩ dX4_steer_20 (fun r_ μ_ w_4 => ?_)
    rcases w_4 with ⟨rfl, ⟨b_3, rfl⟩ | ⟨b_3, rfl⟩⟩
    · skip
      obtain ⟨jp, hjp, rfl⟩ := inB_of b_3 (by omega)
      refine z_if_neT CC 28 dX4_steer_23 (by decide) (a := (1 : Int)) (nI_toInt (by decide)) (by decide) ?_
      refine y_iload_n CC 4 dX4_steer_28 rfl rfl ?_
      refine y_callSI (st := []) CC cl_X4_101 (k_isMinute l D ad kI kS kL μ m) rfl rfl (Nat.le_of_ble_eq_true rfl) ⟨by decide, by decide⟩ ⟨Nat.zero_le _, Nat.zero_le _⟩ dX4_steer_29 (fun r_ μ_ w_6 => ?_)
      rcases w_6 with ⟨rfl, ⟨b_5, rfl⟩ | ⟨b_5, rfl⟩⟩
      · skip
        obtain ⟨jm, hjm, rfl⟩ := inB_of b_5 (by omega)
        refine z_if_neT CC 38 dX4_steer_32 (by decide) (a := (1 : Int)) (nI_toInt (by decide)) (by decide) ?_
        have hkb := hB.2.2.1 j (by omega)
        refine y_bipush CC ((-9)) dX4_steer_38 (by decide) ?_
        refine y_istore CC [(5, .int (-9)), (4, .ref (ad (4 * 1 + 18 + j))), (0, .ref (ad 0)), (1, .int (nI j)), (2, .int (nI jp)), (3, .int (nI jm))] dX4_steer_40 (by decide) rfl ?_
        refine y_iconst CC (nI 0) dX4_steer_42 (by decide) ?_
        refine y_istore CC [(6, .int (nI 0)), (5, .int (-9)), (4, .ref (ad (4 * 1 + 18 + j))), (0, .ref (ad 0)), (1, .int (nI j)), (2, .int (nI jp)), (3, .int (nI jm))] dX4_steer_43 (by decide) rfl ?_
        have L45 : ∀ (n45 : Nat) (v : Nat), 4 - v < n45 → (v ≤ 4) → Y pp l ee (rmY 2 46) ss mm aa bb me cd D ad kI kS kL AA 8 0 0 QQ 45 [(6, .int (nI v)), (5, .int (oI (stS τ j jp jm v))), (4, .ref (ad (4 * 1 + 18 + j))), (0, .ref (ad 0)), (1, .int (nI j)), (2, .int (nI jp)), (3, .int (nI jm))] [] μ := by
          intro n45
          induction n45 with
          | zero => intro v hm45; exact absurd hm45 (Nat.not_lt_zero _)
          | succ n45 ih45 =>
            intro v hm45 hv
            refine y_iload CC 0 dX4_steer_45 rfl ?_
            refine y_iconst CC (nI 3) dX4_steer_47 (by decide) ?_
            refine z_icmp_gt CC 129 dX4_steer_48 (by decide) (a := ((v : Nat) : Int)) (b := (3 : Int)) (nI_toInt (by omega)) (nI_toInt (by decide)) (fun c_8 => ?_) (fun c_8 => ?_)
            · skip
              refine y_iload CC 1 dX4_steer_129 rfl ?_
              exact y_iret CC hQ dX4_steer_131 (⟨rfl, by simp [q_steer, b_1, ix_nI (show j < 2 ^ 31 by omega), b_3, ix_nI (show jp < 2 ^ 31 by omega), b_5, ix_nI (show jm < 2 ^ 31 by omega)]; rw [show v = 4 by omega]⟩)
            · skip
              rcases hb_ : stS τ j jp jm v with _ | b
              · skip
                refine y_lvE (lv2 := [(6, .int (nI v)), (5, .int (-9)), (4, .ref (ad (4 * 1 + 18 + j))), (0, .ref (ad 0)), (1, .int (nI j)), (2, .int (nI jp)), (3, .int (nI jm))]) (by first | rfl | (rw [hb_]; rfl)) ?_
                refine y_iload CC 1 dX4_steer_51 rfl ?_
                refine y_bipush CC ((-9)) dX4_steer_53 (by decide) ?_
                refine z_icmp_eqT CC 83 dX4_steer_55 (by decide) (a := (-9 : Int)) (b := (-9 : Int)) (by decide) (by decide) (by decide) ?_
                refine y_iconst CC (nI 1) dX4_steer_83 (by decide) ?_
                refine y_goto CC 88 dX4_steer_84 (by decide) ?_
                refine y_istore CC [(7, .int (nI 1)), (6, .int (nI v)), (5, .int (-9)), (4, .ref (ad (4 * 1 + 18 + j))), (0, .ref (ad 0)), (1, .int (nI j)), (2, .int (nI jp)), (3, .int (nI jm))] dX4_steer_88 (by decide) rfl ?_
                refine y_iload CC 0 dX4_steer_90 rfl ?_
                refine z_if_eqF CC 123 dX4_steer_92 (by decide) (a := (1 : Int)) (nI_toInt (by decide)) (by decide) ?_
                refine y_aload_n CC 4 dX4_steer_95 rfl rfl ?_
                refine y_getr CC gl_X4_14 (by omega) (d := 1) rfl dX4_steer_96 ?_
                refine y_aload CC 3 dX4_steer_99 rfl ?_
                refine y_geti CC gl_X4_77 (by omega) rfl (v := nI (tK τ j)) (hT.2.2.1 j (by omega)).1 dX4_steer_101 ?_
                refine y_aload CC 3 dX4_steer_104 rfl ?_
                refine y_geti CC gl_X4_82 (by omega) rfl (v := nI (tA τ j)) (hT.2.2.1 j (by omega)).2.1 dX4_steer_106 ?_
                refine y_iload CC 1 dX4_steer_109 rfl ?_
                refine y_iload_n CC 7 dX4_steer_111 rfl rfl ?_
                refine y_callVI (ci := 3) (st := []) CC cl_X4_151 (k_placeIf l D ad kI kS kL μ 1 (by omega) τ hT hB (by omega) (tK τ j) (tA τ j) v jm (by omega) (by omega) (by omega) (by omega)) (by omega) rfl rfl rfl (Nat.le_of_ble_eq_true rfl) ⟨by decide, by decide⟩ ⟨Nat.zero_le _, Nat.zero_le _⟩ dX4_steer_112 (fun r_ μ_ w_9 => ?_)
                obtain ⟨rfl, rfl⟩ := w_9
                have hlt_ := pif_lt (show 0 < tP τ by omega) (tK τ j) (tA τ j) v jm
                refine y_iload_n CC 6 dX4_steer_115 rfl rfl ?_
                refine z_icmp_ne CC 123 dX4_steer_116 (by decide) (a := ((pif τ (tK τ j) (tA τ j) v jm : Nat) : Int)) (b := ((jp : Nat) : Int)) (nI_toInt (by omega)) (nI_toInt (by omega)) (fun c_10 => ?_) (fun c_10 => ?_)
                · skip
                  refine y_iinc CC 1 (nI (v + 1)) [(6, .int (nI (v + 1))), (7, .int (nI 1)), (5, .int (-9)), (4, .ref (ad (4 * 1 + 18 + j))), (0, .ref (ad 0)), (1, .int (nI j)), (2, .int (nI jp)), (3, .int (nI jm))] dX4_steer_123 rfl (i_inc _) (by decide) rfl ?_
                  refine y_goto CC 45 dX4_steer_126 (by decide) ?_
                  refine y_lvE (lv2 := [(6, .int (nI (v + 1))), (7, .int (nI 1)), (5, .int (oI (stS τ j jp jm (v + 1)))), (4, .ref (ad (4 * 1 + 18 + j))), (0, .ref (ad 0)), (1, .int (nI j)), (2, .int (nI jp)), (3, .int (nI jm))]) (by rw [stS_n hb_, if_neg (by omega)]; rfl) ?_
                  refine y_lv [0, 2, 3, 4, 5, 6, 7] rfl ?_
                  exact ih45 (v + 1) (by omega) (by omega)
                · skip
                  refine y_iload CC 1 dX4_steer_119 rfl ?_
                  refine y_istore CC [(5, .int (nI v)), (7, .int (nI 1)), (6, .int (nI v)), (4, .ref (ad (4 * 1 + 18 + j))), (0, .ref (ad 0)), (1, .int (nI j)), (2, .int (nI jp)), (3, .int (nI jm))] dX4_steer_121 (by decide) rfl ?_
                  refine y_iinc CC 2 (nI (v + 1)) [(6, .int (nI (v + 1))), (5, .int (nI v)), (7, .int (nI 1)), (4, .ref (ad (4 * 1 + 18 + j))), (0, .ref (ad 0)), (1, .int (nI j)), (2, .int (nI jp)), (3, .int (nI jm))] dX4_steer_123 rfl (i_inc _) (by decide) rfl ?_
                  refine y_goto CC 45 dX4_steer_126 (by decide) ?_
                  refine y_lvE (lv2 := [(6, .int (nI (v + 1))), (5, .int (oI (stS τ j jp jm (v + 1)))), (7, .int (nI 1)), (4, .ref (ad (4 * 1 + 18 + j))), (0, .ref (ad 0)), (1, .int (nI j)), (2, .int (nI jp)), (3, .int (nI jm))]) (by rw [stS_n hb_, if_pos (by omega)]; rfl) ?_
                  refine y_lv [0, 1, 3, 4, 5, 6, 7] rfl ?_
                  exact ih45 (v + 1) (by omega) (by omega)
              · skip
                refine y_lvE (lv2 := [(6, .int (nI v)), (5, .int (nI b)), (4, .ref (ad (4 * 1 + 18 + j))), (0, .ref (ad 0)), (1, .int (nI j)), (2, .int (nI jp)), (3, .int (nI jm))]) (by first | rfl | (rw [hb_]; rfl)) ?_
                have hbv := stS_lt hb_
                refine y_iload CC 1 dX4_steer_51 rfl ?_
                refine y_bipush CC ((-9)) dX4_steer_53 (by decide) ?_
                refine z_icmp_eq CC 83 dX4_steer_55 (by decide) (a := ((b : Nat) : Int)) (b := (-9 : Int)) (nI_toInt (by omega)) (by decide) (fun c_11 => ?_) (fun c_11 => ?_)
                · skip
                  exfalso; omega
                · skip
                  refine y_iload CC 0 dX4_steer_58 rfl ?_
                  refine y_aload CC 2 dX4_steer_60 rfl ?_
                  refine y_geti CC gl_X4_85 (by omega) rfl (v := nI (tD τ j)) (hT.2.2.1 j (by omega)).2.2 dX4_steer_62 ?_
                  refine y_isub CC dX4_steer_65 (v := nI v - nI (tD τ j)) (by rfl) ?_
                  refine y_mabs CC mm_X4_146 (by decide) (Nat.le_of_ble_eq_true rfl) ⟨Nat.zero_le _, Nat.zero_le _⟩ (v := nI (dst v (tD τ j))) (i_abs (by omega) (by omega)) dX4_steer_66 ?_
                  have hd1 : dst v (tD τ j) ≤ 20 := by unfold dst; omega
                  refine y_iload CC 1 dX4_steer_69 rfl ?_
                  refine y_aload CC 2 dX4_steer_71 rfl ?_
                  refine y_geti CC gl_X4_85 (by omega) rfl (v := nI (tD τ j)) (hT.2.2.1 j (by omega)).2.2 dX4_steer_73 ?_
                  refine y_isub CC dX4_steer_76 (v := nI b - nI (tD τ j)) (by rfl) ?_
                  refine y_mabs CC mm_X4_146 (by decide) (Nat.le_of_ble_eq_true rfl) ⟨Nat.zero_le _, Nat.zero_le _⟩ (v := nI (dst b (tD τ j))) (i_abs (by omega) (by omega)) dX4_steer_77 ?_
                  have hd2 : dst b (tD τ j) ≤ 20 := by unfold dst; omega
                  refine z_icmp_ge CC 87 dX4_steer_80 (by decide) (a := ((dst v (tD τ j) : Nat) : Int)) (b := ((dst b (tD τ j) : Nat) : Int)) (nI_toInt (by omega)) (nI_toInt (by omega)) (fun c_12 => ?_) (fun c_12 => ?_)
                  · skip
                    refine y_iconst CC (nI 0) dX4_steer_87 (by decide) ?_
                    refine y_istore CC [(7, .int (nI 0)), (6, .int (nI v)), (5, .int (nI b)), (4, .ref (ad (4 * 1 + 18 + j))), (0, .ref (ad 0)), (1, .int (nI j)), (2, .int (nI jp)), (3, .int (nI jm))] dX4_steer_88 (by decide) rfl ?_
                    refine y_iload CC 0 dX4_steer_90 rfl ?_
                    refine z_if_eqT CC 123 dX4_steer_92 (by decide) (a := (0 : Int)) (nI_toInt (by decide)) (by decide) ?_
                    refine y_iinc CC 1 (nI (v + 1)) [(6, .int (nI (v + 1))), (7, .int (nI 0)), (5, .int (nI b)), (4, .ref (ad (4 * 1 + 18 + j))), (0, .ref (ad 0)), (1, .int (nI j)), (2, .int (nI jp)), (3, .int (nI jm))] dX4_steer_123 rfl (i_inc _) (by decide) rfl ?_
                    refine y_goto CC 45 dX4_steer_126 (by decide) ?_
                    refine y_lvE (lv2 := [(6, .int (nI (v + 1))), (7, .int (nI 0)), (5, .int (oI (stS τ j jp jm (v + 1)))), (4, .ref (ad (4 * 1 + 18 + j))), (0, .ref (ad 0)), (1, .int (nI j)), (2, .int (nI jp)), (3, .int (nI jm))]) (by rw [stS_s hb_, if_neg (fun q_ => by omega)]; rfl) ?_
                    refine y_lv [0, 2, 3, 4, 5, 6, 7] rfl ?_
                    exact ih45 (v + 1) (by omega) (by omega)
                  · skip
                    refine y_iconst CC (nI 1) dX4_steer_83 (by decide) ?_
                    refine y_goto CC 88 dX4_steer_84 (by decide) ?_
                    refine y_istore CC [(7, .int (nI 1)), (6, .int (nI v)), (5, .int (nI b)), (4, .ref (ad (4 * 1 + 18 + j))), (0, .ref (ad 0)), (1, .int (nI j)), (2, .int (nI jp)), (3, .int (nI jm))] dX4_steer_88 (by decide) rfl ?_
                    refine y_iload CC 0 dX4_steer_90 rfl ?_
                    refine z_if_eqF CC 123 dX4_steer_92 (by decide) (a := (1 : Int)) (nI_toInt (by decide)) (by decide) ?_
                    refine y_aload_n CC 4 dX4_steer_95 rfl rfl ?_
                    refine y_getr CC gl_X4_14 (by omega) (d := 1) rfl dX4_steer_96 ?_
                    refine y_aload CC 3 dX4_steer_99 rfl ?_
                    refine y_geti CC gl_X4_77 (by omega) rfl (v := nI (tK τ j)) (hT.2.2.1 j (by omega)).1 dX4_steer_101 ?_
                    refine y_aload CC 3 dX4_steer_104 rfl ?_
                    refine y_geti CC gl_X4_82 (by omega) rfl (v := nI (tA τ j)) (hT.2.2.1 j (by omega)).2.1 dX4_steer_106 ?_
                    refine y_iload CC 1 dX4_steer_109 rfl ?_
                    refine y_iload_n CC 7 dX4_steer_111 rfl rfl ?_
                    refine y_callVI (ci := 3) (st := []) CC cl_X4_151 (k_placeIf l D ad kI kS kL μ 1 (by omega) τ hT hB (by omega) (tK τ j) (tA τ j) v jm (by omega) (by omega) (by omega) (by omega)) (by omega) rfl rfl rfl (Nat.le_of_ble_eq_true rfl) ⟨by decide, by decide⟩ ⟨Nat.zero_le _, Nat.zero_le _⟩ dX4_steer_112 (fun r_ μ_ w_13 => ?_)
                    obtain ⟨rfl, rfl⟩ := w_13
                    have hlt_ := pif_lt (show 0 < tP τ by omega) (tK τ j) (tA τ j) v jm
                    refine y_iload_n CC 6 dX4_steer_115 rfl rfl ?_
                    refine z_icmp_ne CC 123 dX4_steer_116 (by decide) (a := ((pif τ (tK τ j) (tA τ j) v jm : Nat) : Int)) (b := ((jp : Nat) : Int)) (nI_toInt (by omega)) (nI_toInt (by omega)) (fun c_14 => ?_) (fun c_14 => ?_)
                    · skip
                      refine y_iinc CC 1 (nI (v + 1)) [(6, .int (nI (v + 1))), (7, .int (nI 1)), (5, .int (nI b)), (4, .ref (ad (4 * 1 + 18 + j))), (0, .ref (ad 0)), (1, .int (nI j)), (2, .int (nI jp)), (3, .int (nI jm))] dX4_steer_123 rfl (i_inc _) (by decide) rfl ?_
                      refine y_goto CC 45 dX4_steer_126 (by decide) ?_
                      refine y_lvE (lv2 := [(6, .int (nI (v + 1))), (7, .int (nI 1)), (5, .int (oI (stS τ j jp jm (v + 1)))), (4, .ref (ad (4 * 1 + 18 + j))), (0, .ref (ad 0)), (1, .int (nI j)), (2, .int (nI jp)), (3, .int (nI jm))]) (by rw [stS_s hb_, if_neg (fun q_ => by omega)]; rfl) ?_
                      refine y_lv [0, 2, 3, 4, 5, 6, 7] rfl ?_
                      exact ih45 (v + 1) (by omega) (by omega)
                    · skip
                      refine y_iload CC 1 dX4_steer_119 rfl ?_
                      refine y_istore CC [(5, .int (nI v)), (7, .int (nI 1)), (6, .int (nI v)), (4, .ref (ad (4 * 1 + 18 + j))), (0, .ref (ad 0)), (1, .int (nI j)), (2, .int (nI jp)), (3, .int (nI jm))] dX4_steer_121 (by decide) rfl ?_
                      refine y_iinc CC 2 (nI (v + 1)) [(6, .int (nI (v + 1))), (5, .int (nI v)), (7, .int (nI 1)), (4, .ref (ad (4 * 1 + 18 + j))), (0, .ref (ad 0)), (1, .int (nI j)), (2, .int (nI jp)), (3, .int (nI jm))] dX4_steer_123 rfl (i_inc _) (by decide) rfl ?_
                      refine y_goto CC 45 dX4_steer_126 (by decide) ?_
                      refine y_lvE (lv2 := [(6, .int (nI (v + 1))), (5, .int (oI (stS τ j jp jm (v + 1)))), (7, .int (nI 1)), (4, .ref (ad (4 * 1 + 18 + j))), (0, .ref (ad 0)), (1, .int (nI j)), (2, .int (nI jp)), (3, .int (nI jm))]) (by rw [stS_s hb_, if_pos ⟨by omega, by omega⟩]; rfl) ?_
                      refine y_lv [0, 1, 3, 4, 5, 6, 7] rfl ?_
                      exact ih45 (v + 1) (by omega) (by omega)
        exact L45 _ 0 (Nat.lt_succ_self _) (Nat.zero_le _)
      · skip
        refine z_if_neF CC 38 dX4_steer_32 (by decide) (a := (0 : Int)) (nI_toInt (by decide)) (by decide) ?_
        refine y_bipush CC ((-2)) dX4_steer_35 (by decide) ?_
        exact y_iret CC hQ dX4_steer_37 (⟨rfl, by simp [q_steer, b_1, ix_nI (show j < 2 ^ 31 by omega), b_3, ix_nI (show jp < 2 ^ 31 by omega), b_5]⟩)
    · skip
      refine z_if_neF CC 28 dX4_steer_23 (by decide) (a := (0 : Int)) (nI_toInt (by decide)) (by decide) ?_
      refine y_iconst CC ((-1)) dX4_steer_26 (by decide) ?_
      exact y_iret CC hQ dX4_steer_27 (⟨rfl, by simp [q_steer, b_1, ix_nI (show j < 2 ^ 31 by omega), b_3]⟩)
  · skip
    refine y_eq (st2 := [.null]) rfl ?_
    refine y_astoreN CC [(4, .null), (0, .ref (ad 0)), (1, .int a), (2, .int p), (3, .int m)] dX4_steer_8 (by decide) rfl ?_
    refine y_aloadN CC 0 dX4_steer_10 rfl ?_
    refine y_ifnullN CC 26 dX4_steer_12 (by decide) ?_
    refine y_iconst CC ((-1)) dX4_steer_26 (by decide) ?_
    exact y_iret CC hQ dX4_steer_27 (⟨rfl, by simp [q_steer, b_1]⟩)

set_option maxRecDepth 100000 in
set_option maxHeartbeats 4000000 in
theorem x_guard (l : Launch) (D : va_G) (ad : Nat → Nat) (kI kS kL : ClassId) (μ : Mem) (τ : Tn) (hT : TX μ 1 τ) (hV : tV τ)  : MI l D ad kI kS kL yX4_guard cX4_guard 1 (some .int) 5 117 [.ref (ad 0)] μ (fun r μ2 => μ = μ2 ∧ r = q_guard τ) := by
  refine met_I RX4 rfl (by decide) (lv := [(0, .ref (ad 0))]) rfl (Nat.le_of_ble_eq_true rfl) ?_
  intro pp ee ss mm aa bb me cd AA hA0 CC hnm QQ hQ
  have hB := hV.1
  have hP9 : tP τ ≤ 9 := hB.1
  have hS4 : tS τ ≤ 4 := hB.2.1
  have hVc := hV.2.1
  refine y_aload_n CC 0 dX4_guard_0 rfl rfl ?_
  refine y_getr CC gl_X4_14 (by omega) (d := 1) rfl dX4_guard_1 ?_
  refine y_callVI (ci := 3) (st := []) CC cl_X4_110 (k_isThere l D ad kI kS kL μ 1 (by omega) τ hT hB) (by omega) rfl rfl rfl (Nat.le_of_ble_eq_true rfl) ⟨by decide, by decide⟩ ⟨Nat.zero_le _, Nat.zero_le _⟩ dX4_guard_4 (fun r_ μ_ w_2 => ?_)
  rcases w_2 with ⟨rfl, ⟨b_1, rfl⟩ | ⟨b_1, rfl⟩⟩
  · skip
    have hb_b_1 := of_decide_eq_true b_1
    refine z_if_eqF CC 20 dX4_guard_7 (by decide) (a := (1 : Int)) (nI_toInt (by decide)) (by decide) ?_
    refine y_aload_n CC 0 dX4_guard_10 rfl rfl ?_
    refine y_getr CC gl_X4_14 (by omega) (d := 1) rfl dX4_guard_11 ?_
    refine y_callVI (ci := 3) (st := []) CC cl_X4_154 (k_placeWhereMostCome l D ad kI kS kL μ 1 (by omega) τ hT hB (by omega)) (by omega) rfl rfl rfl (Nat.le_of_ble_eq_true rfl) ⟨by decide, by decide⟩ ⟨Nat.zero_le _, Nat.zero_le _⟩ dX4_guard_14 (fun r_ μ_ w_3 => ?_)
    obtain ⟨rfl, rfl⟩ := w_3
    refine y_goto CC 22 dX4_guard_17 (by decide) ?_
    exact y_iret CC hQ dX4_guard_22 (⟨rfl, by simp [q_guard, b_1, hb_b_1]⟩)
  · skip
    have hb_b_1 := of_decide_eq_false b_1
    refine z_if_eqT CC 20 dX4_guard_7 (by decide) (a := (0 : Int)) (nI_toInt (by decide)) (by decide) ?_
    refine y_bipush CC ((-3)) dX4_guard_20 (by decide) ?_
    exact y_iret CC hQ dX4_guard_22 (⟨rfl, by simp [q_guard, b_1, hb_b_1]⟩)

set_option maxRecDepth 100000 in
set_option maxHeartbeats 4000000 in
theorem x_reading (l : Launch) (D : va_G) (ad : Nat → Nat) (kI kS kL : ClassId) (μ : Mem) (τ : Tn) (hT : TX μ 1 τ) (hV : tV τ) (ρ : Tn) (hR : RX μ ρ) (hrb : rB τ ρ) (a m p : Int32) : MI l D ad kI kS kL yX4_reading cX4_reading 4 (some .int) 1 23 [.ref (ad 0), .int a, .int m, .int p] μ (fun r μ2 => (μ2 = if ok_reading τ ρ a m p = true then mu (mu (mu (mu μ 11 (ρ 3 0) a) 12 (ρ 3 0) m) 13 (ρ 3 0) p) 3 3 (nI (ρ 3 0 + 1)) else μ) ∧ r = q_reading τ ρ a m p) := by
  refine met_I RX4 rfl (by decide) (lv := [(0, .ref (ad 0)), (1, .int a), (2, .int m), (3, .int p)]) rfl (Nat.le_of_ble_eq_true rfl) ?_
  intro pp ee ss mm aa bb me cd AA hA0 CC hnm QQ hQ
  have hB := hV.1
  have hP9 : tP τ ≤ 9 := hB.1
  have hS4 : tS τ ≤ 4 := hB.2.1
  have hVc := hV.2.1
  have hR8 := hrb.1
  refine y_aload_n CC 0 dX4_reading_0 rfl rfl ?_
  refine y_getr CC gl_X4_14 (by omega) (d := 1) rfl dX4_reading_1 ?_
  refine y_iload_n CC 1 dX4_reading_4 rfl rfl ?_
  refine y_callVI (ci := 3) (st := []) CC cl_X4_98 (k_hasSleeper l D ad kI kS kL μ 1 (by omega) τ hT hB a) (by omega) rfl rfl rfl (Nat.le_of_ble_eq_true rfl) ⟨by decide, by decide⟩ ⟨Nat.zero_le _, Nat.zero_le _⟩ dX4_reading_5 (fun r_ μ_ w_3 => ?_)
  rcases w_3 with ⟨rfl, ⟨b_1, rfl⟩ | ⟨b_1, rfl⟩⟩
  · skip
    obtain ⟨j_2, hj_2, rfl⟩ := inB_of b_1 (by omega)
    refine z_if_eqF CC 22 dX4_reading_8 (by decide) (a := (1 : Int)) (nI_toInt (by decide)) (by decide) ?_
    refine y_aload_n CC 0 dX4_reading_11 rfl rfl ?_
    refine y_getr CC gl_X4_14 (by omega) (d := 1) rfl dX4_reading_12 ?_
    refine y_iload_n CC 3 dX4_reading_15 rfl rfl ?_
    refine y_callVI (ci := 3) (st := []) CC cl_X4_88 (k_hasPlace l D ad kI kS kL μ 1 (by omega) τ hT hB p) (by omega) rfl rfl rfl (Nat.le_of_ble_eq_true rfl) ⟨by decide, by decide⟩ ⟨Nat.zero_le _, Nat.zero_le _⟩ dX4_reading_16 (fun r_ μ_ w_6 => ?_)
    rcases w_6 with ⟨rfl, ⟨b_4, rfl⟩ | ⟨b_4, rfl⟩⟩
    · skip
      obtain ⟨j_5, hj_5, rfl⟩ := inB_of b_4 (by omega)
      refine z_if_neT CC 24 dX4_reading_19 (by decide) (a := (1 : Int)) (nI_toInt (by decide)) (by decide) ?_
      refine y_iload_n CC 2 dX4_reading_24 rfl rfl ?_
      refine y_callSI (st := []) CC cl_X4_101 (k_isMinute l D ad kI kS kL μ m) rfl rfl (Nat.le_of_ble_eq_true rfl) ⟨by decide, by decide⟩ ⟨Nat.zero_le _, Nat.zero_le _⟩ dX4_reading_25 (fun r_ μ_ w_9 => ?_)
      rcases w_9 with ⟨rfl, ⟨b_7, rfl⟩ | ⟨b_7, rfl⟩⟩
      · skip
        obtain ⟨m_8, hm_8, rfl⟩ := inB_of b_7 (by omega)
        refine z_if_neT CC 34 dX4_reading_28 (by decide) (a := (1 : Int)) (nI_toInt (by decide)) (by decide) ?_
        refine y_aload_n CC 0 dX4_reading_34 rfl rfl ?_
        refine y_getr CC gl_X4_24 (by omega) (d := 3) rfl dX4_reading_35 ?_
        refine y_iload_n CC 1 dX4_reading_38 rfl rfl ?_
        refine y_iload_n CC 2 dX4_reading_39 rfl rfl ?_
        refine y_iload_n CC 3 dX4_reading_40 rfl rfl ?_
        refine y_callVI (ci := 0) (st := []) CC cl_X4_157 (k_add l D ad kI kS kL μ ρ hR hR8 j_2 m_8 j_5) (by omega) rfl rfl rfl (Nat.le_of_ble_eq_true rfl) ⟨by decide, by decide⟩ ⟨Nat.zero_le _, Nat.zero_le _⟩ dX4_reading_41 (fun r_ μ_ w_10 => ?_)
        rcases w_10 with ⟨h8, rfl, rfl⟩ | ⟨h8, rfl, rfl⟩
        · skip
          exact y_iret CC hQ dX4_reading_44 (⟨by simp [ok_reading, b_1, ix_nI (show j_2 < 2 ^ 31 by omega), b_4, ix_nI (show j_5 < 2 ^ 31 by omega), b_7, ix_nI (show m_8 < 2 ^ 31 by omega), h8], by simp [q_reading, b_1, ix_nI (show j_2 < 2 ^ 31 by omega), b_4, ix_nI (show j_5 < 2 ^ 31 by omega), b_7, ix_nI (show m_8 < 2 ^ 31 by omega), h8]⟩)
        · skip
          exact y_iret CC hQ dX4_reading_44 (⟨by simp [ok_reading, b_1, ix_nI (show j_2 < 2 ^ 31 by omega), b_4, ix_nI (show j_5 < 2 ^ 31 by omega), b_7, ix_nI (show m_8 < 2 ^ 31 by omega), h8, show ¬ ρ 3 0 = 8 by omega], by simp [q_reading, b_1, ix_nI (show j_2 < 2 ^ 31 by omega), b_4, ix_nI (show j_5 < 2 ^ 31 by omega), b_7, ix_nI (show m_8 < 2 ^ 31 by omega), h8, show ¬ ρ 3 0 = 8 by omega]⟩)
      · skip
        refine z_if_neF CC 34 dX4_reading_28 (by decide) (a := (0 : Int)) (nI_toInt (by decide)) (by decide) ?_
        refine y_bipush CC ((-2)) dX4_reading_31 (by decide) ?_
        exact y_iret CC hQ dX4_reading_33 (⟨by simp [ok_reading, b_1, ix_nI (show j_2 < 2 ^ 31 by omega), b_4, ix_nI (show j_5 < 2 ^ 31 by omega), b_7], by simp [q_reading, b_1, ix_nI (show j_2 < 2 ^ 31 by omega), b_4, ix_nI (show j_5 < 2 ^ 31 by omega), b_7]⟩)
    · skip
      refine z_if_neF CC 24 dX4_reading_19 (by decide) (a := (0 : Int)) (nI_toInt (by decide)) (by decide) ?_
      refine y_iconst CC ((-1)) dX4_reading_22 (by decide) ?_
      exact y_iret CC hQ dX4_reading_23 (⟨by simp [ok_reading, b_1, ix_nI (show j_2 < 2 ^ 31 by omega), b_4], by simp [q_reading, b_1, ix_nI (show j_2 < 2 ^ 31 by omega), b_4]⟩)
  · skip
    refine z_if_eqT CC 22 dX4_reading_8 (by decide) (a := (0 : Int)) (nI_toInt (by decide)) (by decide) ?_
    refine y_iconst CC ((-1)) dX4_reading_22 (by decide) ?_
    exact y_iret CC hQ dX4_reading_23 (⟨by simp [ok_reading, b_1], by simp [q_reading, b_1]⟩)

set_option maxRecDepth 100000 in
set_option maxHeartbeats 4000000 in
theorem x_back (l : Launch) (D : va_G) (ad : Nat → Nat) (kI kS kL : ClassId) (μ : Mem) (τ : Tn) (hT : TX μ 1 τ) (hV : tV τ) (ρ : Tn) (hR : RX μ ρ) (hrb : rB τ ρ) (k : Int32) : MI l D ad kI kS kL yX4_back cX4_back 2 (some .int) 1 21 [.ref (ad 0), .int k] μ (fun r μ2 => (μ2 = if inB k (ρ 3 0 + 1) = true then mu μ 3 3 (nI (ρ 3 0 - ix k)) else μ) ∧ r = q_back ρ k) := by
  refine met_I RX4 rfl (by decide) (lv := [(0, .ref (ad 0)), (1, .int k)]) rfl (Nat.le_of_ble_eq_true rfl) ?_
  intro pp ee ss mm aa bb me cd AA hA0 CC hnm QQ hQ
  have hB := hV.1
  have hP9 : tP τ ≤ 9 := hB.1
  have hS4 : tS τ ≤ 4 := hB.2.1
  have hVc := hV.2.1
  have hR8 := hrb.1
  refine y_iload_n CC 1 dX4_back_0 rfl rfl ?_
  refine z_if_lt CC 15 dX4_back_1 (by decide) (a := (k).toInt) rfl (fun c_1 => ?_) (fun c_1 => ?_)
  · skip
    have hk_ : inB k (ρ 3 0 + 1) = false := inB_f (by omega)
    refine y_bipush CC ((-2)) dX4_back_15 (by decide) ?_
    exact y_iret CC hQ dX4_back_17 (⟨by simp [hk_], by simp [q_back, hk_]⟩)
  · skip
    refine y_iload_n CC 1 dX4_back_4 rfl rfl ?_
    refine y_aload_n CC 0 dX4_back_5 rfl rfl ?_
    refine y_getr CC gl_X4_24 (by omega) (d := 3) rfl dX4_back_6 ?_
    refine y_callVI (ci := 0) (st := [.int k]) CC cl_X4_160 (k_howMany l D ad kI kS kL μ ρ hR (by omega)) (by omega) rfl rfl rfl (Nat.le_of_ble_eq_true rfl) ⟨by decide, by decide⟩ ⟨Nat.zero_le _, Nat.zero_le _⟩ dX4_back_9 (fun r_ μ_ w_2 => ?_)
    obtain ⟨rfl, rfl⟩ := w_2
    refine z_icmp_le CC 18 dX4_back_12 (by decide) (a := (k).toInt) (b := ((ρ 3 0 : Nat) : Int)) rfl (nI_toInt (by omega)) (fun c_3 => ?_) (fun c_3 => ?_)
    · skip
      obtain ⟨j, hj, rfl⟩ := inB_of (x := k) (n := ρ 3 0 + 1) (inB_t (by omega)) (by omega)
      have hk_ : inB (nI j) (ρ 3 0 + 1) = true := inB_nI hj (by omega)
      refine y_aload_n CC 0 dX4_back_18 rfl rfl ?_
      refine y_getr CC gl_X4_24 (by omega) (d := 3) rfl dX4_back_19 ?_
      refine y_aload_n CC 0 dX4_back_22 rfl rfl ?_
      refine y_getr CC gl_X4_24 (by omega) (d := 3) rfl dX4_back_23 ?_
      refine y_callVI (ci := 0) (st := [.ref (ad 3)]) CC cl_X4_160 (k_howMany l D ad kI kS kL μ ρ hR (by omega)) (by omega) rfl rfl rfl (Nat.le_of_ble_eq_true rfl) ⟨by decide, by decide⟩ ⟨Nat.zero_le _, Nat.zero_le _⟩ dX4_back_26 (fun r_ μ_ w_4 => ?_)
      obtain ⟨rfl, rfl⟩ := w_4
      refine y_iload_n CC 1 dX4_back_29 rfl rfl ?_
      refine y_isub CC dX4_back_30 (v := nI ((ρ 3 0) - j)) (pk_sub (by omega)) ?_
      refine y_callVV (ci := 0) (st := []) CC cl_X4_65 (k_keepFirst l D ad kI kS kL μ ρ hR (by omega) ((ρ 3 0) - j)) (by omega) rfl rfl rfl (Nat.le_of_ble_eq_true rfl) ⟨by decide, by decide⟩ ⟨Nat.zero_le _, Nat.zero_le _⟩ dX4_back_31 (fun μ_ w_5 => ?_)
      obtain rfl := w_5
      refine y_aload_n CC 0 dX4_back_34 rfl rfl ?_
      refine y_getr CC gl_X4_24 (by omega) (d := 3) rfl dX4_back_35 ?_
      refine y_callVI (ci := 0) (st := []) CC cl_X4_160 (k_howMany l D ad kI kS kL (mu μ 3 3 (nI ((ρ 3 0) - j))) (tu ρ 3 0 (ρ 3 0 - j)) ⟨mu_at _ _ _ _, fun i hi => by rw [mu_ne _ _ (Or.inl (by decide)), mu_ne _ _ (Or.inl (by decide)), mu_ne _ _ (Or.inl (by decide))]; exact hR.2 i hi⟩ (by rw [tu_at]; omega)) (by omega) rfl rfl rfl (Nat.le_of_ble_eq_true rfl) ⟨by decide, by decide⟩ ⟨Nat.zero_le _, Nat.zero_le _⟩ dX4_back_38 (fun r_ μ_ w_6 => ?_)
      obtain ⟨rfl, rfl⟩ := w_6
      rw [tu_at]
      exact y_iret CC hQ dX4_back_41 (⟨by simp [hk_, ix_nI (show j < 2 ^ 31 by omega)], by simp [q_back, hk_, ix_nI (show j < 2 ^ 31 by omega)]⟩)
    · skip
      have hk_ : inB k (ρ 3 0 + 1) = false := inB_f (by omega)
      refine y_bipush CC ((-2)) dX4_back_15 (by decide) ?_
      exact y_iret CC hQ dX4_back_17 (⟨by simp [hk_], by simp [q_back, hk_]⟩)

set_option maxRecDepth 100000 in
set_option maxHeartbeats 4000000 in
theorem x_strides (l : Launch) (D : va_G) (ad : Nat → Nat) (kI kS kL : ClassId) (μ : Mem) (τ : Tn) (hT : TX μ 1 τ) (hV : tV τ) (ρ : Tn) (hR : RX μ ρ) (hrb : rB τ ρ) (a : Int32) : MI l D ad kI kS kL yX4_strides cX4_strides 5 (some .int) 4 96 [.ref (ad 0), .int a] μ (fun r μ2 => μ = μ2 ∧ r = q_strides τ ρ a) := by
  refine met_I RX4 rfl (by decide) (lv := [(0, .ref (ad 0)), (1, .int a)]) rfl (Nat.le_of_ble_eq_true rfl) ?_
  intro pp ee ss mm aa bb me cd AA hA0 CC hnm QQ hQ
  have hB := hV.1
  have hP9 : tP τ ≤ 9 := hB.1
  have hS4 : tS τ ≤ 4 := hB.2.1
  have hVc := hV.2.1
  have hR8 := hrb.1
  refine y_aload_n CC 0 dX4_strides_0 rfl rfl ?_
  refine y_getr CC gl_X4_14 (by omega) (d := 1) rfl dX4_strides_1 ?_
  refine y_iload_n CC 1 dX4_strides_4 rfl rfl ?_
  refine y_callVN (ci := 3) (st := []) CC cl_X4_73 (k_sleeperOrNull l D ad kI kS kL μ 1 (by omega) τ hT hB a) (by omega) rfl rfl rfl (Nat.le_of_ble_eq_true rfl) ⟨by decide, by decide⟩ ⟨Nat.zero_le _, Nat.zero_le _⟩ dX4_strides_5 (fun r_ μ_ w_2 => ?_)
  rcases w_2 with ⟨rfl, ⟨b_1, rfl⟩ | ⟨b_1, rfl⟩⟩
  · skip
    obtain ⟨j, hj, rfl⟩ := inB_of b_1 (by omega)
    refine y_eq (st2 := [.ref (ad (4 * 1 + 18 + j))]) (by rw [ix_nI (by omega)]; rfl) ?_
    refine y_astore_n CC [(2, .ref (ad (4 * 1 + 18 + j))), (0, .ref (ad 0)), (1, .int (nI j))] dX4_strides_8 rfl (by decide) rfl ?_
    refine y_aload_n CC 0 dX4_strides_9 rfl rfl ?_
    refine y_ifnonnull CC 15 dX4_strides_10 (by decide) ?_
    have hkb := hB.2.2.1 j (by omega)
    refine y_iconst CC (nI 0) dX4_strides_15 (by decide) ?_
    refine y_istore_n CC [(3, .int (nI 0)), (2, .ref (ad (4 * 1 + 18 + j))), (0, .ref (ad 0)), (1, .int (nI j))] dX4_strides_16 rfl (by decide) rfl ?_
    refine y_iconst CC (nI 0) dX4_strides_17 (by decide) ?_
    refine y_istore CC [(4, .int (nI 0)), (3, .int (nI 0)), (2, .ref (ad (4 * 1 + 18 + j))), (0, .ref (ad 0)), (1, .int (nI j))] dX4_strides_18 (by decide) rfl ?_
    have L20 : ∀ (n20 : Nat) (v : Nat), 4 - v < n20 → (v ≤ 4) → Y pp l ee (rmY 4 96) ss mm aa bb me cd D ad kI kS kL AA 5 0 0 QQ 20 [(4, .int (nI v)), (3, .int (nI (bs v (fun v_ => soB (tu τ 3 j v_) ρ)))), (2, .ref (ad (4 * 1 + 18 + j))), (0, .ref (ad 0)), (1, .int (nI j))] [] μ := by
      intro n20
      induction n20 with
      | zero => intro v hm20; exact absurd hm20 (Nat.not_lt_zero _)
      | succ n20 ih20 =>
        intro v hm20 hv
        refine y_iload CC 0 dX4_strides_20 rfl ?_
        refine y_iconst CC (nI 3) dX4_strides_22 (by decide) ?_
        refine z_icmp_gt CC 65 dX4_strides_23 (by decide) (a := ((v : Nat) : Int)) (b := (3 : Int)) (nI_toInt (by omega)) (nI_toInt (by decide)) (fun c_4 => ?_) (fun c_4 => ?_)
        · skip
          refine y_iload_n CC 1 dX4_strides_65 rfl rfl ?_
          exact y_iret CC hQ dX4_strides_66 (⟨rfl, by simp [q_strides, b_1, ix_nI (show j < 2 ^ 31 by omega)]; rw [show v = 4 by omega]⟩)
        · skip
          refine y_aload_n CC 3 dX4_strides_26 rfl rfl ?_
          refine y_getr CC gl_X4_24 (by omega) (d := 3) rfl dX4_strides_27 ?_
          refine y_aload_n CC 3 dX4_strides_30 rfl rfl ?_
          refine y_getr CC gl_X4_14 (by omega) (d := 1) rfl dX4_strides_31 ?_
          refine y_iload_n CC 4 dX4_strides_34 rfl rfl ?_
          refine y_aload_n CC 2 dX4_strides_35 rfl rfl ?_
          refine y_geti CC gl_X4_77 (by omega) rfl (v := nI (tK τ j)) (hT.2.2.1 j (by omega)).1 dX4_strides_36 ?_
          refine y_aload_n CC 2 dX4_strides_39 rfl rfl ?_
          refine y_geti CC gl_X4_82 (by omega) rfl (v := nI (tA τ j)) (hT.2.2.1 j (by omega)).2.1 dX4_strides_40 ?_
          refine y_iload CC 0 dX4_strides_43 rfl ?_
          refine y_callVI (ci := 0) (st := []) CC cl_X4_163 (k_areSo l D ad kI kS kL μ ρ hR (by omega) 1 (by omega) τ hT hB (by omega) hrb (tu τ 3 j v) j (tK τ j) (tA τ j) v (by omega) (by omega) (by omega) (by omega) (fun m_ => by simp [pl, pif, tu]) (fun b_ m_ h_ => by simp [pl, pif, tu, h_])) (by omega) rfl rfl rfl (Nat.le_of_ble_eq_true rfl) ⟨by decide, by decide⟩ ⟨Nat.zero_le _, Nat.zero_le _⟩ dX4_strides_45 (fun r_ μ_ w_6 => ?_)
          rcases w_6 with ⟨rfl, ⟨b_5, rfl⟩ | ⟨b_5, rfl⟩⟩
          · skip
            refine z_if_eqF CC 59 dX4_strides_48 (by decide) (a := (1 : Int)) (nI_toInt (by decide)) (by decide) ?_
            refine y_iload_n CC 1 dX4_strides_51 rfl rfl ?_
            refine y_iload CC 0 dX4_strides_52 rfl ?_
            refine y_callSI (st := [.int (nI (bs v (fun v_ => soB (tu τ 3 j v_) ρ)))]) CC cl_X4_132 (k_bit l D ad kI kS kL μ v (by omega)) rfl rfl (Nat.le_of_ble_eq_true rfl) ⟨by decide, by decide⟩ ⟨Nat.zero_le _, Nat.zero_le _⟩ dX4_strides_54 (fun r_ μ_ w_7 => ?_)
            obtain ⟨rfl, rfl⟩ := w_7
            refine y_ior CC dX4_strides_57 (v := nI (bs (v + 1) (fun v_ => soB (tu τ 3 j v_) ρ))) ((i_or _ _).trans (by rw [bs, if_pos b_5])) ?_
            refine y_istore_n CC [(3, .int (nI (bs (v + 1) (fun v_ => soB (tu τ 3 j v_) ρ)))), (4, .int (nI v)), (2, .ref (ad (4 * 1 + 18 + j))), (0, .ref (ad 0)), (1, .int (nI j))] dX4_strides_58 rfl (by decide) rfl ?_
            refine y_iinc CC 1 (nI (v + 1)) [(4, .int (nI (v + 1))), (3, .int (nI (bs (v + 1) (fun v_ => soB (tu τ 3 j v_) ρ)))), (2, .ref (ad (4 * 1 + 18 + j))), (0, .ref (ad 0)), (1, .int (nI j))] dX4_strides_59 rfl (i_inc _) (by decide) rfl ?_
            refine y_goto CC 20 dX4_strides_62 (by decide) ?_
            exact ih20 (v + 1) (by omega) (by omega)
          · skip
            refine z_if_eqT CC 59 dX4_strides_48 (by decide) (a := (0 : Int)) (nI_toInt (by decide)) (by decide) ?_
            refine y_lvE (lv2 := [(4, .int (nI v)), (3, .int (nI (bs (v + 1) (fun v_ => soB (tu τ 3 j v_) ρ)))), (2, .ref (ad (4 * 1 + 18 + j))), (0, .ref (ad 0)), (1, .int (nI j))]) (by rw [bs, if_neg (by rw [b_5]; decide), Nat.or_zero]) ?_
            refine y_iinc CC 0 (nI (v + 1)) [(4, .int (nI (v + 1))), (3, .int (nI (bs (v + 1) (fun v_ => soB (tu τ 3 j v_) ρ)))), (2, .ref (ad (4 * 1 + 18 + j))), (0, .ref (ad 0)), (1, .int (nI j))] dX4_strides_59 rfl (i_inc _) (by decide) rfl ?_
            refine y_goto CC 20 dX4_strides_62 (by decide) ?_
            exact ih20 (v + 1) (by omega) (by omega)
    exact L20 _ 0 (Nat.lt_succ_self _) (Nat.zero_le _)
  · skip
    refine y_eq (st2 := [.null]) rfl ?_
    refine y_astore_nN CC [(2, .null), (0, .ref (ad 0)), (1, .int a)] dX4_strides_8 rfl (by decide) rfl ?_
    refine y_aload_nN CC 0 dX4_strides_9 rfl rfl ?_
    refine y_ifnonnullN CC 15 dX4_strides_10 (by decide) ?_
    refine y_iconst CC ((-1)) dX4_strides_13 (by decide) ?_
    exact y_iret CC hQ dX4_strides_14 (⟨rfl, by simp [q_strides, b_1]⟩)

set_option maxRecDepth 100000 in
set_option maxHeartbeats 4000000 in
theorem x_kinds (l : Launch) (D : va_G) (ad : Nat → Nat) (kI kS kL : ClassId) (μ : Mem) (τ : Tn) (hT : TX μ 1 τ) (hV : tV τ) (ρ : Tn) (hR : RX μ ρ) (hrb : rB τ ρ) (a : Int32) : MI l D ad kI kS kL yX4_kinds cX4_kinds 5 (some .int) 4 96 [.ref (ad 0), .int a] μ (fun r μ2 => μ = μ2 ∧ r = q_kinds τ ρ a) := by
  refine met_I RX4 rfl (by decide) (lv := [(0, .ref (ad 0)), (1, .int a)]) rfl (Nat.le_of_ble_eq_true rfl) ?_
  intro pp ee ss mm aa bb me cd AA hA0 CC hnm QQ hQ
  have hB := hV.1
  have hP9 : tP τ ≤ 9 := hB.1
  have hS4 : tS τ ≤ 4 := hB.2.1
  have hVc := hV.2.1
  have hR8 := hrb.1
  refine y_aload_n CC 0 dX4_kinds_0 rfl rfl ?_
  refine y_getr CC gl_X4_14 (by omega) (d := 1) rfl dX4_kinds_1 ?_
  refine y_iload_n CC 1 dX4_kinds_4 rfl rfl ?_
  refine y_callVN (ci := 3) (st := []) CC cl_X4_73 (k_sleeperOrNull l D ad kI kS kL μ 1 (by omega) τ hT hB a) (by omega) rfl rfl rfl (Nat.le_of_ble_eq_true rfl) ⟨by decide, by decide⟩ ⟨Nat.zero_le _, Nat.zero_le _⟩ dX4_kinds_5 (fun r_ μ_ w_2 => ?_)
  rcases w_2 with ⟨rfl, ⟨b_1, rfl⟩ | ⟨b_1, rfl⟩⟩
  · skip
    obtain ⟨j, hj, rfl⟩ := inB_of b_1 (by omega)
    refine y_eq (st2 := [.ref (ad (4 * 1 + 18 + j))]) (by rw [ix_nI (by omega)]; rfl) ?_
    refine y_astore_n CC [(2, .ref (ad (4 * 1 + 18 + j))), (0, .ref (ad 0)), (1, .int (nI j))] dX4_kinds_8 rfl (by decide) rfl ?_
    refine y_aload_n CC 0 dX4_kinds_9 rfl rfl ?_
    refine y_ifnonnull CC 15 dX4_kinds_10 (by decide) ?_
    have hkb := hB.2.2.1 j (by omega)
    refine y_iconst CC (nI 0) dX4_kinds_15 (by decide) ?_
    refine y_istore_n CC [(3, .int (nI 0)), (2, .ref (ad (4 * 1 + 18 + j))), (0, .ref (ad 0)), (1, .int (nI j))] dX4_kinds_16 rfl (by decide) rfl ?_
    refine y_iconst CC (nI 0) dX4_kinds_17 (by decide) ?_
    refine y_istore CC [(4, .int (nI 0)), (3, .int (nI 0)), (2, .ref (ad (4 * 1 + 18 + j))), (0, .ref (ad 0)), (1, .int (nI j))] dX4_kinds_18 (by decide) rfl ?_
    have L20 : ∀ (n20 : Nat) (v : Nat), 3 - v < n20 → (v ≤ 3) → Y pp l ee (rmY 4 96) ss mm aa bb me cd D ad kI kS kL AA 5 0 0 QQ 20 [(4, .int (nI v)), (3, .int (nI (bs v (fun v_ => soB (tu τ 1 j v_) ρ)))), (2, .ref (ad (4 * 1 + 18 + j))), (0, .ref (ad 0)), (1, .int (nI j))] [] μ := by
      intro n20
      induction n20 with
      | zero => intro v hm20; exact absurd hm20 (Nat.not_lt_zero _)
      | succ n20 ih20 =>
        intro v hm20 hv
        refine y_iload CC 0 dX4_kinds_20 rfl ?_
        refine y_iconst CC (nI 2) dX4_kinds_22 (by decide) ?_
        refine z_icmp_gt CC 65 dX4_kinds_23 (by decide) (a := ((v : Nat) : Int)) (b := (2 : Int)) (nI_toInt (by omega)) (nI_toInt (by decide)) (fun c_4 => ?_) (fun c_4 => ?_)
        · skip
          refine y_iload_n CC 1 dX4_kinds_65 rfl rfl ?_
          exact y_iret CC hQ dX4_kinds_66 (⟨rfl, by simp [q_kinds, b_1, ix_nI (show j < 2 ^ 31 by omega)]; rw [show v = 3 by omega]⟩)
        · skip
          refine y_aload_n CC 3 dX4_kinds_26 rfl rfl ?_
          refine y_getr CC gl_X4_24 (by omega) (d := 3) rfl dX4_kinds_27 ?_
          refine y_aload_n CC 3 dX4_kinds_30 rfl rfl ?_
          refine y_getr CC gl_X4_14 (by omega) (d := 1) rfl dX4_kinds_31 ?_
          refine y_iload_n CC 4 dX4_kinds_34 rfl rfl ?_
          refine y_iload CC 0 dX4_kinds_35 rfl ?_
          refine y_aload_n CC 2 dX4_kinds_37 rfl rfl ?_
          refine y_geti CC gl_X4_82 (by omega) rfl (v := nI (tA τ j)) (hT.2.2.1 j (by omega)).2.1 dX4_kinds_38 ?_
          refine y_aload_n CC 2 dX4_kinds_41 rfl rfl ?_
          refine y_geti CC gl_X4_85 (by omega) rfl (v := nI (tD τ j)) (hT.2.2.1 j (by omega)).2.2 dX4_kinds_42 ?_
          refine y_callVI (ci := 0) (st := []) CC cl_X4_163 (k_areSo l D ad kI kS kL μ ρ hR (by omega) 1 (by omega) τ hT hB (by omega) hrb (tu τ 1 j v) j v (tA τ j) (tD τ j) (by omega) (by omega) (by omega) (by omega) (fun m_ => by simp [pl, pif, tu]) (fun b_ m_ h_ => by simp [pl, pif, tu, h_])) (by omega) rfl rfl rfl (Nat.le_of_ble_eq_true rfl) ⟨by decide, by decide⟩ ⟨Nat.zero_le _, Nat.zero_le _⟩ dX4_kinds_45 (fun r_ μ_ w_6 => ?_)
          rcases w_6 with ⟨rfl, ⟨b_5, rfl⟩ | ⟨b_5, rfl⟩⟩
          · skip
            refine z_if_eqF CC 59 dX4_kinds_48 (by decide) (a := (1 : Int)) (nI_toInt (by decide)) (by decide) ?_
            refine y_iload_n CC 1 dX4_kinds_51 rfl rfl ?_
            refine y_iload CC 0 dX4_kinds_52 rfl ?_
            refine y_callSI (st := [.int (nI (bs v (fun v_ => soB (tu τ 1 j v_) ρ)))]) CC cl_X4_132 (k_bit l D ad kI kS kL μ v (by omega)) rfl rfl (Nat.le_of_ble_eq_true rfl) ⟨by decide, by decide⟩ ⟨Nat.zero_le _, Nat.zero_le _⟩ dX4_kinds_54 (fun r_ μ_ w_7 => ?_)
            obtain ⟨rfl, rfl⟩ := w_7
            refine y_ior CC dX4_kinds_57 (v := nI (bs (v + 1) (fun v_ => soB (tu τ 1 j v_) ρ))) ((i_or _ _).trans (by rw [bs, if_pos b_5])) ?_
            refine y_istore_n CC [(3, .int (nI (bs (v + 1) (fun v_ => soB (tu τ 1 j v_) ρ)))), (4, .int (nI v)), (2, .ref (ad (4 * 1 + 18 + j))), (0, .ref (ad 0)), (1, .int (nI j))] dX4_kinds_58 rfl (by decide) rfl ?_
            refine y_iinc CC 1 (nI (v + 1)) [(4, .int (nI (v + 1))), (3, .int (nI (bs (v + 1) (fun v_ => soB (tu τ 1 j v_) ρ)))), (2, .ref (ad (4 * 1 + 18 + j))), (0, .ref (ad 0)), (1, .int (nI j))] dX4_kinds_59 rfl (i_inc _) (by decide) rfl ?_
            refine y_goto CC 20 dX4_kinds_62 (by decide) ?_
            exact ih20 (v + 1) (by omega) (by omega)
          · skip
            refine z_if_eqT CC 59 dX4_kinds_48 (by decide) (a := (0 : Int)) (nI_toInt (by decide)) (by decide) ?_
            refine y_lvE (lv2 := [(4, .int (nI v)), (3, .int (nI (bs (v + 1) (fun v_ => soB (tu τ 1 j v_) ρ)))), (2, .ref (ad (4 * 1 + 18 + j))), (0, .ref (ad 0)), (1, .int (nI j))]) (by rw [bs, if_neg (by rw [b_5]; decide), Nat.or_zero]) ?_
            refine y_iinc CC 0 (nI (v + 1)) [(4, .int (nI (v + 1))), (3, .int (nI (bs (v + 1) (fun v_ => soB (tu τ 1 j v_) ρ)))), (2, .ref (ad (4 * 1 + 18 + j))), (0, .ref (ad 0)), (1, .int (nI j))] dX4_kinds_59 rfl (i_inc _) (by decide) rfl ?_
            refine y_goto CC 20 dX4_kinds_62 (by decide) ?_
            exact ih20 (v + 1) (by omega) (by omega)
    exact L20 _ 0 (Nat.lt_succ_self _) (Nat.zero_le _)
  · skip
    refine y_eq (st2 := [.null]) rfl ?_
    refine y_astore_nN CC [(2, .null), (0, .ref (ad 0)), (1, .int a)] dX4_kinds_8 rfl (by decide) rfl ?_
    refine y_aload_nN CC 0 dX4_kinds_9 rfl rfl ?_
    refine y_ifnonnullN CC 15 dX4_kinds_10 (by decide) ?_
    refine y_iconst CC ((-1)) dX4_kinds_13 (by decide) ?_
    exact y_iret CC hQ dX4_kinds_14 (⟨rfl, by simp [q_kinds, b_1]⟩)

set_option maxRecDepth 100000 in
set_option maxHeartbeats 4000000 in
theorem x_starts (l : Launch) (D : va_G) (ad : Nat → Nat) (kI kS kL : ClassId) (μ : Mem) (τ : Tn) (hT : TX μ 1 τ) (hV : tV τ) (ρ : Tn) (hR : RX μ ρ) (hrb : rB τ ρ) (a : Int32) : MI l D ad kI kS kL yX4_starts cX4_starts 5 (some .int) 4 96 [.ref (ad 0), .int a] μ (fun r μ2 => μ = μ2 ∧ r = q_starts τ ρ a) := by
  refine met_I RX4 rfl (by decide) (lv := [(0, .ref (ad 0)), (1, .int a)]) rfl (Nat.le_of_ble_eq_true rfl) ?_
  intro pp ee ss mm aa bb me cd AA hA0 CC hnm QQ hQ
  have hB := hV.1
  have hP9 : tP τ ≤ 9 := hB.1
  have hS4 : tS τ ≤ 4 := hB.2.1
  have hVc := hV.2.1
  have hR8 := hrb.1
  refine y_aload_n CC 0 dX4_starts_0 rfl rfl ?_
  refine y_getr CC gl_X4_14 (by omega) (d := 1) rfl dX4_starts_1 ?_
  refine y_iload_n CC 1 dX4_starts_4 rfl rfl ?_
  refine y_callVN (ci := 3) (st := []) CC cl_X4_73 (k_sleeperOrNull l D ad kI kS kL μ 1 (by omega) τ hT hB a) (by omega) rfl rfl rfl (Nat.le_of_ble_eq_true rfl) ⟨by decide, by decide⟩ ⟨Nat.zero_le _, Nat.zero_le _⟩ dX4_starts_5 (fun r_ μ_ w_2 => ?_)
  rcases w_2 with ⟨rfl, ⟨b_1, rfl⟩ | ⟨b_1, rfl⟩⟩
  · skip
    obtain ⟨j, hj, rfl⟩ := inB_of b_1 (by omega)
    refine y_eq (st2 := [.ref (ad (4 * 1 + 18 + j))]) (by rw [ix_nI (by omega)]; rfl) ?_
    refine y_astore_n CC [(2, .ref (ad (4 * 1 + 18 + j))), (0, .ref (ad 0)), (1, .int (nI j))] dX4_starts_8 rfl (by decide) rfl ?_
    refine y_aload_n CC 0 dX4_starts_9 rfl rfl ?_
    refine y_ifnonnull CC 15 dX4_starts_10 (by decide) ?_
    have hkb := hB.2.2.1 j (by omega)
    refine y_iconst CC (nI 0) dX4_starts_15 (by decide) ?_
    refine y_istore_n CC [(3, .int (nI 0)), (2, .ref (ad (4 * 1 + 18 + j))), (0, .ref (ad 0)), (1, .int (nI j))] dX4_starts_16 rfl (by decide) rfl ?_
    refine y_iconst CC (nI 0) dX4_starts_17 (by decide) ?_
    refine y_istore CC [(4, .int (nI 0)), (3, .int (nI 0)), (2, .ref (ad (4 * 1 + 18 + j))), (0, .ref (ad 0)), (1, .int (nI j))] dX4_starts_18 (by decide) rfl ?_
    have L20 : ∀ (n20 : Nat) (v : Nat), tP τ - v < n20 → (v ≤ tP τ) → Y pp l ee (rmY 4 96) ss mm aa bb me cd D ad kI kS kL AA 5 0 0 QQ 20 [(4, .int (nI v)), (3, .int (nI (bs v (fun v_ => soB (tu τ 2 j v_) ρ)))), (2, .ref (ad (4 * 1 + 18 + j))), (0, .ref (ad 0)), (1, .int (nI j))] [] μ := by
      intro n20
      induction n20 with
      | zero => intro v hm20; exact absurd hm20 (Nat.not_lt_zero _)
      | succ n20 ih20 =>
        intro v hm20 hv
        refine y_iload CC 0 dX4_starts_20 rfl ?_
        refine y_aload_n CC 3 dX4_starts_22 rfl rfl ?_
        refine y_getr CC gl_X4_14 (by omega) (d := 1) rfl dX4_starts_23 ?_
        refine y_callVI (ci := 3) (st := [.int (nI v)]) CC cl_X4_167 (k_placeCount l D ad kI kS kL μ 1 (by omega) τ hT hB) (by omega) rfl rfl rfl (Nat.le_of_ble_eq_true rfl) ⟨by decide, by decide⟩ ⟨Nat.zero_le _, Nat.zero_le _⟩ dX4_starts_26 (fun r_ μ_ w_4 => ?_)
        obtain ⟨rfl, rfl⟩ := w_4
        refine z_icmp_ge CC 71 dX4_starts_29 (by decide) (a := ((v : Nat) : Int)) (b := ((tP τ : Nat) : Int)) (nI_toInt (by omega)) (nI_toInt (by omega)) (fun c_5 => ?_) (fun c_5 => ?_)
        · skip
          refine y_iload_n CC 1 dX4_starts_71 rfl rfl ?_
          exact y_iret CC hQ dX4_starts_72 (⟨rfl, by simp [q_starts, b_1, ix_nI (show j < 2 ^ 31 by omega)]; rw [show v = tP τ by omega]⟩)
        · skip
          refine y_aload_n CC 3 dX4_starts_32 rfl rfl ?_
          refine y_getr CC gl_X4_24 (by omega) (d := 3) rfl dX4_starts_33 ?_
          refine y_aload_n CC 3 dX4_starts_36 rfl rfl ?_
          refine y_getr CC gl_X4_14 (by omega) (d := 1) rfl dX4_starts_37 ?_
          refine y_iload_n CC 4 dX4_starts_40 rfl rfl ?_
          refine y_aload_n CC 2 dX4_starts_41 rfl rfl ?_
          refine y_geti CC gl_X4_77 (by omega) rfl (v := nI (tK τ j)) (hT.2.2.1 j (by omega)).1 dX4_starts_42 ?_
          refine y_iload CC 0 dX4_starts_45 rfl ?_
          refine y_aload_n CC 2 dX4_starts_47 rfl rfl ?_
          refine y_geti CC gl_X4_85 (by omega) rfl (v := nI (tD τ j)) (hT.2.2.1 j (by omega)).2.2 dX4_starts_48 ?_
          refine y_callVI (ci := 0) (st := []) CC cl_X4_163 (k_areSo l D ad kI kS kL μ ρ hR (by omega) 1 (by omega) τ hT hB (by omega) hrb (tu τ 2 j v) j (tK τ j) v (tD τ j) (by omega) (by omega) (by omega) (by omega) (fun m_ => by simp [pl, pif, tu]) (fun b_ m_ h_ => by simp [pl, pif, tu, h_])) (by omega) rfl rfl rfl (Nat.le_of_ble_eq_true rfl) ⟨by decide, by decide⟩ ⟨Nat.zero_le _, Nat.zero_le _⟩ dX4_starts_51 (fun r_ μ_ w_7 => ?_)
          rcases w_7 with ⟨rfl, ⟨b_6, rfl⟩ | ⟨b_6, rfl⟩⟩
          · skip
            refine z_if_eqF CC 65 dX4_starts_54 (by decide) (a := (1 : Int)) (nI_toInt (by decide)) (by decide) ?_
            refine y_iload_n CC 1 dX4_starts_57 rfl rfl ?_
            refine y_iload CC 0 dX4_starts_58 rfl ?_
            refine y_callSI (st := [.int (nI (bs v (fun v_ => soB (tu τ 2 j v_) ρ)))]) CC cl_X4_132 (k_bit l D ad kI kS kL μ v (by omega)) rfl rfl (Nat.le_of_ble_eq_true rfl) ⟨by decide, by decide⟩ ⟨Nat.zero_le _, Nat.zero_le _⟩ dX4_starts_60 (fun r_ μ_ w_8 => ?_)
            obtain ⟨rfl, rfl⟩ := w_8
            refine y_ior CC dX4_starts_63 (v := nI (bs (v + 1) (fun v_ => soB (tu τ 2 j v_) ρ))) ((i_or _ _).trans (by rw [bs, if_pos b_6])) ?_
            refine y_istore_n CC [(3, .int (nI (bs (v + 1) (fun v_ => soB (tu τ 2 j v_) ρ)))), (4, .int (nI v)), (2, .ref (ad (4 * 1 + 18 + j))), (0, .ref (ad 0)), (1, .int (nI j))] dX4_starts_64 rfl (by decide) rfl ?_
            refine y_iinc CC 1 (nI (v + 1)) [(4, .int (nI (v + 1))), (3, .int (nI (bs (v + 1) (fun v_ => soB (tu τ 2 j v_) ρ)))), (2, .ref (ad (4 * 1 + 18 + j))), (0, .ref (ad 0)), (1, .int (nI j))] dX4_starts_65 rfl (i_inc _) (by decide) rfl ?_
            refine y_goto CC 20 dX4_starts_68 (by decide) ?_
            exact ih20 (v + 1) (by omega) (by omega)
          · skip
            refine z_if_eqT CC 65 dX4_starts_54 (by decide) (a := (0 : Int)) (nI_toInt (by decide)) (by decide) ?_
            refine y_lvE (lv2 := [(4, .int (nI v)), (3, .int (nI (bs (v + 1) (fun v_ => soB (tu τ 2 j v_) ρ)))), (2, .ref (ad (4 * 1 + 18 + j))), (0, .ref (ad 0)), (1, .int (nI j))]) (by rw [bs, if_neg (by rw [b_6]; decide), Nat.or_zero]) ?_
            refine y_iinc CC 0 (nI (v + 1)) [(4, .int (nI (v + 1))), (3, .int (nI (bs (v + 1) (fun v_ => soB (tu τ 2 j v_) ρ)))), (2, .ref (ad (4 * 1 + 18 + j))), (0, .ref (ad 0)), (1, .int (nI j))] dX4_starts_65 rfl (i_inc _) (by decide) rfl ?_
            refine y_goto CC 20 dX4_starts_68 (by decide) ?_
            exact ih20 (v + 1) (by omega) (by omega)
    exact L20 _ 0 (Nat.lt_succ_self _) (Nat.zero_le _)
  · skip
    refine y_eq (st2 := [.null]) rfl ?_
    refine y_astore_nN CC [(2, .null), (0, .ref (ad 0)), (1, .int a)] dX4_starts_8 rfl (by decide) rfl ?_
    refine y_aload_nN CC 0 dX4_starts_9 rfl rfl ?_
    refine y_ifnonnullN CC 15 dX4_starts_10 (by decide) ?_
    refine y_iconst CC ((-1)) dX4_starts_13 (by decide) ?_
    exact y_iret CC hQ dX4_starts_14 (⟨rfl, by simp [q_starts, b_1]⟩)

set_option maxRecDepth 100000 in
set_option maxHeartbeats 4000000 in
theorem x_many (l : Launch) (D : va_G) (ad : Nat → Nat) (kI kS kL : ClassId) (μ : Mem) (τ : Tn) (hT : TX μ 1 τ) (hV : tV τ) (ρ : Tn) (hR : RX μ ρ) (hrb : rB τ ρ) (w : Int32) : MI l D ad kI kS kL yX4_many cX4_many 2 (some .int) 3 64 [.ref (ad 0), .int w] μ (fun r μ2 => μ = μ2 ∧ r = q_many τ ρ w) := by
  refine met_I RX4 rfl (by decide) (lv := [(0, .ref (ad 0)), (1, .int w)]) rfl (Nat.le_of_ble_eq_true rfl) ?_
  intro pp ee ss mm aa bb me cd AA hA0 CC hnm QQ hQ
  have hB := hV.1
  have hP9 : tP τ ≤ 9 := hB.1
  have hS4 : tS τ ≤ 4 := hB.2.1
  have hVc := hV.2.1
  have hR8 := hrb.1
  refine y_iload_n CC 1 dX4_many_0 rfl rfl ?_
  rcases (show (w).toInt = 0 ∨ (w).toInt = 1 ∨ (w).toInt = 2 ∨ (w).toInt = 3 ∨ ((w).toInt < 0 ∨ 3 < (w).toInt) by omega) with sw_1 | sw_1 | sw_1 | sw_1 | sw_1
  · skip
    refine y_tableIn CC (off := 31) 32 dX4_many_1 (by omega) (by omega) (by rw [sw_1]; rfl) (by decide) ?_
    refine y_aload_n CC 0 dX4_many_32 rfl rfl ?_
    refine y_getr CC gl_X4_14 (by omega) (d := 1) rfl dX4_many_33 ?_
    refine y_callVI (ci := 3) (st := []) CC cl_X4_69 (k_sleeperCount l D ad kI kS kL μ 1 (by omega) τ hT hB) (by omega) rfl rfl rfl (Nat.le_of_ble_eq_true rfl) ⟨by decide, by decide⟩ ⟨Nat.zero_le _, Nat.zero_le _⟩ dX4_many_36 (fun r_ μ_ w_2 => ?_)
    obtain ⟨rfl, rfl⟩ := w_2
    exact y_iret CC hQ dX4_many_39 (⟨rfl, by simp [q_many, sw_1]⟩)
  · skip
    refine y_tableIn CC (off := 39) 40 dX4_many_1 (by omega) (by omega) (by rw [sw_1]; rfl) (by decide) ?_
    refine y_aload_n CC 0 dX4_many_40 rfl rfl ?_
    refine y_getr CC gl_X4_14 (by omega) (d := 1) rfl dX4_many_41 ?_
    refine y_callVI (ci := 3) (st := []) CC cl_X4_167 (k_placeCount l D ad kI kS kL μ 1 (by omega) τ hT hB) (by omega) rfl rfl rfl (Nat.le_of_ble_eq_true rfl) ⟨by decide, by decide⟩ ⟨Nat.zero_le _, Nat.zero_le _⟩ dX4_many_44 (fun r_ μ_ w_3 => ?_)
    obtain ⟨rfl, rfl⟩ := w_3
    exact y_iret CC hQ dX4_many_47 (⟨rfl, by simp [q_many, sw_1]⟩)
  · skip
    refine y_tableIn CC (off := 47) 48 dX4_many_1 (by omega) (by omega) (by rw [sw_1]; rfl) (by decide) ?_
    refine y_aload_n CC 0 dX4_many_48 rfl rfl ?_
    refine y_getr CC gl_X4_14 (by omega) (d := 1) rfl dX4_many_49 ?_
    refine y_callVI (ci := 3) (st := []) CC cl_X4_220 (k_goodsOfAll l D ad kI kS kL μ 1 (by omega) τ hT hB) (by omega) rfl rfl rfl (Nat.le_of_ble_eq_true rfl) ⟨by decide, by decide⟩ ⟨Nat.zero_le _, Nat.zero_le _⟩ dX4_many_52 (fun r_ μ_ w_4 => ?_)
    obtain ⟨rfl, rfl⟩ := w_4
    exact y_iret CC hQ dX4_many_55 (⟨rfl, by simp [q_many, sw_1]⟩)
  · skip
    refine y_tableIn CC (off := 55) 56 dX4_many_1 (by omega) (by omega) (by rw [sw_1]; rfl) (by decide) ?_
    refine y_aload_n CC 0 dX4_many_56 rfl rfl ?_
    refine y_getr CC gl_X4_24 (by omega) (d := 3) rfl dX4_many_57 ?_
    refine y_callVI (ci := 0) (st := []) CC cl_X4_160 (k_howMany l D ad kI kS kL μ ρ hR (by omega)) (by omega) rfl rfl rfl (Nat.le_of_ble_eq_true rfl) ⟨by decide, by decide⟩ ⟨Nat.zero_le _, Nat.zero_le _⟩ dX4_many_60 (fun r_ μ_ w_5 => ?_)
    obtain ⟨rfl, rfl⟩ := w_5
    exact y_iret CC hQ dX4_many_63 (⟨rfl, by simp [q_many, sw_1]⟩)
  · skip
    refine y_tableOut CC 64 dX4_many_1 sw_1 (by decide) ?_
    refine y_bipush CC ((-2)) dX4_many_64 (by decide) ?_
    exact y_iret CC hQ dX4_many_66 (⟨rfl, by unfold q_many; rw [if_neg (by omega), if_neg (by omega), if_neg (by omega), if_neg (by omega)]⟩)

set_option maxRecDepth 100000 in
set_option maxHeartbeats 4000000 in
theorem x_trace (l : Launch) (D : va_G) (ad : Nat → Nat) (kI kS kL : ClassId) (μ : Mem)  : MI l D ad kI kS kL yX4_trace cX4_trace 1 (some .int) 0 0 [.ref (ad 0)] μ (fun r μ2 => μ = μ2 ∧ r = μ 0 4) := by
  refine met_I RX4 rfl (by decide) (lv := [(0, .ref (ad 0))]) rfl (Nat.le_of_ble_eq_true rfl) ?_
  intro pp ee ss mm aa bb me cd AA hA0 CC hnm QQ hQ
  refine y_aload_n CC 0 dX4_trace_0 rfl rfl ?_
  refine y_geti CC gl_X4_34 (by omega) rfl (v := μ 0 4) rfl dX4_trace_1 ?_
  exact y_iret CC hQ dX4_trace_4 (⟨rfl, rfl⟩)

set_option maxRecDepth 100000 in
set_option maxHeartbeats 4000000 in
theorem x_fault (l : Launch) (D : va_G) (ad : Nat → Nat) (kI kS kL : ClassId) (μ : Mem)  : MI l D ad kI kS kL yX4_fault cX4_fault 1 (some .int) 0 0 [.ref (ad 0)] μ (fun r μ2 => μ = μ2 ∧ r = μ 0 5) := by
  refine met_I RX4 rfl (by decide) (lv := [(0, .ref (ad 0))]) rfl (Nat.le_of_ble_eq_true rfl) ?_
  intro pp ee ss mm aa bb me cd AA hA0 CC hnm QQ hQ
  refine y_aload_n CC 0 dX4_fault_0 rfl rfl ?_
  refine y_geti CC gl_X4_38 (by omega) rfl (v := μ 0 5) rfl dX4_fault_1 ?_
  exact y_iret CC hQ dX4_fault_4 (⟨rfl, rfl⟩)

set_option maxRecDepth 100000 in
set_option maxHeartbeats 4000000 in
theorem k_leave (l : Launch) (D : va_G) (ad : Nat → Nat) (kI kS kL : ClassId) (μ : Mem) (b : Int32) : MV l D ad kI kS kL yX4_leave cX4_leave 2 none 0 0 [.ref (ad 0), .int b] μ (fun μ2 => μ2 = mu μ 0 4 (lv31 (μ 0 4) b)) := by
  refine met_V RX4 rfl (by decide) (lv := [(0, .ref (ad 0)), (1, .int b)]) rfl (Nat.le_of_ble_eq_true rfl) ?_
  intro pp ee ss mm aa bb me cd AA hA0 CC hnm QQ hQ
  refine y_aload_n CC 0 dX4_leave_0 rfl rfl ?_
  refine y_bipush CC (nI 31) dX4_leave_1 (by decide) ?_
  refine y_aload_n CC 0 dX4_leave_3 rfl rfl ?_
  refine y_geti CC gl_X4_34 (by omega) rfl (v := μ 0 4) rfl dX4_leave_4 ?_
  refine y_imul CC dX4_leave_7 (v := (nI 31) * (μ 0 4)) rfl ?_
  refine y_iload_n CC 1 dX4_leave_8 rfl rfl ?_
  refine y_iadd CC dX4_leave_9 (v := ((nI 31) * (μ 0 4)) + b) rfl ?_
  refine y_puti CC pl_X4_34 (by omega) rfl (Nat.le_of_ble_eq_true rfl) dX4_leave_10 ?_
  exact y_vret CC hQ dX4_leave_13 rfl

set_option maxRecDepth 100000 in
set_option maxHeartbeats 4000000 in
theorem k_cameTo (l : Launch) (D : va_G) (ad : Nat → Nat) (kI kS kL : ClassId) (μ : Mem) (f : Nat) (hf : f ≤ 4) : MI l D ad kI kS kL yX4_cameTo cX4_cameTo 2 (some .int) 0 0 [.ref (ad 0), .int (nI f)] μ (fun r μ2 => μ2 = mu μ 0 5 (nI f) ∧ r = -10 - nI f) := by
  refine met_I RX4 rfl (by decide) (lv := [(0, .ref (ad 0)), (1, .int (nI f))]) rfl (Nat.le_of_ble_eq_true rfl) ?_
  intro pp ee ss mm aa bb me cd AA hA0 CC hnm QQ hQ
  refine y_aload_n CC 0 dX4_cameTo_0 rfl rfl ?_
  refine y_iload_n CC 1 dX4_cameTo_1 rfl rfl ?_
  refine y_puti CC pl_X4_38 (by omega) rfl (Nat.le_of_ble_eq_true rfl) dX4_cameTo_2 ?_
  refine y_bipush CC ((-10)) dX4_cameTo_5 (by decide) ?_
  refine y_iload_n CC 1 dX4_cameTo_7 rfl rfl ?_
  refine y_isub CC dX4_cameTo_8 (v := (-10) - (nI f)) rfl ?_
  exact y_iret CC hQ dX4_cameTo_9 (⟨rfl, rfl⟩)

set_option maxRecDepth 100000 in
set_option maxHeartbeats 4000000 in
theorem k_sleeperBody (l : Launch) (D : va_G) (ad : Nat → Nat) (kI kS kL : ClassId) (μ : Mem) (q : Nat) (hq : isO 2 q) (d : Nat) (hd : μ q 2 = nI d) : MI l D ad kI kS kL yX4_sleeperBody cX4_sleeperBody 2 (some .int) 1 21 [.ref (ad 0), .ref (ad q)] μ (fun r μ2 => μ2 = mu μ 0 4 (lv31 (μ 0 4) (nI 1)) ∧ r = nI (d)) := by
  refine met_I RX4 rfl (by decide) (lv := [(0, .ref (ad 0)), (1, .ref (ad q))]) rfl (Nat.le_of_ble_eq_true rfl) ?_
  intro pp ee ss mm aa bb me cd AA hA0 CC hnm QQ hQ
  have hq0 : 22 ≤ q := by omega
  refine y_aload_n CC 0 dX4_sleeperBody_0 rfl rfl ?_
  refine y_iconst CC (nI 1) dX4_sleeperBody_1 (by decide) ?_
  refine y_callVV (ci := 4) (st := []) CC cl_X4_223 (k_leave l D ad kI kS kL μ (nI 1)) (by omega) rfl rfl rfl (Nat.le_of_ble_eq_true rfl) ⟨by decide, by decide⟩ ⟨Nat.zero_le _, Nat.zero_le _⟩ dX4_sleeperBody_2 (fun μ_ w_1 => ?_)
  obtain rfl := w_1
  refine y_aload_n CC 1 dX4_sleeperBody_5 rfl rfl ?_
  refine y_geti CC gl_X4_85 hq rfl (v := nI d) (by first | exact hd | (rw [mu_ne _ _ (Or.inl (by omega))]; exact hd)) dX4_sleeperBody_6 ?_
  exact y_iret CC hQ dX4_sleeperBody_9 (⟨by simp only [mu_at, mu_mu], rfl⟩)

set_option maxRecDepth 100000 in
set_option maxHeartbeats 4000000 in
theorem k_moonstruckBody (l : Launch) (D : va_G) (ad : Nat → Nat) (kI kS kL : ClassId) (μ : Mem) (q : Nat) (hq : isO 2 q) (d : Nat) (hd : μ q 2 = nI d) : MI l D ad kI kS kL yX4_moonstruckBody cX4_moonstruckBody 2 (some .int) 2 42 [.ref (ad 0), .ref (ad q)] μ (fun r μ2 => μ2 = mu μ 0 4 (lv31 (lv31 (μ 0 4) (nI 2)) (nI 1)) ∧ r = nI (d + 100)) := by
  refine met_I RX4 rfl (by decide) (lv := [(0, .ref (ad 0)), (1, .ref (ad q))]) rfl (Nat.le_of_ble_eq_true rfl) ?_
  intro pp ee ss mm aa bb me cd AA hA0 CC hnm QQ hQ
  have hq0 : 22 ≤ q := by omega
  refine y_aload_n CC 0 dX4_moonstruckBody_0 rfl rfl ?_
  refine y_iconst CC (nI 2) dX4_moonstruckBody_1 (by decide) ?_
  refine y_callVV (ci := 4) (st := []) CC cl_X4_223 (k_leave l D ad kI kS kL μ (nI 2)) (by omega) rfl rfl rfl (Nat.le_of_ble_eq_true rfl) ⟨by decide, by decide⟩ ⟨Nat.zero_le _, Nat.zero_le _⟩ dX4_moonstruckBody_2 (fun μ_ w_1 => ?_)
  obtain rfl := w_1
  refine y_aload_n CC 0 dX4_moonstruckBody_5 rfl rfl ?_
  refine y_aload_n CC 1 dX4_moonstruckBody_6 rfl rfl ?_
  refine y_callVI (ci := 4) (st := []) CC cl_X4_211 (k_sleeperBody l D ad kI kS kL (mu μ 0 4 (lv31 (μ 0 4) (nI 2))) q (by omega) d (by first | exact hd | (rw [mu_ne _ _ (Or.inl (by omega))]; exact hd) | (rw [mu_ne _ _ (Or.inl (by omega)), mu_ne _ _ (Or.inl (by omega))]; exact hd))) (by omega) rfl rfl rfl (Nat.le_of_ble_eq_true rfl) ⟨by decide, by decide⟩ ⟨Nat.zero_le _, Nat.zero_le _⟩ dX4_moonstruckBody_7 (fun r_ μ_ w_2 => ?_)
  obtain ⟨rfl, rfl⟩ := w_2
  refine y_bipush CC (nI 100) dX4_moonstruckBody_10 (by decide) ?_
  refine y_iadd CC dX4_moonstruckBody_12 (v := nI (d + 100)) (nI_add _ _) ?_
  exact y_iret CC hQ dX4_moonstruckBody_13 (⟨by simp only [mu_at, mu_mu], rfl⟩)

set_option maxRecDepth 100000 in
set_option maxHeartbeats 4000000 in
theorem k_restlessBody (l : Launch) (D : va_G) (ad : Nat → Nat) (kI kS kL : ClassId) (μ : Mem) (q : Nat) (hq : isO 2 q) (d : Nat) (hd : μ q 2 = nI d) : MI l D ad kI kS kL yX4_restlessBody cX4_restlessBody 3 (some .int) 3 63 [.ref (ad 0), .ref (ad q)] μ (fun r μ2 => μ2 = mu μ 0 4 (lv31 (lv31 (lv31 (lv31 (μ 0 4) (nI 3)) (nI 2)) (nI 1)) (nI 1)) ∧ r = nI (d + 100 + d)) := by
  refine met_I RX4 rfl (by decide) (lv := [(0, .ref (ad 0)), (1, .ref (ad q))]) rfl (Nat.le_of_ble_eq_true rfl) ?_
  intro pp ee ss mm aa bb me cd AA hA0 CC hnm QQ hQ
  have hq0 : 22 ≤ q := by omega
  refine y_aload_n CC 0 dX4_restlessBody_0 rfl rfl ?_
  refine y_iconst CC (nI 3) dX4_restlessBody_1 (by decide) ?_
  refine y_callVV (ci := 4) (st := []) CC cl_X4_223 (k_leave l D ad kI kS kL μ (nI 3)) (by omega) rfl rfl rfl (Nat.le_of_ble_eq_true rfl) ⟨by decide, by decide⟩ ⟨Nat.zero_le _, Nat.zero_le _⟩ dX4_restlessBody_2 (fun μ_ w_1 => ?_)
  obtain rfl := w_1
  refine y_aload_n CC 0 dX4_restlessBody_5 rfl rfl ?_
  refine y_aload_n CC 1 dX4_restlessBody_6 rfl rfl ?_
  refine y_callVI (ci := 4) (st := []) CC cl_X4_204 (k_moonstruckBody l D ad kI kS kL (mu μ 0 4 (lv31 (μ 0 4) (nI 3))) q (by omega) d (by first | exact hd | (rw [mu_ne _ _ (Or.inl (by omega))]; exact hd) | (rw [mu_ne _ _ (Or.inl (by omega)), mu_ne _ _ (Or.inl (by omega))]; exact hd))) (by omega) rfl rfl rfl (Nat.le_of_ble_eq_true rfl) ⟨by decide, by decide⟩ ⟨Nat.zero_le _, Nat.zero_le _⟩ dX4_restlessBody_7 (fun r_ μ_ w_2 => ?_)
  obtain ⟨rfl, rfl⟩ := w_2
  refine y_istore_n CC [(2, .int (nI (d + 100))), (0, .ref (ad 0)), (1, .ref (ad q))] dX4_restlessBody_10 rfl (by decide) rfl ?_
  refine y_iload_n CC 0 dX4_restlessBody_11 rfl rfl ?_
  refine y_aload_n CC 1 dX4_restlessBody_12 rfl rfl ?_
  refine y_aload_n CC 2 dX4_restlessBody_13 rfl rfl ?_
  refine y_callVI (ci := 4) (st := [.int (nI (d + 100))]) CC cl_X4_211 (k_sleeperBody l D ad kI kS kL (mu (mu μ 0 4 (lv31 (μ 0 4) (nI 3))) 0 4 (lv31 (lv31 ((mu μ 0 4 (lv31 (μ 0 4) (nI 3))) 0 4) (nI 2)) (nI 1))) q (by omega) d (by first | exact hd | (rw [mu_ne _ _ (Or.inl (by omega))]; exact hd) | (rw [mu_ne _ _ (Or.inl (by omega)), mu_ne _ _ (Or.inl (by omega))]; exact hd))) (by omega) rfl rfl rfl (Nat.le_of_ble_eq_true rfl) ⟨by decide, by decide⟩ ⟨Nat.zero_le _, Nat.zero_le _⟩ dX4_restlessBody_14 (fun r_ μ_ w_3 => ?_)
  obtain ⟨rfl, rfl⟩ := w_3
  refine y_iadd CC dX4_restlessBody_17 (v := nI ((d + 100) + d)) (nI_add _ _) ?_
  exact y_iret CC hQ dX4_restlessBody_18 (⟨by simp only [mu_at, mu_mu], rfl⟩)

set_option maxRecDepth 100000 in
set_option maxHeartbeats 4000000 in
theorem k_lentWakening (l : Launch) (D : va_G) (ad : Nat → Nat) (kI kS kL : ClassId) (μ : Mem) (x : Int32) : MI l D ad kI kS kL yX4_lentWakening cX4_lentWakening 2 (some .int) 1 21 [.ref (ad 0), .int x] μ (fun r μ2 => μ2 = mu μ 0 4 (lv31 (μ 0 4) (nI 4)) ∧ r = x) := by
  refine met_I RX4 rfl (by decide) (lv := [(0, .ref (ad 0)), (1, .int x)]) rfl (Nat.le_of_ble_eq_true rfl) ?_
  intro pp ee ss mm aa bb me cd AA hA0 CC hnm QQ hQ
  refine y_aload_n CC 0 dX4_lentWakening_0 rfl rfl ?_
  refine y_iconst CC (nI 4) dX4_lentWakening_1 (by decide) ?_
  refine y_callVV (ci := 4) (st := []) CC cl_X4_223 (k_leave l D ad kI kS kL μ (nI 4)) (by omega) rfl rfl rfl (Nat.le_of_ble_eq_true rfl) ⟨by decide, by decide⟩ ⟨Nat.zero_le _, Nat.zero_le _⟩ dX4_lentWakening_2 (fun μ_ w_1 => ?_)
  obtain rfl := w_1
  refine y_iload_n CC 1 dX4_lentWakening_5 rfl rfl ?_
  exact y_iret CC hQ dX4_lentWakening_6 (⟨rfl, rfl⟩)

set_option maxRecDepth 100000 in
set_option maxHeartbeats 4000000 in
theorem k_ownWakening (l : Launch) (D : va_G) (ad : Nat → Nat) (kI kS kL : ClassId) (μ : Mem)  : MI l D ad kI kS kL yX4_ownWakening cX4_ownWakening 1 (some .int) 1 21 [.ref (ad 0)] μ (fun r μ2 => μ2 = mu μ 0 4 (lv31 (μ 0 4) (nI 5)) ∧ r = nI 90) := by
  refine met_I RX4 rfl (by decide) (lv := [(0, .ref (ad 0))]) rfl (Nat.le_of_ble_eq_true rfl) ?_
  intro pp ee ss mm aa bb me cd AA hA0 CC hnm QQ hQ
  refine y_aload_n CC 0 dX4_ownWakening_0 rfl rfl ?_
  refine y_iconst CC (nI 5) dX4_ownWakening_1 (by decide) ?_
  refine y_callVV (ci := 4) (st := []) CC cl_X4_223 (k_leave l D ad kI kS kL μ (nI 5)) (by omega) rfl rfl rfl (Nat.le_of_ble_eq_true rfl) ⟨by decide, by decide⟩ ⟨Nat.zero_le _, Nat.zero_le _⟩ dX4_ownWakening_2 (fun μ_ w_1 => ?_)
  obtain rfl := w_1
  refine y_bipush CC (nI 90) dX4_ownWakening_5 (by decide) ?_
  exact y_iret CC hQ dX4_ownWakening_7 (⟨rfl, rfl⟩)

set_option maxRecDepth 100000 in
set_option maxHeartbeats 4000000 in
theorem x_tell (l : Launch) (D : va_G) (ad : Nat → Nat) (kI kS kL : ClassId) (μ : Mem) (τ : Tn) (hT : TX μ 1 τ) (hV : tV τ) (a : Int32) : MI l D ad kI kS kL yX4_tell cX4_tell 3 (some .int) 4 85 [.ref (ad 0), .int a] μ (fun r μ2 => (μ2 = if inB a (tS τ) = true then mu μ 0 4 (tr_tell τ a (μ 0 4)) else μ) ∧ r = q_tell τ a) := by
  refine met_I RX4 rfl (by decide) (lv := [(0, .ref (ad 0)), (1, .int a)]) rfl (Nat.le_of_ble_eq_true rfl) ?_
  intro pp ee ss mm aa bb me cd AA hA0 CC hnm QQ hQ
  have hB := hV.1
  have hP9 : tP τ ≤ 9 := hB.1
  have hS4 : tS τ ≤ 4 := hB.2.1
  have hVc := hV.2.1
  refine y_aload_n CC 0 dX4_tell_0 rfl rfl ?_
  refine y_getr CC gl_X4_14 (by omega) (d := 1) rfl dX4_tell_1 ?_
  refine y_iload_n CC 1 dX4_tell_4 rfl rfl ?_
  refine y_callVN (ci := 3) (st := []) CC cl_X4_73 (k_sleeperOrNull l D ad kI kS kL μ 1 (by omega) τ hT hB a) (by omega) rfl rfl rfl (Nat.le_of_ble_eq_true rfl) ⟨by decide, by decide⟩ ⟨Nat.zero_le _, Nat.zero_le _⟩ dX4_tell_5 (fun r_ μ_ w_2 => ?_)
  rcases w_2 with ⟨rfl, ⟨b_1, rfl⟩ | ⟨b_1, rfl⟩⟩
  · skip
    obtain ⟨j, hj, rfl⟩ := inB_of b_1 (by omega)
    refine y_eq (st2 := [.ref (ad (4 * 1 + 18 + j))]) (by rw [ix_nI (by omega)]; rfl) ?_
    refine y_astore_n CC [(2, .ref (ad (4 * 1 + 18 + j))), (0, .ref (ad 0)), (1, .int (nI j))] dX4_tell_8 rfl (by decide) rfl ?_
    refine y_aload_n CC 0 dX4_tell_9 rfl rfl ?_
    refine y_ifnonnull CC 15 dX4_tell_10 (by decide) ?_
    have hkb := hB.2.2.1 j (by omega)
    refine y_aload_n CC 0 dX4_tell_15 rfl rfl ?_
    refine y_geti CC gl_X4_77 (by omega) rfl (v := nI (tK τ j)) (hT.2.2.1 j (by omega)).1 dX4_tell_16 ?_
    have hd : μ (4 * 1 + 18 + j) 2 = nI (tD τ j) := (hT.2.2.1 j (by omega)).2.2
    rcases (show tK τ j = 0 ∨ tK τ j = 1 ∨ tK τ j = 2 by omega) with hk_ | hk_ | hk_
    · skip
      refine y_top (y := nI 0) (by rw [hk_]) ?_
      refine y_lookup CC (off := 37) 56 dX4_tell_19 (by decide) (by decide +kernel) (by decide) ?_
      refine y_aload_n CC 1 dX4_tell_56 rfl rfl ?_
      refine y_aload_n CC 0 dX4_tell_57 rfl rfl ?_
      refine y_callVI (ci := 4) (st := []) CC cl_X4_211 (k_sleeperBody l D ad kI kS kL μ (4 * 1 + 18 + j) (by omega) (tD τ j) (by first | exact hd | (rw [mu_ne _ _ (Or.inl (by omega))]; exact hd) | (rw [mu_ne _ _ (Or.inl (by omega)), mu_ne _ _ (Or.inl (by omega))]; exact hd))) (by omega) rfl rfl rfl (Nat.le_of_ble_eq_true rfl) ⟨by decide, by decide⟩ ⟨Nat.zero_le _, Nat.zero_le _⟩ dX4_tell_58 (fun r_ μ_ w_3 => ?_)
      obtain ⟨rfl, rfl⟩ := w_3
      exact y_iret CC hQ dX4_tell_61 (⟨by simp [tr_tell, b_1, ix_nI (show j < 2 ^ 31 by omega), hk_], by simp [q_tell, b_1, ix_nI (show j < 2 ^ 31 by omega), hk_]⟩)
    · skip
      refine y_top (y := nI 1) (by rw [hk_]) ?_
      refine y_lookup CC (off := 25) 44 dX4_tell_19 (by decide) (by decide +kernel) (by decide) ?_
      refine y_aload_n CC 1 dX4_tell_44 rfl rfl ?_
      refine y_aload_n CC 0 dX4_tell_45 rfl rfl ?_
      refine y_callVI (ci := 4) (st := []) CC cl_X4_204 (k_moonstruckBody l D ad kI kS kL μ (4 * 1 + 18 + j) (by omega) (tD τ j) (by first | exact hd | (rw [mu_ne _ _ (Or.inl (by omega))]; exact hd) | (rw [mu_ne _ _ (Or.inl (by omega)), mu_ne _ _ (Or.inl (by omega))]; exact hd))) (by omega) rfl rfl rfl (Nat.le_of_ble_eq_true rfl) ⟨by decide, by decide⟩ ⟨Nat.zero_le _, Nat.zero_le _⟩ dX4_tell_46 (fun r_ μ_ w_4 => ?_)
      obtain ⟨rfl, rfl⟩ := w_4
      exact y_iret CC hQ dX4_tell_49 (⟨by simp [tr_tell, b_1, ix_nI (show j < 2 ^ 31 by omega), hk_], by simp [q_tell, b_1, ix_nI (show j < 2 ^ 31 by omega), hk_]⟩)
    · skip
      refine y_top (y := nI 2) (by rw [hk_]) ?_
      refine y_lookup CC (off := 31) 50 dX4_tell_19 (by decide) (by decide +kernel) (by decide) ?_
      refine y_aload_n CC 1 dX4_tell_50 rfl rfl ?_
      refine y_aload_n CC 0 dX4_tell_51 rfl rfl ?_
      refine y_callVI (ci := 4) (st := []) CC cl_X4_208 (k_restlessBody l D ad kI kS kL μ (4 * 1 + 18 + j) (by omega) (tD τ j) (by first | exact hd | (rw [mu_ne _ _ (Or.inl (by omega))]; exact hd) | (rw [mu_ne _ _ (Or.inl (by omega)), mu_ne _ _ (Or.inl (by omega))]; exact hd))) (by omega) rfl rfl rfl (Nat.le_of_ble_eq_true rfl) ⟨by decide, by decide⟩ ⟨Nat.zero_le _, Nat.zero_le _⟩ dX4_tell_52 (fun r_ μ_ w_5 => ?_)
      obtain ⟨rfl, rfl⟩ := w_5
      exact y_iret CC hQ dX4_tell_55 (⟨by simp [tr_tell, b_1, ix_nI (show j < 2 ^ 31 by omega), hk_], by simp [q_tell, b_1, ix_nI (show j < 2 ^ 31 by omega), hk_]⟩)
  · skip
    refine y_eq (st2 := [.null]) rfl ?_
    refine y_astore_nN CC [(2, .null), (0, .ref (ad 0)), (1, .int a)] dX4_tell_8 rfl (by decide) rfl ?_
    refine y_aload_nN CC 0 dX4_tell_9 rfl rfl ?_
    refine y_ifnonnullN CC 15 dX4_tell_10 (by decide) ?_
    refine y_iconst CC ((-1)) dX4_tell_13 (by decide) ?_
    exact y_iret CC hQ dX4_tell_14 (⟨by simp [tr_tell, b_1], by simp [q_tell, b_1]⟩)

set_option maxRecDepth 100000 in
set_option maxHeartbeats 4000000 in
theorem x_waken (l : Launch) (D : va_G) (ad : Nat → Nat) (kI kS kL : ClassId) (μ : Mem) (τ : Tn) (hT : TX μ 1 τ) (hV : tV τ) (a : Int32) : MI l D ad kI kS kL yX4_waken cX4_waken 3 (some .int) 2 42 [.ref (ad 0), .int a] μ (fun r μ2 => (μ2 = if inB a (tS τ) = true then mu μ 0 4 (tr_waken τ a (μ 0 4)) else μ) ∧ r = q_waken τ a) := by
  refine met_I RX4 rfl (by decide) (lv := [(0, .ref (ad 0)), (1, .int a)]) rfl (Nat.le_of_ble_eq_true rfl) ?_
  intro pp ee ss mm aa bb me cd AA hA0 CC hnm QQ hQ
  have hB := hV.1
  have hP9 : tP τ ≤ 9 := hB.1
  have hS4 : tS τ ≤ 4 := hB.2.1
  have hVc := hV.2.1
  refine y_aload_n CC 0 dX4_waken_0 rfl rfl ?_
  refine y_getr CC gl_X4_14 (by omega) (d := 1) rfl dX4_waken_1 ?_
  refine y_iload_n CC 1 dX4_waken_4 rfl rfl ?_
  refine y_callVN (ci := 3) (st := []) CC cl_X4_73 (k_sleeperOrNull l D ad kI kS kL μ 1 (by omega) τ hT hB a) (by omega) rfl rfl rfl (Nat.le_of_ble_eq_true rfl) ⟨by decide, by decide⟩ ⟨Nat.zero_le _, Nat.zero_le _⟩ dX4_waken_5 (fun r_ μ_ w_2 => ?_)
  rcases w_2 with ⟨rfl, ⟨b_1, rfl⟩ | ⟨b_1, rfl⟩⟩
  · skip
    obtain ⟨j, hj, rfl⟩ := inB_of b_1 (by omega)
    refine y_eq (st2 := [.ref (ad (4 * 1 + 18 + j))]) (by rw [ix_nI (by omega)]; rfl) ?_
    refine y_astore_n CC [(2, .ref (ad (4 * 1 + 18 + j))), (0, .ref (ad 0)), (1, .int (nI j))] dX4_waken_8 rfl (by decide) rfl ?_
    refine y_aload_n CC 0 dX4_waken_9 rfl rfl ?_
    refine y_ifnonnull CC 15 dX4_waken_10 (by decide) ?_
    have hkb := hB.2.2.1 j (by omega)
    refine y_aload_n CC 0 dX4_waken_15 rfl rfl ?_
    refine y_geti CC gl_X4_77 (by omega) rfl (v := nI (tK τ j)) (hT.2.2.1 j (by omega)).1 dX4_waken_16 ?_
    refine y_iconst CC (nI 2) dX4_waken_19 (by decide) ?_
    refine z_icmp_ne CC 30 dX4_waken_20 (by decide) (a := ((tK τ j : Nat) : Int)) (b := (2 : Int)) (nI_toInt (by omega)) (nI_toInt (by decide)) (fun c_3 => ?_) (fun c_3 => ?_)
    · skip
      have hk_ : ¬ tK τ j = 2 := by omega
      refine y_aload_n CC 1 dX4_waken_30 rfl rfl ?_
      refine y_iload_n CC 2 dX4_waken_31 rfl rfl ?_
      refine y_callVI (ci := 4) (st := []) CC cl_X4_217 (k_lentWakening l D ad kI kS kL μ (nI j)) (by omega) rfl rfl rfl (Nat.le_of_ble_eq_true rfl) ⟨by decide, by decide⟩ ⟨Nat.zero_le _, Nat.zero_le _⟩ dX4_waken_32 (fun r_ μ_ w_4 => ?_)
      obtain ⟨rfl, rfl⟩ := w_4
      exact y_iret CC hQ dX4_waken_35 (⟨by simp [tr_waken, b_1, ix_nI (show j < 2 ^ 31 by omega), hk_], by simp [q_waken, b_1, ix_nI (show j < 2 ^ 31 by omega), hk_]⟩)
    · skip
      have hk_ : tK τ j = 2 := by omega
      refine y_aload_n CC 1 dX4_waken_23 rfl rfl ?_
      refine y_callVI (ci := 4) (st := []) CC cl_X4_214 (k_ownWakening l D ad kI kS kL μ ) (by omega) rfl rfl rfl (Nat.le_of_ble_eq_true rfl) ⟨by decide, by decide⟩ ⟨Nat.zero_le _, Nat.zero_le _⟩ dX4_waken_24 (fun r_ μ_ w_5 => ?_)
      obtain ⟨rfl, rfl⟩ := w_5
      refine y_goto CC 35 dX4_waken_27 (by decide) ?_
      exact y_iret CC hQ dX4_waken_35 (⟨by simp [tr_waken, b_1, ix_nI (show j < 2 ^ 31 by omega), hk_], by simp [q_waken, b_1, ix_nI (show j < 2 ^ 31 by omega), hk_]⟩)
  · skip
    refine y_eq (st2 := [.null]) rfl ?_
    refine y_astore_nN CC [(2, .null), (0, .ref (ad 0)), (1, .int a)] dX4_waken_8 rfl (by decide) rfl ?_
    refine y_aload_nN CC 0 dX4_waken_9 rfl rfl ?_
    refine y_ifnonnullN CC 15 dX4_waken_10 (by decide) ?_
    refine y_iconst CC ((-1)) dX4_waken_13 (by decide) ?_
    exact y_iret CC hQ dX4_waken_14 (⟨by simp [tr_waken, b_1], by simp [q_waken, b_1]⟩)
end
section
theorem zz : True := trivial
end
