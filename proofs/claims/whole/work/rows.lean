section
-- ===== PART A: goes FIRST, ahead of the names: the tables' words, and 'selects' of the private methods out of them =====
/-- a private method of a class that the tables say can be made, by its rows of tables_1 -/
def lw_okq (q : MethodName × Nat) : Prop := (q.1.cls ≠ "java/lang/invoke/MethodHandle" ∧ q.1.cls ≠ "java/lang/invoke/VarHandle") ∧ Cond.instantiable q.1.cls q.2 ∈ tables_1 ∧ Cond.privateMethod q.1 ∈ tables_1 ∧ Cond.instanceMethod q.1 ∈ tables_1
theorem lw_p0 : lw_okq (⟨"LinenTunnel", "isKind", "(I)Z"⟩, 7) := ⟨⟨by decide +kernel, by decide +kernel⟩, List.mem_of_getElem? (i := 12) (by decide +kernel), List.mem_of_getElem? (i := 276) (by decide +kernel), List.mem_of_getElem? (i := 277) (by decide +kernel)⟩
theorem lw_p1 : lw_okq (⟨"LinenTunnel", "isPiece", "(I)Z"⟩, 7) := ⟨⟨by decide +kernel, by decide +kernel⟩, List.mem_of_getElem? (i := 12) (by decide +kernel), List.mem_of_getElem? (i := 292) (by decide +kernel), List.mem_of_getElem? (i := 293) (by decide +kernel)⟩
theorem lw_p2 : lw_okq (⟨"LinenTunnel", "soilFrom", "(II)I"⟩, 7) := ⟨⟨by decide +kernel, by decide +kernel⟩, List.mem_of_getElem? (i := 12) (by decide +kernel), List.mem_of_getElem? (i := 313) (by decide +kernel), List.mem_of_getElem? (i := 314) (by decide +kernel)⟩
theorem lw_p3 : lw_okq (⟨"LinenTunnel", "isKindOrAny", "(I)Z"⟩, 7) := ⟨⟨by decide +kernel, by decide +kernel⟩, List.mem_of_getElem? (i := 12) (by decide +kernel), List.mem_of_getElem? (i := 324) (by decide +kernel), List.mem_of_getElem? (i := 325) (by decide +kernel)⟩
theorem lw_p4 : lw_okq (⟨"LinenTunnel", "find", "(I)I"⟩, 7) := ⟨⟨by decide +kernel, by decide +kernel⟩, List.mem_of_getElem? (i := 12) (by decide +kernel), List.mem_of_getElem? (i := 352) (by decide +kernel), List.mem_of_getElem? (i := 353) (by decide +kernel)⟩
theorem lw_p5 : lw_okq (⟨"LinenTunnel", "isOrderPlace", "(I)Z"⟩, 7) := ⟨⟨by decide +kernel, by decide +kernel⟩, List.mem_of_getElem? (i := 12) (by decide +kernel), List.mem_of_getElem? (i := 385) (by decide +kernel), List.mem_of_getElem? (i := 386) (by decide +kernel)⟩
theorem lw_p6 : lw_okq (⟨"LinenTunnel$Planner", "fillGaps", "()V"⟩, 3) := ⟨⟨by decide +kernel, by decide +kernel⟩, List.mem_of_getElem? (i := 131) (by decide +kernel), List.mem_of_getElem? (i := 458) (by decide +kernel), List.mem_of_getElem? (i := 459) (by decide +kernel)⟩
theorem lw_p7 : lw_okq (⟨"LinenTunnel$Planner", "fillFewest", "()V"⟩, 3) := ⟨⟨by decide +kernel, by decide +kernel⟩, List.mem_of_getElem? (i := 131) (by decide +kernel), List.mem_of_getElem? (i := 464) (by decide +kernel), List.mem_of_getElem? (i := 465) (by decide +kernel)⟩
theorem lw_p8 : lw_okq (⟨"LinenTunnel$Planner", "bestBehind", "(II)I"⟩, 3) := ⟨⟨by decide +kernel, by decide +kernel⟩, List.mem_of_getElem? (i := 131) (by decide +kernel), List.mem_of_getElem? (i := 468) (by decide +kernel), List.mem_of_getElem? (i := 469) (by decide +kernel)⟩
theorem lw_p9 : lw_okq (⟨"LinenTunnel$Planner", "costBehind", "(III)I"⟩, 3) := ⟨⟨by decide +kernel, by decide +kernel⟩, List.mem_of_getElem? (i := 131) (by decide +kernel), List.mem_of_getElem? (i := 472) (by decide +kernel), List.mem_of_getElem? (i := 473) (by decide +kernel)⟩
theorem lw_p10 : lw_okq (⟨"LinenTunnel$Waiting", "nextOf", "(II)I"⟩, 5) := ⟨⟨by decide +kernel, by decide +kernel⟩, List.mem_of_getElem? (i := 97) (by decide +kernel), List.mem_of_getElem? (i := 485) (by decide +kernel), List.mem_of_getElem? (i := 486) (by decide +kernel)⟩
theorem lw_p11 : lw_okq (⟨"LinenTunnel$House", "clear", "()V"⟩, 16) := ⟨⟨by decide +kernel, by decide +kernel⟩, List.mem_of_getElem? (i := 149) (by decide +kernel), List.mem_of_getElem? (i := 501) (by decide +kernel), List.mem_of_getElem? (i := 502) (by decide +kernel)⟩
theorem lw_p12 : lw_okq (⟨"LinenTunnel$House", "lineUp", "(I)V"⟩, 16) := ⟨⟨by decide +kernel, by decide +kernel⟩, List.mem_of_getElem? (i := 149) (by decide +kernel), List.mem_of_getElem? (i := 506) (by decide +kernel), List.mem_of_getElem? (i := 507) (by decide +kernel)⟩
theorem lw_p13 : lw_okq (⟨"LinenTunnel$House", "addSlot", "(I)V"⟩, 16) := ⟨⟨by decide +kernel, by decide +kernel⟩, List.mem_of_getElem? (i := 149) (by decide +kernel), List.mem_of_getElem? (i := 512) (by decide +kernel), List.mem_of_getElem? (i := 513) (by decide +kernel)⟩
theorem lw_p14 : lw_okq (⟨"LinenTunnel$House", "note", "(III)V"⟩, 16) := ⟨⟨by decide +kernel, by decide +kernel⟩, List.mem_of_getElem? (i := 149) (by decide +kernel), List.mem_of_getElem? (i := 517) (by decide +kernel), List.mem_of_getElem? (i := 518) (by decide +kernel)⟩
theorem lw_p15 : lw_okq (⟨"LinenTunnel$House", "addTotal", "(II)V"⟩, 16) := ⟨⟨by decide +kernel, by decide +kernel⟩, List.mem_of_getElem? (i := 149) (by decide +kernel), List.mem_of_getElem? (i := 521) (by decide +kernel), List.mem_of_getElem? (i := 522) (by decide +kernel)⟩
def lw_privs_1 : List (MethodName × Nat) := [(⟨"LinenTunnel", "isKind", "(I)Z"⟩, 7), (⟨"LinenTunnel", "isPiece", "(I)Z"⟩, 7), (⟨"LinenTunnel", "soilFrom", "(II)I"⟩, 7), (⟨"LinenTunnel", "isKindOrAny", "(I)Z"⟩, 7), (⟨"LinenTunnel", "find", "(I)I"⟩, 7), (⟨"LinenTunnel", "isOrderPlace", "(I)Z"⟩, 7), (⟨"LinenTunnel$Planner", "fillGaps", "()V"⟩, 3), (⟨"LinenTunnel$Planner", "fillFewest", "()V"⟩, 3), (⟨"LinenTunnel$Planner", "bestBehind", "(II)I"⟩, 3), (⟨"LinenTunnel$Planner", "costBehind", "(III)I"⟩, 3), (⟨"LinenTunnel$Waiting", "nextOf", "(II)I"⟩, 5), (⟨"LinenTunnel$House", "clear", "()V"⟩, 16), (⟨"LinenTunnel$House", "lineUp", "(I)V"⟩, 16), (⟨"LinenTunnel$House", "addSlot", "(I)V"⟩, 16), (⟨"LinenTunnel$House", "note", "(III)V"⟩, 16), (⟨"LinenTunnel$House", "addTotal", "(II)V"⟩, 16)]
theorem lw_r1 : ∀ q ∈ lw_privs_1, lw_okq q := List.forall_mem_cons.mpr ⟨lw_p0, List.forall_mem_cons.mpr ⟨lw_p1, List.forall_mem_cons.mpr ⟨lw_p2, List.forall_mem_cons.mpr ⟨lw_p3, List.forall_mem_cons.mpr ⟨lw_p4, List.forall_mem_cons.mpr ⟨lw_p5, List.forall_mem_cons.mpr ⟨lw_p6, List.forall_mem_cons.mpr ⟨lw_p7, List.forall_mem_cons.mpr ⟨lw_p8, List.forall_mem_cons.mpr ⟨lw_p9, List.forall_mem_cons.mpr ⟨lw_p10, List.forall_mem_cons.mpr ⟨lw_p11, List.forall_mem_cons.mpr ⟨lw_p12, List.forall_mem_cons.mpr ⟨lw_p13, List.forall_mem_cons.mpr ⟨lw_p14, List.forall_mem_cons.mpr ⟨lw_p15, fun _ h => absurd h List.not_mem_nil⟩⟩⟩⟩⟩⟩⟩⟩⟩⟩⟩⟩⟩⟩⟩⟩
theorem lw_p16 : lw_okq (⟨"LinenTunnel$House", "doBeat", "(I)V"⟩, 16) := ⟨⟨by decide +kernel, by decide +kernel⟩, List.mem_of_getElem? (i := 149) (by decide +kernel), List.mem_of_getElem? (i := 526) (by decide +kernel), List.mem_of_getElem? (i := 527) (by decide +kernel)⟩
theorem lw_p17 : lw_okq (⟨"LinenTunnel$House", "freeDryer", "(I)I"⟩, 16) := ⟨⟨by decide +kernel, by decide +kernel⟩, List.mem_of_getElem? (i := 149) (by decide +kernel), List.mem_of_getElem? (i := 534) (by decide +kernel), List.mem_of_getElem? (i := 535) (by decide +kernel)⟩
theorem lw_p18 : lw_okq (⟨"LinenTunnel$House", "goOut", "(IIII)V"⟩, 16) := ⟨⟨by decide +kernel, by decide +kernel⟩, List.mem_of_getElem? (i := 149) (by decide +kernel), List.mem_of_getElem? (i := 538) (by decide +kernel), List.mem_of_getElem? (i := 539) (by decide +kernel)⟩
theorem lw_p19 : lw_okq (⟨"LinenTunnel$House", "moveOn", "(I)V"⟩, 16) := ⟨⟨by decide +kernel, by decide +kernel⟩, List.mem_of_getElem? (i := 149) (by decide +kernel), List.mem_of_getElem? (i := 542) (by decide +kernel), List.mem_of_getElem? (i := 543) (by decide +kernel)⟩
theorem lw_p20 : lw_okq (⟨"LinenTunnel$House", "waterOfBeat", "()I"⟩, 16) := ⟨⟨by decide +kernel, by decide +kernel⟩, List.mem_of_getElem? (i := 149) (by decide +kernel), List.mem_of_getElem? (i := 546) (by decide +kernel), List.mem_of_getElem? (i := 547) (by decide +kernel)⟩
theorem lw_p21 : lw_okq (⟨"LinenTunnel$House", "hasWaterOfNext", "(I)Z"⟩, 16) := ⟨⟨by decide +kernel, by decide +kernel⟩, List.mem_of_getElem? (i := 149) (by decide +kernel), List.mem_of_getElem? (i := 550) (by decide +kernel), List.mem_of_getElem? (i := 551) (by decide +kernel)⟩
theorem lw_p22 : lw_okq (⟨"LinenTunnel$House", "colourAt", "(I)I"⟩, 16) := ⟨⟨by decide +kernel, by decide +kernel⟩, List.mem_of_getElem? (i := 149) (by decide +kernel), List.mem_of_getElem? (i := 554) (by decide +kernel), List.mem_of_getElem? (i := 555) (by decide +kernel)⟩
theorem lw_p23 : lw_okq (⟨"LinenTunnel$House", "ironAll", "()V"⟩, 16) := ⟨⟨by decide +kernel, by decide +kernel⟩, List.mem_of_getElem? (i := 149) (by decide +kernel), List.mem_of_getElem? (i := 558) (by decide +kernel), List.mem_of_getElem? (i := 559) (by decide +kernel)⟩
theorem lw_p24 : lw_okq (⟨"LinenTunnel$House", "firstDry", "(I)I"⟩, 16) := ⟨⟨by decide +kernel, by decide +kernel⟩, List.mem_of_getElem? (i := 149) (by decide +kernel), List.mem_of_getElem? (i := 562) (by decide +kernel), List.mem_of_getElem? (i := 563) (by decide +kernel)⟩
theorem lw_p25 : lw_okq (⟨"LinenTunnel$House", "ironOne", "(I)V"⟩, 16) := ⟨⟨by decide +kernel, by decide +kernel⟩, List.mem_of_getElem? (i := 149) (by decide +kernel), List.mem_of_getElem? (i := 566) (by decide +kernel), List.mem_of_getElem? (i := 567) (by decide +kernel)⟩
theorem lw_p26 : lw_okq (⟨"LinenTunnel$House", "firstIron", "()I"⟩, 16) := ⟨⟨by decide +kernel, by decide +kernel⟩, List.mem_of_getElem? (i := 149) (by decide +kernel), List.mem_of_getElem? (i := 570) (by decide +kernel), List.mem_of_getElem? (i := 571) (by decide +kernel)⟩
theorem lw_p27 : lw_okq (⟨"LinenTunnelModel", "isKind", "(I)Z"⟩, 37) := ⟨⟨by decide +kernel, by decide +kernel⟩, List.mem_of_getElem? (i := 662) (by decide +kernel), List.mem_of_getElem? (i := 792) (by decide +kernel), List.mem_of_getElem? (i := 793) (by decide +kernel)⟩
theorem lw_p28 : lw_okq (⟨"LinenTunnelModel", "isPiece", "(I)Z"⟩, 37) := ⟨⟨by decide +kernel, by decide +kernel⟩, List.mem_of_getElem? (i := 662) (by decide +kernel), List.mem_of_getElem? (i := 800) (by decide +kernel), List.mem_of_getElem? (i := 801) (by decide +kernel)⟩
theorem lw_p29 : lw_okq (⟨"LinenTunnelModel", "is", "(IIII)Z"⟩, 37) := ⟨⟨by decide +kernel, by decide +kernel⟩, List.mem_of_getElem? (i := 662) (by decide +kernel), List.mem_of_getElem? (i := 820) (by decide +kernel), List.mem_of_getElem? (i := 821) (by decide +kernel)⟩
theorem lw_p30 : lw_okq (⟨"LinenTunnelModel", "meets", "(I)I"⟩, 37) := ⟨⟨by decide +kernel, by decide +kernel⟩, List.mem_of_getElem? (i := 662) (by decide +kernel), List.mem_of_getElem? (i := 831) (by decide +kernel), List.mem_of_getElem? (i := 832) (by decide +kernel)⟩
theorem lw_p31 : lw_okq (⟨"LinenTunnelModel", "placeIn", "(I)I"⟩, 37) := ⟨⟨by decide +kernel, by decide +kernel⟩, List.mem_of_getElem? (i := 662) (by decide +kernel), List.mem_of_getElem? (i := 851) (by decide +kernel), List.mem_of_getElem? (i := 852) (by decide +kernel)⟩
def lw_privs_2 : List (MethodName × Nat) := [(⟨"LinenTunnel$House", "doBeat", "(I)V"⟩, 16), (⟨"LinenTunnel$House", "freeDryer", "(I)I"⟩, 16), (⟨"LinenTunnel$House", "goOut", "(IIII)V"⟩, 16), (⟨"LinenTunnel$House", "moveOn", "(I)V"⟩, 16), (⟨"LinenTunnel$House", "waterOfBeat", "()I"⟩, 16), (⟨"LinenTunnel$House", "hasWaterOfNext", "(I)Z"⟩, 16), (⟨"LinenTunnel$House", "colourAt", "(I)I"⟩, 16), (⟨"LinenTunnel$House", "ironAll", "()V"⟩, 16), (⟨"LinenTunnel$House", "firstDry", "(I)I"⟩, 16), (⟨"LinenTunnel$House", "ironOne", "(I)V"⟩, 16), (⟨"LinenTunnel$House", "firstIron", "()I"⟩, 16), (⟨"LinenTunnelModel", "isKind", "(I)Z"⟩, 37), (⟨"LinenTunnelModel", "isPiece", "(I)Z"⟩, 37), (⟨"LinenTunnelModel", "is", "(IIII)Z"⟩, 37), (⟨"LinenTunnelModel", "meets", "(I)I"⟩, 37), (⟨"LinenTunnelModel", "placeIn", "(I)I"⟩, 37)]
theorem lw_r2 : ∀ q ∈ lw_privs_2, lw_okq q := List.forall_mem_cons.mpr ⟨lw_p16, List.forall_mem_cons.mpr ⟨lw_p17, List.forall_mem_cons.mpr ⟨lw_p18, List.forall_mem_cons.mpr ⟨lw_p19, List.forall_mem_cons.mpr ⟨lw_p20, List.forall_mem_cons.mpr ⟨lw_p21, List.forall_mem_cons.mpr ⟨lw_p22, List.forall_mem_cons.mpr ⟨lw_p23, List.forall_mem_cons.mpr ⟨lw_p24, List.forall_mem_cons.mpr ⟨lw_p25, List.forall_mem_cons.mpr ⟨lw_p26, List.forall_mem_cons.mpr ⟨lw_p27, List.forall_mem_cons.mpr ⟨lw_p28, List.forall_mem_cons.mpr ⟨lw_p29, List.forall_mem_cons.mpr ⟨lw_p30, List.forall_mem_cons.mpr ⟨lw_p31, fun _ h => absurd h List.not_mem_nil⟩⟩⟩⟩⟩⟩⟩⟩⟩⟩⟩⟩⟩⟩⟩⟩
theorem lw_p32 : lw_okq (⟨"LinenTunnelModel", "emptiesOf", "(II)I"⟩, 37) := ⟨⟨by decide +kernel, by decide +kernel⟩, List.mem_of_getElem? (i := 662) (by decide +kernel), List.mem_of_getElem? (i := 867) (by decide +kernel), List.mem_of_getElem? (i := 868) (by decide +kernel)⟩
theorem lw_p33 : lw_okq (⟨"LinenTunnelModel", "betweenBatches", "(II)I"⟩, 37) := ⟨⟨by decide +kernel, by decide +kernel⟩, List.mem_of_getElem? (i := 662) (by decide +kernel), List.mem_of_getElem? (i := 875) (by decide +kernel), List.mem_of_getElem? (i := 876) (by decide +kernel)⟩
theorem lw_p34 : lw_okq (⟨"LinenTunnelModel", "kindAt", "(I)I"⟩, 37) := ⟨⟨by decide +kernel, by decide +kernel⟩, List.mem_of_getElem? (i := 662) (by decide +kernel), List.mem_of_getElem? (i := 897) (by decide +kernel), List.mem_of_getElem? (i := 898) (by decide +kernel)⟩
theorem lw_p35 : lw_okq (⟨"LinenTunnelModel", "dryerAt", "(I)I"⟩, 37) := ⟨⟨by decide +kernel, by decide +kernel⟩, List.mem_of_getElem? (i := 662) (by decide +kernel), List.mem_of_getElem? (i := 901) (by decide +kernel), List.mem_of_getElem? (i := 902) (by decide +kernel)⟩
theorem lw_p36 : lw_okq (⟨"LinenTunnelModel", "goesOut", "(III)V"⟩, 37) := ⟨⟨by decide +kernel, by decide +kernel⟩, List.mem_of_getElem? (i := 662) (by decide +kernel), List.mem_of_getElem? (i := 905) (by decide +kernel), List.mem_of_getElem? (i := 906) (by decide +kernel)⟩
theorem lw_p37 : lw_okq (⟨"LinenTunnelModel", "waterNow", "()I"⟩, 37) := ⟨⟨by decide +kernel, by decide +kernel⟩, List.mem_of_getElem? (i := 662) (by decide +kernel), List.mem_of_getElem? (i := 909) (by decide +kernel), List.mem_of_getElem? (i := 910) (by decide +kernel)⟩
theorem lw_p38 : lw_okq (⟨"LinenTunnelModel", "irons", "()V"⟩, 37) := ⟨⟨by decide +kernel, by decide +kernel⟩, List.mem_of_getElem? (i := 662) (by decide +kernel), List.mem_of_getElem? (i := 913) (by decide +kernel), List.mem_of_getElem? (i := 914) (by decide +kernel)⟩
theorem lw_p39 : lw_okq (⟨"LinenTunnelModel", "lacks", "(III)I"⟩, 37) := ⟨⟨by decide +kernel, by decide +kernel⟩, List.mem_of_getElem? (i := 662) (by decide +kernel), List.mem_of_getElem? (i := 941) (by decide +kernel), List.mem_of_getElem? (i := 942) (by decide +kernel)⟩
theorem lw_p40 : lw_okq (⟨"LinenTunnelModel", "lay", "(III)V"⟩, 37) := ⟨⟨by decide +kernel, by decide +kernel⟩, List.mem_of_getElem? (i := 662) (by decide +kernel), List.mem_of_getElem? (i := 945) (by decide +kernel), List.mem_of_getElem? (i := 946) (by decide +kernel)⟩
def lw_privs_3 : List (MethodName × Nat) := [(⟨"LinenTunnelModel", "emptiesOf", "(II)I"⟩, 37), (⟨"LinenTunnelModel", "betweenBatches", "(II)I"⟩, 37), (⟨"LinenTunnelModel", "kindAt", "(I)I"⟩, 37), (⟨"LinenTunnelModel", "dryerAt", "(I)I"⟩, 37), (⟨"LinenTunnelModel", "goesOut", "(III)V"⟩, 37), (⟨"LinenTunnelModel", "waterNow", "()I"⟩, 37), (⟨"LinenTunnelModel", "irons", "()V"⟩, 37), (⟨"LinenTunnelModel", "lacks", "(III)I"⟩, 37), (⟨"LinenTunnelModel", "lay", "(III)V"⟩, 37)]
theorem lw_r3 : ∀ q ∈ lw_privs_3, lw_okq q := List.forall_mem_cons.mpr ⟨lw_p32, List.forall_mem_cons.mpr ⟨lw_p33, List.forall_mem_cons.mpr ⟨lw_p34, List.forall_mem_cons.mpr ⟨lw_p35, List.forall_mem_cons.mpr ⟨lw_p36, List.forall_mem_cons.mpr ⟨lw_p37, List.forall_mem_cons.mpr ⟨lw_p38, List.forall_mem_cons.mpr ⟨lw_p39, List.forall_mem_cons.mpr ⟨lw_p40, fun _ h => absurd h List.not_mem_nil⟩⟩⟩⟩⟩⟩⟩⟩⟩
def lw_privs : List (MethodName × Nat) := lw_privs_1 ++ (lw_privs_2 ++ (lw_privs_3))
def lw_tbl : List Cond := k2_sels lw_privs ++ tables_1
theorem lw_privs_ok : ∀ q ∈ lw_privs, lw_okq q := by
  show ∀ q ∈ lw_privs_1 ++ (lw_privs_2 ++ (lw_privs_3)), lw_okq q
  exact List.forall_mem_append.mpr ⟨lw_r1, List.forall_mem_append.mpr ⟨lw_r2, lw_r3⟩⟩
end
section
/-! ===== BEGIN words of one list among another's, by their places ===== -/
theorem goodIn_r {big : List Cond} (ws : List Cond) (ps : List Nat) (hp : ws = ps.filterMap (fun i => big[i]?)) (h : ws.all goodWord = true) : GoodIn big ws := by
  intro w hw
  have h1 := List.all_eq_true.mp h w hw
  rw [hp] at hw
  obtain ⟨i, -, hi⟩ := List.mem_filterMap.mp hw
  have hm : w ∈ big := by first | exact List.mem_of_getElem? hi | exact List.getElem?_mem hi
  exact ⟨hm, good_of_word h1⟩
theorem goodIn_app {big a b : List Cond} (ha : GoodIn big a) (hb : GoodIn big b) : GoodIn big (a ++ b) := fun w h => (List.mem_append.mp h).elim (ha w) (hb w)
theorem goodIn_ca {big a b : List Cond} {c : Cond} (ha : GoodIn big (c :: a)) (hb : GoodIn big b) : GoodIn big (c :: (a ++ b)) := fun w h => (List.mem_cons.mp h).elim (fun e => ha w (List.mem_cons.mpr (Or.inl e))) (fun h => (List.mem_append.mp h).elim (fun h => ha w (List.mem_cons.mpr (Or.inr h))) (hb w))
theorem goodIn_sub {big ws : List Cond} (hm : ∀ w ∈ ws, w ∈ big) (h : ws.all goodWord = true) : GoodIn big ws := fun w hw => ⟨hm w hw, good_of_word (List.all_eq_true.mp h w hw)⟩
/-! ===== END ===== -/

/-! ===== BEGIN printed: names, fields, word lists, decode rows ===== -/
def RX0 : String := "LinenTunnel$House"
def TX0 : u_T := fun k => match k with
  | 0 => ("LinenTunnel$House", "kinds", "LLinenTunnel$Kinds;", true)
  | 1 => ("LinenTunnel$House", "waiting", "LLinenTunnel$Waiting;", true)
  | 2 => ("LinenTunnel$House", "compartments", "I", false)
  | 3 => ("LinenTunnel$House", "dryers", "I", false)
  | 4 => ("LinenTunnel$House", "irons", "I", false)
  | 5 => ("LinenTunnel$House", "washes", "I", false)
  | 6 => ("LinenTunnel$House", "slotNumber", "I", false)
  | 7 => ("LinenTunnel$House", "nextSlot", "I", false)
  | 8 => ("LinenTunnel$House", "gone", "I", false)
  | 9 => ("LinenTunnel$House", "slots", "LLinenTunnel$Row;", true)
  | 10 => ("LinenTunnel$House", "inside", "LLinenTunnel$Row;", true)
  | 11 => ("LinenTunnel$House", "dryerTill", "LLinenTunnel$Row;", true)
  | 12 => ("LinenTunnel$House", "ironTill", "LLinenTunnel$Row;", true)
  | 13 => ("LinenTunnel$House", "size", "LLinenTunnel$Row;", true)
  | 14 => ("LinenTunnel$House", "facts", "LLinenTunnel$Row;", true)
  | _ => ("LinenTunnel$House", "totals", "LLinenTunnel$Row;", true)
def tyX0 : Nat → FieldType := fun k => match k with
  | 0 => .object "LinenTunnel$Kinds"
  | 1 => .object "LinenTunnel$Waiting"
  | 2 => .int
  | 3 => .int
  | 4 => .int
  | 5 => .int
  | 6 => .int
  | 7 => .int
  | 8 => .int
  | 9 => .object "LinenTunnel$Row"
  | 10 => .object "LinenTunnel$Row"
  | 11 => .object "LinenTunnel$Row"
  | 12 => .object "LinenTunnel$Row"
  | 13 => .object "LinenTunnel$Row"
  | 14 => .object "LinenTunnel$Row"
  | _ => .object "LinenTunnel$Row"
abbrev wsX00 : List Cond := u_ws RX0 TX0 16
theorem nmX0 : ∀ a, a < 16 → ∀ b, b < 16 → a ≠ b → (TX0 a).2.1 ≠ (TX0 b).2.1 := by decide +kernel
theorem tyX0_ok : ∀ k, k < 16 → parseFieldDescriptor (TX0 k).2.2.1 = some (tyX0 k) := by decide +kernel
abbrev cX0_init : ByteArray := prog_2_method_1_code
def yX0_init : MethodName := ⟨RX0, "<init>", "(LLinenTunnel$Kinds;LLinenTunnel$Waiting;)V"⟩
abbrev cX0_fact : ByteArray := prog_2_method_2_code
def yX0_fact : MethodName := ⟨RX0, "fact", "(II)I"⟩
abbrev cX0_note : ByteArray := prog_2_method_3_code
def yX0_note : MethodName := ⟨RX0, "note", "(III)V"⟩
abbrev cX0_addTotal : ByteArray := prog_2_method_4_code
def yX0_addTotal : MethodName := ⟨RX0, "addTotal", "(II)V"⟩
abbrev cX0_washOrder : ByteArray := prog_2_method_5_code
def yX0_washOrder : MethodName := ⟨RX0, "washOrder", "()I"⟩
abbrev cX0_clear : ByteArray := prog_2_method_6_code
def yX0_clear : MethodName := ⟨RX0, "clear", "()V"⟩
abbrev cX0_lineUp : ByteArray := prog_2_method_7_code
def yX0_lineUp : MethodName := ⟨RX0, "lineUp", "(I)V"⟩
abbrev cX0_addSlot : ByteArray := prog_2_method_8_code
def yX0_addSlot : MethodName := ⟨RX0, "addSlot", "(I)V"⟩
abbrev cX0_doBeat : ByteArray := prog_2_method_9_code
def yX0_doBeat : MethodName := ⟨RX0, "doBeat", "(I)V"⟩
abbrev cX0_freeDryer : ByteArray := prog_2_method_10_code
def yX0_freeDryer : MethodName := ⟨RX0, "freeDryer", "(I)I"⟩
abbrev cX0_goOut : ByteArray := prog_2_method_11_code
def yX0_goOut : MethodName := ⟨RX0, "goOut", "(IIII)V"⟩
abbrev cX0_moveOn : ByteArray := prog_2_method_12_code
def yX0_moveOn : MethodName := ⟨RX0, "moveOn", "(I)V"⟩
abbrev cX0_waterOfBeat : ByteArray := prog_2_method_13_code
def yX0_waterOfBeat : MethodName := ⟨RX0, "waterOfBeat", "()I"⟩
abbrev cX0_hasWaterOfNext : ByteArray := prog_2_method_14_code
def yX0_hasWaterOfNext : MethodName := ⟨RX0, "hasWaterOfNext", "(I)Z"⟩
abbrev cX0_colourAt : ByteArray := prog_2_method_15_code
def yX0_colourAt : MethodName := ⟨RX0, "colourAt", "(I)I"⟩
abbrev cX0_ironAll : ByteArray := prog_2_method_16_code
def yX0_ironAll : MethodName := ⟨RX0, "ironAll", "()V"⟩
abbrev cX0_firstDry : ByteArray := prog_2_method_17_code
def yX0_firstDry : MethodName := ⟨RX0, "firstDry", "(I)I"⟩
abbrev cX0_ironOne : ByteArray := prog_2_method_18_code
def yX0_ironOne : MethodName := ⟨RX0, "ironOne", "(I)V"⟩
abbrev cX0_firstIron : ByteArray := prog_2_method_19_code
def yX0_firstIron : MethodName := ⟨RX0, "firstIron", "()I"⟩
def RX1 : String := "LinenTunnel$Kinds"
def TX1 : u_T := fun k => match k with
  | 0 => ("LinenTunnel$Kinds", "number", "I", false)
  | 1 => ("LinenTunnel$Kinds", "heat", "LLinenTunnel$Row;", true)
  | 2 => ("LinenTunnel$Kinds", "colour", "LLinenTunnel$Row;", true)
  | 3 => ("LinenTunnel$Kinds", "foul", "LLinenTunnel$Row;", true)
  | 4 => ("LinenTunnel$Kinds", "dry", "LLinenTunnel$Row;", true)
  | _ => ("LinenTunnel$Kinds", "iron", "LLinenTunnel$Row;", true)
def tyX1 : Nat → FieldType := fun k => match k with
  | 0 => .int
  | 1 => .object "LinenTunnel$Row"
  | 2 => .object "LinenTunnel$Row"
  | 3 => .object "LinenTunnel$Row"
  | 4 => .object "LinenTunnel$Row"
  | _ => .object "LinenTunnel$Row"
abbrev wsX10 : List Cond := u_ws RX1 TX1 6
theorem nmX1 : ∀ a, a < 6 → ∀ b, b < 6 → a ≠ b → (TX1 a).2.1 ≠ (TX1 b).2.1 := by decide +kernel
theorem tyX1_ok : ∀ k, k < 6 → parseFieldDescriptor (TX1 k).2.2.1 = some (tyX1 k) := by decide +kernel
abbrev cX1_init : ByteArray := prog_3_method_1_code
def yX1_init : MethodName := ⟨RX1, "<init>", "()V"⟩
abbrev cX1_add : ByteArray := prog_3_method_2_code
def yX1_add : MethodName := ⟨RX1, "add", "(IIZII)I"⟩
abbrev cX1_gap : ByteArray := prog_3_method_3_code
def yX1_gap : MethodName := ⟨RX1, "gap", "(II)I"⟩
def RX2 : String := "LinenTunnel$Linen"
def TX2 : u_T := fun k => match k with
  | 0 => ("LinenTunnel$Linen", "number", "I", false)
  | 1 => ("LinenTunnel$Linen", "kind", "LLinenTunnel$Row;", true)
  | 2 => ("LinenTunnel$Linen", "owner", "LLinenTunnel$Row;", true)
  | 3 => ("LinenTunnel$Linen", "chip", "LLinenTunnel$Row;", true)
  | 4 => ("LinenTunnel$Linen", "place", "LLinenTunnel$Row;", true)
  | 5 => ("LinenTunnel$Linen", "washes", "LLinenTunnel$Row;", true)
  | _ => ("LinenTunnel$Linen", "batch", "LLinenTunnel$Row;", true)
def tyX2 : Nat → FieldType := fun k => match k with
  | 0 => .int
  | 1 => .object "LinenTunnel$Row"
  | 2 => .object "LinenTunnel$Row"
  | 3 => .object "LinenTunnel$Row"
  | 4 => .object "LinenTunnel$Row"
  | 5 => .object "LinenTunnel$Row"
  | _ => .object "LinenTunnel$Row"
abbrev wsX20 : List Cond := u_ws RX2 TX2 7
theorem nmX2 : ∀ a, a < 7 → ∀ b, b < 7 → a ≠ b → (TX2 a).2.1 ≠ (TX2 b).2.1 := by decide +kernel
theorem tyX2_ok : ∀ k, k < 7 → parseFieldDescriptor (TX2 k).2.2.1 = some (tyX2 k) := by decide +kernel
abbrev cX2_init : ByteArray := prog_4_method_1_code
def yX2_init : MethodName := ⟨RX2, "<init>", "()V"⟩
abbrev cX2_add : ByteArray := prog_4_method_2_code
def yX2_add : MethodName := ⟨RX2, "add", "(IIZ)I"⟩
abbrev cX2_fits : ByteArray := prog_4_method_3_code
def yX2_fits : MethodName := ⟨RX2, "fits", "(IIII)Z"⟩
abbrev cX2_tally : ByteArray := prog_4_method_4_code
def yX2_tally : MethodName := ⟨RX2, "tally", "(III)I"⟩
abbrev cX2_fillBatch : ByteArray := prog_4_method_5_code
def yX2_fillBatch : MethodName := ⟨RX2, "fillBatch", "(IIII)I"⟩
abbrev cX2_pieceOfBatch : ByteArray := prog_4_method_6_code
def yX2_pieceOfBatch : MethodName := ⟨RX2, "pieceOfBatch", "(II)I"⟩
abbrev cX2_emptyBatch : ByteArray := prog_4_method_7_code
def yX2_emptyBatch : MethodName := ⟨RX2, "emptyBatch", "(I)V"⟩
abbrev cX2_cleanBatches : ByteArray := prog_4_method_8_code
def yX2_cleanBatches : MethodName := ⟨RX2, "cleanBatches", "()V"⟩
abbrev cX2_sendOut : ByteArray := prog_4_method_9_code
def yX2_sendOut : MethodName := ⟨RX2, "sendOut", "(III)I"⟩
def RX3 : String := "LinenTunnel$Planner"
def TX3 : u_T := fun k => match k with
  | 0 => ("LinenTunnel$Planner", "waiting", "LLinenTunnel$Waiting;", true)
  | 1 => ("LinenTunnel$Planner", "gaps", "LLinenTunnel$Row;", true)
  | _ => ("LinenTunnel$Planner", "fewest", "LLinenTunnel$Row;", true)
def tyX3 : Nat → FieldType := fun k => match k with
  | 0 => .object "LinenTunnel$Waiting"
  | 1 => .object "LinenTunnel$Row"
  | _ => .object "LinenTunnel$Row"
abbrev wsX30 : List Cond := u_ws RX3 TX3 3
theorem nmX3 : ∀ a, a < 3 → ∀ b, b < 3 → a ≠ b → (TX3 a).2.1 ≠ (TX3 b).2.1 := by decide +kernel
theorem tyX3_ok : ∀ k, k < 3 → parseFieldDescriptor (TX3 k).2.2.1 = some (tyX3 k) := by decide +kernel
abbrev cX3_init : ByteArray := prog_5_method_1_code
def yX3_init : MethodName := ⟨RX3, "<init>", "(LLinenTunnel$Waiting;)V"⟩
abbrev cX3_orderBest : ByteArray := prog_5_method_2_code
def yX3_orderBest : MethodName := ⟨RX3, "orderBest", "()V"⟩
abbrev cX3_fillGaps : ByteArray := prog_5_method_3_code
def yX3_fillGaps : MethodName := ⟨RX3, "fillGaps", "()V"⟩
abbrev cX3_fillFewest : ByteArray := prog_5_method_4_code
def yX3_fillFewest : MethodName := ⟨RX3, "fillFewest", "()V"⟩
abbrev cX3_bestBehind : ByteArray := prog_5_method_5_code
def yX3_bestBehind : MethodName := ⟨RX3, "bestBehind", "(II)I"⟩
abbrev cX3_costBehind : ByteArray := prog_5_method_6_code
def yX3_costBehind : MethodName := ⟨RX3, "costBehind", "(III)I"⟩
def RX4 : String := "LinenTunnel$Row"
def TX4 : u_T := fun k => match k with
  | _ => ("LinenTunnel$Row", "items", "[I", true)
def tyX4 : Nat → FieldType := fun k => match k with
  | _ => .array .int
abbrev wsX40 : List Cond := u_ws RX4 TX4 1
theorem nmX4 : ∀ a, a < 1 → ∀ b, b < 1 → a ≠ b → (TX4 a).2.1 ≠ (TX4 b).2.1 := by decide +kernel
theorem tyX4_ok : ∀ k, k < 1 → parseFieldDescriptor (TX4 k).2.2.1 = some (tyX4 k) := by decide +kernel
abbrev cX4_init : ByteArray := prog_6_method_1_code
def yX4_init : MethodName := ⟨RX4, "<init>", "(I)V"⟩
abbrev cX4_read : ByteArray := prog_6_method_2_code
def yX4_read : MethodName := ⟨RX4, "read", "(I)I"⟩
abbrev cX4_write : ByteArray := prog_6_method_3_code
def yX4_write : MethodName := ⟨RX4, "write", "(II)V"⟩
abbrev cX4_fill : ByteArray := prog_6_method_4_code
def yX4_fill : MethodName := ⟨RX4, "fill", "(I)V"⟩
def RX5 : String := "LinenTunnel$Sheets"
def TX5 : u_T := fun k => match k with
  | 0 => ("LinenTunnel$Sheets", "form", "LLinenTunnel$Row;", true)
  | 1 => ("LinenTunnel$Sheets", "size", "LLinenTunnel$Row;", true)
  | _ => ("LinenTunnel$Sheets", "items", "LLinenTunnel$Row;", true)
def tyX5 : Nat → FieldType := fun k => match k with
  | 0 => .object "LinenTunnel$Row"
  | 1 => .object "LinenTunnel$Row"
  | _ => .object "LinenTunnel$Row"
abbrev wsX50 : List Cond := u_ws RX5 TX5 3
theorem nmX5 : ∀ a, a < 3 → ∀ b, b < 3 → a ≠ b → (TX5 a).2.1 ≠ (TX5 b).2.1 := by decide +kernel
theorem tyX5_ok : ∀ k, k < 3 → parseFieldDescriptor (TX5 k).2.2.1 = some (tyX5 k) := by decide +kernel
abbrev cX5_init : ByteArray := prog_7_method_1_code
def yX5_init : MethodName := ⟨RX5, "<init>", "()V"⟩
abbrev cX5_isLost : ByteArray := prog_7_method_2_code
def yX5_isLost : MethodName := ⟨RX5, "isLost", "(I)Z"⟩
abbrev cX5_holds : ByteArray := prog_7_method_3_code
def yX5_holds : MethodName := ⟨RX5, "holds", "(III)Z"⟩
abbrev cX5_findingAt : ByteArray := prog_7_method_4_code
def yX5_findingAt : MethodName := ⟨RX5, "findingAt", "(III)I"⟩
abbrev cX5_renew : ByteArray := prog_7_method_5_code
def yX5_renew : MethodName := ⟨RX5, "renew", "(III)V"⟩
abbrev cX5_item : ByteArray := prog_7_method_6_code
def yX5_item : MethodName := ⟨RX5, "item", "(II)I"⟩
abbrev cX5_setItem : ByteArray := prog_7_method_7_code
def yX5_setItem : MethodName := ⟨RX5, "setItem", "(III)V"⟩
abbrev cX5_lowestBits : ByteArray := prog_7_method_8_code
def yX5_lowestBits : MethodName := ⟨RX5, "lowestBits", "(II)I"⟩
abbrev cX5_moveItems : ByteArray := prog_7_method_9_code
def yX5_moveItems : MethodName := ⟨RX5, "moveItems", "(IIIII)V"⟩
def RX6 : String := "LinenTunnel$Waiting"
def TX6 : u_T := fun k => match k with
  | 0 => ("LinenTunnel$Waiting", "kinds", "LLinenTunnel$Kinds;", true)
  | 1 => ("LinenTunnel$Waiting", "number", "I", false)
  | 2 => ("LinenTunnel$Waiting", "kind", "LLinenTunnel$Row;", true)
  | 3 => ("LinenTunnel$Waiting", "size", "LLinenTunnel$Row;", true)
  | _ => ("LinenTunnel$Waiting", "order", "LLinenTunnel$Row;", true)
def tyX6 : Nat → FieldType := fun k => match k with
  | 0 => .object "LinenTunnel$Kinds"
  | 1 => .int
  | 2 => .object "LinenTunnel$Row"
  | 3 => .object "LinenTunnel$Row"
  | _ => .object "LinenTunnel$Row"
abbrev wsX60 : List Cond := u_ws RX6 TX6 5
theorem nmX6 : ∀ a, a < 5 → ∀ b, b < 5 → a ≠ b → (TX6 a).2.1 ≠ (TX6 b).2.1 := by decide +kernel
theorem tyX6_ok : ∀ k, k < 5 → parseFieldDescriptor (TX6 k).2.2.1 = some (tyX6 k) := by decide +kernel
abbrev cX6_init : ByteArray := prog_8_method_1_code
def yX6_init : MethodName := ⟨RX6, "<init>", "(LLinenTunnel$Kinds;)V"⟩
abbrev cX6_add : ByteArray := prog_8_method_2_code
def yX6_add : MethodName := ⟨RX6, "add", "(II)V"⟩
abbrev cX6_dropLast : ByteArray := prog_8_method_3_code
def yX6_dropLast : MethodName := ⟨RX6, "dropLast", "(I)V"⟩
abbrev cX6_placeOf : ByteArray := prog_8_method_4_code
def yX6_placeOf : MethodName := ⟨RX6, "placeOf", "(I)I"⟩
abbrev cX6_gapOf : ByteArray := prog_8_method_5_code
def yX6_gapOf : MethodName := ⟨RX6, "gapOf", "(II)I"⟩
abbrev cX6_gapAhead : ByteArray := prog_8_method_6_code
def yX6_gapAhead : MethodName := ⟨RX6, "gapAhead", "(I)I"⟩
abbrev cX6_gapsInOrder : ByteArray := prog_8_method_7_code
def yX6_gapsInOrder : MethodName := ⟨RX6, "gapsInOrder", "()I"⟩
abbrev cX6_orderByNext : ByteArray := prog_8_method_8_code
def yX6_orderByNext : MethodName := ⟨RX6, "orderByNext", "()V"⟩
abbrev cX6_nextOf : ByteArray := prog_8_method_9_code
def yX6_nextOf : MethodName := ⟨RX6, "nextOf", "(II)I"⟩
def RX7 : String := "LinenTunnel"
def TX7 : u_T := fun k => match k with
  | 0 => ("LinenTunnel", "kinds", "LLinenTunnel$Kinds;", true)
  | 1 => ("LinenTunnel", "linen", "LLinenTunnel$Linen;", true)
  | 2 => ("LinenTunnel", "waiting", "LLinenTunnel$Waiting;", true)
  | 3 => ("LinenTunnel", "planner", "LLinenTunnel$Planner;", true)
  | 4 => ("LinenTunnel", "house", "LLinenTunnel$House;", true)
  | 5 => ("LinenTunnel", "sheets", "LLinenTunnel$Sheets;", true)
  | _ => ("LinenTunnel", "latestFinding", "I", false)
def tyX7 : Nat → FieldType := fun k => match k with
  | 0 => .object "LinenTunnel$Kinds"
  | 1 => .object "LinenTunnel$Linen"
  | 2 => .object "LinenTunnel$Waiting"
  | 3 => .object "LinenTunnel$Planner"
  | 4 => .object "LinenTunnel$House"
  | 5 => .object "LinenTunnel$Sheets"
  | _ => .int
abbrev wsX70 : List Cond := u_ws RX7 TX7 7
theorem nmX7 : ∀ a, a < 7 → ∀ b, b < 7 → a ≠ b → (TX7 a).2.1 ≠ (TX7 b).2.1 := by decide +kernel
theorem tyX7_ok : ∀ k, k < 7 → parseFieldDescriptor (TX7 k).2.2.1 = some (tyX7 k) := by decide +kernel
abbrev cX7_init : ByteArray := prog_1_method_1_code
def yX7_init : MethodName := ⟨RX7, "<init>", "()V"⟩
abbrev cX7_kind : ByteArray := prog_1_method_2_code
def yX7_kind : MethodName := ⟨RX7, "kind", "(IIZII)I"⟩
abbrev cX7_piece : ByteArray := prog_1_method_3_code
def yX7_piece : MethodName := ⟨RX7, "piece", "(IIZ)I"⟩
abbrev cX7_about : ByteArray := prog_1_method_4_code
def yX7_about : MethodName := ⟨RX7, "about", "(II)I"⟩
abbrev cX7_chip : ByteArray := prog_1_method_5_code
def yX7_chip : MethodName := ⟨RX7, "chip", "(IZ)I"⟩
abbrev cX7_lost : ByteArray := prog_1_method_6_code
def yX7_lost : MethodName := ⟨RX7, "lost", "(I)I"⟩
abbrev cX7_again : ByteArray := prog_1_method_7_code
def yX7_again : MethodName := ⟨RX7, "again", "(I)I"⟩
abbrev cX7_pieces : ByteArray := prog_1_method_8_code
def yX7_pieces : MethodName := ⟨RX7, "pieces", "(III)I"⟩
abbrev cX7_scan : ByteArray := prog_1_method_9_code
def yX7_scan : MethodName := ⟨RX7, "scan", "(II)I"⟩
abbrev cX7_hand : ByteArray := prog_1_method_10_code
def yX7_hand : MethodName := ⟨RX7, "hand", "(I)I"⟩
abbrev cX7_batch : ByteArray := prog_1_method_11_code
def yX7_batch : MethodName := ⟨RX7, "batch", "(III)I"⟩
abbrev cX7_at : ByteArray := prog_1_method_12_code
def yX7_at : MethodName := ⟨RX7, "at", "(I)I"⟩
abbrev cX7_of : ByteArray := prog_1_method_13_code
def yX7_of : MethodName := ⟨RX7, "of", "(II)I"⟩
abbrev cX7_swap : ByteArray := prog_1_method_14_code
def yX7_swap : MethodName := ⟨RX7, "swap", "(II)I"⟩
abbrev cX7_undo : ByteArray := prog_1_method_15_code
def yX7_undo : MethodName := ⟨RX7, "undo", "()I"⟩
abbrev cX7_between : ByteArray := prog_1_method_16_code
def yX7_between : MethodName := ⟨RX7, "between", "(II)I"⟩
abbrev cX7_empties : ByteArray := prog_1_method_17_code
def yX7_empties : MethodName := ⟨RX7, "empties", "()I"⟩
abbrev cX7_plan : ByteArray := prog_1_method_18_code
def yX7_plan : MethodName := ⟨RX7, "plan", "()I"⟩
abbrev cX7_greedy : ByteArray := prog_1_method_19_code
def yX7_greedy : MethodName := ⟨RX7, "greedy", "()I"⟩
abbrev cX7_tunnel : ByteArray := prog_1_method_20_code
def yX7_tunnel : MethodName := ⟨RX7, "tunnel", "(III)I"⟩
abbrev cX7_wash : ByteArray := prog_1_method_21_code
def yX7_wash : MethodName := ⟨RX7, "wash", "()I"⟩
abbrev cX7_washed : ByteArray := prog_1_method_22_code
def yX7_washed : MethodName := ⟨RX7, "washed", "(I)I"⟩
abbrev cX7_run : ByteArray := prog_1_method_23_code
def yX7_run : MethodName := ⟨RX7, "run", "(II)I"⟩
abbrev cX7_pack : ByteArray := prog_1_method_24_code
def yX7_pack : MethodName := ⟨RX7, "pack", "(III)I"⟩
abbrev cX7_sheet : ByteArray := prog_1_method_25_code
def yX7_sheet : MethodName := ⟨RX7, "sheet", "(III)I"⟩
abbrev cX7_lose : ByteArray := prog_1_method_26_code
def yX7_lose : MethodName := ⟨RX7, "lose", "(I)I"⟩
abbrev cX7_put : ByteArray := prog_1_method_27_code
def yX7_put : MethodName := ⟨RX7, "put", "(IIII)I"⟩
abbrev cX7_get : ByteArray := prog_1_method_28_code
def yX7_get : MethodName := ⟨RX7, "get", "(III)I"⟩
abbrev cX7_copy : ByteArray := prog_1_method_29_code
def yX7_copy : MethodName := ⟨RX7, "copy", "(IIIII)I"⟩
abbrev cX7_list : ByteArray := prog_1_method_30_code
def yX7_list : MethodName := ⟨RX7, "list", "(III)I"⟩
abbrev cX7_count : ByteArray := prog_1_method_31_code
def yX7_count : MethodName := ⟨RX7, "count", "(I)I"⟩
abbrev cX7_digest : ByteArray := prog_1_method_32_code
def yX7_digest : MethodName := ⟨RX7, "digest", "()J"⟩
abbrev cX7_within : ByteArray := prog_1_method_33_code
def yX7_within : MethodName := ⟨RX7, "within", "(III)Z"⟩
abbrev cX7_isKind : ByteArray := prog_1_method_34_code
def yX7_isKind : MethodName := ⟨RX7, "isKind", "(I)Z"⟩
abbrev cX7_isKindOrAny : ByteArray := prog_1_method_35_code
def yX7_isKindOrAny : MethodName := ⟨RX7, "isKindOrAny", "(I)Z"⟩
abbrev cX7_isPiece : ByteArray := prog_1_method_36_code
def yX7_isPiece : MethodName := ⟨RX7, "isPiece", "(I)Z"⟩
abbrev cX7_isOrderPlace : ByteArray := prog_1_method_37_code
def yX7_isOrderPlace : MethodName := ⟨RX7, "isOrderPlace", "(I)Z"⟩
abbrev cX7_isOwner : ByteArray := prog_1_method_38_code
def yX7_isOwner : MethodName := ⟨RX7, "isOwner", "(I)Z"⟩
abbrev cX7_isOwnerOrAny : ByteArray := prog_1_method_39_code
def yX7_isOwnerOrAny : MethodName := ⟨RX7, "isOwnerOrAny", "(I)Z"⟩
abbrev cX7_isPlace : ByteArray := prog_1_method_40_code
def yX7_isPlace : MethodName := ⟨RX7, "isPlace", "(I)Z"⟩
abbrev cX7_isSheet : ByteArray := prog_1_method_41_code
def yX7_isSheet : MethodName := ⟨RX7, "isSheet", "(I)Z"⟩
abbrev cX7_isForm : ByteArray := prog_1_method_42_code
def yX7_isForm : MethodName := ⟨RX7, "isForm", "(I)Z"⟩
abbrev cX7_find : ByteArray := prog_1_method_43_code
def yX7_find : MethodName := ⟨RX7, "find", "(I)I"⟩
abbrev cX7_soilFrom : ByteArray := prog_1_method_44_code
def yX7_soilFrom : MethodName := ⟨RX7, "soilFrom", "(II)I"⟩
def RX8 : String := "LinenTunnelModel"
def TX8 : u_T := fun k => match k with
  | 0 => ("LinenTunnelModel", "kinds", "I", false)
  | 1 => ("LinenTunnelModel", "heats", "[I", true)
  | 2 => ("LinenTunnelModel", "colours", "[I", true)
  | 3 => ("LinenTunnelModel", "isFoul", "[Z", true)
  | 4 => ("LinenTunnelModel", "dries", "[I", true)
  | 5 => ("LinenTunnelModel", "irons", "[I", true)
  | 6 => ("LinenTunnelModel", "pieceMany", "I", false)
  | 7 => ("LinenTunnelModel", "kindOf", "[I", true)
  | 8 => ("LinenTunnelModel", "ownerOf", "[I", true)
  | 9 => ("LinenTunnelModel", "hasChip", "[Z", true)
  | 10 => ("LinenTunnelModel", "placeOf", "[I", true)
  | 11 => ("LinenTunnelModel", "washes", "[I", true)
  | 12 => ("LinenTunnelModel", "batchOf", "[I", true)
  | 13 => ("LinenTunnelModel", "batches", "I", false)
  | 14 => ("LinenTunnelModel", "batchKind", "[I", true)
  | 15 => ("LinenTunnelModel", "batchMany", "[I", true)
  | 16 => ("LinenTunnelModel", "batchPiece", "[I", true)
  | 17 => ("LinenTunnelModel", "order", "[I", true)
  | 18 => ("LinenTunnelModel", "compartments", "I", false)
  | 19 => ("LinenTunnelModel", "dryers", "I", false)
  | 20 => ("LinenTunnelModel", "ironMany", "I", false)
  | 21 => ("LinenTunnelModel", "washMany", "I", false)
  | 22 => ("LinenTunnelModel", "yet", "[I", true)
  | 23 => ("LinenTunnelModel", "slots", "[I", true)
  | 24 => ("LinenTunnelModel", "inside", "[I", true)
  | 25 => ("LinenTunnelModel", "dryerFree", "[I", true)
  | 26 => ("LinenTunnelModel", "ironFree", "[I", true)
  | 27 => ("LinenTunnelModel", "washed", "[I", true)
  | 28 => ("LinenTunnelModel", "runs", "I", false)
  | 29 => ("LinenTunnelModel", "runRows", "[I", true)
  | 30 => ("LinenTunnelModel", "wentOut", "[I", true)
  | 31 => ("LinenTunnelModel", "isThere", "[Z", true)
  | 32 => ("LinenTunnelModel", "forms", "[I", true)
  | 33 => ("LinenTunnelModel", "sizes", "[I", true)
  | 34 => ("LinenTunnelModel", "items", "[I", true)
  | 35 => ("LinenTunnelModel", "moved", "[I", true)
  | _ => ("LinenTunnelModel", "finding", "I", false)
def tyX8 : Nat → FieldType := fun k => match k with
  | 0 => .int
  | 1 => .array .int
  | 2 => .array .int
  | 3 => .array .boolean
  | 4 => .array .int
  | 5 => .array .int
  | 6 => .int
  | 7 => .array .int
  | 8 => .array .int
  | 9 => .array .boolean
  | 10 => .array .int
  | 11 => .array .int
  | 12 => .array .int
  | 13 => .int
  | 14 => .array .int
  | 15 => .array .int
  | 16 => .array .int
  | 17 => .array .int
  | 18 => .int
  | 19 => .int
  | 20 => .int
  | 21 => .int
  | 22 => .array .int
  | 23 => .array .int
  | 24 => .array .int
  | 25 => .array .int
  | 26 => .array .int
  | 27 => .array .int
  | 28 => .int
  | 29 => .array .int
  | 30 => .array .int
  | 31 => .array .boolean
  | 32 => .array .int
  | 33 => .array .int
  | 34 => .array .int
  | 35 => .array .int
  | _ => .int
abbrev wsX80 : List Cond := u_ws RX8 TX8 37
theorem nmX8 : ∀ a, a < 37 → ∀ b, b < 37 → a ≠ b → (TX8 a).2.1 ≠ (TX8 b).2.1 := by decide +kernel
theorem tyX8_ok : ∀ k, k < 37 → parseFieldDescriptor (TX8 k).2.2.1 = some (tyX8 k) := by decide +kernel
abbrev cX8_init : ByteArray := prog_10_method_1_code
def yX8_init : MethodName := ⟨RX8, "<init>", "()V"⟩
abbrev cX8_in : ByteArray := prog_10_method_3_code
def yX8_in : MethodName := ⟨RX8, "in", "(III)Z"⟩
abbrev cX8_isKind : ByteArray := prog_10_method_4_code
def yX8_isKind : MethodName := ⟨RX8, "isKind", "(I)Z"⟩
abbrev cX8_isPiece : ByteArray := prog_10_method_5_code
def yX8_isPiece : MethodName := ⟨RX8, "isPiece", "(I)Z"⟩
abbrev cX8_kind : ByteArray := prog_10_method_6_code
def yX8_kind : MethodName := ⟨RX8, "kind", "(IIZII)I"⟩
abbrev cX8_piece : ByteArray := prog_10_method_7_code
def yX8_piece : MethodName := ⟨RX8, "piece", "(IIZ)I"⟩
abbrev cX8_about : ByteArray := prog_10_method_8_code
def yX8_about : MethodName := ⟨RX8, "about", "(II)I"⟩
abbrev cX8_chip : ByteArray := prog_10_method_9_code
def yX8_chip : MethodName := ⟨RX8, "chip", "(IZ)I"⟩
abbrev cX8_lost : ByteArray := prog_10_method_10_code
def yX8_lost : MethodName := ⟨RX8, "lost", "(I)I"⟩
abbrev cX8_again : ByteArray := prog_10_method_11_code
def yX8_again : MethodName := ⟨RX8, "again", "(I)I"⟩
abbrev cX8_is : ByteArray := prog_10_method_12_code
def yX8_is : MethodName := ⟨RX8, "is", "(IIII)Z"⟩
abbrev cX8_pieces : ByteArray := prog_10_method_13_code
def yX8_pieces : MethodName := ⟨RX8, "pieces", "(III)I"⟩
abbrev cX8_scan : ByteArray := prog_10_method_14_code
def yX8_scan : MethodName := ⟨RX8, "scan", "(II)I"⟩
abbrev cX8_hand : ByteArray := prog_10_method_15_code
def yX8_hand : MethodName := ⟨RX8, "hand", "(I)I"⟩
abbrev cX8_batch : ByteArray := prog_10_method_16_code
def yX8_batch : MethodName := ⟨RX8, "batch", "(III)I"⟩
abbrev cX8_at : ByteArray := prog_10_method_17_code
def yX8_at : MethodName := ⟨RX8, "at", "(I)I"⟩
abbrev cX8_placeIn : ByteArray := prog_10_method_18_code
def yX8_placeIn : MethodName := ⟨RX8, "placeIn", "(I)I"⟩
abbrev cX8_of : ByteArray := prog_10_method_19_code
def yX8_of : MethodName := ⟨RX8, "of", "(II)I"⟩
abbrev cX8_swap : ByteArray := prog_10_method_20_code
def yX8_swap : MethodName := ⟨RX8, "swap", "(II)I"⟩
abbrev cX8_undo : ByteArray := prog_10_method_21_code
def yX8_undo : MethodName := ⟨RX8, "undo", "()I"⟩
abbrev cX8_emptiesOf : ByteArray := prog_10_method_22_code
def yX8_emptiesOf : MethodName := ⟨RX8, "emptiesOf", "(II)I"⟩
abbrev cX8_between : ByteArray := prog_10_method_23_code
def yX8_between : MethodName := ⟨RX8, "between", "(II)I"⟩
abbrev cX8_betweenBatches : ByteArray := prog_10_method_24_code
def yX8_betweenBatches : MethodName := ⟨RX8, "betweenBatches", "(II)I"⟩
abbrev cX8_empties : ByteArray := prog_10_method_25_code
def yX8_empties : MethodName := ⟨RX8, "empties", "()I"⟩
abbrev cX8_plan : ByteArray := prog_10_method_26_code
def yX8_plan : MethodName := ⟨RX8, "plan", "()I"⟩
abbrev cX8_greedy : ByteArray := prog_10_method_27_code
def yX8_greedy : MethodName := ⟨RX8, "greedy", "()I"⟩
abbrev cX8_tunnel : ByteArray := prog_10_method_28_code
def yX8_tunnel : MethodName := ⟨RX8, "tunnel", "(III)I"⟩
abbrev cX8_dryerAt : ByteArray := prog_10_method_29_code
def yX8_dryerAt : MethodName := ⟨RX8, "dryerAt", "(I)I"⟩
abbrev cX8_kindAt : ByteArray := prog_10_method_30_code
def yX8_kindAt : MethodName := ⟨RX8, "kindAt", "(I)I"⟩
abbrev cX8_waterNow : ByteArray := prog_10_method_31_code
def yX8_waterNow : MethodName := ⟨RX8, "waterNow", "()I"⟩
abbrev cX8_goesOut : ByteArray := prog_10_method_32_code
def yX8_goesOut : MethodName := ⟨RX8, "goesOut", "(III)V"⟩
abbrev cX8_irons : ByteArray := prog_10_method_33_code
def yX8_irons : MethodName := ⟨RX8, "irons", "()V"⟩
abbrev cX8_wash : ByteArray := prog_10_method_34_code
def yX8_wash : MethodName := ⟨RX8, "wash", "()I"⟩
abbrev cX8_washed : ByteArray := prog_10_method_35_code
def yX8_washed : MethodName := ⟨RX8, "washed", "(I)I"⟩
abbrev cX8_run : ByteArray := prog_10_method_36_code
def yX8_run : MethodName := ⟨RX8, "run", "(II)I"⟩
abbrev cX8_pack : ByteArray := prog_10_method_37_code
def yX8_pack : MethodName := ⟨RX8, "pack", "(III)I"⟩
abbrev cX8_meets : ByteArray := prog_10_method_38_code
def yX8_meets : MethodName := ⟨RX8, "meets", "(I)I"⟩
abbrev cX8_isSheet : ByteArray := prog_10_method_39_code
def yX8_isSheet : MethodName := ⟨RX8, "isSheet", "(I)Z"⟩
abbrev cX8_sheet : ByteArray := prog_10_method_40_code
def yX8_sheet : MethodName := ⟨RX8, "sheet", "(III)I"⟩
abbrev cX8_lose : ByteArray := prog_10_method_41_code
def yX8_lose : MethodName := ⟨RX8, "lose", "(I)I"⟩
abbrev cX8_lacks : ByteArray := prog_10_method_42_code
def yX8_lacks : MethodName := ⟨RX8, "lacks", "(III)I"⟩
abbrev cX8_lay : ByteArray := prog_10_method_43_code
def yX8_lay : MethodName := ⟨RX8, "lay", "(III)V"⟩
abbrev cX8_put : ByteArray := prog_10_method_44_code
def yX8_put : MethodName := ⟨RX8, "put", "(IIII)I"⟩
abbrev cX8_get : ByteArray := prog_10_method_45_code
def yX8_get : MethodName := ⟨RX8, "get", "(III)I"⟩
abbrev cX8_copy : ByteArray := prog_10_method_46_code
def yX8_copy : MethodName := ⟨RX8, "copy", "(IIIII)I"⟩
abbrev cX8_list : ByteArray := prog_10_method_47_code
def yX8_list : MethodName := ⟨RX8, "list", "(III)I"⟩
abbrev cX8_count : ByteArray := prog_10_method_48_code
def yX8_count : MethodName := ⟨RX8, "count", "(I)I"⟩
abbrev cX8_digest : ByteArray := prog_10_method_49_code
def yX8_digest : MethodName := ⟨RX8, "digest", "()J"⟩
def RJ9 : String := "java/lang/Math"
def TJ9 : u_T := fun k => match k with
  | _ => ("", "", "", false)
def tyJ9 : Nat → FieldType := fun k => match k with
  | _ => .int
abbrev wsJ90 : List Cond := u_ws RJ9 TJ9 0
theorem nmJ9 : ∀ a, a < 0 → ∀ b, b < 0 → a ≠ b → (TJ9 a).2.1 ≠ (TJ9 b).2.1 := by decide +kernel
theorem tyJ9_ok : ∀ k, k < 0 → parseFieldDescriptor (TJ9 k).2.2.1 = some (tyJ9 k) := by decide +kernel
abbrev cJ9_abs_0f7a4 : ByteArray := prog_11_method_59_code
def yJ9_abs_0f7a4 : MethodName := ⟨RJ9, "abs", "(I)I"⟩
abbrev cJ9_max_7cf53 : ByteArray := prog_11_method_65_code
def yJ9_max_7cf53 : MethodName := ⟨RJ9, "max", "(II)I"⟩
def RL : String := "LinenTunnelLaw"
abbrev cL_law : ByteArray := code
def yL_law : MethodName := ⟨RL, "law", "([I)Z"⟩
def wsX4_init : List Cond := .code yX4_init cX4_init 2 none :: ([.methodLink RX4 1 objectInit, .instanceMethod objectInit, .code objectInit ⟨#[0xb1]⟩ 1 none, .arrayClass .int, .fieldLink RX4 7 "LinenTunnel$Row" "items" "[I"] ++ wsX40)
def wsX0_init_r1 : List Cond := [Cond.methodLink RX0 3 objectInit, Cond.instanceMethod objectInit, Cond.code objectInit ⟨#[0xb1]⟩ 1 none, Cond.fieldLink RX0 9 "LinenTunnel$House" "compartments" "I", Cond.fieldLink RX0 15 "LinenTunnel$House" "dryers" "I", Cond.fieldLink RX0 18 "LinenTunnel$House" "irons" "I", Cond.fieldLink RX0 21 "LinenTunnel$House" "washes" "I", Cond.fieldLink RX0 24 "LinenTunnel$House" "slotNumber" "I", Cond.fieldLink RX0 27 "LinenTunnel$House" "nextSlot" "I", Cond.fieldLink RX0 30 "LinenTunnel$House" "gone" "I", Cond.classLink RX0 33 RX4, Cond.instantiable RX4 1, Cond.initialized RX4, Cond.fieldLink RX0 38 "LinenTunnel$House" "slots" "LLinenTunnel$Row;", Cond.fieldLink RX0 42 "LinenTunnel$House" "inside" "LLinenTunnel$Row;", Cond.fieldLink RX0 45 "LinenTunnel$House" "dryerTill" "LLinenTunnel$Row;", Cond.fieldLink RX0 48 "LinenTunnel$House" "ironTill" "LLinenTunnel$Row;", Cond.fieldLink RX0 51 "LinenTunnel$House" "size" "LLinenTunnel$Row;", Cond.fieldLink RX0 54 "LinenTunnel$House" "facts" "LLinenTunnel$Row;", Cond.fieldLink RX0 57 "LinenTunnel$House" "totals" "LLinenTunnel$Row;", Cond.fieldLink RX0 60 "LinenTunnel$House" "kinds" "LLinenTunnel$Kinds;", Cond.fieldLink RX0 64 "LinenTunnel$House" "waiting" "LLinenTunnel$Waiting;", Cond.methodLink RX0 35 yX4_init, Cond.instanceMethod yX4_init]
def wsX0_init_r2 : List Cond := [Cond.code yX4_init cX4_init 2 none, Cond.methodLink RX4 1 objectInit, Cond.arrayClass .int, Cond.fieldLink RX4 7 "LinenTunnel$Row" "items" "[I"]
def wsX0_init : List Cond := .code yX0_init cX0_init 3 none :: ((wsX0_init_r1 ++ wsX0_init_r2) ++ wsX00 ++ wsX40)
def wsX4_read : List Cond := .code yX4_read cX4_read 2 (some .int) :: ([.fieldLink RX4 7 "LinenTunnel$Row" "items" "[I"] ++ wsX40)
def wsX0_fact : List Cond := .code yX0_fact cX0_fact 3 (some .int) :: ([.fieldLink RX0 54 "LinenTunnel$House" "facts" "LLinenTunnel$Row;", .methodLink RX0 68 yX4_read, .instanceMethod yX4_read, .selects RX4 yX4_read yX4_read, .initialized RX4, .code yX4_read cX4_read 2 (some .int), .fieldLink RX4 7 "LinenTunnel$Row" "items" "[I"] ++ wsX00 ++ wsX40)
def wsX4_write : List Cond := .code yX4_write cX4_write 3 none :: ([.fieldLink RX4 7 "LinenTunnel$Row" "items" "[I"] ++ wsX40)
def wsX0_note : List Cond := .code yX0_note cX0_note 4 none :: ([.fieldLink RX0 54 "LinenTunnel$House" "facts" "LLinenTunnel$Row;", .methodLink RX0 72 yX4_write, .instanceMethod yX4_write, .selects RX4 yX4_write yX4_write, .initialized RX4, .code yX4_write cX4_write 3 none, .fieldLink RX4 7 "LinenTunnel$Row" "items" "[I"] ++ wsX00 ++ wsX40)
def wsX0_addTotal : List Cond := .code yX0_addTotal cX0_addTotal 3 none :: ([.fieldLink RX0 57 "LinenTunnel$House" "totals" "LLinenTunnel$Row;", .methodLink RX0 68 yX4_read, .instanceMethod yX4_read, .selects RX4 yX4_read yX4_read, .initialized RX4, .code yX4_read cX4_read 2 (some .int), .fieldLink RX4 7 "LinenTunnel$Row" "items" "[I", .methodLink RX0 72 yX4_write, .instanceMethod yX4_write, .selects RX4 yX4_write yX4_write, .code yX4_write cX4_write 3 none] ++ wsX00 ++ wsX40)
def wsX4_fill : List Cond := .code yX4_fill cX4_fill 3 none :: ([.fieldLink RX4 7 "LinenTunnel$Row" "items" "[I"] ++ wsX40)
def wsX0_clear : List Cond := .code yX0_clear cX0_clear 1 none :: ([.fieldLink RX0 24 "LinenTunnel$House" "slotNumber" "I", .fieldLink RX0 27 "LinenTunnel$House" "nextSlot" "I", .fieldLink RX0 30 "LinenTunnel$House" "gone" "I", .fieldLink RX0 57 "LinenTunnel$House" "totals" "LLinenTunnel$Row;", .fieldLink RX0 54 "LinenTunnel$House" "facts" "LLinenTunnel$Row;", .fieldLink RX0 42 "LinenTunnel$House" "inside" "LLinenTunnel$Row;", .fieldLink RX0 45 "LinenTunnel$House" "dryerTill" "LLinenTunnel$Row;", .fieldLink RX0 48 "LinenTunnel$House" "ironTill" "LLinenTunnel$Row;", .methodLink RX0 94 yX4_fill, .instanceMethod yX4_fill, .selects RX4 yX4_fill yX4_fill, .initialized RX4, .code yX4_fill cX4_fill 3 none, .fieldLink RX4 7 "LinenTunnel$Row" "items" "[I"] ++ wsX00 ++ wsX40)
def wsX1_gap : List Cond := .code yX1_gap cX1_gap 4 (some .int) :: ([.fieldLink RX1 24 "LinenTunnel$Kinds" "colour" "LLinenTunnel$Row;", .methodLink RX1 44 Lib.Math.max.name, .static Lib.Math.max.name, .initialized "java/lang/Math", .code Lib.Math.max.name Lib.Math.max.code 2 (some .int), .fieldLink RX1 20 "LinenTunnel$Kinds" "heat" "LLinenTunnel$Row;", .methodLink RX1 50 Lib.Math.abs.name, .static Lib.Math.abs.name, .code Lib.Math.abs.name Lib.Math.abs.code 1 (some .int), .fieldLink RX1 27 "LinenTunnel$Kinds" "foul" "LLinenTunnel$Row;", .methodLink RX1 40 yX4_read, .instanceMethod yX4_read, .selects RX4 yX4_read yX4_read, .initialized RX4, .code yX4_read cX4_read 2 (some .int), .fieldLink RX4 7 "LinenTunnel$Row" "items" "[I"] ++ wsX10 ++ wsX40)
def wsX6_gapOf : List Cond := .code yX6_gapOf cX6_gapOf 3 (some .int) :: ([.fieldLink RX6 30 "LinenTunnel$Waiting" "kinds" "LLinenTunnel$Kinds;", .fieldLink RX6 20 "LinenTunnel$Waiting" "kind" "LLinenTunnel$Row;", .methodLink RX6 38 yX4_read, .instanceMethod yX4_read, .selects RX4 yX4_read yX4_read, .initialized RX4, .code yX4_read cX4_read 2 (some .int), .fieldLink RX4 7 "LinenTunnel$Row" "items" "[I", .methodLink RX6 42 yX1_gap, .instanceMethod yX1_gap, .selects RX1 yX1_gap yX1_gap, .initialized RX1, .code yX1_gap cX1_gap 4 (some .int), .fieldLink RX1 24 "LinenTunnel$Kinds" "colour" "LLinenTunnel$Row;", .methodLink RX1 44 Lib.Math.max.name, .static Lib.Math.max.name, .initialized "java/lang/Math", .code Lib.Math.max.name Lib.Math.max.code 2 (some .int), .fieldLink RX1 20 "LinenTunnel$Kinds" "heat" "LLinenTunnel$Row;", .methodLink RX1 50 Lib.Math.abs.name, .static Lib.Math.abs.name, .code Lib.Math.abs.name Lib.Math.abs.code 1 (some .int), .fieldLink RX1 27 "LinenTunnel$Kinds" "foul" "LLinenTunnel$Row;", .methodLink RX1 40 yX4_read] ++ wsX60 ++ wsX40 ++ wsX10)
def wsX6_gapAhead_r1 : List Cond := [Cond.fieldLink RX6 27 "LinenTunnel$Waiting" "order" "LLinenTunnel$Row;", Cond.methodLink RX6 38 yX4_read, Cond.instanceMethod yX4_read, Cond.selects RX4 yX4_read yX4_read, Cond.initialized RX4, Cond.code yX4_read cX4_read 2 (some .int), Cond.fieldLink RX4 7 "LinenTunnel$Row" "items" "[I", Cond.methodLink RX6 48 yX6_gapOf, Cond.instanceMethod yX6_gapOf, Cond.selects RX6 yX6_gapOf yX6_gapOf, Cond.initialized RX6, Cond.code yX6_gapOf cX6_gapOf 3 (some .int), Cond.fieldLink RX6 30 "LinenTunnel$Waiting" "kinds" "LLinenTunnel$Kinds;", Cond.fieldLink RX6 20 "LinenTunnel$Waiting" "kind" "LLinenTunnel$Row;", Cond.methodLink RX6 42 yX1_gap, Cond.instanceMethod yX1_gap, Cond.selects RX1 yX1_gap yX1_gap, Cond.initialized RX1, Cond.code yX1_gap cX1_gap 4 (some .int), Cond.fieldLink RX1 24 "LinenTunnel$Kinds" "colour" "LLinenTunnel$Row;", Cond.methodLink RX1 44 Lib.Math.max.name, Cond.static Lib.Math.max.name, Cond.initialized "java/lang/Math", Cond.code Lib.Math.max.name Lib.Math.max.code 2 (some .int)]
def wsX6_gapAhead_r2 : List Cond := [Cond.fieldLink RX1 20 "LinenTunnel$Kinds" "heat" "LLinenTunnel$Row;", Cond.methodLink RX1 50 Lib.Math.abs.name, Cond.static Lib.Math.abs.name, Cond.code Lib.Math.abs.name Lib.Math.abs.code 1 (some .int), Cond.fieldLink RX1 27 "LinenTunnel$Kinds" "foul" "LLinenTunnel$Row;", Cond.methodLink RX1 40 yX4_read]
def wsX6_gapAhead : List Cond := .code yX6_gapAhead cX6_gapAhead 2 (some .int) :: ((wsX6_gapAhead_r1 ++ wsX6_gapAhead_r2) ++ wsX60 ++ wsX40 ++ wsX10)
def wsX0_addSlot : List Cond := .code yX0_addSlot cX0_addSlot 2 none :: ([.fieldLink RX0 38 "LinenTunnel$House" "slots" "LLinenTunnel$Row;", .fieldLink RX0 24 "LinenTunnel$House" "slotNumber" "I", .methodLink RX0 72 yX4_write, .instanceMethod yX4_write, .selects RX4 yX4_write yX4_write, .initialized RX4, .code yX4_write cX4_write 3 none, .fieldLink RX4 7 "LinenTunnel$Row" "items" "[I"] ++ wsX00 ++ wsX40)
def wsX0_lineUp_r1 : List Cond := [Cond.fieldLink RX0 64 "LinenTunnel$House" "waiting" "LLinenTunnel$Waiting;", Cond.fieldLink RX0 51 "LinenTunnel$House" "size" "LLinenTunnel$Row;", Cond.methodLink RX0 68 yX4_read, Cond.instanceMethod yX4_read, Cond.selects RX4 yX4_read yX4_read, Cond.initialized RX4, Cond.code yX4_read cX4_read 2 (some .int), Cond.fieldLink RX4 7 "LinenTunnel$Row" "items" "[I", Cond.methodLink RX0 101 yX6_gapAhead, Cond.instanceMethod yX6_gapAhead, Cond.selects RX6 yX6_gapAhead yX6_gapAhead, Cond.initialized RX6, Cond.code yX6_gapAhead cX6_gapAhead 2 (some .int), Cond.fieldLink RX6 27 "LinenTunnel$Waiting" "order" "LLinenTunnel$Row;", Cond.methodLink RX6 38 yX4_read, Cond.methodLink RX6 48 yX6_gapOf, Cond.instanceMethod yX6_gapOf, Cond.selects RX6 yX6_gapOf yX6_gapOf, Cond.code yX6_gapOf cX6_gapOf 3 (some .int), Cond.fieldLink RX6 30 "LinenTunnel$Waiting" "kinds" "LLinenTunnel$Kinds;", Cond.fieldLink RX6 20 "LinenTunnel$Waiting" "kind" "LLinenTunnel$Row;", Cond.methodLink RX6 42 yX1_gap, Cond.instanceMethod yX1_gap, Cond.selects RX1 yX1_gap yX1_gap]
def wsX0_lineUp_r2 : List Cond := [Cond.initialized RX1, Cond.code yX1_gap cX1_gap 4 (some .int), Cond.fieldLink RX1 24 "LinenTunnel$Kinds" "colour" "LLinenTunnel$Row;", Cond.methodLink RX1 44 Lib.Math.max.name, Cond.static Lib.Math.max.name, Cond.initialized "java/lang/Math", Cond.code Lib.Math.max.name Lib.Math.max.code 2 (some .int), Cond.fieldLink RX1 20 "LinenTunnel$Kinds" "heat" "LLinenTunnel$Row;", Cond.methodLink RX1 50 Lib.Math.abs.name, Cond.static Lib.Math.abs.name, Cond.code Lib.Math.abs.name Lib.Math.abs.code 1 (some .int), Cond.fieldLink RX1 27 "LinenTunnel$Kinds" "foul" "LLinenTunnel$Row;", Cond.methodLink RX1 40 yX4_read, Cond.methodLink RX0 104 yX0_addSlot, Cond.instanceMethod yX0_addSlot, Cond.selects RX0 yX0_addSlot yX0_addSlot, Cond.initialized RX0, Cond.code yX0_addSlot cX0_addSlot 2 none, Cond.fieldLink RX0 38 "LinenTunnel$House" "slots" "LLinenTunnel$Row;", Cond.fieldLink RX0 24 "LinenTunnel$House" "slotNumber" "I", Cond.methodLink RX0 72 yX4_write, Cond.instanceMethod yX4_write, Cond.selects RX4 yX4_write yX4_write, Cond.code yX4_write cX4_write 3 none]
def wsX0_lineUp_r3 : List Cond := [Cond.methodLink RX0 110 yX0_note, Cond.instanceMethod yX0_note, Cond.selects RX0 yX0_note yX0_note, Cond.code yX0_note cX0_note 4 none, Cond.fieldLink RX0 54 "LinenTunnel$House" "facts" "LLinenTunnel$Row;", Cond.methodLink RX0 114 yX0_addTotal, Cond.instanceMethod yX0_addTotal, Cond.selects RX0 yX0_addTotal yX0_addTotal, Cond.code yX0_addTotal cX0_addTotal 3 none, Cond.fieldLink RX0 57 "LinenTunnel$House" "totals" "LLinenTunnel$Row;"]
def wsX0_lineUp : List Cond := .code yX0_lineUp cX0_lineUp 6 none :: ((wsX0_lineUp_r1 ++ (wsX0_lineUp_r2 ++ wsX0_lineUp_r3)) ++ wsX00 ++ wsX60 ++ wsX40 ++ wsX10)
def wsX0_freeDryer : List Cond := .code yX0_freeDryer cX0_freeDryer 3 (some .int) :: ([.fieldLink RX0 15 "LinenTunnel$House" "dryers" "I", .fieldLink RX0 45 "LinenTunnel$House" "dryerTill" "LLinenTunnel$Row;", .methodLink RX0 68 yX4_read, .instanceMethod yX4_read, .selects RX4 yX4_read yX4_read, .initialized RX4, .code yX4_read cX4_read 2 (some .int), .fieldLink RX4 7 "LinenTunnel$Row" "items" "[I"] ++ wsX00 ++ wsX40)
def wsX0_goOut : List Cond := .code yX0_goOut cX0_goOut 5 none :: ([.fieldLink RX0 30 "LinenTunnel$House" "gone" "I", .fieldLink RX0 45 "LinenTunnel$House" "dryerTill" "LLinenTunnel$Row;", .methodLink RX0 110 yX0_note, .instanceMethod yX0_note, .selects RX0 yX0_note yX0_note, .initialized RX0, .code yX0_note cX0_note 4 none, .fieldLink RX0 54 "LinenTunnel$House" "facts" "LLinenTunnel$Row;", .methodLink RX0 72 yX4_write, .instanceMethod yX4_write, .selects RX4 yX4_write yX4_write, .initialized RX4, .code yX4_write cX4_write 3 none, .fieldLink RX4 7 "LinenTunnel$Row" "items" "[I"] ++ wsX00 ++ wsX40)
def wsX0_moveOn : List Cond := .code yX0_moveOn cX0_moveOn 3 none :: ([.fieldLink RX0 9 "LinenTunnel$House" "compartments" "I", .fieldLink RX0 42 "LinenTunnel$House" "inside" "LLinenTunnel$Row;", .fieldLink RX0 27 "LinenTunnel$House" "nextSlot" "I", .fieldLink RX0 24 "LinenTunnel$House" "slotNumber" "I", .fieldLink RX0 38 "LinenTunnel$House" "slots" "LLinenTunnel$Row;", .methodLink RX0 68 yX4_read, .instanceMethod yX4_read, .selects RX4 yX4_read yX4_read, .initialized RX4, .code yX4_read cX4_read 2 (some .int), .fieldLink RX4 7 "LinenTunnel$Row" "items" "[I", .methodLink RX0 72 yX4_write, .instanceMethod yX4_write, .selects RX4 yX4_write yX4_write, .code yX4_write cX4_write 3 none, .methodLink RX0 110 yX0_note, .instanceMethod yX0_note, .selects RX0 yX0_note yX0_note, .initialized RX0, .code yX0_note cX0_note 4 none, .fieldLink RX0 54 "LinenTunnel$House" "facts" "LLinenTunnel$Row;"] ++ wsX00 ++ wsX40)
def wsX0_colourAt : List Cond := .code yX0_colourAt cX0_colourAt 2 (some .int) :: ([.fieldLink RX0 60 "LinenTunnel$House" "kinds" "LLinenTunnel$Kinds;", .methodLink RX0 122 yX0_fact, .instanceMethod yX0_fact, .selects RX0 yX0_fact yX0_fact, .initialized RX0, .code yX0_fact cX0_fact 3 (some .int), .fieldLink RX0 54 "LinenTunnel$House" "facts" "LLinenTunnel$Row;", .methodLink RX0 68 yX4_read, .instanceMethod yX4_read, .selects RX4 yX4_read yX4_read, .initialized RX4, .code yX4_read cX4_read 2 (some .int), .fieldLink RX4 7 "LinenTunnel$Row" "items" "[I"] ++ wsX00 ++ wsX10 ++ wsX40)
def wsX0_hasWaterOfNext : List Cond := .code yX0_hasWaterOfNext cX0_hasWaterOfNext 3 (some .boolean) :: ([.fieldLink RX0 9 "LinenTunnel$House" "compartments" "I", .fieldLink RX0 42 "LinenTunnel$House" "inside" "LLinenTunnel$Row;", .methodLink RX0 68 yX4_read, .instanceMethod yX4_read, .selects RX4 yX4_read yX4_read, .initialized RX4, .code yX4_read cX4_read 2 (some .int), .fieldLink RX4 7 "LinenTunnel$Row" "items" "[I", .methodLink RX0 144 yX0_colourAt, .instanceMethod yX0_colourAt, .selects RX0 yX0_colourAt yX0_colourAt, .initialized RX0, .code yX0_colourAt cX0_colourAt 2 (some .int), .fieldLink RX0 60 "LinenTunnel$House" "kinds" "LLinenTunnel$Kinds;", .methodLink RX0 122 yX0_fact, .instanceMethod yX0_fact, .selects RX0 yX0_fact yX0_fact, .code yX0_fact cX0_fact 3 (some .int), .fieldLink RX0 54 "LinenTunnel$House" "facts" "LLinenTunnel$Row;"] ++ wsX00 ++ wsX40 ++ wsX10)
def wsX0_waterOfBeat : List Cond := .code yX0_waterOfBeat cX0_waterOfBeat 4 (some .int) :: ([.fieldLink RX0 9 "LinenTunnel$House" "compartments" "I", .fieldLink RX0 42 "LinenTunnel$House" "inside" "LLinenTunnel$Row;", .fieldLink RX0 51 "LinenTunnel$House" "size" "LLinenTunnel$Row;", .methodLink RX0 68 yX4_read, .instanceMethod yX4_read, .selects RX4 yX4_read yX4_read, .initialized RX4, .code yX4_read cX4_read 2 (some .int), .fieldLink RX4 7 "LinenTunnel$Row" "items" "[I", .methodLink RX0 140 yX0_hasWaterOfNext, .instanceMethod yX0_hasWaterOfNext, .selects RX0 yX0_hasWaterOfNext yX0_hasWaterOfNext, .initialized RX0, .code yX0_hasWaterOfNext cX0_hasWaterOfNext 3 (some .boolean), .methodLink RX0 144 yX0_colourAt, .instanceMethod yX0_colourAt, .selects RX0 yX0_colourAt yX0_colourAt, .code yX0_colourAt cX0_colourAt 2 (some .int), .fieldLink RX0 60 "LinenTunnel$House" "kinds" "LLinenTunnel$Kinds;", .methodLink RX0 122 yX0_fact, .instanceMethod yX0_fact, .selects RX0 yX0_fact yX0_fact, .code yX0_fact cX0_fact 3 (some .int), .fieldLink RX0 54 "LinenTunnel$House" "facts" "LLinenTunnel$Row;"] ++ wsX00 ++ wsX40 ++ wsX10)
def wsX0_doBeat_r1 : List Cond := [Cond.fieldLink RX0 42 "LinenTunnel$House" "inside" "LLinenTunnel$Row;", Cond.fieldLink RX0 9 "LinenTunnel$House" "compartments" "I", Cond.fieldLink RX0 60 "LinenTunnel$House" "kinds" "LLinenTunnel$Kinds;", Cond.methodLink RX0 68 yX4_read, Cond.instanceMethod yX4_read, Cond.selects RX4 yX4_read yX4_read, Cond.initialized RX4, Cond.code yX4_read cX4_read 2 (some .int), Cond.fieldLink RX4 7 "LinenTunnel$Row" "items" "[I", Cond.methodLink RX0 122 yX0_fact, Cond.instanceMethod yX0_fact, Cond.selects RX0 yX0_fact yX0_fact, Cond.initialized RX0, Cond.code yX0_fact cX0_fact 3 (some .int), Cond.fieldLink RX0 54 "LinenTunnel$House" "facts" "LLinenTunnel$Row;", Cond.methodLink RX0 126 yX0_freeDryer, Cond.instanceMethod yX0_freeDryer, Cond.selects RX0 yX0_freeDryer yX0_freeDryer, Cond.code yX0_freeDryer cX0_freeDryer 3 (some .int), Cond.fieldLink RX0 15 "LinenTunnel$House" "dryers" "I", Cond.fieldLink RX0 45 "LinenTunnel$House" "dryerTill" "LLinenTunnel$Row;", Cond.methodLink RX0 114 yX0_addTotal, Cond.instanceMethod yX0_addTotal, Cond.selects RX0 yX0_addTotal yX0_addTotal]
def wsX0_doBeat_r2 : List Cond := [Cond.code yX0_addTotal cX0_addTotal 3 none, Cond.fieldLink RX0 57 "LinenTunnel$House" "totals" "LLinenTunnel$Row;", Cond.methodLink RX0 72 yX4_write, Cond.instanceMethod yX4_write, Cond.selects RX4 yX4_write yX4_write, Cond.code yX4_write cX4_write 3 none, Cond.methodLink RX0 129 yX0_goOut, Cond.instanceMethod yX0_goOut, Cond.selects RX0 yX0_goOut yX0_goOut, Cond.code yX0_goOut cX0_goOut 5 none, Cond.fieldLink RX0 30 "LinenTunnel$House" "gone" "I", Cond.methodLink RX0 110 yX0_note, Cond.instanceMethod yX0_note, Cond.selects RX0 yX0_note yX0_note, Cond.code yX0_note cX0_note 4 none, Cond.methodLink RX0 133 yX0_moveOn, Cond.instanceMethod yX0_moveOn, Cond.selects RX0 yX0_moveOn yX0_moveOn, Cond.code yX0_moveOn cX0_moveOn 3 none, Cond.fieldLink RX0 27 "LinenTunnel$House" "nextSlot" "I", Cond.fieldLink RX0 24 "LinenTunnel$House" "slotNumber" "I", Cond.fieldLink RX0 38 "LinenTunnel$House" "slots" "LLinenTunnel$Row;", Cond.methodLink RX0 136 yX0_waterOfBeat, Cond.instanceMethod yX0_waterOfBeat]
def wsX0_doBeat_r3 : List Cond := [Cond.selects RX0 yX0_waterOfBeat yX0_waterOfBeat, Cond.code yX0_waterOfBeat cX0_waterOfBeat 4 (some .int), Cond.fieldLink RX0 51 "LinenTunnel$House" "size" "LLinenTunnel$Row;", Cond.methodLink RX0 140 yX0_hasWaterOfNext, Cond.instanceMethod yX0_hasWaterOfNext, Cond.selects RX0 yX0_hasWaterOfNext yX0_hasWaterOfNext, Cond.code yX0_hasWaterOfNext cX0_hasWaterOfNext 3 (some .boolean), Cond.methodLink RX0 144 yX0_colourAt, Cond.instanceMethod yX0_colourAt, Cond.selects RX0 yX0_colourAt yX0_colourAt, Cond.code yX0_colourAt cX0_colourAt 2 (some .int)]
def wsX0_doBeat : List Cond := .code yX0_doBeat cX0_doBeat 5 none :: ((wsX0_doBeat_r1 ++ (wsX0_doBeat_r2 ++ wsX0_doBeat_r3)) ++ wsX00 ++ wsX10 ++ wsX40)
def wsX0_firstDry : List Cond := .code yX0_firstDry cX0_firstDry 5 (some .int) :: ([.fieldLink RX0 57 "LinenTunnel$House" "totals" "LLinenTunnel$Row;", .methodLink RX0 68 yX4_read, .instanceMethod yX4_read, .selects RX4 yX4_read yX4_read, .initialized RX4, .code yX4_read cX4_read 2 (some .int), .fieldLink RX4 7 "LinenTunnel$Row" "items" "[I", .methodLink RX0 122 yX0_fact, .instanceMethod yX0_fact, .selects RX0 yX0_fact yX0_fact, .initialized RX0, .code yX0_fact cX0_fact 3 (some .int), .fieldLink RX0 54 "LinenTunnel$House" "facts" "LLinenTunnel$Row;"] ++ wsX00 ++ wsX40)
def wsX0_firstIron : List Cond := .code yX0_firstIron cX0_firstIron 3 (some .int) :: ([.fieldLink RX0 18 "LinenTunnel$House" "irons" "I", .fieldLink RX0 48 "LinenTunnel$House" "ironTill" "LLinenTunnel$Row;", .methodLink RX0 68 yX4_read, .instanceMethod yX4_read, .selects RX4 yX4_read yX4_read, .initialized RX4, .code yX4_read cX4_read 2 (some .int), .fieldLink RX4 7 "LinenTunnel$Row" "items" "[I"] ++ wsX00 ++ wsX40)
def wsX0_ironOne_r1 : List Cond := [Cond.fieldLink RX0 60 "LinenTunnel$House" "kinds" "LLinenTunnel$Kinds;", Cond.fieldLink RX0 48 "LinenTunnel$House" "ironTill" "LLinenTunnel$Row;", Cond.methodLink RX0 156 Lib.Math.max.name, Cond.static Lib.Math.max.name, Cond.initialized "java/lang/Math", Cond.code Lib.Math.max.name Lib.Math.max.code 2 (some .int), Cond.methodLink RX0 122 yX0_fact, Cond.instanceMethod yX0_fact, Cond.selects RX0 yX0_fact yX0_fact, Cond.initialized RX0, Cond.code yX0_fact cX0_fact 3 (some .int), Cond.fieldLink RX0 54 "LinenTunnel$House" "facts" "LLinenTunnel$Row;", Cond.methodLink RX0 68 yX4_read, Cond.instanceMethod yX4_read, Cond.selects RX4 yX4_read yX4_read, Cond.initialized RX4, Cond.code yX4_read cX4_read 2 (some .int), Cond.fieldLink RX4 7 "LinenTunnel$Row" "items" "[I", Cond.methodLink RX0 110 yX0_note, Cond.instanceMethod yX0_note, Cond.selects RX0 yX0_note yX0_note, Cond.code yX0_note cX0_note 4 none, Cond.methodLink RX0 72 yX4_write, Cond.instanceMethod yX4_write]
def wsX0_ironOne_r2 : List Cond := [Cond.selects RX4 yX4_write yX4_write, Cond.code yX4_write cX4_write 3 none, Cond.methodLink RX0 164 yX0_firstIron, Cond.instanceMethod yX0_firstIron, Cond.selects RX0 yX0_firstIron yX0_firstIron, Cond.code yX0_firstIron cX0_firstIron 3 (some .int), Cond.fieldLink RX0 18 "LinenTunnel$House" "irons" "I"]
def wsX0_ironOne : List Cond := .code yX0_ironOne cX0_ironOne 6 none :: ((wsX0_ironOne_r1 ++ wsX0_ironOne_r2) ++ wsX00 ++ wsX10 ++ wsX40)
def wsX0_ironAll_r1 : List Cond := [Cond.fieldLink RX0 57 "LinenTunnel$House" "totals" "LLinenTunnel$Row;", Cond.methodLink RX0 156 Lib.Math.max.name, Cond.static Lib.Math.max.name, Cond.initialized "java/lang/Math", Cond.code Lib.Math.max.name Lib.Math.max.code 2 (some .int), Cond.methodLink RX0 68 yX4_read, Cond.instanceMethod yX4_read, Cond.selects RX4 yX4_read yX4_read, Cond.initialized RX4, Cond.code yX4_read cX4_read 2 (some .int), Cond.fieldLink RX4 7 "LinenTunnel$Row" "items" "[I", Cond.methodLink RX0 150 yX0_firstDry, Cond.instanceMethod yX0_firstDry, Cond.selects RX0 yX0_firstDry yX0_firstDry, Cond.initialized RX0, Cond.code yX0_firstDry cX0_firstDry 5 (some .int), Cond.methodLink RX0 122 yX0_fact, Cond.instanceMethod yX0_fact, Cond.selects RX0 yX0_fact yX0_fact, Cond.code yX0_fact cX0_fact 3 (some .int), Cond.fieldLink RX0 54 "LinenTunnel$House" "facts" "LLinenTunnel$Row;", Cond.methodLink RX0 153 yX0_ironOne, Cond.instanceMethod yX0_ironOne, Cond.selects RX0 yX0_ironOne yX0_ironOne]
def wsX0_ironAll_r2 : List Cond := [Cond.code yX0_ironOne cX0_ironOne 6 none, Cond.fieldLink RX0 60 "LinenTunnel$House" "kinds" "LLinenTunnel$Kinds;", Cond.fieldLink RX0 48 "LinenTunnel$House" "ironTill" "LLinenTunnel$Row;", Cond.methodLink RX0 110 yX0_note, Cond.instanceMethod yX0_note, Cond.selects RX0 yX0_note yX0_note, Cond.code yX0_note cX0_note 4 none, Cond.methodLink RX0 72 yX4_write, Cond.instanceMethod yX4_write, Cond.selects RX4 yX4_write yX4_write, Cond.code yX4_write cX4_write 3 none, Cond.methodLink RX0 164 yX0_firstIron, Cond.instanceMethod yX0_firstIron, Cond.selects RX0 yX0_firstIron yX0_firstIron, Cond.code yX0_firstIron cX0_firstIron 3 (some .int), Cond.fieldLink RX0 18 "LinenTunnel$House" "irons" "I"]
def wsX0_ironAll : List Cond := .code yX0_ironAll cX0_ironAll 5 none :: ((wsX0_ironAll_r1 ++ wsX0_ironAll_r2) ++ wsX00 ++ wsX40 ++ wsX10)
def wsX0_washOrder_r1 : List Cond := [Cond.fieldLink RX0 64 "LinenTunnel$House" "waiting" "LLinenTunnel$Waiting;", Cond.fieldLink RX0 30 "LinenTunnel$House" "gone" "I", Cond.fieldLink RX0 57 "LinenTunnel$House" "totals" "LLinenTunnel$Row;", Cond.constant RX0 87 (1000000), Cond.fieldLink RX0 21 "LinenTunnel$House" "washes" "I", Cond.methodLink RX0 76 yX0_clear, Cond.instanceMethod yX0_clear, Cond.selects RX0 yX0_clear yX0_clear, Cond.initialized RX0, Cond.code yX0_clear cX0_clear 1 none, Cond.fieldLink RX0 24 "LinenTunnel$House" "slotNumber" "I", Cond.fieldLink RX0 27 "LinenTunnel$House" "nextSlot" "I", Cond.fieldLink RX0 54 "LinenTunnel$House" "facts" "LLinenTunnel$Row;", Cond.fieldLink RX0 42 "LinenTunnel$House" "inside" "LLinenTunnel$Row;", Cond.fieldLink RX0 45 "LinenTunnel$House" "dryerTill" "LLinenTunnel$Row;", Cond.fieldLink RX0 48 "LinenTunnel$House" "ironTill" "LLinenTunnel$Row;", Cond.methodLink RX0 94 yX4_fill, Cond.instanceMethod yX4_fill, Cond.selects RX4 yX4_fill yX4_fill, Cond.initialized RX4, Cond.code yX4_fill cX4_fill 3 none, Cond.fieldLink RX4 7 "LinenTunnel$Row" "items" "[I", Cond.methodLink RX0 84 yX0_lineUp, Cond.instanceMethod yX0_lineUp]
def wsX0_washOrder_r2 : List Cond := [Cond.selects RX0 yX0_lineUp yX0_lineUp, Cond.code yX0_lineUp cX0_lineUp 6 none, Cond.fieldLink RX0 51 "LinenTunnel$House" "size" "LLinenTunnel$Row;", Cond.methodLink RX0 68 yX4_read, Cond.instanceMethod yX4_read, Cond.selects RX4 yX4_read yX4_read, Cond.code yX4_read cX4_read 2 (some .int), Cond.methodLink RX0 101 yX6_gapAhead, Cond.instanceMethod yX6_gapAhead, Cond.selects RX6 yX6_gapAhead yX6_gapAhead, Cond.initialized RX6, Cond.code yX6_gapAhead cX6_gapAhead 2 (some .int), Cond.fieldLink RX6 27 "LinenTunnel$Waiting" "order" "LLinenTunnel$Row;", Cond.methodLink RX6 38 yX4_read, Cond.methodLink RX6 48 yX6_gapOf, Cond.instanceMethod yX6_gapOf, Cond.selects RX6 yX6_gapOf yX6_gapOf, Cond.code yX6_gapOf cX6_gapOf 3 (some .int), Cond.fieldLink RX6 30 "LinenTunnel$Waiting" "kinds" "LLinenTunnel$Kinds;", Cond.fieldLink RX6 20 "LinenTunnel$Waiting" "kind" "LLinenTunnel$Row;", Cond.methodLink RX6 42 yX1_gap, Cond.instanceMethod yX1_gap, Cond.selects RX1 yX1_gap yX1_gap, Cond.initialized RX1]
def wsX0_washOrder_r3 : List Cond := [Cond.code yX1_gap cX1_gap 4 (some .int), Cond.fieldLink RX1 24 "LinenTunnel$Kinds" "colour" "LLinenTunnel$Row;", Cond.methodLink RX1 44 Lib.Math.max.name, Cond.static Lib.Math.max.name, Cond.initialized "java/lang/Math", Cond.code Lib.Math.max.name Lib.Math.max.code 2 (some .int), Cond.fieldLink RX1 20 "LinenTunnel$Kinds" "heat" "LLinenTunnel$Row;", Cond.methodLink RX1 50 Lib.Math.abs.name, Cond.static Lib.Math.abs.name, Cond.code Lib.Math.abs.name Lib.Math.abs.code 1 (some .int), Cond.fieldLink RX1 27 "LinenTunnel$Kinds" "foul" "LLinenTunnel$Row;", Cond.methodLink RX1 40 yX4_read, Cond.methodLink RX0 104 yX0_addSlot, Cond.instanceMethod yX0_addSlot, Cond.selects RX0 yX0_addSlot yX0_addSlot, Cond.code yX0_addSlot cX0_addSlot 2 none, Cond.fieldLink RX0 38 "LinenTunnel$House" "slots" "LLinenTunnel$Row;", Cond.methodLink RX0 72 yX4_write, Cond.instanceMethod yX4_write, Cond.selects RX4 yX4_write yX4_write, Cond.code yX4_write cX4_write 3 none, Cond.methodLink RX0 110 yX0_note, Cond.instanceMethod yX0_note, Cond.selects RX0 yX0_note yX0_note]
def wsX0_washOrder_r4 : List Cond := [Cond.code yX0_note cX0_note 4 none, Cond.methodLink RX0 114 yX0_addTotal, Cond.instanceMethod yX0_addTotal, Cond.selects RX0 yX0_addTotal yX0_addTotal, Cond.code yX0_addTotal cX0_addTotal 3 none, Cond.methodLink RX0 88 yX0_doBeat, Cond.instanceMethod yX0_doBeat, Cond.selects RX0 yX0_doBeat yX0_doBeat, Cond.code yX0_doBeat cX0_doBeat 5 none, Cond.fieldLink RX0 9 "LinenTunnel$House" "compartments" "I", Cond.fieldLink RX0 60 "LinenTunnel$House" "kinds" "LLinenTunnel$Kinds;", Cond.methodLink RX0 122 yX0_fact, Cond.instanceMethod yX0_fact, Cond.selects RX0 yX0_fact yX0_fact, Cond.code yX0_fact cX0_fact 3 (some .int), Cond.methodLink RX0 126 yX0_freeDryer, Cond.instanceMethod yX0_freeDryer, Cond.selects RX0 yX0_freeDryer yX0_freeDryer, Cond.code yX0_freeDryer cX0_freeDryer 3 (some .int), Cond.fieldLink RX0 15 "LinenTunnel$House" "dryers" "I", Cond.methodLink RX0 129 yX0_goOut, Cond.instanceMethod yX0_goOut, Cond.selects RX0 yX0_goOut yX0_goOut, Cond.code yX0_goOut cX0_goOut 5 none]
def wsX0_washOrder_r5 : List Cond := [Cond.methodLink RX0 133 yX0_moveOn, Cond.instanceMethod yX0_moveOn, Cond.selects RX0 yX0_moveOn yX0_moveOn, Cond.code yX0_moveOn cX0_moveOn 3 none, Cond.methodLink RX0 136 yX0_waterOfBeat, Cond.instanceMethod yX0_waterOfBeat, Cond.selects RX0 yX0_waterOfBeat yX0_waterOfBeat, Cond.code yX0_waterOfBeat cX0_waterOfBeat 4 (some .int), Cond.methodLink RX0 140 yX0_hasWaterOfNext, Cond.instanceMethod yX0_hasWaterOfNext, Cond.selects RX0 yX0_hasWaterOfNext yX0_hasWaterOfNext, Cond.code yX0_hasWaterOfNext cX0_hasWaterOfNext 3 (some .boolean), Cond.methodLink RX0 144 yX0_colourAt, Cond.instanceMethod yX0_colourAt, Cond.selects RX0 yX0_colourAt yX0_colourAt, Cond.code yX0_colourAt cX0_colourAt 2 (some .int), Cond.methodLink RX0 91 yX0_ironAll, Cond.instanceMethod yX0_ironAll, Cond.selects RX0 yX0_ironAll yX0_ironAll, Cond.code yX0_ironAll cX0_ironAll 5 none, Cond.methodLink RX0 156 Lib.Math.max.name, Cond.methodLink RX0 150 yX0_firstDry, Cond.instanceMethod yX0_firstDry, Cond.selects RX0 yX0_firstDry yX0_firstDry]
def wsX0_washOrder_r6 : List Cond := [Cond.code yX0_firstDry cX0_firstDry 5 (some .int), Cond.methodLink RX0 153 yX0_ironOne, Cond.instanceMethod yX0_ironOne, Cond.selects RX0 yX0_ironOne yX0_ironOne, Cond.code yX0_ironOne cX0_ironOne 6 none, Cond.methodLink RX0 164 yX0_firstIron, Cond.instanceMethod yX0_firstIron, Cond.selects RX0 yX0_firstIron yX0_firstIron, Cond.code yX0_firstIron cX0_firstIron 3 (some .int), Cond.fieldLink RX0 18 "LinenTunnel$House" "irons" "I"]
def wsX0_washOrder : List Cond := .code yX0_washOrder cX0_washOrder 2 (some .int) :: ((wsX0_washOrder_r1 ++ (wsX0_washOrder_r2 ++ (wsX0_washOrder_r3 ++ (wsX0_washOrder_r4 ++ (wsX0_washOrder_r5 ++ wsX0_washOrder_r6))))) ++ wsX00 ++ wsX60 ++ wsX40 ++ wsX10)
def wsX1_init : List Cond := .code yX1_init cX1_init 1 none :: ([.methodLink RX1 3 objectInit, .instanceMethod objectInit, .code objectInit ⟨#[0xb1]⟩ 1 none, .fieldLink RX1 9 "LinenTunnel$Kinds" "number" "I", .classLink RX1 15 RX4, .instantiable RX4 1, .initialized RX4, .fieldLink RX1 20 "LinenTunnel$Kinds" "heat" "LLinenTunnel$Row;", .fieldLink RX1 24 "LinenTunnel$Kinds" "colour" "LLinenTunnel$Row;", .fieldLink RX1 27 "LinenTunnel$Kinds" "foul" "LLinenTunnel$Row;", .fieldLink RX1 30 "LinenTunnel$Kinds" "dry" "LLinenTunnel$Row;", .fieldLink RX1 33 "LinenTunnel$Kinds" "iron" "LLinenTunnel$Row;", .methodLink RX1 17 yX4_init, .instanceMethod yX4_init, .code yX4_init cX4_init 2 none, .methodLink RX4 1 objectInit, .arrayClass .int, .fieldLink RX4 7 "LinenTunnel$Row" "items" "[I"] ++ wsX10 ++ wsX40)
def wsX1_add : List Cond := .code yX1_add cX1_add 6 (some .int) :: ([.fieldLink RX1 20 "LinenTunnel$Kinds" "heat" "LLinenTunnel$Row;", .fieldLink RX1 9 "LinenTunnel$Kinds" "number" "I", .fieldLink RX1 24 "LinenTunnel$Kinds" "colour" "LLinenTunnel$Row;", .fieldLink RX1 27 "LinenTunnel$Kinds" "foul" "LLinenTunnel$Row;", .fieldLink RX1 30 "LinenTunnel$Kinds" "dry" "LLinenTunnel$Row;", .fieldLink RX1 33 "LinenTunnel$Kinds" "iron" "LLinenTunnel$Row;", .methodLink RX1 36 yX4_write, .instanceMethod yX4_write, .selects RX4 yX4_write yX4_write, .initialized RX4, .code yX4_write cX4_write 3 none, .fieldLink RX4 7 "LinenTunnel$Row" "items" "[I"] ++ wsX10 ++ wsX40)
def wsX2_init : List Cond := .code yX2_init cX2_init 1 none :: ([.methodLink RX2 3 objectInit, .instanceMethod objectInit, .code objectInit ⟨#[0xb1]⟩ 1 none, .fieldLink RX2 9 "LinenTunnel$Linen" "number" "I", .classLink RX2 15 RX4, .instantiable RX4 1, .initialized RX4, .fieldLink RX2 20 "LinenTunnel$Linen" "kind" "LLinenTunnel$Row;", .fieldLink RX2 24 "LinenTunnel$Linen" "owner" "LLinenTunnel$Row;", .fieldLink RX2 27 "LinenTunnel$Linen" "chip" "LLinenTunnel$Row;", .fieldLink RX2 30 "LinenTunnel$Linen" "place" "LLinenTunnel$Row;", .fieldLink RX2 33 "LinenTunnel$Linen" "washes" "LLinenTunnel$Row;", .fieldLink RX2 36 "LinenTunnel$Linen" "batch" "LLinenTunnel$Row;", .methodLink RX2 17 yX4_init, .instanceMethod yX4_init, .code yX4_init cX4_init 2 none, .methodLink RX4 1 objectInit, .arrayClass .int, .fieldLink RX4 7 "LinenTunnel$Row" "items" "[I"] ++ wsX20 ++ wsX40)
def wsX2_add : List Cond := .code yX2_add cX2_add 4 (some .int) :: ([.fieldLink RX2 20 "LinenTunnel$Linen" "kind" "LLinenTunnel$Row;", .fieldLink RX2 9 "LinenTunnel$Linen" "number" "I", .fieldLink RX2 24 "LinenTunnel$Linen" "owner" "LLinenTunnel$Row;", .fieldLink RX2 27 "LinenTunnel$Linen" "chip" "LLinenTunnel$Row;", .fieldLink RX2 30 "LinenTunnel$Linen" "place" "LLinenTunnel$Row;", .fieldLink RX2 33 "LinenTunnel$Linen" "washes" "LLinenTunnel$Row;", .fieldLink RX2 36 "LinenTunnel$Linen" "batch" "LLinenTunnel$Row;", .methodLink RX2 39 yX4_write, .instanceMethod yX4_write, .selects RX4 yX4_write yX4_write, .initialized RX4, .code yX4_write cX4_write 3 none, .fieldLink RX4 7 "LinenTunnel$Row" "items" "[I"] ++ wsX20 ++ wsX40)
def wsX2_fits : List Cond := .code yX2_fits cX2_fits 5 (some .boolean) :: ([.fieldLink RX2 30 "LinenTunnel$Linen" "place" "LLinenTunnel$Row;", .fieldLink RX2 24 "LinenTunnel$Linen" "owner" "LLinenTunnel$Row;", .fieldLink RX2 20 "LinenTunnel$Linen" "kind" "LLinenTunnel$Row;", .methodLink RX2 43 yX4_read, .instanceMethod yX4_read, .selects RX4 yX4_read yX4_read, .initialized RX4, .code yX4_read cX4_read 2 (some .int), .fieldLink RX4 7 "LinenTunnel$Row" "items" "[I"] ++ wsX20 ++ wsX40)
def wsX2_tally : List Cond := .code yX2_tally cX2_tally 6 (some .int) :: ([.fieldLink RX2 9 "LinenTunnel$Linen" "number" "I", .methodLink RX2 47 yX2_fits, .instanceMethod yX2_fits, .selects RX2 yX2_fits yX2_fits, .initialized RX2, .code yX2_fits cX2_fits 5 (some .boolean), .fieldLink RX2 30 "LinenTunnel$Linen" "place" "LLinenTunnel$Row;", .fieldLink RX2 24 "LinenTunnel$Linen" "owner" "LLinenTunnel$Row;", .fieldLink RX2 20 "LinenTunnel$Linen" "kind" "LLinenTunnel$Row;", .methodLink RX2 43 yX4_read, .instanceMethod yX4_read, .selects RX4 yX4_read yX4_read, .initialized RX4, .code yX4_read cX4_read 2 (some .int), .fieldLink RX4 7 "LinenTunnel$Row" "items" "[I"] ++ wsX20 ++ wsX40)
def wsX2_fillBatch : List Cond := .code yX2_fillBatch cX2_fillBatch 7 (some .int) :: ([.fieldLink RX2 9 "LinenTunnel$Linen" "number" "I", .fieldLink RX2 30 "LinenTunnel$Linen" "place" "LLinenTunnel$Row;", .fieldLink RX2 36 "LinenTunnel$Linen" "batch" "LLinenTunnel$Row;", .methodLink RX2 47 yX2_fits, .instanceMethod yX2_fits, .selects RX2 yX2_fits yX2_fits, .initialized RX2, .code yX2_fits cX2_fits 5 (some .boolean), .fieldLink RX2 24 "LinenTunnel$Linen" "owner" "LLinenTunnel$Row;", .fieldLink RX2 20 "LinenTunnel$Linen" "kind" "LLinenTunnel$Row;", .methodLink RX2 43 yX4_read, .instanceMethod yX4_read, .selects RX4 yX4_read yX4_read, .initialized RX4, .code yX4_read cX4_read 2 (some .int), .fieldLink RX4 7 "LinenTunnel$Row" "items" "[I", .methodLink RX2 39 yX4_write, .instanceMethod yX4_write, .selects RX4 yX4_write yX4_write, .code yX4_write cX4_write 3 none] ++ wsX20 ++ wsX40)
def wsX2_pieceOfBatch : List Cond := .code yX2_pieceOfBatch cX2_pieceOfBatch 5 (some .int) :: ([.fieldLink RX2 9 "LinenTunnel$Linen" "number" "I", .fieldLink RX2 36 "LinenTunnel$Linen" "batch" "LLinenTunnel$Row;", .methodLink RX2 43 yX4_read, .instanceMethod yX4_read, .selects RX4 yX4_read yX4_read, .initialized RX4, .code yX4_read cX4_read 2 (some .int), .fieldLink RX4 7 "LinenTunnel$Row" "items" "[I"] ++ wsX20 ++ wsX40)
def wsX2_emptyBatch : List Cond := .code yX2_emptyBatch cX2_emptyBatch 4 none :: ([.fieldLink RX2 9 "LinenTunnel$Linen" "number" "I", .fieldLink RX2 36 "LinenTunnel$Linen" "batch" "LLinenTunnel$Row;", .fieldLink RX2 30 "LinenTunnel$Linen" "place" "LLinenTunnel$Row;", .methodLink RX2 43 yX4_read, .instanceMethod yX4_read, .selects RX4 yX4_read yX4_read, .initialized RX4, .code yX4_read cX4_read 2 (some .int), .fieldLink RX4 7 "LinenTunnel$Row" "items" "[I", .methodLink RX2 39 yX4_write, .instanceMethod yX4_write, .selects RX4 yX4_write yX4_write, .code yX4_write cX4_write 3 none] ++ wsX20 ++ wsX40)
def wsX2_cleanBatches : List Cond := .code yX2_cleanBatches cX2_cleanBatches 2 none :: ([.fieldLink RX2 9 "LinenTunnel$Linen" "number" "I", .fieldLink RX2 30 "LinenTunnel$Linen" "place" "LLinenTunnel$Row;", .fieldLink RX2 36 "LinenTunnel$Linen" "batch" "LLinenTunnel$Row;", .fieldLink RX2 33 "LinenTunnel$Linen" "washes" "LLinenTunnel$Row;", .methodLink RX2 43 yX4_read, .instanceMethod yX4_read, .selects RX4 yX4_read yX4_read, .initialized RX4, .code yX4_read cX4_read 2 (some .int), .fieldLink RX4 7 "LinenTunnel$Row" "items" "[I", .methodLink RX2 39 yX4_write, .instanceMethod yX4_write, .selects RX4 yX4_write yX4_write, .code yX4_write cX4_write 3 none] ++ wsX20 ++ wsX40)
def wsX2_sendOut : List Cond := .code yX2_sendOut cX2_sendOut 6 (some .int) :: ([.fieldLink RX2 9 "LinenTunnel$Linen" "number" "I", .fieldLink RX2 30 "LinenTunnel$Linen" "place" "LLinenTunnel$Row;", .methodLink RX2 47 yX2_fits, .instanceMethod yX2_fits, .selects RX2 yX2_fits yX2_fits, .initialized RX2, .code yX2_fits cX2_fits 5 (some .boolean), .fieldLink RX2 24 "LinenTunnel$Linen" "owner" "LLinenTunnel$Row;", .fieldLink RX2 20 "LinenTunnel$Linen" "kind" "LLinenTunnel$Row;", .methodLink RX2 43 yX4_read, .instanceMethod yX4_read, .selects RX4 yX4_read yX4_read, .initialized RX4, .code yX4_read cX4_read 2 (some .int), .fieldLink RX4 7 "LinenTunnel$Row" "items" "[I", .methodLink RX2 39 yX4_write, .instanceMethod yX4_write, .selects RX4 yX4_write yX4_write, .code yX4_write cX4_write 3 none] ++ wsX20 ++ wsX40)
def wsX3_init : List Cond := .code yX3_init cX3_init 2 none :: ([.methodLink RX3 3 objectInit, .instanceMethod objectInit, .code objectInit ⟨#[0xb1]⟩ 1 none, .classLink RX3 9 RX4, .instantiable RX4 1, .initialized RX4, .fieldLink RX3 14 "LinenTunnel$Planner" "gaps" "LLinenTunnel$Row;", .fieldLink RX3 20 "LinenTunnel$Planner" "fewest" "LLinenTunnel$Row;", .fieldLink RX3 23 "LinenTunnel$Planner" "waiting" "LLinenTunnel$Waiting;", .methodLink RX3 11 yX4_init, .instanceMethod yX4_init, .code yX4_init cX4_init 2 none, .methodLink RX4 1 objectInit, .arrayClass .int, .fieldLink RX4 7 "LinenTunnel$Row" "items" "[I"] ++ wsX40 ++ wsX30)
def wsX3_fillGaps_r1 : List Cond := [Cond.fieldLink RX3 23 "LinenTunnel$Planner" "waiting" "LLinenTunnel$Waiting;", Cond.fieldLink RX3 14 "LinenTunnel$Planner" "gaps" "LLinenTunnel$Row;", Cond.methodLink RX3 50 yX6_gapOf, Cond.instanceMethod yX6_gapOf, Cond.selects RX6 yX6_gapOf yX6_gapOf, Cond.initialized RX6, Cond.code yX6_gapOf cX6_gapOf 3 (some .int), Cond.fieldLink RX6 30 "LinenTunnel$Waiting" "kinds" "LLinenTunnel$Kinds;", Cond.fieldLink RX6 20 "LinenTunnel$Waiting" "kind" "LLinenTunnel$Row;", Cond.methodLink RX6 38 yX4_read, Cond.instanceMethod yX4_read, Cond.selects RX4 yX4_read yX4_read, Cond.initialized RX4, Cond.code yX4_read cX4_read 2 (some .int), Cond.fieldLink RX4 7 "LinenTunnel$Row" "items" "[I", Cond.methodLink RX6 42 yX1_gap, Cond.instanceMethod yX1_gap, Cond.selects RX1 yX1_gap yX1_gap, Cond.initialized RX1, Cond.code yX1_gap cX1_gap 4 (some .int), Cond.fieldLink RX1 24 "LinenTunnel$Kinds" "colour" "LLinenTunnel$Row;", Cond.methodLink RX1 44 Lib.Math.max.name, Cond.static Lib.Math.max.name, Cond.initialized "java/lang/Math"]
def wsX3_fillGaps_r2 : List Cond := [Cond.code Lib.Math.max.name Lib.Math.max.code 2 (some .int), Cond.fieldLink RX1 20 "LinenTunnel$Kinds" "heat" "LLinenTunnel$Row;", Cond.methodLink RX1 50 Lib.Math.abs.name, Cond.static Lib.Math.abs.name, Cond.code Lib.Math.abs.name Lib.Math.abs.code 1 (some .int), Cond.fieldLink RX1 27 "LinenTunnel$Kinds" "foul" "LLinenTunnel$Row;", Cond.methodLink RX1 40 yX4_read, Cond.methodLink RX3 46 yX4_write, Cond.instanceMethod yX4_write, Cond.selects RX4 yX4_write yX4_write, Cond.code yX4_write cX4_write 3 none]
def wsX3_fillGaps : List Cond := .code yX3_fillGaps cX3_fillGaps 3 none :: ((wsX3_fillGaps_r1 ++ wsX3_fillGaps_r2) ++ wsX30 ++ wsX60 ++ wsX40 ++ wsX10)
def wsX3_costBehind : List Cond := .code yX3_costBehind cX3_costBehind 5 (some .int) :: ([.fieldLink RX3 14 "LinenTunnel$Planner" "gaps" "LLinenTunnel$Row;", .fieldLink RX3 20 "LinenTunnel$Planner" "fewest" "LLinenTunnel$Row;", .methodLink RX3 57 yX4_read, .instanceMethod yX4_read, .selects RX4 yX4_read yX4_read, .initialized RX4, .code yX4_read cX4_read 2 (some .int), .fieldLink RX4 7 "LinenTunnel$Row" "items" "[I"] ++ wsX30 ++ wsX40)
def wsX3_bestBehind : List Cond := .code yX3_bestBehind cX3_bestBehind 7 (some .int) :: ([.fieldLink RX3 23 "LinenTunnel$Planner" "waiting" "LLinenTunnel$Waiting;", .methodLink RX3 53 yX3_costBehind, .instanceMethod yX3_costBehind, .selects RX3 yX3_costBehind yX3_costBehind, .initialized RX3, .code yX3_costBehind cX3_costBehind 5 (some .int), .fieldLink RX3 14 "LinenTunnel$Planner" "gaps" "LLinenTunnel$Row;", .fieldLink RX3 20 "LinenTunnel$Planner" "fewest" "LLinenTunnel$Row;", .methodLink RX3 57 yX4_read, .instanceMethod yX4_read, .selects RX4 yX4_read yX4_read, .initialized RX4, .code yX4_read cX4_read 2 (some .int), .fieldLink RX4 7 "LinenTunnel$Row" "items" "[I"] ++ wsX30 ++ wsX60 ++ wsX40)
def wsX3_fillFewest : List Cond := .code yX3_fillFewest cX3_fillFewest 5 none :: ([.fieldLink RX3 23 "LinenTunnel$Planner" "waiting" "LLinenTunnel$Waiting;", .fieldLink RX3 20 "LinenTunnel$Planner" "fewest" "LLinenTunnel$Row;", .methodLink RX3 39 yX3_bestBehind, .instanceMethod yX3_bestBehind, .selects RX3 yX3_bestBehind yX3_bestBehind, .initialized RX3, .code yX3_bestBehind cX3_bestBehind 7 (some .int), .methodLink RX3 53 yX3_costBehind, .instanceMethod yX3_costBehind, .selects RX3 yX3_costBehind yX3_costBehind, .code yX3_costBehind cX3_costBehind 5 (some .int), .fieldLink RX3 14 "LinenTunnel$Planner" "gaps" "LLinenTunnel$Row;", .methodLink RX3 57 yX4_read, .instanceMethod yX4_read, .selects RX4 yX4_read yX4_read, .initialized RX4, .code yX4_read cX4_read 2 (some .int), .fieldLink RX4 7 "LinenTunnel$Row" "items" "[I", .methodLink RX3 46 yX4_write, .instanceMethod yX4_write, .selects RX4 yX4_write yX4_write, .code yX4_write cX4_write 3 none] ++ wsX30 ++ wsX60 ++ wsX40)
def wsX3_orderBest_r1 : List Cond := [Cond.fieldLink RX3 23 "LinenTunnel$Planner" "waiting" "LLinenTunnel$Waiting;", Cond.methodLink RX3 27 yX3_fillGaps, Cond.instanceMethod yX3_fillGaps, Cond.selects RX3 yX3_fillGaps yX3_fillGaps, Cond.initialized RX3, Cond.code yX3_fillGaps cX3_fillGaps 3 none, Cond.fieldLink RX3 14 "LinenTunnel$Planner" "gaps" "LLinenTunnel$Row;", Cond.methodLink RX3 50 yX6_gapOf, Cond.instanceMethod yX6_gapOf, Cond.selects RX6 yX6_gapOf yX6_gapOf, Cond.initialized RX6, Cond.code yX6_gapOf cX6_gapOf 3 (some .int), Cond.fieldLink RX6 30 "LinenTunnel$Waiting" "kinds" "LLinenTunnel$Kinds;", Cond.fieldLink RX6 20 "LinenTunnel$Waiting" "kind" "LLinenTunnel$Row;", Cond.methodLink RX6 38 yX4_read, Cond.instanceMethod yX4_read, Cond.selects RX4 yX4_read yX4_read, Cond.initialized RX4, Cond.code yX4_read cX4_read 2 (some .int), Cond.fieldLink RX4 7 "LinenTunnel$Row" "items" "[I", Cond.methodLink RX6 42 yX1_gap, Cond.instanceMethod yX1_gap, Cond.selects RX1 yX1_gap yX1_gap, Cond.initialized RX1]
def wsX3_orderBest_r2 : List Cond := [Cond.code yX1_gap cX1_gap 4 (some .int), Cond.fieldLink RX1 24 "LinenTunnel$Kinds" "colour" "LLinenTunnel$Row;", Cond.methodLink RX1 44 Lib.Math.max.name, Cond.static Lib.Math.max.name, Cond.initialized "java/lang/Math", Cond.code Lib.Math.max.name Lib.Math.max.code 2 (some .int), Cond.fieldLink RX1 20 "LinenTunnel$Kinds" "heat" "LLinenTunnel$Row;", Cond.methodLink RX1 50 Lib.Math.abs.name, Cond.static Lib.Math.abs.name, Cond.code Lib.Math.abs.name Lib.Math.abs.code 1 (some .int), Cond.fieldLink RX1 27 "LinenTunnel$Kinds" "foul" "LLinenTunnel$Row;", Cond.methodLink RX1 40 yX4_read, Cond.methodLink RX3 46 yX4_write, Cond.instanceMethod yX4_write, Cond.selects RX4 yX4_write yX4_write, Cond.code yX4_write cX4_write 3 none, Cond.methodLink RX3 30 yX3_fillFewest, Cond.instanceMethod yX3_fillFewest, Cond.selects RX3 yX3_fillFewest yX3_fillFewest, Cond.code yX3_fillFewest cX3_fillFewest 5 none, Cond.fieldLink RX3 20 "LinenTunnel$Planner" "fewest" "LLinenTunnel$Row;", Cond.methodLink RX3 39 yX3_bestBehind, Cond.instanceMethod yX3_bestBehind, Cond.selects RX3 yX3_bestBehind yX3_bestBehind]
def wsX3_orderBest_r3 : List Cond := [Cond.code yX3_bestBehind cX3_bestBehind 7 (some .int), Cond.methodLink RX3 53 yX3_costBehind, Cond.instanceMethod yX3_costBehind, Cond.selects RX3 yX3_costBehind yX3_costBehind, Cond.code yX3_costBehind cX3_costBehind 5 (some .int), Cond.methodLink RX3 57 yX4_read]
def wsX3_orderBest : List Cond := .code yX3_orderBest cX3_orderBest 4 none :: ((wsX3_orderBest_r1 ++ (wsX3_orderBest_r2 ++ wsX3_orderBest_r3)) ++ wsX30 ++ wsX60 ++ wsX40 ++ wsX10)
def wsX5_init : List Cond := .code yX5_init cX5_init 1 none :: ([.methodLink RX5 3 objectInit, .instanceMethod objectInit, .code objectInit ⟨#[0xb1]⟩ 1 none, .classLink RX5 9 RX4, .instantiable RX4 1, .initialized RX4, .fieldLink RX5 14 "LinenTunnel$Sheets" "form" "LLinenTunnel$Row;", .fieldLink RX5 20 "LinenTunnel$Sheets" "size" "LLinenTunnel$Row;", .fieldLink RX5 23 "LinenTunnel$Sheets" "items" "LLinenTunnel$Row;", .methodLink RX5 11 yX4_init, .instanceMethod yX4_init, .code yX4_init cX4_init 2 none, .methodLink RX4 1 objectInit, .arrayClass .int, .fieldLink RX4 7 "LinenTunnel$Row" "items" "[I", .methodLink RX5 26 yX4_fill, .instanceMethod yX4_fill, .selects RX4 yX4_fill yX4_fill, .code yX4_fill cX4_fill 3 none] ++ wsX40 ++ wsX50)
def wsX5_isLost : List Cond := .code yX5_isLost cX5_isLost 2 (some .boolean) :: ([.fieldLink RX5 14 "LinenTunnel$Sheets" "form" "LLinenTunnel$Row;", .methodLink RX5 29 yX4_read, .instanceMethod yX4_read, .selects RX4 yX4_read yX4_read, .initialized RX4, .code yX4_read cX4_read 2 (some .int), .fieldLink RX4 7 "LinenTunnel$Row" "items" "[I"] ++ wsX50 ++ wsX40)
def wsX5_holds : List Cond := .code yX5_holds cX5_holds 4 (some .boolean) :: ([.fieldLink RX5 20 "LinenTunnel$Sheets" "size" "LLinenTunnel$Row;", .methodLink RX5 29 yX4_read, .instanceMethod yX4_read, .selects RX4 yX4_read yX4_read, .initialized RX4, .code yX4_read cX4_read 2 (some .int), .fieldLink RX4 7 "LinenTunnel$Row" "items" "[I"] ++ wsX50 ++ wsX40)
def wsX5_findingAt : List Cond := .code yX5_findingAt cX5_findingAt 4 (some .int) :: ([.fieldLink RX5 14 "LinenTunnel$Sheets" "form" "LLinenTunnel$Row;", .fieldLink RX5 20 "LinenTunnel$Sheets" "size" "LLinenTunnel$Row;", .methodLink RX5 33 yX5_isLost, .instanceMethod yX5_isLost, .selects RX5 yX5_isLost yX5_isLost, .initialized RX5, .code yX5_isLost cX5_isLost 2 (some .boolean), .methodLink RX5 29 yX4_read, .instanceMethod yX4_read, .selects RX4 yX4_read yX4_read, .initialized RX4, .code yX4_read cX4_read 2 (some .int), .fieldLink RX4 7 "LinenTunnel$Row" "items" "[I"] ++ wsX50 ++ wsX40)
def wsX5_renew : List Cond := .code yX5_renew cX5_renew 5 none :: ([.fieldLink RX5 14 "LinenTunnel$Sheets" "form" "LLinenTunnel$Row;", .fieldLink RX5 20 "LinenTunnel$Sheets" "size" "LLinenTunnel$Row;", .fieldLink RX5 23 "LinenTunnel$Sheets" "items" "LLinenTunnel$Row;", .methodLink RX5 37 yX4_write, .instanceMethod yX4_write, .selects RX4 yX4_write yX4_write, .initialized RX4, .code yX4_write cX4_write 3 none, .fieldLink RX4 7 "LinenTunnel$Row" "items" "[I"] ++ wsX50 ++ wsX40)
def wsX5_item : List Cond := .code yX5_item cX5_item 3 (some .int) :: ([.fieldLink RX5 23 "LinenTunnel$Sheets" "items" "LLinenTunnel$Row;", .methodLink RX5 29 yX4_read, .instanceMethod yX4_read, .selects RX4 yX4_read yX4_read, .initialized RX4, .code yX4_read cX4_read 2 (some .int), .fieldLink RX4 7 "LinenTunnel$Row" "items" "[I"] ++ wsX50 ++ wsX40)
def wsX5_lowestBits : List Cond := .code yX5_lowestBits cX5_lowestBits 2 (some .int) :: ([])
def wsX5_setItem : List Cond := .code yX5_setItem cX5_setItem 4 none :: ([.fieldLink RX5 23 "LinenTunnel$Sheets" "items" "LLinenTunnel$Row;", .fieldLink RX5 14 "LinenTunnel$Sheets" "form" "LLinenTunnel$Row;", .methodLink RX5 29 yX4_read, .instanceMethod yX4_read, .selects RX4 yX4_read yX4_read, .initialized RX4, .code yX4_read cX4_read 2 (some .int), .fieldLink RX4 7 "LinenTunnel$Row" "items" "[I", .methodLink RX5 41 yX5_lowestBits, .static yX5_lowestBits, .initialized RX5, .code yX5_lowestBits cX5_lowestBits 2 (some .int), .methodLink RX5 37 yX4_write, .instanceMethod yX4_write, .selects RX4 yX4_write yX4_write, .code yX4_write cX4_write 3 none] ++ wsX50 ++ wsX40)
def wsX5_moveItems : List Cond := .code yX5_moveItems cX5_moveItems 9 none :: ([.methodLink RX5 45 yX5_item, .instanceMethod yX5_item, .selects RX5 yX5_item yX5_item, .initialized RX5, .code yX5_item cX5_item 3 (some .int), .fieldLink RX5 23 "LinenTunnel$Sheets" "items" "LLinenTunnel$Row;", .methodLink RX5 29 yX4_read, .instanceMethod yX4_read, .selects RX4 yX4_read yX4_read, .initialized RX4, .code yX4_read cX4_read 2 (some .int), .fieldLink RX4 7 "LinenTunnel$Row" "items" "[I", .methodLink RX5 48 yX5_setItem, .instanceMethod yX5_setItem, .selects RX5 yX5_setItem yX5_setItem, .code yX5_setItem cX5_setItem 4 none, .fieldLink RX5 14 "LinenTunnel$Sheets" "form" "LLinenTunnel$Row;", .methodLink RX5 41 yX5_lowestBits, .static yX5_lowestBits, .code yX5_lowestBits cX5_lowestBits 2 (some .int), .methodLink RX5 37 yX4_write, .instanceMethod yX4_write, .selects RX4 yX4_write yX4_write, .code yX4_write cX4_write 3 none] ++ wsX50 ++ wsX40)
def wsX6_init : List Cond := .code yX6_init cX6_init 2 none :: ([.methodLink RX6 3 objectInit, .instanceMethod objectInit, .code objectInit ⟨#[0xb1]⟩ 1 none, .fieldLink RX6 9 "LinenTunnel$Waiting" "number" "I", .classLink RX6 15 RX4, .instantiable RX4 1, .initialized RX4, .fieldLink RX6 20 "LinenTunnel$Waiting" "kind" "LLinenTunnel$Row;", .fieldLink RX6 24 "LinenTunnel$Waiting" "size" "LLinenTunnel$Row;", .fieldLink RX6 27 "LinenTunnel$Waiting" "order" "LLinenTunnel$Row;", .fieldLink RX6 30 "LinenTunnel$Waiting" "kinds" "LLinenTunnel$Kinds;", .methodLink RX6 17 yX4_init, .instanceMethod yX4_init, .code yX4_init cX4_init 2 none, .methodLink RX4 1 objectInit, .arrayClass .int, .fieldLink RX4 7 "LinenTunnel$Row" "items" "[I"] ++ wsX60 ++ wsX40)
def wsX6_add : List Cond := .code yX6_add cX6_add 3 none :: ([.fieldLink RX6 20 "LinenTunnel$Waiting" "kind" "LLinenTunnel$Row;", .fieldLink RX6 9 "LinenTunnel$Waiting" "number" "I", .fieldLink RX6 24 "LinenTunnel$Waiting" "size" "LLinenTunnel$Row;", .fieldLink RX6 27 "LinenTunnel$Waiting" "order" "LLinenTunnel$Row;", .methodLink RX6 34 yX4_write, .instanceMethod yX4_write, .selects RX4 yX4_write yX4_write, .initialized RX4, .code yX4_write cX4_write 3 none, .fieldLink RX4 7 "LinenTunnel$Row" "items" "[I"] ++ wsX60 ++ wsX40)
def wsX6_dropLast : List Cond := .code yX6_dropLast cX6_dropLast 4 none :: ([.fieldLink RX6 9 "LinenTunnel$Waiting" "number" "I", .fieldLink RX6 20 "LinenTunnel$Waiting" "kind" "LLinenTunnel$Row;", .fieldLink RX6 24 "LinenTunnel$Waiting" "size" "LLinenTunnel$Row;", .fieldLink RX6 27 "LinenTunnel$Waiting" "order" "LLinenTunnel$Row;", .methodLink RX6 38 yX4_read, .instanceMethod yX4_read, .selects RX4 yX4_read yX4_read, .initialized RX4, .code yX4_read cX4_read 2 (some .int), .fieldLink RX4 7 "LinenTunnel$Row" "items" "[I", .methodLink RX6 34 yX4_write, .instanceMethod yX4_write, .selects RX4 yX4_write yX4_write, .code yX4_write cX4_write 3 none] ++ wsX60 ++ wsX40)
def wsX6_placeOf : List Cond := .code yX6_placeOf cX6_placeOf 3 (some .int) :: ([.fieldLink RX6 9 "LinenTunnel$Waiting" "number" "I", .fieldLink RX6 27 "LinenTunnel$Waiting" "order" "LLinenTunnel$Row;", .methodLink RX6 38 yX4_read, .instanceMethod yX4_read, .selects RX4 yX4_read yX4_read, .initialized RX4, .code yX4_read cX4_read 2 (some .int), .fieldLink RX4 7 "LinenTunnel$Row" "items" "[I"] ++ wsX60 ++ wsX40)
def wsX6_gapsInOrder_r1 : List Cond := [Cond.fieldLink RX6 9 "LinenTunnel$Waiting" "number" "I", Cond.methodLink RX6 51 yX6_gapAhead, Cond.instanceMethod yX6_gapAhead, Cond.selects RX6 yX6_gapAhead yX6_gapAhead, Cond.initialized RX6, Cond.code yX6_gapAhead cX6_gapAhead 2 (some .int), Cond.fieldLink RX6 27 "LinenTunnel$Waiting" "order" "LLinenTunnel$Row;", Cond.methodLink RX6 38 yX4_read, Cond.instanceMethod yX4_read, Cond.selects RX4 yX4_read yX4_read, Cond.initialized RX4, Cond.code yX4_read cX4_read 2 (some .int), Cond.fieldLink RX4 7 "LinenTunnel$Row" "items" "[I", Cond.methodLink RX6 48 yX6_gapOf, Cond.instanceMethod yX6_gapOf, Cond.selects RX6 yX6_gapOf yX6_gapOf, Cond.code yX6_gapOf cX6_gapOf 3 (some .int), Cond.fieldLink RX6 30 "LinenTunnel$Waiting" "kinds" "LLinenTunnel$Kinds;", Cond.fieldLink RX6 20 "LinenTunnel$Waiting" "kind" "LLinenTunnel$Row;", Cond.methodLink RX6 42 yX1_gap, Cond.instanceMethod yX1_gap, Cond.selects RX1 yX1_gap yX1_gap, Cond.initialized RX1, Cond.code yX1_gap cX1_gap 4 (some .int)]
def wsX6_gapsInOrder_r2 : List Cond := [Cond.fieldLink RX1 24 "LinenTunnel$Kinds" "colour" "LLinenTunnel$Row;", Cond.methodLink RX1 44 Lib.Math.max.name, Cond.static Lib.Math.max.name, Cond.initialized "java/lang/Math", Cond.code Lib.Math.max.name Lib.Math.max.code 2 (some .int), Cond.fieldLink RX1 20 "LinenTunnel$Kinds" "heat" "LLinenTunnel$Row;", Cond.methodLink RX1 50 Lib.Math.abs.name, Cond.static Lib.Math.abs.name, Cond.code Lib.Math.abs.name Lib.Math.abs.code 1 (some .int), Cond.fieldLink RX1 27 "LinenTunnel$Kinds" "foul" "LLinenTunnel$Row;", Cond.methodLink RX1 40 yX4_read]
def wsX6_gapsInOrder : List Cond := .code yX6_gapsInOrder cX6_gapsInOrder 3 (some .int) :: ((wsX6_gapsInOrder_r1 ++ wsX6_gapsInOrder_r2) ++ wsX60 ++ wsX40 ++ wsX10)
def wsX6_nextOf_r1 : List Cond := [Cond.fieldLink RX6 9 "LinenTunnel$Waiting" "number" "I", Cond.methodLink RX6 48 yX6_gapOf, Cond.instanceMethod yX6_gapOf, Cond.selects RX6 yX6_gapOf yX6_gapOf, Cond.initialized RX6, Cond.code yX6_gapOf cX6_gapOf 3 (some .int), Cond.fieldLink RX6 30 "LinenTunnel$Waiting" "kinds" "LLinenTunnel$Kinds;", Cond.fieldLink RX6 20 "LinenTunnel$Waiting" "kind" "LLinenTunnel$Row;", Cond.methodLink RX6 38 yX4_read, Cond.instanceMethod yX4_read, Cond.selects RX4 yX4_read yX4_read, Cond.initialized RX4, Cond.code yX4_read cX4_read 2 (some .int), Cond.fieldLink RX4 7 "LinenTunnel$Row" "items" "[I", Cond.methodLink RX6 42 yX1_gap, Cond.instanceMethod yX1_gap, Cond.selects RX1 yX1_gap yX1_gap, Cond.initialized RX1, Cond.code yX1_gap cX1_gap 4 (some .int), Cond.fieldLink RX1 24 "LinenTunnel$Kinds" "colour" "LLinenTunnel$Row;", Cond.methodLink RX1 44 Lib.Math.max.name, Cond.static Lib.Math.max.name, Cond.initialized "java/lang/Math", Cond.code Lib.Math.max.name Lib.Math.max.code 2 (some .int)]
def wsX6_nextOf_r2 : List Cond := [Cond.fieldLink RX1 20 "LinenTunnel$Kinds" "heat" "LLinenTunnel$Row;", Cond.methodLink RX1 50 Lib.Math.abs.name, Cond.static Lib.Math.abs.name, Cond.code Lib.Math.abs.name Lib.Math.abs.code 1 (some .int), Cond.fieldLink RX1 27 "LinenTunnel$Kinds" "foul" "LLinenTunnel$Row;", Cond.methodLink RX1 40 yX4_read]
def wsX6_nextOf : List Cond := .code yX6_nextOf cX6_nextOf 6 (some .int) :: ((wsX6_nextOf_r1 ++ wsX6_nextOf_r2) ++ wsX60 ++ wsX40 ++ wsX10)
def wsX6_orderByNext_r1 : List Cond := [Cond.fieldLink RX6 9 "LinenTunnel$Waiting" "number" "I", Cond.fieldLink RX6 27 "LinenTunnel$Waiting" "order" "LLinenTunnel$Row;", Cond.methodLink RX6 38 yX4_read, Cond.instanceMethod yX4_read, Cond.selects RX4 yX4_read yX4_read, Cond.initialized RX4, Cond.code yX4_read cX4_read 2 (some .int), Cond.fieldLink RX4 7 "LinenTunnel$Row" "items" "[I", Cond.methodLink RX6 54 yX6_nextOf, Cond.instanceMethod yX6_nextOf, Cond.selects RX6 yX6_nextOf yX6_nextOf, Cond.initialized RX6, Cond.code yX6_nextOf cX6_nextOf 6 (some .int), Cond.methodLink RX6 48 yX6_gapOf, Cond.instanceMethod yX6_gapOf, Cond.selects RX6 yX6_gapOf yX6_gapOf, Cond.code yX6_gapOf cX6_gapOf 3 (some .int), Cond.fieldLink RX6 30 "LinenTunnel$Waiting" "kinds" "LLinenTunnel$Kinds;", Cond.fieldLink RX6 20 "LinenTunnel$Waiting" "kind" "LLinenTunnel$Row;", Cond.methodLink RX6 42 yX1_gap, Cond.instanceMethod yX1_gap, Cond.selects RX1 yX1_gap yX1_gap, Cond.initialized RX1, Cond.code yX1_gap cX1_gap 4 (some .int)]
def wsX6_orderByNext_r2 : List Cond := [Cond.fieldLink RX1 24 "LinenTunnel$Kinds" "colour" "LLinenTunnel$Row;", Cond.methodLink RX1 44 Lib.Math.max.name, Cond.static Lib.Math.max.name, Cond.initialized "java/lang/Math", Cond.code Lib.Math.max.name Lib.Math.max.code 2 (some .int), Cond.fieldLink RX1 20 "LinenTunnel$Kinds" "heat" "LLinenTunnel$Row;", Cond.methodLink RX1 50 Lib.Math.abs.name, Cond.static Lib.Math.abs.name, Cond.code Lib.Math.abs.name Lib.Math.abs.code 1 (some .int), Cond.fieldLink RX1 27 "LinenTunnel$Kinds" "foul" "LLinenTunnel$Row;", Cond.methodLink RX1 40 yX4_read, Cond.methodLink RX6 34 yX4_write, Cond.instanceMethod yX4_write, Cond.selects RX4 yX4_write yX4_write, Cond.code yX4_write cX4_write 3 none]
def wsX6_orderByNext : List Cond := .code yX6_orderByNext cX6_orderByNext 4 none :: ((wsX6_orderByNext_r1 ++ wsX6_orderByNext_r2) ++ wsX60 ++ wsX40 ++ wsX10)
def wsX7_init_r1 : List Cond := [Cond.methodLink RX7 3 objectInit, Cond.instanceMethod objectInit, Cond.code objectInit ⟨#[0xb1]⟩ 1 none, Cond.classLink RX7 9 RX1, Cond.instantiable RX1 6, Cond.initialized RX1, Cond.fieldLink RX7 12 "LinenTunnel" "kinds" "LLinenTunnel$Kinds;", Cond.classLink RX7 16 RX2, Cond.instantiable RX2 7, Cond.initialized RX2, Cond.fieldLink RX7 19 "LinenTunnel" "linen" "LLinenTunnel$Linen;", Cond.classLink RX7 23 RX6, Cond.instantiable RX6 5, Cond.initialized RX6, Cond.fieldLink RX7 28 "LinenTunnel" "waiting" "LLinenTunnel$Waiting;", Cond.classLink RX7 32 RX3, Cond.instantiable RX3 3, Cond.initialized RX3, Cond.fieldLink RX7 37 "LinenTunnel" "planner" "LLinenTunnel$Planner;", Cond.classLink RX7 41 RX0, Cond.instantiable RX0 16, Cond.initialized RX0, Cond.fieldLink RX7 46 "LinenTunnel" "house" "LLinenTunnel$House;", Cond.classLink RX7 50 RX5]
def wsX7_init_r2 : List Cond := [Cond.instantiable RX5 3, Cond.initialized RX5, Cond.fieldLink RX7 53 "LinenTunnel" "sheets" "LLinenTunnel$Sheets;", Cond.fieldLink RX7 57 "LinenTunnel" "latestFinding" "I", Cond.instanceMethod yX1_init, Cond.code yX1_init cX1_init 1 none, Cond.methodLink RX1 3 objectInit, Cond.fieldLink RX1 9 "LinenTunnel$Kinds" "number" "I", Cond.classLink RX1 15 RX4, Cond.instantiable RX4 1, Cond.initialized RX4, Cond.fieldLink RX1 20 "LinenTunnel$Kinds" "heat" "LLinenTunnel$Row;", Cond.fieldLink RX1 24 "LinenTunnel$Kinds" "colour" "LLinenTunnel$Row;", Cond.fieldLink RX1 27 "LinenTunnel$Kinds" "foul" "LLinenTunnel$Row;", Cond.fieldLink RX1 30 "LinenTunnel$Kinds" "dry" "LLinenTunnel$Row;", Cond.fieldLink RX1 33 "LinenTunnel$Kinds" "iron" "LLinenTunnel$Row;", Cond.methodLink RX1 17 yX4_init, Cond.instanceMethod yX4_init, Cond.code yX4_init cX4_init 2 none, Cond.methodLink RX4 1 objectInit, Cond.arrayClass .int, Cond.fieldLink RX4 7 "LinenTunnel$Row" "items" "[I", Cond.instanceMethod yX2_init, Cond.code yX2_init cX2_init 1 none]
def wsX7_init_r3 : List Cond := [Cond.methodLink RX2 3 objectInit, Cond.fieldLink RX2 9 "LinenTunnel$Linen" "number" "I", Cond.classLink RX2 15 RX4, Cond.fieldLink RX2 20 "LinenTunnel$Linen" "kind" "LLinenTunnel$Row;", Cond.fieldLink RX2 24 "LinenTunnel$Linen" "owner" "LLinenTunnel$Row;", Cond.fieldLink RX2 27 "LinenTunnel$Linen" "chip" "LLinenTunnel$Row;", Cond.fieldLink RX2 30 "LinenTunnel$Linen" "place" "LLinenTunnel$Row;", Cond.fieldLink RX2 33 "LinenTunnel$Linen" "washes" "LLinenTunnel$Row;", Cond.fieldLink RX2 36 "LinenTunnel$Linen" "batch" "LLinenTunnel$Row;", Cond.methodLink RX2 17 yX4_init, Cond.methodLink RX7 25 yX6_init, Cond.instanceMethod yX6_init, Cond.code yX6_init cX6_init 2 none, Cond.methodLink RX6 3 objectInit, Cond.fieldLink RX6 9 "LinenTunnel$Waiting" "number" "I", Cond.classLink RX6 15 RX4, Cond.fieldLink RX6 20 "LinenTunnel$Waiting" "kind" "LLinenTunnel$Row;", Cond.fieldLink RX6 24 "LinenTunnel$Waiting" "size" "LLinenTunnel$Row;", Cond.fieldLink RX6 27 "LinenTunnel$Waiting" "order" "LLinenTunnel$Row;", Cond.fieldLink RX6 30 "LinenTunnel$Waiting" "kinds" "LLinenTunnel$Kinds;", Cond.methodLink RX6 17 yX4_init, Cond.methodLink RX7 34 yX3_init, Cond.instanceMethod yX3_init, Cond.code yX3_init cX3_init 2 none]
def wsX7_init_r4 : List Cond := [Cond.methodLink RX3 3 objectInit, Cond.classLink RX3 9 RX4, Cond.fieldLink RX3 14 "LinenTunnel$Planner" "gaps" "LLinenTunnel$Row;", Cond.fieldLink RX3 20 "LinenTunnel$Planner" "fewest" "LLinenTunnel$Row;", Cond.fieldLink RX3 23 "LinenTunnel$Planner" "waiting" "LLinenTunnel$Waiting;", Cond.methodLink RX3 11 yX4_init, Cond.methodLink RX7 43 yX0_init, Cond.instanceMethod yX0_init, Cond.code yX0_init cX0_init 3 none, Cond.methodLink RX0 3 objectInit, Cond.fieldLink RX0 9 "LinenTunnel$House" "compartments" "I", Cond.fieldLink RX0 15 "LinenTunnel$House" "dryers" "I", Cond.fieldLink RX0 18 "LinenTunnel$House" "irons" "I", Cond.fieldLink RX0 21 "LinenTunnel$House" "washes" "I", Cond.fieldLink RX0 24 "LinenTunnel$House" "slotNumber" "I", Cond.fieldLink RX0 27 "LinenTunnel$House" "nextSlot" "I", Cond.fieldLink RX0 30 "LinenTunnel$House" "gone" "I", Cond.classLink RX0 33 RX4, Cond.fieldLink RX0 38 "LinenTunnel$House" "slots" "LLinenTunnel$Row;", Cond.fieldLink RX0 42 "LinenTunnel$House" "inside" "LLinenTunnel$Row;", Cond.fieldLink RX0 45 "LinenTunnel$House" "dryerTill" "LLinenTunnel$Row;", Cond.fieldLink RX0 48 "LinenTunnel$House" "ironTill" "LLinenTunnel$Row;", Cond.fieldLink RX0 51 "LinenTunnel$House" "size" "LLinenTunnel$Row;", Cond.fieldLink RX0 54 "LinenTunnel$House" "facts" "LLinenTunnel$Row;"]
def wsX7_init_r5 : List Cond := [Cond.fieldLink RX0 57 "LinenTunnel$House" "totals" "LLinenTunnel$Row;", Cond.fieldLink RX0 60 "LinenTunnel$House" "kinds" "LLinenTunnel$Kinds;", Cond.fieldLink RX0 64 "LinenTunnel$House" "waiting" "LLinenTunnel$Waiting;", Cond.methodLink RX0 35 yX4_init, Cond.methodLink RX7 52 yX5_init, Cond.instanceMethod yX5_init, Cond.code yX5_init cX5_init 1 none, Cond.methodLink RX5 3 objectInit, Cond.classLink RX5 9 RX4, Cond.fieldLink RX5 14 "LinenTunnel$Sheets" "form" "LLinenTunnel$Row;", Cond.fieldLink RX5 20 "LinenTunnel$Sheets" "size" "LLinenTunnel$Row;", Cond.fieldLink RX5 23 "LinenTunnel$Sheets" "items" "LLinenTunnel$Row;", Cond.methodLink RX5 11 yX4_init, Cond.methodLink RX5 26 yX4_fill, Cond.instanceMethod yX4_fill, Cond.selects RX4 yX4_fill yX4_fill, Cond.code yX4_fill cX4_fill 3 none]
def wsX7_init : List Cond := .code yX7_init cX7_init 1 none :: ((wsX7_init_r1 ++ (wsX7_init_r2 ++ (wsX7_init_r3 ++ (wsX7_init_r4 ++ wsX7_init_r5)))) ++ wsX10 ++ wsX70 ++ wsX20 ++ wsX60 ++ wsX30 ++ wsX00 ++ wsX50 ++ wsX40)
def wsX7_within : List Cond := .code yX7_within cX7_within 3 (some .boolean) :: ([])
def wsX7_kind : List Cond := .code yX7_kind cX7_kind 6 (some .int) :: ([.fieldLink RX7 12 "LinenTunnel" "kinds" "LLinenTunnel$Kinds;", .methodLink RX7 61 yX7_within, .static yX7_within, .initialized RX7, .code yX7_within cX7_within 3 (some .boolean), .methodLink RX7 68 yX1_add, .instanceMethod yX1_add, .selects RX1 yX1_add yX1_add, .initialized RX1, .code yX1_add cX1_add 6 (some .int), .fieldLink RX1 20 "LinenTunnel$Kinds" "heat" "LLinenTunnel$Row;", .fieldLink RX1 9 "LinenTunnel$Kinds" "number" "I", .fieldLink RX1 24 "LinenTunnel$Kinds" "colour" "LLinenTunnel$Row;", .fieldLink RX1 27 "LinenTunnel$Kinds" "foul" "LLinenTunnel$Row;", .fieldLink RX1 30 "LinenTunnel$Kinds" "dry" "LLinenTunnel$Row;", .fieldLink RX1 33 "LinenTunnel$Kinds" "iron" "LLinenTunnel$Row;", .methodLink RX1 36 yX4_write, .instanceMethod yX4_write, .selects RX4 yX4_write yX4_write, .initialized RX4, .code yX4_write cX4_write 3 none, .fieldLink RX4 7 "LinenTunnel$Row" "items" "[I"] ++ wsX70 ++ wsX10 ++ wsX40)
def wsX7_isKind : List Cond := .code yX7_isKind cX7_isKind 2 (some .boolean) :: ([.fieldLink RX7 12 "LinenTunnel" "kinds" "LLinenTunnel$Kinds;", .methodLink RX7 61 yX7_within, .static yX7_within, .initialized RX7, .code yX7_within cX7_within 3 (some .boolean)] ++ wsX70 ++ wsX10)
def wsX7_isOwner : List Cond := .code yX7_isOwner cX7_isOwner 1 (some .boolean) :: ([.methodLink RX7 61 yX7_within, .static yX7_within, .initialized RX7, .code yX7_within cX7_within 3 (some .boolean)])
def wsX7_piece_r1 : List Cond := [Cond.fieldLink RX7 19 "LinenTunnel" "linen" "LLinenTunnel$Linen;", Cond.methodLink RX7 72 yX7_isKind, Cond.instanceMethod yX7_isKind, Cond.selects RX7 yX7_isKind yX7_isKind, Cond.initialized RX7, Cond.code yX7_isKind cX7_isKind 2 (some .boolean), Cond.fieldLink RX7 12 "LinenTunnel" "kinds" "LLinenTunnel$Kinds;", Cond.methodLink RX7 61 yX7_within, Cond.static yX7_within, Cond.code yX7_within cX7_within 3 (some .boolean), Cond.methodLink RX7 76 yX7_isOwner, Cond.static yX7_isOwner, Cond.code yX7_isOwner cX7_isOwner 1 (some .boolean), Cond.methodLink RX7 80 yX2_add, Cond.instanceMethod yX2_add, Cond.selects RX2 yX2_add yX2_add, Cond.initialized RX2, Cond.code yX2_add cX2_add 4 (some .int), Cond.fieldLink RX2 20 "LinenTunnel$Linen" "kind" "LLinenTunnel$Row;", Cond.fieldLink RX2 9 "LinenTunnel$Linen" "number" "I", Cond.fieldLink RX2 24 "LinenTunnel$Linen" "owner" "LLinenTunnel$Row;", Cond.fieldLink RX2 27 "LinenTunnel$Linen" "chip" "LLinenTunnel$Row;", Cond.fieldLink RX2 30 "LinenTunnel$Linen" "place" "LLinenTunnel$Row;", Cond.fieldLink RX2 33 "LinenTunnel$Linen" "washes" "LLinenTunnel$Row;"]
def wsX7_piece_r2 : List Cond := [Cond.fieldLink RX2 36 "LinenTunnel$Linen" "batch" "LLinenTunnel$Row;", Cond.methodLink RX2 39 yX4_write, Cond.instanceMethod yX4_write, Cond.selects RX4 yX4_write yX4_write, Cond.initialized RX4, Cond.code yX4_write cX4_write 3 none, Cond.fieldLink RX4 7 "LinenTunnel$Row" "items" "[I"]
def wsX7_piece : List Cond := .code yX7_piece cX7_piece 4 (some .int) :: ((wsX7_piece_r1 ++ wsX7_piece_r2) ++ wsX70 ++ wsX20 ++ wsX10 ++ wsX40)
def wsX7_isPiece : List Cond := .code yX7_isPiece cX7_isPiece 2 (some .boolean) :: ([.fieldLink RX7 19 "LinenTunnel" "linen" "LLinenTunnel$Linen;", .methodLink RX7 61 yX7_within, .static yX7_within, .initialized RX7, .code yX7_within cX7_within 3 (some .boolean)] ++ wsX70 ++ wsX20)
def wsX7_about : List Cond := .code yX7_about cX7_about 3 (some .int) :: ([.fieldLink RX7 19 "LinenTunnel" "linen" "LLinenTunnel$Linen;", .methodLink RX7 83 yX7_isPiece, .instanceMethod yX7_isPiece, .selects RX7 yX7_isPiece yX7_isPiece, .initialized RX7, .code yX7_isPiece cX7_isPiece 2 (some .boolean), .methodLink RX7 61 yX7_within, .static yX7_within, .code yX7_within cX7_within 3 (some .boolean), .methodLink RX7 90 yX4_read, .instanceMethod yX4_read, .selects RX4 yX4_read yX4_read, .initialized RX4, .code yX4_read cX4_read 2 (some .int), .fieldLink RX4 7 "LinenTunnel$Row" "items" "[I"] ++ wsX70 ++ wsX20 ++ wsX40)
def wsX7_chip : List Cond := .code yX7_chip cX7_chip 3 (some .int) :: ([.fieldLink RX7 19 "LinenTunnel" "linen" "LLinenTunnel$Linen;", .methodLink RX7 83 yX7_isPiece, .instanceMethod yX7_isPiece, .selects RX7 yX7_isPiece yX7_isPiece, .initialized RX7, .code yX7_isPiece cX7_isPiece 2 (some .boolean), .methodLink RX7 61 yX7_within, .static yX7_within, .code yX7_within cX7_within 3 (some .boolean), .methodLink RX7 111 yX4_write, .instanceMethod yX4_write, .selects RX4 yX4_write yX4_write, .initialized RX4, .code yX4_write cX4_write 3 none, .fieldLink RX4 7 "LinenTunnel$Row" "items" "[I"] ++ wsX70 ++ wsX20 ++ wsX40)
def wsX7_lost : List Cond := .code yX7_lost cX7_lost 4 (some .int) :: ([.fieldLink RX7 19 "LinenTunnel" "linen" "LLinenTunnel$Linen;", .methodLink RX7 83 yX7_isPiece, .instanceMethod yX7_isPiece, .selects RX7 yX7_isPiece yX7_isPiece, .initialized RX7, .code yX7_isPiece cX7_isPiece 2 (some .boolean), .methodLink RX7 61 yX7_within, .static yX7_within, .code yX7_within cX7_within 3 (some .boolean), .methodLink RX7 90 yX4_read, .instanceMethod yX4_read, .selects RX4 yX4_read yX4_read, .initialized RX4, .code yX4_read cX4_read 2 (some .int), .fieldLink RX4 7 "LinenTunnel$Row" "items" "[I", .methodLink RX7 111 yX4_write, .instanceMethod yX4_write, .selects RX4 yX4_write yX4_write, .code yX4_write cX4_write 3 none] ++ wsX70 ++ wsX20 ++ wsX40)
def wsX7_soilFrom : List Cond := .code yX7_soilFrom cX7_soilFrom 3 (some .int) :: ([.fieldLink RX7 19 "LinenTunnel" "linen" "LLinenTunnel$Linen;", .methodLink RX7 83 yX7_isPiece, .instanceMethod yX7_isPiece, .selects RX7 yX7_isPiece yX7_isPiece, .initialized RX7, .code yX7_isPiece cX7_isPiece 2 (some .boolean), .methodLink RX7 61 yX7_within, .static yX7_within, .code yX7_within cX7_within 3 (some .boolean), .methodLink RX7 90 yX4_read, .instanceMethod yX4_read, .selects RX4 yX4_read yX4_read, .initialized RX4, .code yX4_read cX4_read 2 (some .int), .fieldLink RX4 7 "LinenTunnel$Row" "items" "[I", .methodLink RX7 111 yX4_write, .instanceMethod yX4_write, .selects RX4 yX4_write yX4_write, .code yX4_write cX4_write 3 none] ++ wsX70 ++ wsX20 ++ wsX40)
def wsX7_again : List Cond := .code yX7_again cX7_again 2 (some .int) :: ([.methodLink RX7 115 yX7_soilFrom, .instanceMethod yX7_soilFrom, .selects RX7 yX7_soilFrom yX7_soilFrom, .initialized RX7, .code yX7_soilFrom cX7_soilFrom 3 (some .int), .fieldLink RX7 19 "LinenTunnel" "linen" "LLinenTunnel$Linen;", .methodLink RX7 83 yX7_isPiece, .instanceMethod yX7_isPiece, .selects RX7 yX7_isPiece yX7_isPiece, .code yX7_isPiece cX7_isPiece 2 (some .boolean), .methodLink RX7 61 yX7_within, .static yX7_within, .code yX7_within cX7_within 3 (some .boolean), .methodLink RX7 90 yX4_read, .instanceMethod yX4_read, .selects RX4 yX4_read yX4_read, .initialized RX4, .code yX4_read cX4_read 2 (some .int), .fieldLink RX4 7 "LinenTunnel$Row" "items" "[I", .methodLink RX7 111 yX4_write, .instanceMethod yX4_write, .selects RX4 yX4_write yX4_write, .code yX4_write cX4_write 3 none] ++ wsX70 ++ wsX20 ++ wsX40)
def wsX7_isOwnerOrAny : List Cond := .code yX7_isOwnerOrAny cX7_isOwnerOrAny 1 (some .boolean) :: ([.methodLink RX7 76 yX7_isOwner, .static yX7_isOwner, .initialized RX7, .code yX7_isOwner cX7_isOwner 1 (some .boolean), .methodLink RX7 61 yX7_within, .static yX7_within, .code yX7_within cX7_within 3 (some .boolean)])
def wsX7_isKindOrAny : List Cond := .code yX7_isKindOrAny cX7_isKindOrAny 2 (some .boolean) :: ([.methodLink RX7 72 yX7_isKind, .instanceMethod yX7_isKind, .selects RX7 yX7_isKind yX7_isKind, .initialized RX7, .code yX7_isKind cX7_isKind 2 (some .boolean), .fieldLink RX7 12 "LinenTunnel" "kinds" "LLinenTunnel$Kinds;", .methodLink RX7 61 yX7_within, .static yX7_within, .code yX7_within cX7_within 3 (some .boolean)] ++ wsX70 ++ wsX10)
def wsX7_isPlace : List Cond := .code yX7_isPlace cX7_isPlace 1 (some .boolean) :: ([.methodLink RX7 61 yX7_within, .static yX7_within, .initialized RX7, .code yX7_within cX7_within 3 (some .boolean)])
def wsX7_pieces_r1 : List Cond := [Cond.fieldLink RX7 19 "LinenTunnel" "linen" "LLinenTunnel$Linen;", Cond.methodLink RX7 119 yX7_isOwnerOrAny, Cond.static yX7_isOwnerOrAny, Cond.initialized RX7, Cond.code yX7_isOwnerOrAny cX7_isOwnerOrAny 1 (some .boolean), Cond.methodLink RX7 76 yX7_isOwner, Cond.static yX7_isOwner, Cond.code yX7_isOwner cX7_isOwner 1 (some .boolean), Cond.methodLink RX7 61 yX7_within, Cond.static yX7_within, Cond.code yX7_within cX7_within 3 (some .boolean), Cond.methodLink RX7 122 yX7_isKindOrAny, Cond.instanceMethod yX7_isKindOrAny, Cond.selects RX7 yX7_isKindOrAny yX7_isKindOrAny, Cond.code yX7_isKindOrAny cX7_isKindOrAny 2 (some .boolean), Cond.methodLink RX7 72 yX7_isKind, Cond.instanceMethod yX7_isKind, Cond.selects RX7 yX7_isKind yX7_isKind, Cond.code yX7_isKind cX7_isKind 2 (some .boolean), Cond.fieldLink RX7 12 "LinenTunnel" "kinds" "LLinenTunnel$Kinds;", Cond.methodLink RX7 125 yX7_isPlace, Cond.static yX7_isPlace, Cond.code yX7_isPlace cX7_isPlace 1 (some .boolean), Cond.methodLink RX7 128 yX2_tally]
def wsX7_pieces_r2 : List Cond := [Cond.instanceMethod yX2_tally, Cond.selects RX2 yX2_tally yX2_tally, Cond.initialized RX2, Cond.code yX2_tally cX2_tally 6 (some .int), Cond.fieldLink RX2 9 "LinenTunnel$Linen" "number" "I", Cond.methodLink RX2 47 yX2_fits, Cond.instanceMethod yX2_fits, Cond.selects RX2 yX2_fits yX2_fits, Cond.code yX2_fits cX2_fits 5 (some .boolean), Cond.fieldLink RX2 30 "LinenTunnel$Linen" "place" "LLinenTunnel$Row;", Cond.fieldLink RX2 24 "LinenTunnel$Linen" "owner" "LLinenTunnel$Row;", Cond.fieldLink RX2 20 "LinenTunnel$Linen" "kind" "LLinenTunnel$Row;", Cond.methodLink RX2 43 yX4_read, Cond.instanceMethod yX4_read, Cond.selects RX4 yX4_read yX4_read, Cond.initialized RX4, Cond.code yX4_read cX4_read 2 (some .int), Cond.fieldLink RX4 7 "LinenTunnel$Row" "items" "[I"]
def wsX7_pieces : List Cond := .code yX7_pieces cX7_pieces 4 (some .int) :: ((wsX7_pieces_r1 ++ wsX7_pieces_r2) ++ wsX70 ++ wsX10 ++ wsX20 ++ wsX40)
def wsX7_isSheet : List Cond := .code yX7_isSheet cX7_isSheet 1 (some .boolean) :: ([.methodLink RX7 61 yX7_within, .static yX7_within, .initialized RX7, .code yX7_within cX7_within 3 (some .boolean)])
def wsX7_find : List Cond := .code yX7_find cX7_find 2 (some .int) :: ([.fieldLink RX7 57 "LinenTunnel" "latestFinding" "I"] ++ wsX70)
def wsX7_scan_r1 : List Cond := [Cond.fieldLink RX7 53 "LinenTunnel" "sheets" "LLinenTunnel$Sheets;", Cond.fieldLink RX7 19 "LinenTunnel" "linen" "LLinenTunnel$Linen;", Cond.methodLink RX7 132 yX7_isSheet, Cond.static yX7_isSheet, Cond.initialized RX7, Cond.code yX7_isSheet cX7_isSheet 1 (some .boolean), Cond.methodLink RX7 61 yX7_within, Cond.static yX7_within, Cond.code yX7_within cX7_within 3 (some .boolean), Cond.methodLink RX7 135 yX5_isLost, Cond.instanceMethod yX5_isLost, Cond.selects RX5 yX5_isLost yX5_isLost, Cond.initialized RX5, Cond.code yX5_isLost cX5_isLost 2 (some .boolean), Cond.fieldLink RX5 14 "LinenTunnel$Sheets" "form" "LLinenTunnel$Row;", Cond.methodLink RX5 29 yX4_read, Cond.instanceMethod yX4_read, Cond.selects RX4 yX4_read yX4_read, Cond.initialized RX4, Cond.code yX4_read cX4_read 2 (some .int), Cond.fieldLink RX4 7 "LinenTunnel$Row" "items" "[I", Cond.methodLink RX7 138 yX7_find, Cond.instanceMethod yX7_find, Cond.selects RX7 yX7_find yX7_find]
def wsX7_scan_r2 : List Cond := [Cond.code yX7_find cX7_find 2 (some .int), Cond.fieldLink RX7 57 "LinenTunnel" "latestFinding" "I", Cond.methodLink RX7 141 yX5_holds, Cond.instanceMethod yX5_holds, Cond.selects RX5 yX5_holds yX5_holds, Cond.code yX5_holds cX5_holds 4 (some .boolean), Cond.fieldLink RX5 20 "LinenTunnel$Sheets" "size" "LLinenTunnel$Row;", Cond.methodLink RX7 144 yX5_item, Cond.instanceMethod yX5_item, Cond.selects RX5 yX5_item yX5_item, Cond.code yX5_item cX5_item 3 (some .int), Cond.fieldLink RX5 23 "LinenTunnel$Sheets" "items" "LLinenTunnel$Row;", Cond.methodLink RX7 83 yX7_isPiece, Cond.instanceMethod yX7_isPiece, Cond.selects RX7 yX7_isPiece yX7_isPiece, Cond.code yX7_isPiece cX7_isPiece 2 (some .boolean), Cond.methodLink RX7 90 yX4_read, Cond.methodLink RX7 115 yX7_soilFrom, Cond.instanceMethod yX7_soilFrom, Cond.selects RX7 yX7_soilFrom yX7_soilFrom, Cond.code yX7_soilFrom cX7_soilFrom 3 (some .int), Cond.methodLink RX7 111 yX4_write, Cond.instanceMethod yX4_write, Cond.selects RX4 yX4_write yX4_write]
def wsX7_scan_r3 : List Cond := [Cond.code yX4_write cX4_write 3 none]
def wsX7_scan : List Cond := .code yX7_scan cX7_scan 6 (some .int) :: ((wsX7_scan_r1 ++ (wsX7_scan_r2 ++ wsX7_scan_r3)) ++ wsX70 ++ wsX20 ++ wsX50 ++ wsX40)
def wsX7_hand : List Cond := .code yX7_hand cX7_hand 2 (some .int) :: ([.methodLink RX7 115 yX7_soilFrom, .instanceMethod yX7_soilFrom, .selects RX7 yX7_soilFrom yX7_soilFrom, .initialized RX7, .code yX7_soilFrom cX7_soilFrom 3 (some .int), .fieldLink RX7 19 "LinenTunnel" "linen" "LLinenTunnel$Linen;", .methodLink RX7 83 yX7_isPiece, .instanceMethod yX7_isPiece, .selects RX7 yX7_isPiece yX7_isPiece, .code yX7_isPiece cX7_isPiece 2 (some .boolean), .methodLink RX7 61 yX7_within, .static yX7_within, .code yX7_within cX7_within 3 (some .boolean), .methodLink RX7 90 yX4_read, .instanceMethod yX4_read, .selects RX4 yX4_read yX4_read, .initialized RX4, .code yX4_read cX4_read 2 (some .int), .fieldLink RX4 7 "LinenTunnel$Row" "items" "[I", .methodLink RX7 111 yX4_write, .instanceMethod yX4_write, .selects RX4 yX4_write yX4_write, .code yX4_write cX4_write 3 none] ++ wsX70 ++ wsX20 ++ wsX40)
def wsX7_batch_r1 : List Cond := [Cond.fieldLink RX7 28 "LinenTunnel" "waiting" "LLinenTunnel$Waiting;", Cond.fieldLink RX7 19 "LinenTunnel" "linen" "LLinenTunnel$Linen;", Cond.methodLink RX7 72 yX7_isKind, Cond.instanceMethod yX7_isKind, Cond.selects RX7 yX7_isKind yX7_isKind, Cond.initialized RX7, Cond.code yX7_isKind cX7_isKind 2 (some .boolean), Cond.fieldLink RX7 12 "LinenTunnel" "kinds" "LLinenTunnel$Kinds;", Cond.methodLink RX7 61 yX7_within, Cond.static yX7_within, Cond.code yX7_within cX7_within 3 (some .boolean), Cond.methodLink RX7 119 yX7_isOwnerOrAny, Cond.static yX7_isOwnerOrAny, Cond.code yX7_isOwnerOrAny cX7_isOwnerOrAny 1 (some .boolean), Cond.methodLink RX7 76 yX7_isOwner, Cond.static yX7_isOwner, Cond.code yX7_isOwner cX7_isOwner 1 (some .boolean), Cond.methodLink RX7 148 yX2_fillBatch, Cond.instanceMethod yX2_fillBatch, Cond.selects RX2 yX2_fillBatch yX2_fillBatch, Cond.initialized RX2, Cond.code yX2_fillBatch cX2_fillBatch 7 (some .int), Cond.fieldLink RX2 9 "LinenTunnel$Linen" "number" "I", Cond.fieldLink RX2 30 "LinenTunnel$Linen" "place" "LLinenTunnel$Row;"]
def wsX7_batch_r2 : List Cond := [Cond.fieldLink RX2 36 "LinenTunnel$Linen" "batch" "LLinenTunnel$Row;", Cond.methodLink RX2 47 yX2_fits, Cond.instanceMethod yX2_fits, Cond.selects RX2 yX2_fits yX2_fits, Cond.code yX2_fits cX2_fits 5 (some .boolean), Cond.fieldLink RX2 24 "LinenTunnel$Linen" "owner" "LLinenTunnel$Row;", Cond.fieldLink RX2 20 "LinenTunnel$Linen" "kind" "LLinenTunnel$Row;", Cond.methodLink RX2 43 yX4_read, Cond.instanceMethod yX4_read, Cond.selects RX4 yX4_read yX4_read, Cond.initialized RX4, Cond.code yX4_read cX4_read 2 (some .int), Cond.fieldLink RX4 7 "LinenTunnel$Row" "items" "[I", Cond.methodLink RX2 39 yX4_write, Cond.instanceMethod yX4_write, Cond.selects RX4 yX4_write yX4_write, Cond.code yX4_write cX4_write 3 none, Cond.methodLink RX7 152 yX6_add, Cond.instanceMethod yX6_add, Cond.selects RX6 yX6_add yX6_add, Cond.initialized RX6, Cond.code yX6_add cX6_add 3 none, Cond.fieldLink RX6 20 "LinenTunnel$Waiting" "kind" "LLinenTunnel$Row;", Cond.fieldLink RX6 9 "LinenTunnel$Waiting" "number" "I"]
def wsX7_batch_r3 : List Cond := [Cond.fieldLink RX6 24 "LinenTunnel$Waiting" "size" "LLinenTunnel$Row;", Cond.fieldLink RX6 27 "LinenTunnel$Waiting" "order" "LLinenTunnel$Row;", Cond.methodLink RX6 34 yX4_write]
def wsX7_batch : List Cond := .code yX7_batch cX7_batch 5 (some .int) :: ((wsX7_batch_r1 ++ (wsX7_batch_r2 ++ wsX7_batch_r3)) ++ wsX70 ++ wsX60 ++ wsX10 ++ wsX20 ++ wsX40)
def wsX7_isOrderPlace : List Cond := .code yX7_isOrderPlace cX7_isOrderPlace 2 (some .boolean) :: ([.fieldLink RX7 28 "LinenTunnel" "waiting" "LLinenTunnel$Waiting;", .methodLink RX7 61 yX7_within, .static yX7_within, .initialized RX7, .code yX7_within cX7_within 3 (some .boolean)] ++ wsX70 ++ wsX60)
def wsX7_at : List Cond := .code yX7_at cX7_at 2 (some .int) :: ([.fieldLink RX7 28 "LinenTunnel" "waiting" "LLinenTunnel$Waiting;", .methodLink RX7 154 yX7_isOrderPlace, .instanceMethod yX7_isOrderPlace, .selects RX7 yX7_isOrderPlace yX7_isOrderPlace, .initialized RX7, .code yX7_isOrderPlace cX7_isOrderPlace 2 (some .boolean), .methodLink RX7 61 yX7_within, .static yX7_within, .code yX7_within cX7_within 3 (some .boolean), .methodLink RX7 90 yX4_read, .instanceMethod yX4_read, .selects RX4 yX4_read yX4_read, .initialized RX4, .code yX4_read cX4_read 2 (some .int), .fieldLink RX4 7 "LinenTunnel$Row" "items" "[I"] ++ wsX70 ++ wsX60 ++ wsX40)
def wsX7_of_r1 : List Cond := [Cond.fieldLink RX7 28 "LinenTunnel" "waiting" "LLinenTunnel$Waiting;", Cond.fieldLink RX7 19 "LinenTunnel" "linen" "LLinenTunnel$Linen;", Cond.methodLink RX7 61 yX7_within, Cond.static yX7_within, Cond.initialized RX7, Cond.code yX7_within cX7_within 3 (some .boolean), Cond.methodLink RX7 90 yX4_read, Cond.instanceMethod yX4_read, Cond.selects RX4 yX4_read yX4_read, Cond.initialized RX4, Cond.code yX4_read cX4_read 2 (some .int), Cond.fieldLink RX4 7 "LinenTunnel$Row" "items" "[I", Cond.methodLink RX7 163 yX2_pieceOfBatch, Cond.instanceMethod yX2_pieceOfBatch, Cond.selects RX2 yX2_pieceOfBatch yX2_pieceOfBatch, Cond.initialized RX2, Cond.code yX2_pieceOfBatch cX2_pieceOfBatch 5 (some .int), Cond.fieldLink RX2 9 "LinenTunnel$Linen" "number" "I", Cond.fieldLink RX2 36 "LinenTunnel$Linen" "batch" "LLinenTunnel$Row;", Cond.methodLink RX2 43 yX4_read, Cond.methodLink RX7 167 yX6_placeOf, Cond.instanceMethod yX6_placeOf, Cond.selects RX6 yX6_placeOf yX6_placeOf, Cond.initialized RX6]
def wsX7_of_r2 : List Cond := [Cond.code yX6_placeOf cX6_placeOf 3 (some .int), Cond.fieldLink RX6 9 "LinenTunnel$Waiting" "number" "I", Cond.fieldLink RX6 27 "LinenTunnel$Waiting" "order" "LLinenTunnel$Row;", Cond.methodLink RX6 38 yX4_read]
def wsX7_of : List Cond := .code yX7_of cX7_of 4 (some .int) :: ((wsX7_of_r1 ++ wsX7_of_r2) ++ wsX70 ++ wsX60 ++ wsX40 ++ wsX20)
def wsX7_swap : List Cond := .code yX7_swap cX7_swap 4 (some .int) :: ([.fieldLink RX7 28 "LinenTunnel" "waiting" "LLinenTunnel$Waiting;", .methodLink RX7 154 yX7_isOrderPlace, .instanceMethod yX7_isOrderPlace, .selects RX7 yX7_isOrderPlace yX7_isOrderPlace, .initialized RX7, .code yX7_isOrderPlace cX7_isOrderPlace 2 (some .boolean), .methodLink RX7 61 yX7_within, .static yX7_within, .code yX7_within cX7_within 3 (some .boolean), .methodLink RX7 90 yX4_read, .instanceMethod yX4_read, .selects RX4 yX4_read yX4_read, .initialized RX4, .code yX4_read cX4_read 2 (some .int), .fieldLink RX4 7 "LinenTunnel$Row" "items" "[I", .methodLink RX7 111 yX4_write, .instanceMethod yX4_write, .selects RX4 yX4_write yX4_write, .code yX4_write cX4_write 3 none] ++ wsX70 ++ wsX60 ++ wsX40)
def wsX7_undo_r1 : List Cond := [Cond.fieldLink RX7 28 "LinenTunnel" "waiting" "LLinenTunnel$Waiting;", Cond.fieldLink RX7 19 "LinenTunnel" "linen" "LLinenTunnel$Linen;", Cond.methodLink RX7 90 yX4_read, Cond.instanceMethod yX4_read, Cond.selects RX4 yX4_read yX4_read, Cond.initialized RX4, Cond.code yX4_read cX4_read 2 (some .int), Cond.fieldLink RX4 7 "LinenTunnel$Row" "items" "[I", Cond.methodLink RX7 170 yX2_emptyBatch, Cond.instanceMethod yX2_emptyBatch, Cond.selects RX2 yX2_emptyBatch yX2_emptyBatch, Cond.initialized RX2, Cond.code yX2_emptyBatch cX2_emptyBatch 4 none, Cond.fieldLink RX2 9 "LinenTunnel$Linen" "number" "I", Cond.fieldLink RX2 36 "LinenTunnel$Linen" "batch" "LLinenTunnel$Row;", Cond.fieldLink RX2 30 "LinenTunnel$Linen" "place" "LLinenTunnel$Row;", Cond.methodLink RX2 43 yX4_read, Cond.methodLink RX2 39 yX4_write, Cond.instanceMethod yX4_write, Cond.selects RX4 yX4_write yX4_write, Cond.code yX4_write cX4_write 3 none, Cond.methodLink RX7 174 yX6_dropLast, Cond.instanceMethod yX6_dropLast, Cond.selects RX6 yX6_dropLast yX6_dropLast]
def wsX7_undo_r2 : List Cond := [Cond.initialized RX6, Cond.code yX6_dropLast cX6_dropLast 4 none, Cond.fieldLink RX6 9 "LinenTunnel$Waiting" "number" "I", Cond.fieldLink RX6 20 "LinenTunnel$Waiting" "kind" "LLinenTunnel$Row;", Cond.fieldLink RX6 24 "LinenTunnel$Waiting" "size" "LLinenTunnel$Row;", Cond.fieldLink RX6 27 "LinenTunnel$Waiting" "order" "LLinenTunnel$Row;", Cond.methodLink RX6 38 yX4_read, Cond.methodLink RX6 34 yX4_write]
def wsX7_undo : List Cond := .code yX7_undo cX7_undo 2 (some .int) :: ((wsX7_undo_r1 ++ wsX7_undo_r2) ++ wsX70 ++ wsX60 ++ wsX40 ++ wsX20)
def wsX7_between_r1 : List Cond := [Cond.fieldLink RX7 12 "LinenTunnel" "kinds" "LLinenTunnel$Kinds;", Cond.methodLink RX7 72 yX7_isKind, Cond.instanceMethod yX7_isKind, Cond.selects RX7 yX7_isKind yX7_isKind, Cond.initialized RX7, Cond.code yX7_isKind cX7_isKind 2 (some .boolean), Cond.methodLink RX7 61 yX7_within, Cond.static yX7_within, Cond.code yX7_within cX7_within 3 (some .boolean), Cond.methodLink RX7 177 yX1_gap, Cond.instanceMethod yX1_gap, Cond.selects RX1 yX1_gap yX1_gap, Cond.initialized RX1, Cond.code yX1_gap cX1_gap 4 (some .int), Cond.fieldLink RX1 24 "LinenTunnel$Kinds" "colour" "LLinenTunnel$Row;", Cond.methodLink RX1 44 Lib.Math.max.name, Cond.static Lib.Math.max.name, Cond.initialized "java/lang/Math", Cond.code Lib.Math.max.name Lib.Math.max.code 2 (some .int), Cond.fieldLink RX1 20 "LinenTunnel$Kinds" "heat" "LLinenTunnel$Row;", Cond.methodLink RX1 50 Lib.Math.abs.name, Cond.static Lib.Math.abs.name, Cond.code Lib.Math.abs.name Lib.Math.abs.code 1 (some .int), Cond.fieldLink RX1 27 "LinenTunnel$Kinds" "foul" "LLinenTunnel$Row;"]
def wsX7_between_r2 : List Cond := [Cond.methodLink RX1 40 yX4_read, Cond.instanceMethod yX4_read, Cond.selects RX4 yX4_read yX4_read, Cond.initialized RX4, Cond.code yX4_read cX4_read 2 (some .int), Cond.fieldLink RX4 7 "LinenTunnel$Row" "items" "[I"]
def wsX7_between : List Cond := .code yX7_between cX7_between 3 (some .int) :: ((wsX7_between_r1 ++ wsX7_between_r2) ++ wsX70 ++ wsX10 ++ wsX40)
def wsX7_empties_r1 : List Cond := [Cond.fieldLink RX7 28 "LinenTunnel" "waiting" "LLinenTunnel$Waiting;", Cond.methodLink RX7 180 yX6_gapsInOrder, Cond.instanceMethod yX6_gapsInOrder, Cond.selects RX6 yX6_gapsInOrder yX6_gapsInOrder, Cond.initialized RX6, Cond.code yX6_gapsInOrder cX6_gapsInOrder 3 (some .int), Cond.fieldLink RX6 9 "LinenTunnel$Waiting" "number" "I", Cond.methodLink RX6 51 yX6_gapAhead, Cond.instanceMethod yX6_gapAhead, Cond.selects RX6 yX6_gapAhead yX6_gapAhead, Cond.code yX6_gapAhead cX6_gapAhead 2 (some .int), Cond.fieldLink RX6 27 "LinenTunnel$Waiting" "order" "LLinenTunnel$Row;", Cond.methodLink RX6 38 yX4_read, Cond.instanceMethod yX4_read, Cond.selects RX4 yX4_read yX4_read, Cond.initialized RX4, Cond.code yX4_read cX4_read 2 (some .int), Cond.fieldLink RX4 7 "LinenTunnel$Row" "items" "[I", Cond.methodLink RX6 48 yX6_gapOf, Cond.instanceMethod yX6_gapOf, Cond.selects RX6 yX6_gapOf yX6_gapOf, Cond.code yX6_gapOf cX6_gapOf 3 (some .int), Cond.fieldLink RX6 30 "LinenTunnel$Waiting" "kinds" "LLinenTunnel$Kinds;", Cond.fieldLink RX6 20 "LinenTunnel$Waiting" "kind" "LLinenTunnel$Row;"]
def wsX7_empties_r2 : List Cond := [Cond.methodLink RX6 42 yX1_gap, Cond.instanceMethod yX1_gap, Cond.selects RX1 yX1_gap yX1_gap, Cond.initialized RX1, Cond.code yX1_gap cX1_gap 4 (some .int), Cond.fieldLink RX1 24 "LinenTunnel$Kinds" "colour" "LLinenTunnel$Row;", Cond.methodLink RX1 44 Lib.Math.max.name, Cond.static Lib.Math.max.name, Cond.initialized "java/lang/Math", Cond.code Lib.Math.max.name Lib.Math.max.code 2 (some .int), Cond.fieldLink RX1 20 "LinenTunnel$Kinds" "heat" "LLinenTunnel$Row;", Cond.methodLink RX1 50 Lib.Math.abs.name, Cond.static Lib.Math.abs.name, Cond.code Lib.Math.abs.name Lib.Math.abs.code 1 (some .int), Cond.fieldLink RX1 27 "LinenTunnel$Kinds" "foul" "LLinenTunnel$Row;", Cond.methodLink RX1 40 yX4_read]
def wsX7_empties : List Cond := .code yX7_empties cX7_empties 1 (some .int) :: ((wsX7_empties_r1 ++ wsX7_empties_r2) ++ wsX70 ++ wsX60 ++ wsX40 ++ wsX10)
def wsX7_plan_r1 : List Cond := [Cond.fieldLink RX7 28 "LinenTunnel" "waiting" "LLinenTunnel$Waiting;", Cond.fieldLink RX7 37 "LinenTunnel" "planner" "LLinenTunnel$Planner;", Cond.methodLink RX7 184 yX3_orderBest, Cond.instanceMethod yX3_orderBest, Cond.selects RX3 yX3_orderBest yX3_orderBest, Cond.initialized RX3, Cond.code yX3_orderBest cX3_orderBest 4 none, Cond.fieldLink RX3 23 "LinenTunnel$Planner" "waiting" "LLinenTunnel$Waiting;", Cond.methodLink RX3 27 yX3_fillGaps, Cond.instanceMethod yX3_fillGaps, Cond.selects RX3 yX3_fillGaps yX3_fillGaps, Cond.code yX3_fillGaps cX3_fillGaps 3 none, Cond.fieldLink RX3 14 "LinenTunnel$Planner" "gaps" "LLinenTunnel$Row;", Cond.methodLink RX3 50 yX6_gapOf, Cond.instanceMethod yX6_gapOf, Cond.selects RX6 yX6_gapOf yX6_gapOf, Cond.initialized RX6, Cond.code yX6_gapOf cX6_gapOf 3 (some .int), Cond.fieldLink RX6 30 "LinenTunnel$Waiting" "kinds" "LLinenTunnel$Kinds;", Cond.fieldLink RX6 20 "LinenTunnel$Waiting" "kind" "LLinenTunnel$Row;", Cond.methodLink RX6 38 yX4_read, Cond.instanceMethod yX4_read, Cond.selects RX4 yX4_read yX4_read, Cond.initialized RX4]
def wsX7_plan_r2 : List Cond := [Cond.code yX4_read cX4_read 2 (some .int), Cond.fieldLink RX4 7 "LinenTunnel$Row" "items" "[I", Cond.methodLink RX6 42 yX1_gap, Cond.instanceMethod yX1_gap, Cond.selects RX1 yX1_gap yX1_gap, Cond.initialized RX1, Cond.code yX1_gap cX1_gap 4 (some .int), Cond.fieldLink RX1 24 "LinenTunnel$Kinds" "colour" "LLinenTunnel$Row;", Cond.methodLink RX1 44 Lib.Math.max.name, Cond.static Lib.Math.max.name, Cond.initialized "java/lang/Math", Cond.code Lib.Math.max.name Lib.Math.max.code 2 (some .int), Cond.fieldLink RX1 20 "LinenTunnel$Kinds" "heat" "LLinenTunnel$Row;", Cond.methodLink RX1 50 Lib.Math.abs.name, Cond.static Lib.Math.abs.name, Cond.code Lib.Math.abs.name Lib.Math.abs.code 1 (some .int), Cond.fieldLink RX1 27 "LinenTunnel$Kinds" "foul" "LLinenTunnel$Row;", Cond.methodLink RX1 40 yX4_read, Cond.methodLink RX3 46 yX4_write, Cond.instanceMethod yX4_write, Cond.selects RX4 yX4_write yX4_write, Cond.code yX4_write cX4_write 3 none, Cond.methodLink RX3 30 yX3_fillFewest, Cond.instanceMethod yX3_fillFewest]
def wsX7_plan_r3 : List Cond := [Cond.selects RX3 yX3_fillFewest yX3_fillFewest, Cond.code yX3_fillFewest cX3_fillFewest 5 none, Cond.fieldLink RX3 20 "LinenTunnel$Planner" "fewest" "LLinenTunnel$Row;", Cond.methodLink RX3 39 yX3_bestBehind, Cond.instanceMethod yX3_bestBehind, Cond.selects RX3 yX3_bestBehind yX3_bestBehind, Cond.code yX3_bestBehind cX3_bestBehind 7 (some .int), Cond.methodLink RX3 53 yX3_costBehind, Cond.instanceMethod yX3_costBehind, Cond.selects RX3 yX3_costBehind yX3_costBehind, Cond.code yX3_costBehind cX3_costBehind 5 (some .int), Cond.methodLink RX3 57 yX4_read, Cond.methodLink RX7 180 yX6_gapsInOrder, Cond.instanceMethod yX6_gapsInOrder, Cond.selects RX6 yX6_gapsInOrder yX6_gapsInOrder, Cond.code yX6_gapsInOrder cX6_gapsInOrder 3 (some .int), Cond.fieldLink RX6 9 "LinenTunnel$Waiting" "number" "I", Cond.methodLink RX6 51 yX6_gapAhead, Cond.instanceMethod yX6_gapAhead, Cond.selects RX6 yX6_gapAhead yX6_gapAhead, Cond.code yX6_gapAhead cX6_gapAhead 2 (some .int), Cond.fieldLink RX6 27 "LinenTunnel$Waiting" "order" "LLinenTunnel$Row;", Cond.methodLink RX6 48 yX6_gapOf]
def wsX7_plan : List Cond := .code yX7_plan cX7_plan 1 (some .int) :: ((wsX7_plan_r1 ++ (wsX7_plan_r2 ++ wsX7_plan_r3)) ++ wsX70 ++ wsX60 ++ wsX30 ++ wsX40 ++ wsX10)
def wsX7_greedy_r1 : List Cond := [Cond.fieldLink RX7 28 "LinenTunnel" "waiting" "LLinenTunnel$Waiting;", Cond.methodLink RX7 187 yX6_orderByNext, Cond.instanceMethod yX6_orderByNext, Cond.selects RX6 yX6_orderByNext yX6_orderByNext, Cond.initialized RX6, Cond.code yX6_orderByNext cX6_orderByNext 4 none, Cond.fieldLink RX6 9 "LinenTunnel$Waiting" "number" "I", Cond.fieldLink RX6 27 "LinenTunnel$Waiting" "order" "LLinenTunnel$Row;", Cond.methodLink RX6 38 yX4_read, Cond.instanceMethod yX4_read, Cond.selects RX4 yX4_read yX4_read, Cond.initialized RX4, Cond.code yX4_read cX4_read 2 (some .int), Cond.fieldLink RX4 7 "LinenTunnel$Row" "items" "[I", Cond.methodLink RX6 54 yX6_nextOf, Cond.instanceMethod yX6_nextOf, Cond.selects RX6 yX6_nextOf yX6_nextOf, Cond.code yX6_nextOf cX6_nextOf 6 (some .int), Cond.methodLink RX6 48 yX6_gapOf, Cond.instanceMethod yX6_gapOf, Cond.selects RX6 yX6_gapOf yX6_gapOf, Cond.code yX6_gapOf cX6_gapOf 3 (some .int), Cond.fieldLink RX6 30 "LinenTunnel$Waiting" "kinds" "LLinenTunnel$Kinds;", Cond.fieldLink RX6 20 "LinenTunnel$Waiting" "kind" "LLinenTunnel$Row;"]
def wsX7_greedy_r2 : List Cond := [Cond.methodLink RX6 42 yX1_gap, Cond.instanceMethod yX1_gap, Cond.selects RX1 yX1_gap yX1_gap, Cond.initialized RX1, Cond.code yX1_gap cX1_gap 4 (some .int), Cond.fieldLink RX1 24 "LinenTunnel$Kinds" "colour" "LLinenTunnel$Row;", Cond.methodLink RX1 44 Lib.Math.max.name, Cond.static Lib.Math.max.name, Cond.initialized "java/lang/Math", Cond.code Lib.Math.max.name Lib.Math.max.code 2 (some .int), Cond.fieldLink RX1 20 "LinenTunnel$Kinds" "heat" "LLinenTunnel$Row;", Cond.methodLink RX1 50 Lib.Math.abs.name, Cond.static Lib.Math.abs.name, Cond.code Lib.Math.abs.name Lib.Math.abs.code 1 (some .int), Cond.fieldLink RX1 27 "LinenTunnel$Kinds" "foul" "LLinenTunnel$Row;", Cond.methodLink RX1 40 yX4_read, Cond.methodLink RX6 34 yX4_write, Cond.instanceMethod yX4_write, Cond.selects RX4 yX4_write yX4_write, Cond.code yX4_write cX4_write 3 none, Cond.methodLink RX7 180 yX6_gapsInOrder, Cond.instanceMethod yX6_gapsInOrder, Cond.selects RX6 yX6_gapsInOrder yX6_gapsInOrder, Cond.code yX6_gapsInOrder cX6_gapsInOrder 3 (some .int)]
def wsX7_greedy_r3 : List Cond := [Cond.methodLink RX6 51 yX6_gapAhead, Cond.instanceMethod yX6_gapAhead, Cond.selects RX6 yX6_gapAhead yX6_gapAhead, Cond.code yX6_gapAhead cX6_gapAhead 2 (some .int)]
def wsX7_greedy : List Cond := .code yX7_greedy cX7_greedy 1 (some .int) :: ((wsX7_greedy_r1 ++ (wsX7_greedy_r2 ++ wsX7_greedy_r3)) ++ wsX70 ++ wsX60 ++ wsX40 ++ wsX10)
def wsX7_tunnel : List Cond := .code yX7_tunnel cX7_tunnel 4 (some .int) :: ([.fieldLink RX7 46 "LinenTunnel" "house" "LLinenTunnel$House;", .methodLink RX7 61 yX7_within, .static yX7_within, .initialized RX7, .code yX7_within cX7_within 3 (some .boolean)] ++ wsX70 ++ wsX00)
def wsX7_wash_r1 : List Cond := [Cond.fieldLink RX7 28 "LinenTunnel" "waiting" "LLinenTunnel$Waiting;", Cond.fieldLink RX7 46 "LinenTunnel" "house" "LLinenTunnel$House;", Cond.fieldLink RX7 19 "LinenTunnel" "linen" "LLinenTunnel$Linen;", Cond.methodLink RX7 199 yX0_washOrder, Cond.instanceMethod yX0_washOrder, Cond.selects RX0 yX0_washOrder yX0_washOrder, Cond.initialized RX0, Cond.code yX0_washOrder cX0_washOrder 2 (some .int), Cond.fieldLink RX0 64 "LinenTunnel$House" "waiting" "LLinenTunnel$Waiting;", Cond.fieldLink RX0 30 "LinenTunnel$House" "gone" "I", Cond.fieldLink RX0 57 "LinenTunnel$House" "totals" "LLinenTunnel$Row;", Cond.constant RX0 87 (1000000), Cond.fieldLink RX0 21 "LinenTunnel$House" "washes" "I", Cond.methodLink RX0 76 yX0_clear, Cond.instanceMethod yX0_clear, Cond.selects RX0 yX0_clear yX0_clear, Cond.code yX0_clear cX0_clear 1 none, Cond.fieldLink RX0 24 "LinenTunnel$House" "slotNumber" "I", Cond.fieldLink RX0 27 "LinenTunnel$House" "nextSlot" "I", Cond.fieldLink RX0 54 "LinenTunnel$House" "facts" "LLinenTunnel$Row;", Cond.fieldLink RX0 42 "LinenTunnel$House" "inside" "LLinenTunnel$Row;", Cond.fieldLink RX0 45 "LinenTunnel$House" "dryerTill" "LLinenTunnel$Row;", Cond.fieldLink RX0 48 "LinenTunnel$House" "ironTill" "LLinenTunnel$Row;", Cond.methodLink RX0 94 yX4_fill]
def wsX7_wash_r2 : List Cond := [Cond.instanceMethod yX4_fill, Cond.selects RX4 yX4_fill yX4_fill, Cond.initialized RX4, Cond.code yX4_fill cX4_fill 3 none, Cond.fieldLink RX4 7 "LinenTunnel$Row" "items" "[I", Cond.methodLink RX0 84 yX0_lineUp, Cond.instanceMethod yX0_lineUp, Cond.selects RX0 yX0_lineUp yX0_lineUp, Cond.code yX0_lineUp cX0_lineUp 6 none, Cond.fieldLink RX0 51 "LinenTunnel$House" "size" "LLinenTunnel$Row;", Cond.methodLink RX0 68 yX4_read, Cond.instanceMethod yX4_read, Cond.selects RX4 yX4_read yX4_read, Cond.code yX4_read cX4_read 2 (some .int), Cond.methodLink RX0 101 yX6_gapAhead, Cond.instanceMethod yX6_gapAhead, Cond.selects RX6 yX6_gapAhead yX6_gapAhead, Cond.initialized RX6, Cond.code yX6_gapAhead cX6_gapAhead 2 (some .int), Cond.fieldLink RX6 27 "LinenTunnel$Waiting" "order" "LLinenTunnel$Row;", Cond.methodLink RX6 38 yX4_read, Cond.methodLink RX6 48 yX6_gapOf, Cond.instanceMethod yX6_gapOf, Cond.selects RX6 yX6_gapOf yX6_gapOf]
def wsX7_wash_r3 : List Cond := [Cond.code yX6_gapOf cX6_gapOf 3 (some .int), Cond.fieldLink RX6 30 "LinenTunnel$Waiting" "kinds" "LLinenTunnel$Kinds;", Cond.fieldLink RX6 20 "LinenTunnel$Waiting" "kind" "LLinenTunnel$Row;", Cond.methodLink RX6 42 yX1_gap, Cond.instanceMethod yX1_gap, Cond.selects RX1 yX1_gap yX1_gap, Cond.initialized RX1, Cond.code yX1_gap cX1_gap 4 (some .int), Cond.fieldLink RX1 24 "LinenTunnel$Kinds" "colour" "LLinenTunnel$Row;", Cond.methodLink RX1 44 Lib.Math.max.name, Cond.static Lib.Math.max.name, Cond.initialized "java/lang/Math", Cond.code Lib.Math.max.name Lib.Math.max.code 2 (some .int), Cond.fieldLink RX1 20 "LinenTunnel$Kinds" "heat" "LLinenTunnel$Row;", Cond.methodLink RX1 50 Lib.Math.abs.name, Cond.static Lib.Math.abs.name, Cond.code Lib.Math.abs.name Lib.Math.abs.code 1 (some .int), Cond.fieldLink RX1 27 "LinenTunnel$Kinds" "foul" "LLinenTunnel$Row;", Cond.methodLink RX1 40 yX4_read, Cond.methodLink RX0 104 yX0_addSlot, Cond.instanceMethod yX0_addSlot, Cond.selects RX0 yX0_addSlot yX0_addSlot, Cond.code yX0_addSlot cX0_addSlot 2 none, Cond.fieldLink RX0 38 "LinenTunnel$House" "slots" "LLinenTunnel$Row;"]
def wsX7_wash_r4 : List Cond := [Cond.methodLink RX0 72 yX4_write, Cond.instanceMethod yX4_write, Cond.selects RX4 yX4_write yX4_write, Cond.code yX4_write cX4_write 3 none, Cond.methodLink RX0 110 yX0_note, Cond.instanceMethod yX0_note, Cond.selects RX0 yX0_note yX0_note, Cond.code yX0_note cX0_note 4 none, Cond.methodLink RX0 114 yX0_addTotal, Cond.instanceMethod yX0_addTotal, Cond.selects RX0 yX0_addTotal yX0_addTotal, Cond.code yX0_addTotal cX0_addTotal 3 none, Cond.methodLink RX0 88 yX0_doBeat, Cond.instanceMethod yX0_doBeat, Cond.selects RX0 yX0_doBeat yX0_doBeat, Cond.code yX0_doBeat cX0_doBeat 5 none, Cond.fieldLink RX0 9 "LinenTunnel$House" "compartments" "I", Cond.fieldLink RX0 60 "LinenTunnel$House" "kinds" "LLinenTunnel$Kinds;", Cond.methodLink RX0 122 yX0_fact, Cond.instanceMethod yX0_fact, Cond.selects RX0 yX0_fact yX0_fact, Cond.code yX0_fact cX0_fact 3 (some .int), Cond.methodLink RX0 126 yX0_freeDryer, Cond.instanceMethod yX0_freeDryer]
def wsX7_wash_r5 : List Cond := [Cond.selects RX0 yX0_freeDryer yX0_freeDryer, Cond.code yX0_freeDryer cX0_freeDryer 3 (some .int), Cond.fieldLink RX0 15 "LinenTunnel$House" "dryers" "I", Cond.methodLink RX0 129 yX0_goOut, Cond.instanceMethod yX0_goOut, Cond.selects RX0 yX0_goOut yX0_goOut, Cond.code yX0_goOut cX0_goOut 5 none, Cond.methodLink RX0 133 yX0_moveOn, Cond.instanceMethod yX0_moveOn, Cond.selects RX0 yX0_moveOn yX0_moveOn, Cond.code yX0_moveOn cX0_moveOn 3 none, Cond.methodLink RX0 136 yX0_waterOfBeat, Cond.instanceMethod yX0_waterOfBeat, Cond.selects RX0 yX0_waterOfBeat yX0_waterOfBeat, Cond.code yX0_waterOfBeat cX0_waterOfBeat 4 (some .int), Cond.methodLink RX0 140 yX0_hasWaterOfNext, Cond.instanceMethod yX0_hasWaterOfNext, Cond.selects RX0 yX0_hasWaterOfNext yX0_hasWaterOfNext, Cond.code yX0_hasWaterOfNext cX0_hasWaterOfNext 3 (some .boolean), Cond.methodLink RX0 144 yX0_colourAt, Cond.instanceMethod yX0_colourAt, Cond.selects RX0 yX0_colourAt yX0_colourAt, Cond.code yX0_colourAt cX0_colourAt 2 (some .int), Cond.methodLink RX0 91 yX0_ironAll]
def wsX7_wash_r6 : List Cond := [Cond.instanceMethod yX0_ironAll, Cond.selects RX0 yX0_ironAll yX0_ironAll, Cond.code yX0_ironAll cX0_ironAll 5 none, Cond.methodLink RX0 156 Lib.Math.max.name, Cond.methodLink RX0 150 yX0_firstDry, Cond.instanceMethod yX0_firstDry, Cond.selects RX0 yX0_firstDry yX0_firstDry, Cond.code yX0_firstDry cX0_firstDry 5 (some .int), Cond.methodLink RX0 153 yX0_ironOne, Cond.instanceMethod yX0_ironOne, Cond.selects RX0 yX0_ironOne yX0_ironOne, Cond.code yX0_ironOne cX0_ironOne 6 none, Cond.methodLink RX0 164 yX0_firstIron, Cond.instanceMethod yX0_firstIron, Cond.selects RX0 yX0_firstIron yX0_firstIron, Cond.code yX0_firstIron cX0_firstIron 3 (some .int), Cond.fieldLink RX0 18 "LinenTunnel$House" "irons" "I", Cond.methodLink RX7 202 yX2_cleanBatches, Cond.instanceMethod yX2_cleanBatches, Cond.selects RX2 yX2_cleanBatches yX2_cleanBatches, Cond.initialized RX2, Cond.code yX2_cleanBatches cX2_cleanBatches 2 none, Cond.fieldLink RX2 9 "LinenTunnel$Linen" "number" "I", Cond.fieldLink RX2 30 "LinenTunnel$Linen" "place" "LLinenTunnel$Row;"]
def wsX7_wash_r7 : List Cond := [Cond.fieldLink RX2 36 "LinenTunnel$Linen" "batch" "LLinenTunnel$Row;", Cond.fieldLink RX2 33 "LinenTunnel$Linen" "washes" "LLinenTunnel$Row;", Cond.methodLink RX2 43 yX4_read, Cond.methodLink RX2 39 yX4_write]
def wsX7_wash : List Cond := .code yX7_wash cX7_wash 2 (some .int) :: ((wsX7_wash_r1 ++ (wsX7_wash_r2 ++ (wsX7_wash_r3 ++ (wsX7_wash_r4 ++ (wsX7_wash_r5 ++ (wsX7_wash_r6 ++ wsX7_wash_r7)))))) ++ wsX70 ++ wsX60 ++ wsX00 ++ wsX40 ++ wsX10 ++ wsX20)
def wsX7_washed : List Cond := .code yX7_washed cX7_washed 2 (some .int) :: ([.fieldLink RX7 46 "LinenTunnel" "house" "LLinenTunnel$House;", .methodLink RX7 61 yX7_within, .static yX7_within, .initialized RX7, .code yX7_within cX7_within 3 (some .boolean), .methodLink RX7 90 yX4_read, .instanceMethod yX4_read, .selects RX4 yX4_read yX4_read, .initialized RX4, .code yX4_read cX4_read 2 (some .int), .fieldLink RX4 7 "LinenTunnel$Row" "items" "[I"] ++ wsX70 ++ wsX00 ++ wsX40)
def wsX7_run : List Cond := .code yX7_run cX7_run 3 (some .int) :: ([.fieldLink RX7 46 "LinenTunnel" "house" "LLinenTunnel$House;", .methodLink RX7 90 yX4_read, .instanceMethod yX4_read, .selects RX4 yX4_read yX4_read, .initialized RX4, .code yX4_read cX4_read 2 (some .int), .fieldLink RX4 7 "LinenTunnel$Row" "items" "[I", .methodLink RX7 61 yX7_within, .static yX7_within, .initialized RX7, .code yX7_within cX7_within 3 (some .boolean), .methodLink RX7 208 yX0_fact, .instanceMethod yX0_fact, .selects RX0 yX0_fact yX0_fact, .initialized RX0, .code yX0_fact cX0_fact 3 (some .int), .fieldLink RX0 54 "LinenTunnel$House" "facts" "LLinenTunnel$Row;", .methodLink RX0 68 yX4_read] ++ wsX70 ++ wsX00 ++ wsX40)
def wsX7_pack_r1 : List Cond := [Cond.fieldLink RX7 19 "LinenTunnel" "linen" "LLinenTunnel$Linen;", Cond.methodLink RX7 76 yX7_isOwner, Cond.static yX7_isOwner, Cond.initialized RX7, Cond.code yX7_isOwner cX7_isOwner 1 (some .boolean), Cond.methodLink RX7 61 yX7_within, Cond.static yX7_within, Cond.code yX7_within cX7_within 3 (some .boolean), Cond.methodLink RX7 72 yX7_isKind, Cond.instanceMethod yX7_isKind, Cond.selects RX7 yX7_isKind yX7_isKind, Cond.code yX7_isKind cX7_isKind 2 (some .boolean), Cond.fieldLink RX7 12 "LinenTunnel" "kinds" "LLinenTunnel$Kinds;", Cond.methodLink RX7 128 yX2_tally, Cond.instanceMethod yX2_tally, Cond.selects RX2 yX2_tally yX2_tally, Cond.initialized RX2, Cond.code yX2_tally cX2_tally 6 (some .int), Cond.fieldLink RX2 9 "LinenTunnel$Linen" "number" "I", Cond.methodLink RX2 47 yX2_fits, Cond.instanceMethod yX2_fits, Cond.selects RX2 yX2_fits yX2_fits, Cond.code yX2_fits cX2_fits 5 (some .boolean), Cond.fieldLink RX2 30 "LinenTunnel$Linen" "place" "LLinenTunnel$Row;"]
def wsX7_pack_r2 : List Cond := [Cond.fieldLink RX2 24 "LinenTunnel$Linen" "owner" "LLinenTunnel$Row;", Cond.fieldLink RX2 20 "LinenTunnel$Linen" "kind" "LLinenTunnel$Row;", Cond.methodLink RX2 43 yX4_read, Cond.instanceMethod yX4_read, Cond.selects RX4 yX4_read yX4_read, Cond.initialized RX4, Cond.code yX4_read cX4_read 2 (some .int), Cond.fieldLink RX4 7 "LinenTunnel$Row" "items" "[I", Cond.methodLink RX7 211 yX2_sendOut, Cond.instanceMethod yX2_sendOut, Cond.selects RX2 yX2_sendOut yX2_sendOut, Cond.code yX2_sendOut cX2_sendOut 6 (some .int), Cond.methodLink RX2 39 yX4_write, Cond.instanceMethod yX4_write, Cond.selects RX4 yX4_write yX4_write, Cond.code yX4_write cX4_write 3 none]
def wsX7_pack : List Cond := .code yX7_pack cX7_pack 5 (some .int) :: ((wsX7_pack_r1 ++ wsX7_pack_r2) ++ wsX70 ++ wsX10 ++ wsX20 ++ wsX40)
def wsX7_isForm : List Cond := .code yX7_isForm cX7_isForm 1 (some .boolean) :: ([.methodLink RX7 61 yX7_within, .static yX7_within, .initialized RX7, .code yX7_within cX7_within 3 (some .boolean)])
def wsX7_sheet_r1 : List Cond := [Cond.fieldLink RX7 53 "LinenTunnel" "sheets" "LLinenTunnel$Sheets;", Cond.methodLink RX7 132 yX7_isSheet, Cond.static yX7_isSheet, Cond.initialized RX7, Cond.code yX7_isSheet cX7_isSheet 1 (some .boolean), Cond.methodLink RX7 61 yX7_within, Cond.static yX7_within, Cond.code yX7_within cX7_within 3 (some .boolean), Cond.methodLink RX7 214 yX7_isForm, Cond.static yX7_isForm, Cond.code yX7_isForm cX7_isForm 1 (some .boolean), Cond.methodLink RX7 138 yX7_find, Cond.instanceMethod yX7_find, Cond.selects RX7 yX7_find yX7_find, Cond.code yX7_find cX7_find 2 (some .int), Cond.fieldLink RX7 57 "LinenTunnel" "latestFinding" "I", Cond.methodLink RX7 217 yX5_renew, Cond.instanceMethod yX5_renew, Cond.selects RX5 yX5_renew yX5_renew, Cond.initialized RX5, Cond.code yX5_renew cX5_renew 5 none, Cond.fieldLink RX5 14 "LinenTunnel$Sheets" "form" "LLinenTunnel$Row;", Cond.fieldLink RX5 20 "LinenTunnel$Sheets" "size" "LLinenTunnel$Row;", Cond.fieldLink RX5 23 "LinenTunnel$Sheets" "items" "LLinenTunnel$Row;"]
def wsX7_sheet_r2 : List Cond := [Cond.methodLink RX5 37 yX4_write, Cond.instanceMethod yX4_write, Cond.selects RX4 yX4_write yX4_write, Cond.initialized RX4, Cond.code yX4_write cX4_write 3 none, Cond.fieldLink RX4 7 "LinenTunnel$Row" "items" "[I"]
def wsX7_sheet : List Cond := .code yX7_sheet cX7_sheet 4 (some .int) :: ((wsX7_sheet_r1 ++ wsX7_sheet_r2) ++ wsX70 ++ wsX50 ++ wsX40)
def wsX7_lose_r1 : List Cond := [Cond.fieldLink RX7 53 "LinenTunnel" "sheets" "LLinenTunnel$Sheets;", Cond.methodLink RX7 132 yX7_isSheet, Cond.static yX7_isSheet, Cond.initialized RX7, Cond.code yX7_isSheet cX7_isSheet 1 (some .boolean), Cond.methodLink RX7 61 yX7_within, Cond.static yX7_within, Cond.code yX7_within cX7_within 3 (some .boolean), Cond.methodLink RX7 135 yX5_isLost, Cond.instanceMethod yX5_isLost, Cond.selects RX5 yX5_isLost yX5_isLost, Cond.initialized RX5, Cond.code yX5_isLost cX5_isLost 2 (some .boolean), Cond.fieldLink RX5 14 "LinenTunnel$Sheets" "form" "LLinenTunnel$Row;", Cond.methodLink RX5 29 yX4_read, Cond.instanceMethod yX4_read, Cond.selects RX4 yX4_read yX4_read, Cond.initialized RX4, Cond.code yX4_read cX4_read 2 (some .int), Cond.fieldLink RX4 7 "LinenTunnel$Row" "items" "[I", Cond.methodLink RX7 138 yX7_find, Cond.instanceMethod yX7_find, Cond.selects RX7 yX7_find yX7_find, Cond.code yX7_find cX7_find 2 (some .int)]
def wsX7_lose_r2 : List Cond := [Cond.fieldLink RX7 57 "LinenTunnel" "latestFinding" "I", Cond.methodLink RX7 90 yX4_read, Cond.methodLink RX7 217 yX5_renew, Cond.instanceMethod yX5_renew, Cond.selects RX5 yX5_renew yX5_renew, Cond.code yX5_renew cX5_renew 5 none, Cond.fieldLink RX5 20 "LinenTunnel$Sheets" "size" "LLinenTunnel$Row;", Cond.fieldLink RX5 23 "LinenTunnel$Sheets" "items" "LLinenTunnel$Row;", Cond.methodLink RX5 37 yX4_write, Cond.instanceMethod yX4_write, Cond.selects RX4 yX4_write yX4_write, Cond.code yX4_write cX4_write 3 none]
def wsX7_lose : List Cond := .code yX7_lose cX7_lose 3 (some .int) :: ((wsX7_lose_r1 ++ wsX7_lose_r2) ++ wsX70 ++ wsX50 ++ wsX40)
def wsX7_put_r1 : List Cond := [Cond.fieldLink RX7 53 "LinenTunnel" "sheets" "LLinenTunnel$Sheets;", Cond.methodLink RX7 132 yX7_isSheet, Cond.static yX7_isSheet, Cond.initialized RX7, Cond.code yX7_isSheet cX7_isSheet 1 (some .boolean), Cond.methodLink RX7 61 yX7_within, Cond.static yX7_within, Cond.code yX7_within cX7_within 3 (some .boolean), Cond.methodLink RX7 214 yX7_isForm, Cond.static yX7_isForm, Cond.code yX7_isForm cX7_isForm 1 (some .boolean), Cond.methodLink RX7 222 yX5_findingAt, Cond.instanceMethod yX5_findingAt, Cond.selects RX5 yX5_findingAt yX5_findingAt, Cond.initialized RX5, Cond.code yX5_findingAt cX5_findingAt 4 (some .int), Cond.fieldLink RX5 14 "LinenTunnel$Sheets" "form" "LLinenTunnel$Row;", Cond.fieldLink RX5 20 "LinenTunnel$Sheets" "size" "LLinenTunnel$Row;", Cond.methodLink RX5 33 yX5_isLost, Cond.instanceMethod yX5_isLost, Cond.selects RX5 yX5_isLost yX5_isLost, Cond.code yX5_isLost cX5_isLost 2 (some .boolean), Cond.methodLink RX5 29 yX4_read, Cond.instanceMethod yX4_read]
def wsX7_put_r2 : List Cond := [Cond.selects RX4 yX4_read yX4_read, Cond.initialized RX4, Cond.code yX4_read cX4_read 2 (some .int), Cond.fieldLink RX4 7 "LinenTunnel$Row" "items" "[I", Cond.methodLink RX7 138 yX7_find, Cond.instanceMethod yX7_find, Cond.selects RX7 yX7_find yX7_find, Cond.code yX7_find cX7_find 2 (some .int), Cond.fieldLink RX7 57 "LinenTunnel" "latestFinding" "I", Cond.methodLink RX7 225 yX5_setItem, Cond.instanceMethod yX5_setItem, Cond.selects RX5 yX5_setItem yX5_setItem, Cond.code yX5_setItem cX5_setItem 4 none, Cond.fieldLink RX5 23 "LinenTunnel$Sheets" "items" "LLinenTunnel$Row;", Cond.methodLink RX5 41 yX5_lowestBits, Cond.static yX5_lowestBits, Cond.code yX5_lowestBits cX5_lowestBits 2 (some .int), Cond.methodLink RX5 37 yX4_write, Cond.instanceMethod yX4_write, Cond.selects RX4 yX4_write yX4_write, Cond.code yX4_write cX4_write 3 none]
def wsX7_put : List Cond := .code yX7_put cX7_put 6 (some .int) :: ((wsX7_put_r1 ++ wsX7_put_r2) ++ wsX70 ++ wsX50 ++ wsX40)
def wsX7_get_r1 : List Cond := [Cond.constant RX7 228 (-2147483648), Cond.fieldLink RX7 53 "LinenTunnel" "sheets" "LLinenTunnel$Sheets;", Cond.fieldLink RX7 57 "LinenTunnel" "latestFinding" "I", Cond.methodLink RX7 132 yX7_isSheet, Cond.static yX7_isSheet, Cond.initialized RX7, Cond.code yX7_isSheet cX7_isSheet 1 (some .boolean), Cond.methodLink RX7 61 yX7_within, Cond.static yX7_within, Cond.code yX7_within cX7_within 3 (some .boolean), Cond.methodLink RX7 214 yX7_isForm, Cond.static yX7_isForm, Cond.code yX7_isForm cX7_isForm 1 (some .boolean), Cond.methodLink RX7 222 yX5_findingAt, Cond.instanceMethod yX5_findingAt, Cond.selects RX5 yX5_findingAt yX5_findingAt, Cond.initialized RX5, Cond.code yX5_findingAt cX5_findingAt 4 (some .int), Cond.fieldLink RX5 14 "LinenTunnel$Sheets" "form" "LLinenTunnel$Row;", Cond.fieldLink RX5 20 "LinenTunnel$Sheets" "size" "LLinenTunnel$Row;", Cond.methodLink RX5 33 yX5_isLost, Cond.instanceMethod yX5_isLost, Cond.selects RX5 yX5_isLost yX5_isLost, Cond.code yX5_isLost cX5_isLost 2 (some .boolean)]
def wsX7_get_r2 : List Cond := [Cond.methodLink RX5 29 yX4_read, Cond.instanceMethod yX4_read, Cond.selects RX4 yX4_read yX4_read, Cond.initialized RX4, Cond.code yX4_read cX4_read 2 (some .int), Cond.fieldLink RX4 7 "LinenTunnel$Row" "items" "[I", Cond.methodLink RX7 144 yX5_item, Cond.instanceMethod yX5_item, Cond.selects RX5 yX5_item yX5_item, Cond.code yX5_item cX5_item 3 (some .int), Cond.fieldLink RX5 23 "LinenTunnel$Sheets" "items" "LLinenTunnel$Row;"]
def wsX7_get : List Cond := .code yX7_get cX7_get 5 (some .int) :: ((wsX7_get_r1 ++ wsX7_get_r2) ++ wsX70 ++ wsX50 ++ wsX40)
def wsX7_copy_r1 : List Cond := [Cond.fieldLink RX7 53 "LinenTunnel" "sheets" "LLinenTunnel$Sheets;", Cond.methodLink RX7 132 yX7_isSheet, Cond.static yX7_isSheet, Cond.initialized RX7, Cond.code yX7_isSheet cX7_isSheet 1 (some .boolean), Cond.methodLink RX7 61 yX7_within, Cond.static yX7_within, Cond.code yX7_within cX7_within 3 (some .boolean), Cond.methodLink RX7 135 yX5_isLost, Cond.instanceMethod yX5_isLost, Cond.selects RX5 yX5_isLost yX5_isLost, Cond.initialized RX5, Cond.code yX5_isLost cX5_isLost 2 (some .boolean), Cond.fieldLink RX5 14 "LinenTunnel$Sheets" "form" "LLinenTunnel$Row;", Cond.methodLink RX5 29 yX4_read, Cond.instanceMethod yX4_read, Cond.selects RX4 yX4_read yX4_read, Cond.initialized RX4, Cond.code yX4_read cX4_read 2 (some .int), Cond.fieldLink RX4 7 "LinenTunnel$Row" "items" "[I", Cond.methodLink RX7 138 yX7_find, Cond.instanceMethod yX7_find, Cond.selects RX7 yX7_find yX7_find, Cond.code yX7_find cX7_find 2 (some .int)]
def wsX7_copy_r2 : List Cond := [Cond.fieldLink RX7 57 "LinenTunnel" "latestFinding" "I", Cond.methodLink RX7 90 yX4_read, Cond.methodLink RX7 141 yX5_holds, Cond.instanceMethod yX5_holds, Cond.selects RX5 yX5_holds yX5_holds, Cond.code yX5_holds cX5_holds 4 (some .boolean), Cond.fieldLink RX5 20 "LinenTunnel$Sheets" "size" "LLinenTunnel$Row;", Cond.methodLink RX7 232 yX5_moveItems, Cond.instanceMethod yX5_moveItems, Cond.selects RX5 yX5_moveItems yX5_moveItems, Cond.code yX5_moveItems cX5_moveItems 9 none, Cond.methodLink RX5 45 yX5_item, Cond.instanceMethod yX5_item, Cond.selects RX5 yX5_item yX5_item, Cond.code yX5_item cX5_item 3 (some .int), Cond.fieldLink RX5 23 "LinenTunnel$Sheets" "items" "LLinenTunnel$Row;", Cond.methodLink RX5 48 yX5_setItem, Cond.instanceMethod yX5_setItem, Cond.selects RX5 yX5_setItem yX5_setItem, Cond.code yX5_setItem cX5_setItem 4 none, Cond.methodLink RX5 41 yX5_lowestBits, Cond.static yX5_lowestBits, Cond.code yX5_lowestBits cX5_lowestBits 2 (some .int), Cond.methodLink RX5 37 yX4_write]
def wsX7_copy_r3 : List Cond := [Cond.instanceMethod yX4_write, Cond.selects RX4 yX4_write yX4_write, Cond.code yX4_write cX4_write 3 none]
def wsX7_copy : List Cond := .code yX7_copy cX7_copy 6 (some .int) :: ((wsX7_copy_r1 ++ (wsX7_copy_r2 ++ wsX7_copy_r3)) ++ wsX70 ++ wsX50 ++ wsX40)
def wsX7_list_r1 : List Cond := [Cond.fieldLink RX7 53 "LinenTunnel" "sheets" "LLinenTunnel$Sheets;", Cond.fieldLink RX7 19 "LinenTunnel" "linen" "LLinenTunnel$Linen;", Cond.methodLink RX7 132 yX7_isSheet, Cond.static yX7_isSheet, Cond.initialized RX7, Cond.code yX7_isSheet cX7_isSheet 1 (some .boolean), Cond.methodLink RX7 61 yX7_within, Cond.static yX7_within, Cond.code yX7_within cX7_within 3 (some .boolean), Cond.methodLink RX7 119 yX7_isOwnerOrAny, Cond.static yX7_isOwnerOrAny, Cond.code yX7_isOwnerOrAny cX7_isOwnerOrAny 1 (some .boolean), Cond.methodLink RX7 76 yX7_isOwner, Cond.static yX7_isOwner, Cond.code yX7_isOwner cX7_isOwner 1 (some .boolean), Cond.methodLink RX7 125 yX7_isPlace, Cond.static yX7_isPlace, Cond.code yX7_isPlace cX7_isPlace 1 (some .boolean), Cond.methodLink RX7 135 yX5_isLost, Cond.instanceMethod yX5_isLost, Cond.selects RX5 yX5_isLost yX5_isLost, Cond.initialized RX5, Cond.code yX5_isLost cX5_isLost 2 (some .boolean), Cond.fieldLink RX5 14 "LinenTunnel$Sheets" "form" "LLinenTunnel$Row;"]
def wsX7_list_r2 : List Cond := [Cond.methodLink RX5 29 yX4_read, Cond.instanceMethod yX4_read, Cond.selects RX4 yX4_read yX4_read, Cond.initialized RX4, Cond.code yX4_read cX4_read 2 (some .int), Cond.fieldLink RX4 7 "LinenTunnel$Row" "items" "[I", Cond.methodLink RX7 138 yX7_find, Cond.instanceMethod yX7_find, Cond.selects RX7 yX7_find yX7_find, Cond.code yX7_find cX7_find 2 (some .int), Cond.fieldLink RX7 57 "LinenTunnel" "latestFinding" "I", Cond.methodLink RX7 90 yX4_read, Cond.methodLink RX7 236 yX2_fits, Cond.instanceMethod yX2_fits, Cond.selects RX2 yX2_fits yX2_fits, Cond.initialized RX2, Cond.code yX2_fits cX2_fits 5 (some .boolean), Cond.fieldLink RX2 30 "LinenTunnel$Linen" "place" "LLinenTunnel$Row;", Cond.fieldLink RX2 24 "LinenTunnel$Linen" "owner" "LLinenTunnel$Row;", Cond.fieldLink RX2 20 "LinenTunnel$Linen" "kind" "LLinenTunnel$Row;", Cond.methodLink RX2 43 yX4_read, Cond.methodLink RX7 225 yX5_setItem, Cond.instanceMethod yX5_setItem, Cond.selects RX5 yX5_setItem yX5_setItem]
def wsX7_list_r3 : List Cond := [Cond.code yX5_setItem cX5_setItem 4 none, Cond.fieldLink RX5 23 "LinenTunnel$Sheets" "items" "LLinenTunnel$Row;", Cond.methodLink RX5 41 yX5_lowestBits, Cond.static yX5_lowestBits, Cond.code yX5_lowestBits cX5_lowestBits 2 (some .int), Cond.methodLink RX5 37 yX4_write, Cond.instanceMethod yX4_write, Cond.selects RX4 yX4_write yX4_write, Cond.code yX4_write cX4_write 3 none]
def wsX7_list : List Cond := .code yX7_list cX7_list 7 (some .int) :: ((wsX7_list_r1 ++ (wsX7_list_r2 ++ wsX7_list_r3)) ++ wsX70 ++ wsX50 ++ wsX20 ++ wsX40)
def wsX7_count : List Cond := .code yX7_count cX7_count 2 (some .int) :: ([.fieldLink RX7 12 "LinenTunnel" "kinds" "LLinenTunnel$Kinds;", .fieldLink RX7 19 "LinenTunnel" "linen" "LLinenTunnel$Linen;", .fieldLink RX7 28 "LinenTunnel" "waiting" "LLinenTunnel$Waiting;", .fieldLink RX7 46 "LinenTunnel" "house" "LLinenTunnel$House;", .fieldLink RX7 57 "LinenTunnel" "latestFinding" "I"] ++ wsX70 ++ wsX10 ++ wsX20 ++ wsX60 ++ wsX00)
def wsX7_digest_r1 : List Cond := [Cond.constantLong RX7 242 (17), Cond.constantLong RX7 244 (31), Cond.fieldLink RX7 19 "LinenTunnel" "linen" "LLinenTunnel$Linen;", Cond.fieldLink RX7 28 "LinenTunnel" "waiting" "LLinenTunnel$Waiting;", Cond.methodLink RX7 246 yX7_count, Cond.instanceMethod yX7_count, Cond.selects RX7 yX7_count yX7_count, Cond.initialized RX7, Cond.code yX7_count cX7_count 2 (some .int), Cond.fieldLink RX7 12 "LinenTunnel" "kinds" "LLinenTunnel$Kinds;", Cond.fieldLink RX7 46 "LinenTunnel" "house" "LLinenTunnel$House;", Cond.fieldLink RX7 57 "LinenTunnel" "latestFinding" "I", Cond.methodLink RX7 249 yX7_about, Cond.instanceMethod yX7_about, Cond.selects RX7 yX7_about yX7_about, Cond.code yX7_about cX7_about 3 (some .int), Cond.methodLink RX7 83 yX7_isPiece, Cond.instanceMethod yX7_isPiece, Cond.selects RX7 yX7_isPiece yX7_isPiece, Cond.code yX7_isPiece cX7_isPiece 2 (some .boolean), Cond.methodLink RX7 61 yX7_within, Cond.static yX7_within, Cond.code yX7_within cX7_within 3 (some .boolean), Cond.methodLink RX7 90 yX4_read]
def wsX7_digest_r2 : List Cond := [Cond.instanceMethod yX4_read, Cond.selects RX4 yX4_read yX4_read, Cond.initialized RX4, Cond.code yX4_read cX4_read 2 (some .int), Cond.fieldLink RX4 7 "LinenTunnel$Row" "items" "[I", Cond.methodLink RX7 252 yX7_at, Cond.instanceMethod yX7_at, Cond.selects RX7 yX7_at yX7_at, Cond.code yX7_at cX7_at 2 (some .int), Cond.methodLink RX7 154 yX7_isOrderPlace, Cond.instanceMethod yX7_isOrderPlace, Cond.selects RX7 yX7_isOrderPlace yX7_isOrderPlace, Cond.code yX7_isOrderPlace cX7_isOrderPlace 2 (some .boolean), Cond.methodLink RX7 255 yX7_washed, Cond.instanceMethod yX7_washed, Cond.selects RX7 yX7_washed yX7_washed, Cond.code yX7_washed cX7_washed 2 (some .int)]
def wsX7_digest : List Cond := .code yX7_digest cX7_digest 5 (some .long) :: ((wsX7_digest_r1 ++ wsX7_digest_r2) ++ wsX70 ++ wsX20 ++ wsX60 ++ wsX10 ++ wsX00 ++ wsX40)
def wsX8_init_r1 : List Cond := [Cond.methodLink RX8 1 objectInit, Cond.instanceMethod objectInit, Cond.code objectInit ⟨#[0xb1]⟩ 1 none, Cond.arrayClass .int, Cond.fieldLink RX8 7 "LinenTunnelModel" "heats" "[I", Cond.fieldLink RX8 13 "LinenTunnelModel" "colours" "[I", Cond.arrayClass .boolean, Cond.fieldLink RX8 16 "LinenTunnelModel" "isFoul" "[Z", Cond.fieldLink RX8 20 "LinenTunnelModel" "dries" "[I", Cond.fieldLink RX8 23 "LinenTunnelModel" "irons" "[I", Cond.fieldLink RX8 26 "LinenTunnelModel" "kindOf" "[I", Cond.fieldLink RX8 29 "LinenTunnelModel" "ownerOf" "[I", Cond.fieldLink RX8 32 "LinenTunnelModel" "hasChip" "[Z", Cond.fieldLink RX8 35 "LinenTunnelModel" "placeOf" "[I", Cond.fieldLink RX8 38 "LinenTunnelModel" "washes" "[I", Cond.fieldLink RX8 41 "LinenTunnelModel" "batchOf" "[I", Cond.fieldLink RX8 44 "LinenTunnelModel" "batchKind" "[I", Cond.fieldLink RX8 47 "LinenTunnelModel" "batchMany" "[I", Cond.fieldLink RX8 50 "LinenTunnelModel" "batchPiece" "[I", Cond.fieldLink RX8 53 "LinenTunnelModel" "order" "[I", Cond.fieldLink RX8 56 "LinenTunnelModel" "compartments" "I", Cond.fieldLink RX8 60 "LinenTunnelModel" "dryers" "I", Cond.fieldLink RX8 63 "LinenTunnelModel" "ironMany" "I", Cond.fieldLink RX8 66 "LinenTunnelModel" "yet" "[I"]
def wsX8_init_r2 : List Cond := [Cond.fieldLink RX8 69 "LinenTunnelModel" "slots" "[I", Cond.fieldLink RX8 72 "LinenTunnelModel" "inside" "[I", Cond.fieldLink RX8 75 "LinenTunnelModel" "dryerFree" "[I", Cond.fieldLink RX8 78 "LinenTunnelModel" "ironFree" "[I", Cond.fieldLink RX8 81 "LinenTunnelModel" "washed" "[I", Cond.fieldLink RX8 84 "LinenTunnelModel" "runRows" "[I", Cond.fieldLink RX8 87 "LinenTunnelModel" "wentOut" "[I", Cond.fieldLink RX8 90 "LinenTunnelModel" "isThere" "[Z", Cond.fieldLink RX8 93 "LinenTunnelModel" "forms" "[I", Cond.fieldLink RX8 96 "LinenTunnelModel" "sizes" "[I", Cond.fieldLink RX8 99 "LinenTunnelModel" "items" "[I", Cond.fieldLink RX8 102 "LinenTunnelModel" "moved" "[I"]
def wsX8_init : List Cond := .code yX8_init cX8_init 1 none :: ((wsX8_init_r1 ++ wsX8_init_r2) ++ wsX80)
def wsX8_in : List Cond := .code yX8_in cX8_in 3 (some .boolean) :: ([])
def wsX8_isKind : List Cond := .code yX8_isKind cX8_isKind 2 (some .boolean) :: ([.fieldLink RX8 105 "LinenTunnelModel" "kinds" "I", .methodLink RX8 108 yX8_in, .static yX8_in, .initialized RX8, .code yX8_in cX8_in 3 (some .boolean)] ++ wsX80)
def wsX8_isPiece : List Cond := .code yX8_isPiece cX8_isPiece 2 (some .boolean) :: ([.fieldLink RX8 112 "LinenTunnelModel" "pieceMany" "I", .methodLink RX8 108 yX8_in, .static yX8_in, .initialized RX8, .code yX8_in cX8_in 3 (some .boolean)] ++ wsX80)
def wsX8_kind : List Cond := .code yX8_kind cX8_kind 6 (some .int) :: ([.fieldLink RX8 105 "LinenTunnelModel" "kinds" "I", .fieldLink RX8 7 "LinenTunnelModel" "heats" "[I", .fieldLink RX8 13 "LinenTunnelModel" "colours" "[I", .fieldLink RX8 16 "LinenTunnelModel" "isFoul" "[Z", .fieldLink RX8 20 "LinenTunnelModel" "dries" "[I", .fieldLink RX8 23 "LinenTunnelModel" "irons" "[I", .methodLink RX8 108 yX8_in, .static yX8_in, .initialized RX8, .code yX8_in cX8_in 3 (some .boolean)] ++ wsX80)
def wsX8_piece : List Cond := .code yX8_piece cX8_piece 4 (some .int) :: ([.fieldLink RX8 112 "LinenTunnelModel" "pieceMany" "I", .fieldLink RX8 26 "LinenTunnelModel" "kindOf" "[I", .fieldLink RX8 29 "LinenTunnelModel" "ownerOf" "[I", .fieldLink RX8 32 "LinenTunnelModel" "hasChip" "[Z", .fieldLink RX8 35 "LinenTunnelModel" "placeOf" "[I", .fieldLink RX8 41 "LinenTunnelModel" "batchOf" "[I", .methodLink RX8 115 yX8_isKind, .instanceMethod yX8_isKind, .selects RX8 yX8_isKind yX8_isKind, .initialized RX8, .code yX8_isKind cX8_isKind 2 (some .boolean), .fieldLink RX8 105 "LinenTunnelModel" "kinds" "I", .methodLink RX8 108 yX8_in, .static yX8_in, .code yX8_in cX8_in 3 (some .boolean)] ++ wsX80)
def wsX8_about : List Cond := .code yX8_about cX8_about 3 (some .int) :: ([.fieldLink RX8 26 "LinenTunnelModel" "kindOf" "[I", .fieldLink RX8 29 "LinenTunnelModel" "ownerOf" "[I", .fieldLink RX8 32 "LinenTunnelModel" "hasChip" "[Z", .fieldLink RX8 35 "LinenTunnelModel" "placeOf" "[I", .fieldLink RX8 38 "LinenTunnelModel" "washes" "[I", .fieldLink RX8 41 "LinenTunnelModel" "batchOf" "[I", .methodLink RX8 119 yX8_isPiece, .instanceMethod yX8_isPiece, .selects RX8 yX8_isPiece yX8_isPiece, .initialized RX8, .code yX8_isPiece cX8_isPiece 2 (some .boolean), .fieldLink RX8 112 "LinenTunnelModel" "pieceMany" "I", .methodLink RX8 108 yX8_in, .static yX8_in, .code yX8_in cX8_in 3 (some .boolean)] ++ wsX80)
def wsX8_chip : List Cond := .code yX8_chip cX8_chip 3 (some .int) :: ([.fieldLink RX8 32 "LinenTunnelModel" "hasChip" "[Z", .methodLink RX8 119 yX8_isPiece, .instanceMethod yX8_isPiece, .selects RX8 yX8_isPiece yX8_isPiece, .initialized RX8, .code yX8_isPiece cX8_isPiece 2 (some .boolean), .fieldLink RX8 112 "LinenTunnelModel" "pieceMany" "I", .methodLink RX8 108 yX8_in, .static yX8_in, .code yX8_in cX8_in 3 (some .boolean)] ++ wsX80)
def wsX8_lost : List Cond := .code yX8_lost cX8_lost 2 (some .int) :: ([.fieldLink RX8 35 "LinenTunnelModel" "placeOf" "[I", .methodLink RX8 119 yX8_isPiece, .instanceMethod yX8_isPiece, .selects RX8 yX8_isPiece yX8_isPiece, .initialized RX8, .code yX8_isPiece cX8_isPiece 2 (some .boolean), .fieldLink RX8 112 "LinenTunnelModel" "pieceMany" "I", .methodLink RX8 108 yX8_in, .static yX8_in, .code yX8_in cX8_in 3 (some .boolean)] ++ wsX80)
def wsX8_again : List Cond := .code yX8_again cX8_again 2 (some .int) :: ([.fieldLink RX8 35 "LinenTunnelModel" "placeOf" "[I", .methodLink RX8 119 yX8_isPiece, .instanceMethod yX8_isPiece, .selects RX8 yX8_isPiece yX8_isPiece, .initialized RX8, .code yX8_isPiece cX8_isPiece 2 (some .boolean), .fieldLink RX8 112 "LinenTunnelModel" "pieceMany" "I", .methodLink RX8 108 yX8_in, .static yX8_in, .code yX8_in cX8_in 3 (some .boolean)] ++ wsX80)
def wsX8_is : List Cond := .code yX8_is cX8_is 5 (some .boolean) :: ([.fieldLink RX8 35 "LinenTunnelModel" "placeOf" "[I", .fieldLink RX8 29 "LinenTunnelModel" "ownerOf" "[I", .fieldLink RX8 26 "LinenTunnelModel" "kindOf" "[I"] ++ wsX80)
def wsX8_pieces : List Cond := .code yX8_pieces cX8_pieces 6 (some .int) :: ([.fieldLink RX8 112 "LinenTunnelModel" "pieceMany" "I", .methodLink RX8 108 yX8_in, .static yX8_in, .initialized RX8, .code yX8_in cX8_in 3 (some .boolean), .methodLink RX8 115 yX8_isKind, .instanceMethod yX8_isKind, .selects RX8 yX8_isKind yX8_isKind, .code yX8_isKind cX8_isKind 2 (some .boolean), .fieldLink RX8 105 "LinenTunnelModel" "kinds" "I", .methodLink RX8 122 yX8_is, .instanceMethod yX8_is, .selects RX8 yX8_is yX8_is, .code yX8_is cX8_is 5 (some .boolean), .fieldLink RX8 35 "LinenTunnelModel" "placeOf" "[I", .fieldLink RX8 29 "LinenTunnelModel" "ownerOf" "[I", .fieldLink RX8 26 "LinenTunnelModel" "kindOf" "[I"] ++ wsX80)
def wsX8_isSheet : List Cond := .code yX8_isSheet cX8_isSheet 1 (some .boolean) :: ([.methodLink RX8 108 yX8_in, .static yX8_in, .initialized RX8, .code yX8_in cX8_in 3 (some .boolean)])
def wsX8_meets : List Cond := .code yX8_meets cX8_meets 2 (some .int) :: ([.fieldLink RX8 172 "LinenTunnelModel" "finding" "I"] ++ wsX80)
def wsX8_scan : List Cond := .code yX8_scan cX8_scan 6 (some .int) :: ([.fieldLink RX8 90 "LinenTunnelModel" "isThere" "[Z", .fieldLink RX8 96 "LinenTunnelModel" "sizes" "[I", .fieldLink RX8 99 "LinenTunnelModel" "items" "[I", .fieldLink RX8 35 "LinenTunnelModel" "placeOf" "[I", .fieldLink RX8 32 "LinenTunnelModel" "hasChip" "[Z", .methodLink RX8 126 yX8_isSheet, .static yX8_isSheet, .initialized RX8, .code yX8_isSheet cX8_isSheet 1 (some .boolean), .methodLink RX8 108 yX8_in, .static yX8_in, .code yX8_in cX8_in 3 (some .boolean), .methodLink RX8 129 yX8_meets, .instanceMethod yX8_meets, .selects RX8 yX8_meets yX8_meets, .code yX8_meets cX8_meets 2 (some .int), .fieldLink RX8 172 "LinenTunnelModel" "finding" "I", .methodLink RX8 119 yX8_isPiece, .instanceMethod yX8_isPiece, .selects RX8 yX8_isPiece yX8_isPiece, .code yX8_isPiece cX8_isPiece 2 (some .boolean), .fieldLink RX8 112 "LinenTunnelModel" "pieceMany" "I"] ++ wsX80)
def wsX8_hand : List Cond := .code yX8_hand cX8_hand 2 (some .int) :: ([.fieldLink RX8 35 "LinenTunnelModel" "placeOf" "[I", .methodLink RX8 119 yX8_isPiece, .instanceMethod yX8_isPiece, .selects RX8 yX8_isPiece yX8_isPiece, .initialized RX8, .code yX8_isPiece cX8_isPiece 2 (some .boolean), .fieldLink RX8 112 "LinenTunnelModel" "pieceMany" "I", .methodLink RX8 108 yX8_in, .static yX8_in, .code yX8_in cX8_in 3 (some .boolean)] ++ wsX80)
def wsX8_batch : List Cond := .code yX8_batch cX8_batch 6 (some .int) :: ([.fieldLink RX8 133 "LinenTunnelModel" "batches" "I", .fieldLink RX8 112 "LinenTunnelModel" "pieceMany" "I", .fieldLink RX8 50 "LinenTunnelModel" "batchPiece" "[I", .fieldLink RX8 35 "LinenTunnelModel" "placeOf" "[I", .fieldLink RX8 41 "LinenTunnelModel" "batchOf" "[I", .fieldLink RX8 44 "LinenTunnelModel" "batchKind" "[I", .fieldLink RX8 47 "LinenTunnelModel" "batchMany" "[I", .fieldLink RX8 53 "LinenTunnelModel" "order" "[I", .methodLink RX8 115 yX8_isKind, .instanceMethod yX8_isKind, .selects RX8 yX8_isKind yX8_isKind, .initialized RX8, .code yX8_isKind cX8_isKind 2 (some .boolean), .fieldLink RX8 105 "LinenTunnelModel" "kinds" "I", .methodLink RX8 108 yX8_in, .static yX8_in, .code yX8_in cX8_in 3 (some .boolean), .methodLink RX8 122 yX8_is, .instanceMethod yX8_is, .selects RX8 yX8_is yX8_is, .code yX8_is cX8_is 5 (some .boolean), .fieldLink RX8 29 "LinenTunnelModel" "ownerOf" "[I", .fieldLink RX8 26 "LinenTunnelModel" "kindOf" "[I"] ++ wsX80)
def wsX8_at : List Cond := .code yX8_at cX8_at 2 (some .int) :: ([.fieldLink RX8 133 "LinenTunnelModel" "batches" "I", .fieldLink RX8 53 "LinenTunnelModel" "order" "[I", .methodLink RX8 108 yX8_in, .static yX8_in, .initialized RX8, .code yX8_in cX8_in 3 (some .boolean)] ++ wsX80)
def wsX8_placeIn : List Cond := .code yX8_placeIn cX8_placeIn 3 (some .int) :: ([.fieldLink RX8 53 "LinenTunnelModel" "order" "[I"] ++ wsX80)
def wsX8_of : List Cond := .code yX8_of cX8_of 3 (some .int) :: ([.fieldLink RX8 133 "LinenTunnelModel" "batches" "I", .fieldLink RX8 44 "LinenTunnelModel" "batchKind" "[I", .fieldLink RX8 47 "LinenTunnelModel" "batchMany" "[I", .fieldLink RX8 50 "LinenTunnelModel" "batchPiece" "[I", .methodLink RX8 108 yX8_in, .static yX8_in, .initialized RX8, .code yX8_in cX8_in 3 (some .boolean), .methodLink RX8 136 yX8_placeIn, .instanceMethod yX8_placeIn, .selects RX8 yX8_placeIn yX8_placeIn, .code yX8_placeIn cX8_placeIn 3 (some .int), .fieldLink RX8 53 "LinenTunnelModel" "order" "[I"] ++ wsX80)
def wsX8_swap : List Cond := .code yX8_swap cX8_swap 4 (some .int) :: ([.fieldLink RX8 133 "LinenTunnelModel" "batches" "I", .fieldLink RX8 53 "LinenTunnelModel" "order" "[I", .methodLink RX8 108 yX8_in, .static yX8_in, .initialized RX8, .code yX8_in cX8_in 3 (some .boolean)] ++ wsX80)
def wsX8_undo : List Cond := .code yX8_undo cX8_undo 4 (some .int) :: ([.fieldLink RX8 133 "LinenTunnelModel" "batches" "I", .fieldLink RX8 53 "LinenTunnelModel" "order" "[I", .fieldLink RX8 47 "LinenTunnelModel" "batchMany" "[I", .fieldLink RX8 50 "LinenTunnelModel" "batchPiece" "[I", .fieldLink RX8 35 "LinenTunnelModel" "placeOf" "[I", .fieldLink RX8 41 "LinenTunnelModel" "batchOf" "[I", .fieldLink RX8 44 "LinenTunnelModel" "batchKind" "[I"] ++ wsX80)
def wsX8_emptiesOf : List Cond := .code yX8_emptiesOf cX8_emptiesOf 5 (some .int) :: ([.fieldLink RX8 13 "LinenTunnelModel" "colours" "[I", .fieldLink RX8 7 "LinenTunnelModel" "heats" "[I", .fieldLink RX8 16 "LinenTunnelModel" "isFoul" "[Z"] ++ wsX80)
def wsX8_between : List Cond := .code yX8_between cX8_between 3 (some .int) :: ([.methodLink RX8 115 yX8_isKind, .instanceMethod yX8_isKind, .selects RX8 yX8_isKind yX8_isKind, .initialized RX8, .code yX8_isKind cX8_isKind 2 (some .boolean), .fieldLink RX8 105 "LinenTunnelModel" "kinds" "I", .methodLink RX8 108 yX8_in, .static yX8_in, .code yX8_in cX8_in 3 (some .boolean), .methodLink RX8 139 yX8_emptiesOf, .instanceMethod yX8_emptiesOf, .selects RX8 yX8_emptiesOf yX8_emptiesOf, .code yX8_emptiesOf cX8_emptiesOf 5 (some .int), .fieldLink RX8 13 "LinenTunnelModel" "colours" "[I", .fieldLink RX8 7 "LinenTunnelModel" "heats" "[I", .fieldLink RX8 16 "LinenTunnelModel" "isFoul" "[Z"] ++ wsX80)
def wsX8_betweenBatches : List Cond := .code yX8_betweenBatches cX8_betweenBatches 3 (some .int) :: ([.fieldLink RX8 44 "LinenTunnelModel" "batchKind" "[I", .methodLink RX8 139 yX8_emptiesOf, .instanceMethod yX8_emptiesOf, .selects RX8 yX8_emptiesOf yX8_emptiesOf, .initialized RX8, .code yX8_emptiesOf cX8_emptiesOf 5 (some .int), .fieldLink RX8 13 "LinenTunnelModel" "colours" "[I", .fieldLink RX8 7 "LinenTunnelModel" "heats" "[I", .fieldLink RX8 16 "LinenTunnelModel" "isFoul" "[Z"] ++ wsX80)
def wsX8_empties : List Cond := .code yX8_empties cX8_empties 3 (some .int) :: ([.fieldLink RX8 133 "LinenTunnelModel" "batches" "I", .fieldLink RX8 53 "LinenTunnelModel" "order" "[I", .methodLink RX8 143 yX8_betweenBatches, .instanceMethod yX8_betweenBatches, .selects RX8 yX8_betweenBatches yX8_betweenBatches, .initialized RX8, .code yX8_betweenBatches cX8_betweenBatches 3 (some .int), .fieldLink RX8 44 "LinenTunnelModel" "batchKind" "[I", .methodLink RX8 139 yX8_emptiesOf, .instanceMethod yX8_emptiesOf, .selects RX8 yX8_emptiesOf yX8_emptiesOf, .code yX8_emptiesOf cX8_emptiesOf 5 (some .int), .fieldLink RX8 13 "LinenTunnelModel" "colours" "[I", .fieldLink RX8 7 "LinenTunnelModel" "heats" "[I", .fieldLink RX8 16 "LinenTunnelModel" "isFoul" "[Z"] ++ wsX80)
def wsX8_plan : List Cond := .code yX8_plan cX8_plan 9 (some .int) :: ([.fieldLink RX8 133 "LinenTunnelModel" "batches" "I", .fieldLink RX8 66 "LinenTunnelModel" "yet" "[I", .constant RX8 146 (1000000), .fieldLink RX8 53 "LinenTunnelModel" "order" "[I", .methodLink RX8 143 yX8_betweenBatches, .instanceMethod yX8_betweenBatches, .selects RX8 yX8_betweenBatches yX8_betweenBatches, .initialized RX8, .code yX8_betweenBatches cX8_betweenBatches 3 (some .int), .fieldLink RX8 44 "LinenTunnelModel" "batchKind" "[I", .methodLink RX8 139 yX8_emptiesOf, .instanceMethod yX8_emptiesOf, .selects RX8 yX8_emptiesOf yX8_emptiesOf, .code yX8_emptiesOf cX8_emptiesOf 5 (some .int), .fieldLink RX8 13 "LinenTunnelModel" "colours" "[I", .fieldLink RX8 7 "LinenTunnelModel" "heats" "[I", .fieldLink RX8 16 "LinenTunnelModel" "isFoul" "[Z"] ++ wsX80)
def wsX8_greedy : List Cond := .code yX8_greedy cX8_greedy 5 (some .int) :: ([.fieldLink RX8 133 "LinenTunnelModel" "batches" "I", .fieldLink RX8 53 "LinenTunnelModel" "order" "[I", .methodLink RX8 143 yX8_betweenBatches, .instanceMethod yX8_betweenBatches, .selects RX8 yX8_betweenBatches yX8_betweenBatches, .initialized RX8, .code yX8_betweenBatches cX8_betweenBatches 3 (some .int), .fieldLink RX8 44 "LinenTunnelModel" "batchKind" "[I", .methodLink RX8 139 yX8_emptiesOf, .instanceMethod yX8_emptiesOf, .selects RX8 yX8_emptiesOf yX8_emptiesOf, .code yX8_emptiesOf cX8_emptiesOf 5 (some .int), .fieldLink RX8 13 "LinenTunnelModel" "colours" "[I", .fieldLink RX8 7 "LinenTunnelModel" "heats" "[I", .fieldLink RX8 16 "LinenTunnelModel" "isFoul" "[Z", .methodLink RX8 147 yX8_empties, .instanceMethod yX8_empties, .selects RX8 yX8_empties yX8_empties, .code yX8_empties cX8_empties 3 (some .int)] ++ wsX80)
def wsX8_tunnel : List Cond := .code yX8_tunnel cX8_tunnel 4 (some .int) :: ([.fieldLink RX8 56 "LinenTunnelModel" "compartments" "I", .fieldLink RX8 60 "LinenTunnelModel" "dryers" "I", .fieldLink RX8 63 "LinenTunnelModel" "ironMany" "I", .methodLink RX8 108 yX8_in, .static yX8_in, .initialized RX8, .code yX8_in cX8_in 3 (some .boolean)] ++ wsX80)
def wsX8_dryerAt : List Cond := .code yX8_dryerAt cX8_dryerAt 3 (some .int) :: ([.fieldLink RX8 60 "LinenTunnelModel" "dryers" "I", .fieldLink RX8 75 "LinenTunnelModel" "dryerFree" "[I"] ++ wsX80)
def wsX8_kindAt : List Cond := .code yX8_kindAt cX8_kindAt 2 (some .int) :: ([.fieldLink RX8 44 "LinenTunnelModel" "batchKind" "[I", .fieldLink RX8 53 "LinenTunnelModel" "order" "[I"] ++ wsX80)
def wsX8_waterNow : List Cond := .code yX8_waterNow cX8_waterNow 4 (some .int) :: ([.fieldLink RX8 56 "LinenTunnelModel" "compartments" "I", .fieldLink RX8 72 "LinenTunnelModel" "inside" "[I", .fieldLink RX8 13 "LinenTunnelModel" "colours" "[I", .fieldLink RX8 47 "LinenTunnelModel" "batchMany" "[I", .fieldLink RX8 53 "LinenTunnelModel" "order" "[I", .methodLink RX8 151 yX8_kindAt, .instanceMethod yX8_kindAt, .selects RX8 yX8_kindAt yX8_kindAt, .initialized RX8, .code yX8_kindAt cX8_kindAt 2 (some .int), .fieldLink RX8 44 "LinenTunnelModel" "batchKind" "[I"] ++ wsX80)
def wsX8_goesOut : List Cond := .code yX8_goesOut cX8_goesOut 6 none :: ([.fieldLink RX8 20 "LinenTunnelModel" "dries" "[I", .fieldLink RX8 84 "LinenTunnelModel" "runRows" "[I", .fieldLink RX8 75 "LinenTunnelModel" "dryerFree" "[I", .fieldLink RX8 87 "LinenTunnelModel" "wentOut" "[I", .methodLink RX8 151 yX8_kindAt, .instanceMethod yX8_kindAt, .selects RX8 yX8_kindAt yX8_kindAt, .initialized RX8, .code yX8_kindAt cX8_kindAt 2 (some .int), .fieldLink RX8 44 "LinenTunnelModel" "batchKind" "[I", .fieldLink RX8 53 "LinenTunnelModel" "order" "[I", .methodLink RX8 154 yX8_dryerAt, .instanceMethod yX8_dryerAt, .selects RX8 yX8_dryerAt yX8_dryerAt, .code yX8_dryerAt cX8_dryerAt 3 (some .int), .fieldLink RX8 60 "LinenTunnelModel" "dryers" "I"] ++ wsX80)
def wsX8_irons : List Cond := .code yX8_irons cX8_irons 6 none :: ([.fieldLink RX8 63 "LinenTunnelModel" "ironMany" "I", .fieldLink RX8 78 "LinenTunnelModel" "ironFree" "[I", .fieldLink RX8 157 "LinenTunnelModel" "runs" "I", .fieldLink RX8 87 "LinenTunnelModel" "wentOut" "[I", .fieldLink RX8 84 "LinenTunnelModel" "runRows" "[I", .fieldLink RX8 23 "LinenTunnelModel" "irons" "[I", .methodLink RX8 151 yX8_kindAt, .instanceMethod yX8_kindAt, .selects RX8 yX8_kindAt yX8_kindAt, .initialized RX8, .code yX8_kindAt cX8_kindAt 2 (some .int), .fieldLink RX8 44 "LinenTunnelModel" "batchKind" "[I", .fieldLink RX8 53 "LinenTunnelModel" "order" "[I"] ++ wsX80)
def wsX8_wash_r1 : List Cond := [Cond.fieldLink RX8 133 "LinenTunnelModel" "batches" "I", Cond.fieldLink RX8 53 "LinenTunnelModel" "order" "[I", Cond.fieldLink RX8 69 "LinenTunnelModel" "slots" "[I", Cond.fieldLink RX8 72 "LinenTunnelModel" "inside" "[I", Cond.fieldLink RX8 75 "LinenTunnelModel" "dryerFree" "[I", Cond.fieldLink RX8 157 "LinenTunnelModel" "runs" "I", Cond.fieldLink RX8 56 "LinenTunnelModel" "compartments" "I", Cond.fieldLink RX8 20 "LinenTunnelModel" "dries" "[I", Cond.fieldLink RX8 84 "LinenTunnelModel" "runRows" "[I", Cond.fieldLink RX8 81 "LinenTunnelModel" "washed" "[I", Cond.fieldLink RX8 47 "LinenTunnelModel" "batchMany" "[I", Cond.fieldLink RX8 112 "LinenTunnelModel" "pieceMany" "I", Cond.fieldLink RX8 35 "LinenTunnelModel" "placeOf" "[I", Cond.fieldLink RX8 41 "LinenTunnelModel" "batchOf" "[I", Cond.fieldLink RX8 38 "LinenTunnelModel" "washes" "[I", Cond.fieldLink RX8 169 "LinenTunnelModel" "washMany" "I", Cond.methodLink RX8 143 yX8_betweenBatches, Cond.instanceMethod yX8_betweenBatches, Cond.selects RX8 yX8_betweenBatches yX8_betweenBatches, Cond.initialized RX8, Cond.code yX8_betweenBatches cX8_betweenBatches 3 (some .int), Cond.fieldLink RX8 44 "LinenTunnelModel" "batchKind" "[I", Cond.methodLink RX8 139 yX8_emptiesOf, Cond.instanceMethod yX8_emptiesOf]
def wsX8_wash_r2 : List Cond := [Cond.selects RX8 yX8_emptiesOf yX8_emptiesOf, Cond.code yX8_emptiesOf cX8_emptiesOf 5 (some .int), Cond.fieldLink RX8 13 "LinenTunnelModel" "colours" "[I", Cond.fieldLink RX8 7 "LinenTunnelModel" "heats" "[I", Cond.fieldLink RX8 16 "LinenTunnelModel" "isFoul" "[Z", Cond.methodLink RX8 151 yX8_kindAt, Cond.instanceMethod yX8_kindAt, Cond.selects RX8 yX8_kindAt yX8_kindAt, Cond.code yX8_kindAt cX8_kindAt 2 (some .int), Cond.methodLink RX8 154 yX8_dryerAt, Cond.instanceMethod yX8_dryerAt, Cond.selects RX8 yX8_dryerAt yX8_dryerAt, Cond.code yX8_dryerAt cX8_dryerAt 3 (some .int), Cond.fieldLink RX8 60 "LinenTunnelModel" "dryers" "I", Cond.methodLink RX8 160 yX8_goesOut, Cond.instanceMethod yX8_goesOut, Cond.selects RX8 yX8_goesOut yX8_goesOut, Cond.code yX8_goesOut cX8_goesOut 6 none, Cond.fieldLink RX8 87 "LinenTunnelModel" "wentOut" "[I", Cond.methodLink RX8 164 yX8_waterNow, Cond.instanceMethod yX8_waterNow, Cond.selects RX8 yX8_waterNow yX8_waterNow, Cond.code yX8_waterNow cX8_waterNow 4 (some .int), Cond.methodLink RX8 167 yX8_irons]
def wsX8_wash_r3 : List Cond := [Cond.instanceMethod yX8_irons, Cond.selects RX8 yX8_irons yX8_irons, Cond.code yX8_irons cX8_irons 6 none, Cond.fieldLink RX8 63 "LinenTunnelModel" "ironMany" "I", Cond.fieldLink RX8 78 "LinenTunnelModel" "ironFree" "[I", Cond.fieldLink RX8 23 "LinenTunnelModel" "irons" "[I", Cond.methodLink RX8 147 yX8_empties, Cond.instanceMethod yX8_empties, Cond.selects RX8 yX8_empties yX8_empties, Cond.code yX8_empties cX8_empties 3 (some .int)]
def wsX8_wash : List Cond := .code yX8_wash cX8_wash 10 (some .int) :: ((wsX8_wash_r1 ++ (wsX8_wash_r2 ++ wsX8_wash_r3)) ++ wsX80)
def wsX8_washed : List Cond := .code yX8_washed cX8_washed 2 (some .int) :: ([.fieldLink RX8 81 "LinenTunnelModel" "washed" "[I", .methodLink RX8 108 yX8_in, .static yX8_in, .initialized RX8, .code yX8_in cX8_in 3 (some .boolean)] ++ wsX80)
def wsX8_run : List Cond := .code yX8_run cX8_run 3 (some .int) :: ([.fieldLink RX8 157 "LinenTunnelModel" "runs" "I", .fieldLink RX8 84 "LinenTunnelModel" "runRows" "[I", .methodLink RX8 108 yX8_in, .static yX8_in, .initialized RX8, .code yX8_in cX8_in 3 (some .boolean)] ++ wsX80)
def wsX8_pack : List Cond := .code yX8_pack cX8_pack 7 (some .int) :: ([.fieldLink RX8 112 "LinenTunnelModel" "pieceMany" "I", .fieldLink RX8 35 "LinenTunnelModel" "placeOf" "[I", .methodLink RX8 108 yX8_in, .static yX8_in, .initialized RX8, .code yX8_in cX8_in 3 (some .boolean), .methodLink RX8 115 yX8_isKind, .instanceMethod yX8_isKind, .selects RX8 yX8_isKind yX8_isKind, .code yX8_isKind cX8_isKind 2 (some .boolean), .fieldLink RX8 105 "LinenTunnelModel" "kinds" "I", .methodLink RX8 122 yX8_is, .instanceMethod yX8_is, .selects RX8 yX8_is yX8_is, .code yX8_is cX8_is 5 (some .boolean), .fieldLink RX8 29 "LinenTunnelModel" "ownerOf" "[I", .fieldLink RX8 26 "LinenTunnelModel" "kindOf" "[I"] ++ wsX80)
def wsX8_sheet : List Cond := .code yX8_sheet cX8_sheet 5 (some .int) :: ([.fieldLink RX8 90 "LinenTunnelModel" "isThere" "[Z", .fieldLink RX8 93 "LinenTunnelModel" "forms" "[I", .fieldLink RX8 96 "LinenTunnelModel" "sizes" "[I", .fieldLink RX8 99 "LinenTunnelModel" "items" "[I", .methodLink RX8 126 yX8_isSheet, .static yX8_isSheet, .initialized RX8, .code yX8_isSheet cX8_isSheet 1 (some .boolean), .methodLink RX8 108 yX8_in, .static yX8_in, .code yX8_in cX8_in 3 (some .boolean), .methodLink RX8 129 yX8_meets, .instanceMethod yX8_meets, .selects RX8 yX8_meets yX8_meets, .code yX8_meets cX8_meets 2 (some .int), .fieldLink RX8 172 "LinenTunnelModel" "finding" "I"] ++ wsX80)
def wsX8_lose : List Cond := .code yX8_lose cX8_lose 2 (some .int) :: ([.fieldLink RX8 90 "LinenTunnelModel" "isThere" "[Z", .fieldLink RX8 96 "LinenTunnelModel" "sizes" "[I", .methodLink RX8 126 yX8_isSheet, .static yX8_isSheet, .initialized RX8, .code yX8_isSheet cX8_isSheet 1 (some .boolean), .methodLink RX8 108 yX8_in, .static yX8_in, .code yX8_in cX8_in 3 (some .boolean), .methodLink RX8 129 yX8_meets, .instanceMethod yX8_meets, .selects RX8 yX8_meets yX8_meets, .code yX8_meets cX8_meets 2 (some .int), .fieldLink RX8 172 "LinenTunnelModel" "finding" "I"] ++ wsX80)
def wsX8_lacks : List Cond := .code yX8_lacks cX8_lacks 4 (some .int) :: ([.fieldLink RX8 90 "LinenTunnelModel" "isThere" "[Z", .fieldLink RX8 93 "LinenTunnelModel" "forms" "[I", .fieldLink RX8 96 "LinenTunnelModel" "sizes" "[I", .methodLink RX8 108 yX8_in, .static yX8_in, .initialized RX8, .code yX8_in cX8_in 3 (some .boolean)] ++ wsX80)
def wsX8_lay : List Cond := .code yX8_lay cX8_lay 4 none :: ([.fieldLink RX8 99 "LinenTunnelModel" "items" "[I", .fieldLink RX8 93 "LinenTunnelModel" "forms" "[I"] ++ wsX80)
def wsX8_put : List Cond := .code yX8_put cX8_put 6 (some .int) :: ([.methodLink RX8 126 yX8_isSheet, .static yX8_isSheet, .initialized RX8, .code yX8_isSheet cX8_isSheet 1 (some .boolean), .methodLink RX8 108 yX8_in, .static yX8_in, .code yX8_in cX8_in 3 (some .boolean), .methodLink RX8 175 yX8_lacks, .instanceMethod yX8_lacks, .selects RX8 yX8_lacks yX8_lacks, .code yX8_lacks cX8_lacks 4 (some .int), .fieldLink RX8 90 "LinenTunnelModel" "isThere" "[Z", .fieldLink RX8 93 "LinenTunnelModel" "forms" "[I", .fieldLink RX8 96 "LinenTunnelModel" "sizes" "[I", .methodLink RX8 129 yX8_meets, .instanceMethod yX8_meets, .selects RX8 yX8_meets yX8_meets, .code yX8_meets cX8_meets 2 (some .int), .fieldLink RX8 172 "LinenTunnelModel" "finding" "I", .methodLink RX8 179 yX8_lay, .instanceMethod yX8_lay, .selects RX8 yX8_lay yX8_lay, .code yX8_lay cX8_lay 4 none, .fieldLink RX8 99 "LinenTunnelModel" "items" "[I"] ++ wsX80)
def wsX8_get : List Cond := .code yX8_get cX8_get 5 (some .int) :: ([.constant RX8 182 (-2147483648), .fieldLink RX8 172 "LinenTunnelModel" "finding" "I", .fieldLink RX8 99 "LinenTunnelModel" "items" "[I", .methodLink RX8 126 yX8_isSheet, .static yX8_isSheet, .initialized RX8, .code yX8_isSheet cX8_isSheet 1 (some .boolean), .methodLink RX8 108 yX8_in, .static yX8_in, .code yX8_in cX8_in 3 (some .boolean), .methodLink RX8 175 yX8_lacks, .instanceMethod yX8_lacks, .selects RX8 yX8_lacks yX8_lacks, .code yX8_lacks cX8_lacks 4 (some .int), .fieldLink RX8 90 "LinenTunnelModel" "isThere" "[Z", .fieldLink RX8 93 "LinenTunnelModel" "forms" "[I", .fieldLink RX8 96 "LinenTunnelModel" "sizes" "[I"] ++ wsX80)
def wsX8_copy : List Cond := .code yX8_copy cX8_copy 7 (some .int) :: ([.fieldLink RX8 90 "LinenTunnelModel" "isThere" "[Z", .fieldLink RX8 93 "LinenTunnelModel" "forms" "[I", .fieldLink RX8 96 "LinenTunnelModel" "sizes" "[I", .fieldLink RX8 102 "LinenTunnelModel" "moved" "[I", .fieldLink RX8 99 "LinenTunnelModel" "items" "[I", .methodLink RX8 126 yX8_isSheet, .static yX8_isSheet, .initialized RX8, .code yX8_isSheet cX8_isSheet 1 (some .boolean), .methodLink RX8 108 yX8_in, .static yX8_in, .code yX8_in cX8_in 3 (some .boolean), .methodLink RX8 129 yX8_meets, .instanceMethod yX8_meets, .selects RX8 yX8_meets yX8_meets, .code yX8_meets cX8_meets 2 (some .int), .fieldLink RX8 172 "LinenTunnelModel" "finding" "I"] ++ wsX80)
def wsX8_list_r1 : List Cond := [Cond.fieldLink RX8 90 "LinenTunnelModel" "isThere" "[Z", Cond.fieldLink RX8 112 "LinenTunnelModel" "pieceMany" "I", Cond.fieldLink RX8 96 "LinenTunnelModel" "sizes" "[I", Cond.methodLink RX8 126 yX8_isSheet, Cond.static yX8_isSheet, Cond.initialized RX8, Cond.code yX8_isSheet cX8_isSheet 1 (some .boolean), Cond.methodLink RX8 108 yX8_in, Cond.static yX8_in, Cond.code yX8_in cX8_in 3 (some .boolean), Cond.methodLink RX8 129 yX8_meets, Cond.instanceMethod yX8_meets, Cond.selects RX8 yX8_meets yX8_meets, Cond.code yX8_meets cX8_meets 2 (some .int), Cond.fieldLink RX8 172 "LinenTunnelModel" "finding" "I", Cond.methodLink RX8 122 yX8_is, Cond.instanceMethod yX8_is, Cond.selects RX8 yX8_is yX8_is, Cond.code yX8_is cX8_is 5 (some .boolean), Cond.fieldLink RX8 35 "LinenTunnelModel" "placeOf" "[I", Cond.fieldLink RX8 29 "LinenTunnelModel" "ownerOf" "[I", Cond.fieldLink RX8 26 "LinenTunnelModel" "kindOf" "[I", Cond.methodLink RX8 179 yX8_lay, Cond.instanceMethod yX8_lay]
def wsX8_list_r2 : List Cond := [Cond.selects RX8 yX8_lay yX8_lay, Cond.code yX8_lay cX8_lay 4 none, Cond.fieldLink RX8 99 "LinenTunnelModel" "items" "[I", Cond.fieldLink RX8 93 "LinenTunnelModel" "forms" "[I"]
def wsX8_list : List Cond := .code yX8_list cX8_list 6 (some .int) :: ((wsX8_list_r1 ++ wsX8_list_r2) ++ wsX80)
def wsX8_count : List Cond := .code yX8_count cX8_count 2 (some .int) :: ([.fieldLink RX8 105 "LinenTunnelModel" "kinds" "I", .fieldLink RX8 112 "LinenTunnelModel" "pieceMany" "I", .fieldLink RX8 133 "LinenTunnelModel" "batches" "I", .fieldLink RX8 56 "LinenTunnelModel" "compartments" "I", .fieldLink RX8 60 "LinenTunnelModel" "dryers" "I", .fieldLink RX8 63 "LinenTunnelModel" "ironMany" "I", .fieldLink RX8 172 "LinenTunnelModel" "finding" "I", .fieldLink RX8 169 "LinenTunnelModel" "washMany" "I"] ++ wsX80)
def wsX8_digest_r1 : List Cond := [Cond.constantLong RX8 183 (17), Cond.constantLong RX8 185 (31), Cond.fieldLink RX8 112 "LinenTunnelModel" "pieceMany" "I", Cond.fieldLink RX8 133 "LinenTunnelModel" "batches" "I", Cond.fieldLink RX8 53 "LinenTunnelModel" "order" "[I", Cond.fieldLink RX8 81 "LinenTunnelModel" "washed" "[I", Cond.methodLink RX8 187 yX8_count, Cond.instanceMethod yX8_count, Cond.selects RX8 yX8_count yX8_count, Cond.initialized RX8, Cond.code yX8_count cX8_count 2 (some .int), Cond.fieldLink RX8 105 "LinenTunnelModel" "kinds" "I", Cond.fieldLink RX8 56 "LinenTunnelModel" "compartments" "I", Cond.fieldLink RX8 60 "LinenTunnelModel" "dryers" "I", Cond.fieldLink RX8 63 "LinenTunnelModel" "ironMany" "I", Cond.fieldLink RX8 172 "LinenTunnelModel" "finding" "I", Cond.fieldLink RX8 169 "LinenTunnelModel" "washMany" "I", Cond.methodLink RX8 190 yX8_about, Cond.instanceMethod yX8_about, Cond.selects RX8 yX8_about yX8_about, Cond.code yX8_about cX8_about 3 (some .int), Cond.fieldLink RX8 26 "LinenTunnelModel" "kindOf" "[I", Cond.fieldLink RX8 29 "LinenTunnelModel" "ownerOf" "[I", Cond.fieldLink RX8 32 "LinenTunnelModel" "hasChip" "[Z"]
def wsX8_digest_r2 : List Cond := [Cond.fieldLink RX8 35 "LinenTunnelModel" "placeOf" "[I", Cond.fieldLink RX8 38 "LinenTunnelModel" "washes" "[I", Cond.fieldLink RX8 41 "LinenTunnelModel" "batchOf" "[I", Cond.methodLink RX8 119 yX8_isPiece, Cond.instanceMethod yX8_isPiece, Cond.selects RX8 yX8_isPiece yX8_isPiece, Cond.code yX8_isPiece cX8_isPiece 2 (some .boolean), Cond.methodLink RX8 108 yX8_in, Cond.static yX8_in, Cond.code yX8_in cX8_in 3 (some .boolean)]
def wsX8_digest : List Cond := .code yX8_digest cX8_digest 5 (some .long) :: ((wsX8_digest_r1 ++ wsX8_digest_r2) ++ wsX80)
def wsJ9_abs_0f7a4 : List Cond := .code yJ9_abs_0f7a4 cJ9_abs_0f7a4 1 (some .int) :: ([])
def wsJ9_max_7cf53 : List Cond := .code yJ9_max_7cf53 cJ9_max_7cf53 2 (some .int) :: ([])
def wsL_law_r1 : List Cond := [Cond.classLink RL 7 RX7, Cond.instantiable RX7 7, Cond.initialized RX7, Cond.classLink RL 10 RX8, Cond.instantiable RX8 37, Cond.initialized RX8, Cond.methodLink RL 9 yX7_init, Cond.instanceMethod yX7_init, Cond.code yX7_init cX7_init 1 none, Cond.methodLink RX7 3 objectInit, Cond.instanceMethod objectInit, Cond.code objectInit ⟨#[0xb1]⟩ 1 none, Cond.classLink RX7 9 RX1, Cond.instantiable RX1 6, Cond.initialized RX1, Cond.fieldLink RX7 12 "LinenTunnel" "kinds" "LLinenTunnel$Kinds;", Cond.classLink RX7 16 RX2, Cond.instantiable RX2 7, Cond.initialized RX2, Cond.fieldLink RX7 19 "LinenTunnel" "linen" "LLinenTunnel$Linen;", Cond.classLink RX7 23 RX6, Cond.instantiable RX6 5, Cond.initialized RX6, Cond.fieldLink RX7 28 "LinenTunnel" "waiting" "LLinenTunnel$Waiting;"]
def wsL_law_r2 : List Cond := [Cond.classLink RX7 32 RX3, Cond.instantiable RX3 3, Cond.initialized RX3, Cond.fieldLink RX7 37 "LinenTunnel" "planner" "LLinenTunnel$Planner;", Cond.classLink RX7 41 RX0, Cond.instantiable RX0 16, Cond.initialized RX0, Cond.fieldLink RX7 46 "LinenTunnel" "house" "LLinenTunnel$House;", Cond.classLink RX7 50 RX5, Cond.instantiable RX5 3, Cond.initialized RX5, Cond.fieldLink RX7 53 "LinenTunnel" "sheets" "LLinenTunnel$Sheets;", Cond.fieldLink RX7 57 "LinenTunnel" "latestFinding" "I", Cond.instanceMethod yX1_init, Cond.code yX1_init cX1_init 1 none, Cond.methodLink RX1 3 objectInit, Cond.fieldLink RX1 9 "LinenTunnel$Kinds" "number" "I", Cond.classLink RX1 15 RX4, Cond.instantiable RX4 1, Cond.initialized RX4, Cond.fieldLink RX1 20 "LinenTunnel$Kinds" "heat" "LLinenTunnel$Row;", Cond.fieldLink RX1 24 "LinenTunnel$Kinds" "colour" "LLinenTunnel$Row;", Cond.fieldLink RX1 27 "LinenTunnel$Kinds" "foul" "LLinenTunnel$Row;", Cond.fieldLink RX1 30 "LinenTunnel$Kinds" "dry" "LLinenTunnel$Row;"]
def wsL_law_r3 : List Cond := [Cond.fieldLink RX1 33 "LinenTunnel$Kinds" "iron" "LLinenTunnel$Row;", Cond.methodLink RX1 17 yX4_init, Cond.instanceMethod yX4_init, Cond.code yX4_init cX4_init 2 none, Cond.methodLink RX4 1 objectInit, Cond.arrayClass .int, Cond.fieldLink RX4 7 "LinenTunnel$Row" "items" "[I", Cond.instanceMethod yX2_init, Cond.code yX2_init cX2_init 1 none, Cond.methodLink RX2 3 objectInit, Cond.fieldLink RX2 9 "LinenTunnel$Linen" "number" "I", Cond.classLink RX2 15 RX4, Cond.fieldLink RX2 20 "LinenTunnel$Linen" "kind" "LLinenTunnel$Row;", Cond.fieldLink RX2 24 "LinenTunnel$Linen" "owner" "LLinenTunnel$Row;", Cond.fieldLink RX2 27 "LinenTunnel$Linen" "chip" "LLinenTunnel$Row;", Cond.fieldLink RX2 30 "LinenTunnel$Linen" "place" "LLinenTunnel$Row;", Cond.fieldLink RX2 33 "LinenTunnel$Linen" "washes" "LLinenTunnel$Row;", Cond.fieldLink RX2 36 "LinenTunnel$Linen" "batch" "LLinenTunnel$Row;", Cond.methodLink RX2 17 yX4_init, Cond.methodLink RX7 25 yX6_init, Cond.instanceMethod yX6_init, Cond.code yX6_init cX6_init 2 none, Cond.methodLink RX6 3 objectInit, Cond.fieldLink RX6 9 "LinenTunnel$Waiting" "number" "I"]
def wsL_law_r4 : List Cond := [Cond.classLink RX6 15 RX4, Cond.fieldLink RX6 20 "LinenTunnel$Waiting" "kind" "LLinenTunnel$Row;", Cond.fieldLink RX6 24 "LinenTunnel$Waiting" "size" "LLinenTunnel$Row;", Cond.fieldLink RX6 27 "LinenTunnel$Waiting" "order" "LLinenTunnel$Row;", Cond.fieldLink RX6 30 "LinenTunnel$Waiting" "kinds" "LLinenTunnel$Kinds;", Cond.methodLink RX6 17 yX4_init, Cond.methodLink RX7 34 yX3_init, Cond.instanceMethod yX3_init, Cond.code yX3_init cX3_init 2 none, Cond.methodLink RX3 3 objectInit, Cond.classLink RX3 9 RX4, Cond.fieldLink RX3 14 "LinenTunnel$Planner" "gaps" "LLinenTunnel$Row;", Cond.fieldLink RX3 20 "LinenTunnel$Planner" "fewest" "LLinenTunnel$Row;", Cond.fieldLink RX3 23 "LinenTunnel$Planner" "waiting" "LLinenTunnel$Waiting;", Cond.methodLink RX3 11 yX4_init, Cond.methodLink RX7 43 yX0_init, Cond.instanceMethod yX0_init, Cond.code yX0_init cX0_init 3 none, Cond.methodLink RX0 3 objectInit, Cond.fieldLink RX0 9 "LinenTunnel$House" "compartments" "I", Cond.fieldLink RX0 15 "LinenTunnel$House" "dryers" "I", Cond.fieldLink RX0 18 "LinenTunnel$House" "irons" "I", Cond.fieldLink RX0 21 "LinenTunnel$House" "washes" "I", Cond.fieldLink RX0 24 "LinenTunnel$House" "slotNumber" "I"]
def wsL_law_r5 : List Cond := [Cond.fieldLink RX0 27 "LinenTunnel$House" "nextSlot" "I", Cond.fieldLink RX0 30 "LinenTunnel$House" "gone" "I", Cond.classLink RX0 33 RX4, Cond.fieldLink RX0 38 "LinenTunnel$House" "slots" "LLinenTunnel$Row;", Cond.fieldLink RX0 42 "LinenTunnel$House" "inside" "LLinenTunnel$Row;", Cond.fieldLink RX0 45 "LinenTunnel$House" "dryerTill" "LLinenTunnel$Row;", Cond.fieldLink RX0 48 "LinenTunnel$House" "ironTill" "LLinenTunnel$Row;", Cond.fieldLink RX0 51 "LinenTunnel$House" "size" "LLinenTunnel$Row;", Cond.fieldLink RX0 54 "LinenTunnel$House" "facts" "LLinenTunnel$Row;", Cond.fieldLink RX0 57 "LinenTunnel$House" "totals" "LLinenTunnel$Row;", Cond.fieldLink RX0 60 "LinenTunnel$House" "kinds" "LLinenTunnel$Kinds;", Cond.fieldLink RX0 64 "LinenTunnel$House" "waiting" "LLinenTunnel$Waiting;", Cond.methodLink RX0 35 yX4_init, Cond.methodLink RX7 52 yX5_init, Cond.instanceMethod yX5_init, Cond.code yX5_init cX5_init 1 none, Cond.methodLink RX5 3 objectInit, Cond.classLink RX5 9 RX4, Cond.fieldLink RX5 14 "LinenTunnel$Sheets" "form" "LLinenTunnel$Row;", Cond.fieldLink RX5 20 "LinenTunnel$Sheets" "size" "LLinenTunnel$Row;", Cond.fieldLink RX5 23 "LinenTunnel$Sheets" "items" "LLinenTunnel$Row;", Cond.methodLink RX5 11 yX4_init, Cond.methodLink RX5 26 yX4_fill, Cond.instanceMethod yX4_fill]
def wsL_law_r6 : List Cond := [Cond.selects RX4 yX4_fill yX4_fill, Cond.code yX4_fill cX4_fill 3 none, Cond.methodLink RL 12 yX8_init, Cond.instanceMethod yX8_init, Cond.code yX8_init cX8_init 1 none, Cond.methodLink RX8 1 objectInit, Cond.fieldLink RX8 7 "LinenTunnelModel" "heats" "[I", Cond.fieldLink RX8 13 "LinenTunnelModel" "colours" "[I", Cond.arrayClass .boolean, Cond.fieldLink RX8 16 "LinenTunnelModel" "isFoul" "[Z", Cond.fieldLink RX8 20 "LinenTunnelModel" "dries" "[I", Cond.fieldLink RX8 23 "LinenTunnelModel" "irons" "[I", Cond.fieldLink RX8 26 "LinenTunnelModel" "kindOf" "[I", Cond.fieldLink RX8 29 "LinenTunnelModel" "ownerOf" "[I", Cond.fieldLink RX8 32 "LinenTunnelModel" "hasChip" "[Z", Cond.fieldLink RX8 35 "LinenTunnelModel" "placeOf" "[I", Cond.fieldLink RX8 38 "LinenTunnelModel" "washes" "[I", Cond.fieldLink RX8 41 "LinenTunnelModel" "batchOf" "[I", Cond.fieldLink RX8 44 "LinenTunnelModel" "batchKind" "[I", Cond.fieldLink RX8 47 "LinenTunnelModel" "batchMany" "[I", Cond.fieldLink RX8 50 "LinenTunnelModel" "batchPiece" "[I", Cond.fieldLink RX8 53 "LinenTunnelModel" "order" "[I", Cond.fieldLink RX8 56 "LinenTunnelModel" "compartments" "I", Cond.fieldLink RX8 60 "LinenTunnelModel" "dryers" "I"]
def wsL_law_r7 : List Cond := [Cond.fieldLink RX8 63 "LinenTunnelModel" "ironMany" "I", Cond.fieldLink RX8 66 "LinenTunnelModel" "yet" "[I", Cond.fieldLink RX8 69 "LinenTunnelModel" "slots" "[I", Cond.fieldLink RX8 72 "LinenTunnelModel" "inside" "[I", Cond.fieldLink RX8 75 "LinenTunnelModel" "dryerFree" "[I", Cond.fieldLink RX8 78 "LinenTunnelModel" "ironFree" "[I", Cond.fieldLink RX8 81 "LinenTunnelModel" "washed" "[I", Cond.fieldLink RX8 84 "LinenTunnelModel" "runRows" "[I", Cond.fieldLink RX8 87 "LinenTunnelModel" "wentOut" "[I", Cond.fieldLink RX8 90 "LinenTunnelModel" "isThere" "[Z", Cond.fieldLink RX8 93 "LinenTunnelModel" "forms" "[I", Cond.fieldLink RX8 96 "LinenTunnelModel" "sizes" "[I", Cond.fieldLink RX8 99 "LinenTunnelModel" "items" "[I", Cond.fieldLink RX8 102 "LinenTunnelModel" "moved" "[I", Cond.methodLink RL 13 yX7_kind, Cond.instanceMethod yX7_kind, Cond.selects RX7 yX7_kind yX7_kind, Cond.code yX7_kind cX7_kind 6 (some .int), Cond.methodLink RX7 61 yX7_within, Cond.static yX7_within, Cond.code yX7_within cX7_within 3 (some .boolean), Cond.methodLink RX7 68 yX1_add, Cond.instanceMethod yX1_add, Cond.selects RX1 yX1_add yX1_add]
def wsL_law_r8 : List Cond := [Cond.code yX1_add cX1_add 6 (some .int), Cond.methodLink RX1 36 yX4_write, Cond.instanceMethod yX4_write, Cond.selects RX4 yX4_write yX4_write, Cond.code yX4_write cX4_write 3 none, Cond.methodLink RL 17 yX8_kind, Cond.instanceMethod yX8_kind, Cond.selects RX8 yX8_kind yX8_kind, Cond.code yX8_kind cX8_kind 6 (some .int), Cond.fieldLink RX8 105 "LinenTunnelModel" "kinds" "I", Cond.methodLink RX8 108 yX8_in, Cond.static yX8_in, Cond.code yX8_in cX8_in 3 (some .boolean), Cond.methodLink RL 18 yX7_piece, Cond.instanceMethod yX7_piece, Cond.selects RX7 yX7_piece yX7_piece, Cond.code yX7_piece cX7_piece 4 (some .int), Cond.methodLink RX7 72 yX7_isKind, Cond.instanceMethod yX7_isKind, Cond.selects RX7 yX7_isKind yX7_isKind, Cond.code yX7_isKind cX7_isKind 2 (some .boolean), Cond.methodLink RX7 76 yX7_isOwner, Cond.static yX7_isOwner, Cond.code yX7_isOwner cX7_isOwner 1 (some .boolean)]
def wsL_law_r9 : List Cond := [Cond.methodLink RX7 80 yX2_add, Cond.instanceMethod yX2_add, Cond.selects RX2 yX2_add yX2_add, Cond.code yX2_add cX2_add 4 (some .int), Cond.methodLink RX2 39 yX4_write, Cond.methodLink RL 22 yX8_piece, Cond.instanceMethod yX8_piece, Cond.selects RX8 yX8_piece yX8_piece, Cond.code yX8_piece cX8_piece 4 (some .int), Cond.fieldLink RX8 112 "LinenTunnelModel" "pieceMany" "I", Cond.methodLink RX8 115 yX8_isKind, Cond.instanceMethod yX8_isKind, Cond.selects RX8 yX8_isKind yX8_isKind, Cond.code yX8_isKind cX8_isKind 2 (some .boolean), Cond.methodLink RL 23 yX7_about, Cond.instanceMethod yX7_about, Cond.selects RX7 yX7_about yX7_about, Cond.code yX7_about cX7_about 3 (some .int), Cond.methodLink RX7 83 yX7_isPiece, Cond.instanceMethod yX7_isPiece, Cond.selects RX7 yX7_isPiece yX7_isPiece, Cond.code yX7_isPiece cX7_isPiece 2 (some .boolean), Cond.methodLink RX7 90 yX4_read, Cond.instanceMethod yX4_read]
def wsL_law_r10 : List Cond := [Cond.selects RX4 yX4_read yX4_read, Cond.code yX4_read cX4_read 2 (some .int), Cond.methodLink RL 27 yX8_about, Cond.instanceMethod yX8_about, Cond.selects RX8 yX8_about yX8_about, Cond.code yX8_about cX8_about 3 (some .int), Cond.methodLink RX8 119 yX8_isPiece, Cond.instanceMethod yX8_isPiece, Cond.selects RX8 yX8_isPiece yX8_isPiece, Cond.code yX8_isPiece cX8_isPiece 2 (some .boolean), Cond.methodLink RL 28 yX7_chip, Cond.instanceMethod yX7_chip, Cond.selects RX7 yX7_chip yX7_chip, Cond.code yX7_chip cX7_chip 3 (some .int), Cond.methodLink RX7 111 yX4_write, Cond.methodLink RL 32 yX8_chip, Cond.instanceMethod yX8_chip, Cond.selects RX8 yX8_chip yX8_chip, Cond.code yX8_chip cX8_chip 3 (some .int), Cond.methodLink RL 33 yX7_lost, Cond.instanceMethod yX7_lost, Cond.selects RX7 yX7_lost yX7_lost, Cond.code yX7_lost cX7_lost 4 (some .int), Cond.methodLink RL 37 yX8_lost]
def wsL_law_r11 : List Cond := [Cond.instanceMethod yX8_lost, Cond.selects RX8 yX8_lost yX8_lost, Cond.code yX8_lost cX8_lost 2 (some .int), Cond.methodLink RL 38 yX7_again, Cond.instanceMethod yX7_again, Cond.selects RX7 yX7_again yX7_again, Cond.code yX7_again cX7_again 2 (some .int), Cond.methodLink RX7 115 yX7_soilFrom, Cond.instanceMethod yX7_soilFrom, Cond.selects RX7 yX7_soilFrom yX7_soilFrom, Cond.code yX7_soilFrom cX7_soilFrom 3 (some .int), Cond.methodLink RL 41 yX8_again, Cond.instanceMethod yX8_again, Cond.selects RX8 yX8_again yX8_again, Cond.code yX8_again cX8_again 2 (some .int), Cond.methodLink RL 42 yX7_pieces, Cond.instanceMethod yX7_pieces, Cond.selects RX7 yX7_pieces yX7_pieces, Cond.code yX7_pieces cX7_pieces 4 (some .int), Cond.methodLink RX7 119 yX7_isOwnerOrAny, Cond.static yX7_isOwnerOrAny, Cond.code yX7_isOwnerOrAny cX7_isOwnerOrAny 1 (some .boolean), Cond.methodLink RX7 122 yX7_isKindOrAny, Cond.instanceMethod yX7_isKindOrAny]
def wsL_law_r12 : List Cond := [Cond.selects RX7 yX7_isKindOrAny yX7_isKindOrAny, Cond.code yX7_isKindOrAny cX7_isKindOrAny 2 (some .boolean), Cond.methodLink RX7 125 yX7_isPlace, Cond.static yX7_isPlace, Cond.code yX7_isPlace cX7_isPlace 1 (some .boolean), Cond.methodLink RX7 128 yX2_tally, Cond.instanceMethod yX2_tally, Cond.selects RX2 yX2_tally yX2_tally, Cond.code yX2_tally cX2_tally 6 (some .int), Cond.methodLink RX2 47 yX2_fits, Cond.instanceMethod yX2_fits, Cond.selects RX2 yX2_fits yX2_fits, Cond.code yX2_fits cX2_fits 5 (some .boolean), Cond.methodLink RX2 43 yX4_read, Cond.methodLink RL 46 yX8_pieces, Cond.instanceMethod yX8_pieces, Cond.selects RX8 yX8_pieces yX8_pieces, Cond.code yX8_pieces cX8_pieces 6 (some .int), Cond.methodLink RX8 122 yX8_is, Cond.instanceMethod yX8_is, Cond.selects RX8 yX8_is yX8_is, Cond.code yX8_is cX8_is 5 (some .boolean), Cond.methodLink RL 47 yX7_scan, Cond.instanceMethod yX7_scan]
def wsL_law_r13 : List Cond := [Cond.selects RX7 yX7_scan yX7_scan, Cond.code yX7_scan cX7_scan 6 (some .int), Cond.methodLink RX7 132 yX7_isSheet, Cond.static yX7_isSheet, Cond.code yX7_isSheet cX7_isSheet 1 (some .boolean), Cond.methodLink RX7 135 yX5_isLost, Cond.instanceMethod yX5_isLost, Cond.selects RX5 yX5_isLost yX5_isLost, Cond.code yX5_isLost cX5_isLost 2 (some .boolean), Cond.methodLink RX5 29 yX4_read, Cond.methodLink RX7 138 yX7_find, Cond.instanceMethod yX7_find, Cond.selects RX7 yX7_find yX7_find, Cond.code yX7_find cX7_find 2 (some .int), Cond.methodLink RX7 141 yX5_holds, Cond.instanceMethod yX5_holds, Cond.selects RX5 yX5_holds yX5_holds, Cond.code yX5_holds cX5_holds 4 (some .boolean), Cond.methodLink RX7 144 yX5_item, Cond.instanceMethod yX5_item, Cond.selects RX5 yX5_item yX5_item, Cond.code yX5_item cX5_item 3 (some .int), Cond.methodLink RL 50 yX8_scan, Cond.instanceMethod yX8_scan]
def wsL_law_r14 : List Cond := [Cond.selects RX8 yX8_scan yX8_scan, Cond.code yX8_scan cX8_scan 6 (some .int), Cond.methodLink RX8 126 yX8_isSheet, Cond.static yX8_isSheet, Cond.code yX8_isSheet cX8_isSheet 1 (some .boolean), Cond.methodLink RX8 129 yX8_meets, Cond.instanceMethod yX8_meets, Cond.selects RX8 yX8_meets yX8_meets, Cond.code yX8_meets cX8_meets 2 (some .int), Cond.fieldLink RX8 172 "LinenTunnelModel" "finding" "I", Cond.methodLink RL 51 yX7_hand, Cond.instanceMethod yX7_hand, Cond.selects RX7 yX7_hand yX7_hand, Cond.code yX7_hand cX7_hand 2 (some .int), Cond.methodLink RL 54 yX8_hand, Cond.instanceMethod yX8_hand, Cond.selects RX8 yX8_hand yX8_hand, Cond.code yX8_hand cX8_hand 2 (some .int), Cond.methodLink RL 55 yX7_batch, Cond.instanceMethod yX7_batch, Cond.selects RX7 yX7_batch yX7_batch, Cond.code yX7_batch cX7_batch 5 (some .int), Cond.methodLink RX7 148 yX2_fillBatch, Cond.instanceMethod yX2_fillBatch]
def wsL_law_r15 : List Cond := [Cond.selects RX2 yX2_fillBatch yX2_fillBatch, Cond.code yX2_fillBatch cX2_fillBatch 7 (some .int), Cond.methodLink RX7 152 yX6_add, Cond.instanceMethod yX6_add, Cond.selects RX6 yX6_add yX6_add, Cond.code yX6_add cX6_add 3 none, Cond.methodLink RX6 34 yX4_write, Cond.methodLink RL 58 yX8_batch, Cond.instanceMethod yX8_batch, Cond.selects RX8 yX8_batch yX8_batch, Cond.code yX8_batch cX8_batch 6 (some .int), Cond.fieldLink RX8 133 "LinenTunnelModel" "batches" "I", Cond.methodLink RL 59 yX7_at, Cond.instanceMethod yX7_at, Cond.selects RX7 yX7_at yX7_at, Cond.code yX7_at cX7_at 2 (some .int), Cond.methodLink RX7 154 yX7_isOrderPlace, Cond.instanceMethod yX7_isOrderPlace, Cond.selects RX7 yX7_isOrderPlace yX7_isOrderPlace, Cond.code yX7_isOrderPlace cX7_isOrderPlace 2 (some .boolean), Cond.methodLink RL 62 yX8_at, Cond.instanceMethod yX8_at, Cond.selects RX8 yX8_at yX8_at, Cond.code yX8_at cX8_at 2 (some .int)]
def wsL_law_r16 : List Cond := [Cond.methodLink RL 63 yX7_of, Cond.instanceMethod yX7_of, Cond.selects RX7 yX7_of yX7_of, Cond.code yX7_of cX7_of 4 (some .int), Cond.methodLink RX7 163 yX2_pieceOfBatch, Cond.instanceMethod yX2_pieceOfBatch, Cond.selects RX2 yX2_pieceOfBatch yX2_pieceOfBatch, Cond.code yX2_pieceOfBatch cX2_pieceOfBatch 5 (some .int), Cond.methodLink RX7 167 yX6_placeOf, Cond.instanceMethod yX6_placeOf, Cond.selects RX6 yX6_placeOf yX6_placeOf, Cond.code yX6_placeOf cX6_placeOf 3 (some .int), Cond.methodLink RX6 38 yX4_read, Cond.methodLink RL 66 yX8_of, Cond.instanceMethod yX8_of, Cond.selects RX8 yX8_of yX8_of, Cond.code yX8_of cX8_of 3 (some .int), Cond.methodLink RX8 136 yX8_placeIn, Cond.instanceMethod yX8_placeIn, Cond.selects RX8 yX8_placeIn yX8_placeIn, Cond.code yX8_placeIn cX8_placeIn 3 (some .int), Cond.methodLink RL 67 yX7_swap, Cond.instanceMethod yX7_swap, Cond.selects RX7 yX7_swap yX7_swap]
def wsL_law_r17 : List Cond := [Cond.code yX7_swap cX7_swap 4 (some .int), Cond.methodLink RL 70 yX8_swap, Cond.instanceMethod yX8_swap, Cond.selects RX8 yX8_swap yX8_swap, Cond.code yX8_swap cX8_swap 4 (some .int), Cond.methodLink RL 71 yX7_undo, Cond.instanceMethod yX7_undo, Cond.selects RX7 yX7_undo yX7_undo, Cond.code yX7_undo cX7_undo 2 (some .int), Cond.methodLink RX7 170 yX2_emptyBatch, Cond.instanceMethod yX2_emptyBatch, Cond.selects RX2 yX2_emptyBatch yX2_emptyBatch, Cond.code yX2_emptyBatch cX2_emptyBatch 4 none, Cond.methodLink RX7 174 yX6_dropLast, Cond.instanceMethod yX6_dropLast, Cond.selects RX6 yX6_dropLast yX6_dropLast, Cond.code yX6_dropLast cX6_dropLast 4 none, Cond.methodLink RL 75 yX8_undo, Cond.instanceMethod yX8_undo, Cond.selects RX8 yX8_undo yX8_undo, Cond.code yX8_undo cX8_undo 4 (some .int), Cond.methodLink RL 76 yX7_between, Cond.instanceMethod yX7_between, Cond.selects RX7 yX7_between yX7_between]
def wsL_law_r18 : List Cond := [Cond.code yX7_between cX7_between 3 (some .int), Cond.methodLink RX7 177 yX1_gap, Cond.instanceMethod yX1_gap, Cond.selects RX1 yX1_gap yX1_gap, Cond.code yX1_gap cX1_gap 4 (some .int), Cond.methodLink RX1 44 Lib.Math.max.name, Cond.static Lib.Math.max.name, Cond.initialized "java/lang/Math", Cond.code Lib.Math.max.name Lib.Math.max.code 2 (some .int), Cond.methodLink RX1 50 Lib.Math.abs.name, Cond.static Lib.Math.abs.name, Cond.code Lib.Math.abs.name Lib.Math.abs.code 1 (some .int), Cond.methodLink RX1 40 yX4_read, Cond.methodLink RL 79 yX8_between, Cond.instanceMethod yX8_between, Cond.selects RX8 yX8_between yX8_between, Cond.code yX8_between cX8_between 3 (some .int), Cond.methodLink RX8 139 yX8_emptiesOf, Cond.instanceMethod yX8_emptiesOf, Cond.selects RX8 yX8_emptiesOf yX8_emptiesOf, Cond.code yX8_emptiesOf cX8_emptiesOf 5 (some .int), Cond.methodLink RL 80 yX7_empties, Cond.instanceMethod yX7_empties, Cond.selects RX7 yX7_empties yX7_empties]
def wsL_law_r19 : List Cond := [Cond.code yX7_empties cX7_empties 1 (some .int), Cond.methodLink RX7 180 yX6_gapsInOrder, Cond.instanceMethod yX6_gapsInOrder, Cond.selects RX6 yX6_gapsInOrder yX6_gapsInOrder, Cond.code yX6_gapsInOrder cX6_gapsInOrder 3 (some .int), Cond.methodLink RX6 51 yX6_gapAhead, Cond.instanceMethod yX6_gapAhead, Cond.selects RX6 yX6_gapAhead yX6_gapAhead, Cond.code yX6_gapAhead cX6_gapAhead 2 (some .int), Cond.methodLink RX6 48 yX6_gapOf, Cond.instanceMethod yX6_gapOf, Cond.selects RX6 yX6_gapOf yX6_gapOf, Cond.code yX6_gapOf cX6_gapOf 3 (some .int), Cond.methodLink RX6 42 yX1_gap, Cond.methodLink RL 83 yX8_empties, Cond.instanceMethod yX8_empties, Cond.selects RX8 yX8_empties yX8_empties, Cond.code yX8_empties cX8_empties 3 (some .int), Cond.methodLink RX8 143 yX8_betweenBatches, Cond.instanceMethod yX8_betweenBatches, Cond.selects RX8 yX8_betweenBatches yX8_betweenBatches, Cond.code yX8_betweenBatches cX8_betweenBatches 3 (some .int), Cond.methodLink RL 84 yX7_plan, Cond.instanceMethod yX7_plan]
def wsL_law_r20 : List Cond := [Cond.selects RX7 yX7_plan yX7_plan, Cond.code yX7_plan cX7_plan 1 (some .int), Cond.methodLink RX7 184 yX3_orderBest, Cond.instanceMethod yX3_orderBest, Cond.selects RX3 yX3_orderBest yX3_orderBest, Cond.code yX3_orderBest cX3_orderBest 4 none, Cond.methodLink RX3 27 yX3_fillGaps, Cond.instanceMethod yX3_fillGaps, Cond.selects RX3 yX3_fillGaps yX3_fillGaps, Cond.code yX3_fillGaps cX3_fillGaps 3 none, Cond.methodLink RX3 50 yX6_gapOf, Cond.methodLink RX3 46 yX4_write, Cond.methodLink RX3 30 yX3_fillFewest, Cond.instanceMethod yX3_fillFewest, Cond.selects RX3 yX3_fillFewest yX3_fillFewest, Cond.code yX3_fillFewest cX3_fillFewest 5 none, Cond.methodLink RX3 39 yX3_bestBehind, Cond.instanceMethod yX3_bestBehind, Cond.selects RX3 yX3_bestBehind yX3_bestBehind, Cond.code yX3_bestBehind cX3_bestBehind 7 (some .int), Cond.methodLink RX3 53 yX3_costBehind, Cond.instanceMethod yX3_costBehind, Cond.selects RX3 yX3_costBehind yX3_costBehind, Cond.code yX3_costBehind cX3_costBehind 5 (some .int)]
def wsL_law_r21 : List Cond := [Cond.methodLink RX3 57 yX4_read, Cond.methodLink RL 87 yX8_plan, Cond.instanceMethod yX8_plan, Cond.selects RX8 yX8_plan yX8_plan, Cond.code yX8_plan cX8_plan 9 (some .int), Cond.constant RX8 146 (1000000), Cond.methodLink RL 88 yX7_greedy, Cond.instanceMethod yX7_greedy, Cond.selects RX7 yX7_greedy yX7_greedy, Cond.code yX7_greedy cX7_greedy 1 (some .int), Cond.methodLink RX7 187 yX6_orderByNext, Cond.instanceMethod yX6_orderByNext, Cond.selects RX6 yX6_orderByNext yX6_orderByNext, Cond.code yX6_orderByNext cX6_orderByNext 4 none, Cond.methodLink RX6 54 yX6_nextOf, Cond.instanceMethod yX6_nextOf, Cond.selects RX6 yX6_nextOf yX6_nextOf, Cond.code yX6_nextOf cX6_nextOf 6 (some .int), Cond.methodLink RL 91 yX8_greedy, Cond.instanceMethod yX8_greedy, Cond.selects RX8 yX8_greedy yX8_greedy, Cond.code yX8_greedy cX8_greedy 5 (some .int), Cond.methodLink RX8 147 yX8_empties, Cond.methodLink RL 92 yX7_tunnel]
def wsL_law_r22 : List Cond := [Cond.instanceMethod yX7_tunnel, Cond.selects RX7 yX7_tunnel yX7_tunnel, Cond.code yX7_tunnel cX7_tunnel 4 (some .int), Cond.methodLink RL 95 yX8_tunnel, Cond.instanceMethod yX8_tunnel, Cond.selects RX8 yX8_tunnel yX8_tunnel, Cond.code yX8_tunnel cX8_tunnel 4 (some .int), Cond.methodLink RL 96 yX7_wash, Cond.instanceMethod yX7_wash, Cond.selects RX7 yX7_wash yX7_wash, Cond.code yX7_wash cX7_wash 2 (some .int), Cond.methodLink RX7 199 yX0_washOrder, Cond.instanceMethod yX0_washOrder, Cond.selects RX0 yX0_washOrder yX0_washOrder, Cond.code yX0_washOrder cX0_washOrder 2 (some .int), Cond.constant RX0 87 (1000000), Cond.methodLink RX0 76 yX0_clear, Cond.instanceMethod yX0_clear, Cond.selects RX0 yX0_clear yX0_clear, Cond.code yX0_clear cX0_clear 1 none, Cond.methodLink RX0 94 yX4_fill, Cond.methodLink RX0 84 yX0_lineUp, Cond.instanceMethod yX0_lineUp, Cond.selects RX0 yX0_lineUp yX0_lineUp]
def wsL_law_r23 : List Cond := [Cond.code yX0_lineUp cX0_lineUp 6 none, Cond.methodLink RX0 68 yX4_read, Cond.methodLink RX0 101 yX6_gapAhead, Cond.methodLink RX0 104 yX0_addSlot, Cond.instanceMethod yX0_addSlot, Cond.selects RX0 yX0_addSlot yX0_addSlot, Cond.code yX0_addSlot cX0_addSlot 2 none, Cond.methodLink RX0 72 yX4_write, Cond.methodLink RX0 110 yX0_note, Cond.instanceMethod yX0_note, Cond.selects RX0 yX0_note yX0_note, Cond.code yX0_note cX0_note 4 none, Cond.methodLink RX0 114 yX0_addTotal, Cond.instanceMethod yX0_addTotal, Cond.selects RX0 yX0_addTotal yX0_addTotal, Cond.code yX0_addTotal cX0_addTotal 3 none, Cond.methodLink RX0 88 yX0_doBeat, Cond.instanceMethod yX0_doBeat, Cond.selects RX0 yX0_doBeat yX0_doBeat, Cond.code yX0_doBeat cX0_doBeat 5 none, Cond.methodLink RX0 122 yX0_fact, Cond.instanceMethod yX0_fact, Cond.selects RX0 yX0_fact yX0_fact, Cond.code yX0_fact cX0_fact 3 (some .int)]
def wsL_law_r24 : List Cond := [Cond.methodLink RX0 126 yX0_freeDryer, Cond.instanceMethod yX0_freeDryer, Cond.selects RX0 yX0_freeDryer yX0_freeDryer, Cond.code yX0_freeDryer cX0_freeDryer 3 (some .int), Cond.methodLink RX0 129 yX0_goOut, Cond.instanceMethod yX0_goOut, Cond.selects RX0 yX0_goOut yX0_goOut, Cond.code yX0_goOut cX0_goOut 5 none, Cond.methodLink RX0 133 yX0_moveOn, Cond.instanceMethod yX0_moveOn, Cond.selects RX0 yX0_moveOn yX0_moveOn, Cond.code yX0_moveOn cX0_moveOn 3 none, Cond.methodLink RX0 136 yX0_waterOfBeat, Cond.instanceMethod yX0_waterOfBeat, Cond.selects RX0 yX0_waterOfBeat yX0_waterOfBeat, Cond.code yX0_waterOfBeat cX0_waterOfBeat 4 (some .int), Cond.methodLink RX0 140 yX0_hasWaterOfNext, Cond.instanceMethod yX0_hasWaterOfNext, Cond.selects RX0 yX0_hasWaterOfNext yX0_hasWaterOfNext, Cond.code yX0_hasWaterOfNext cX0_hasWaterOfNext 3 (some .boolean), Cond.methodLink RX0 144 yX0_colourAt, Cond.instanceMethod yX0_colourAt, Cond.selects RX0 yX0_colourAt yX0_colourAt, Cond.code yX0_colourAt cX0_colourAt 2 (some .int)]
def wsL_law_r25 : List Cond := [Cond.methodLink RX0 91 yX0_ironAll, Cond.instanceMethod yX0_ironAll, Cond.selects RX0 yX0_ironAll yX0_ironAll, Cond.code yX0_ironAll cX0_ironAll 5 none, Cond.methodLink RX0 156 Lib.Math.max.name, Cond.methodLink RX0 150 yX0_firstDry, Cond.instanceMethod yX0_firstDry, Cond.selects RX0 yX0_firstDry yX0_firstDry, Cond.code yX0_firstDry cX0_firstDry 5 (some .int), Cond.methodLink RX0 153 yX0_ironOne, Cond.instanceMethod yX0_ironOne, Cond.selects RX0 yX0_ironOne yX0_ironOne, Cond.code yX0_ironOne cX0_ironOne 6 none, Cond.methodLink RX0 164 yX0_firstIron, Cond.instanceMethod yX0_firstIron, Cond.selects RX0 yX0_firstIron yX0_firstIron, Cond.code yX0_firstIron cX0_firstIron 3 (some .int), Cond.methodLink RX7 202 yX2_cleanBatches, Cond.instanceMethod yX2_cleanBatches, Cond.selects RX2 yX2_cleanBatches yX2_cleanBatches, Cond.code yX2_cleanBatches cX2_cleanBatches 2 none, Cond.methodLink RL 99 yX8_wash, Cond.instanceMethod yX8_wash, Cond.selects RX8 yX8_wash yX8_wash]
def wsL_law_r26 : List Cond := [Cond.code yX8_wash cX8_wash 10 (some .int), Cond.fieldLink RX8 157 "LinenTunnelModel" "runs" "I", Cond.fieldLink RX8 169 "LinenTunnelModel" "washMany" "I", Cond.methodLink RX8 151 yX8_kindAt, Cond.instanceMethod yX8_kindAt, Cond.selects RX8 yX8_kindAt yX8_kindAt, Cond.code yX8_kindAt cX8_kindAt 2 (some .int), Cond.methodLink RX8 154 yX8_dryerAt, Cond.instanceMethod yX8_dryerAt, Cond.selects RX8 yX8_dryerAt yX8_dryerAt, Cond.code yX8_dryerAt cX8_dryerAt 3 (some .int), Cond.methodLink RX8 160 yX8_goesOut, Cond.instanceMethod yX8_goesOut, Cond.selects RX8 yX8_goesOut yX8_goesOut, Cond.code yX8_goesOut cX8_goesOut 6 none, Cond.methodLink RX8 164 yX8_waterNow, Cond.instanceMethod yX8_waterNow, Cond.selects RX8 yX8_waterNow yX8_waterNow, Cond.code yX8_waterNow cX8_waterNow 4 (some .int), Cond.methodLink RX8 167 yX8_irons, Cond.instanceMethod yX8_irons, Cond.selects RX8 yX8_irons yX8_irons, Cond.code yX8_irons cX8_irons 6 none, Cond.methodLink RL 100 yX7_washed]
def wsL_law_r27 : List Cond := [Cond.instanceMethod yX7_washed, Cond.selects RX7 yX7_washed yX7_washed, Cond.code yX7_washed cX7_washed 2 (some .int), Cond.methodLink RL 103 yX8_washed, Cond.instanceMethod yX8_washed, Cond.selects RX8 yX8_washed yX8_washed, Cond.code yX8_washed cX8_washed 2 (some .int), Cond.methodLink RL 104 yX7_run, Cond.instanceMethod yX7_run, Cond.selects RX7 yX7_run yX7_run, Cond.code yX7_run cX7_run 3 (some .int), Cond.methodLink RX7 208 yX0_fact, Cond.methodLink RL 107 yX8_run, Cond.instanceMethod yX8_run, Cond.selects RX8 yX8_run yX8_run, Cond.code yX8_run cX8_run 3 (some .int), Cond.methodLink RL 108 yX7_pack, Cond.instanceMethod yX7_pack, Cond.selects RX7 yX7_pack yX7_pack, Cond.code yX7_pack cX7_pack 5 (some .int), Cond.methodLink RX7 211 yX2_sendOut, Cond.instanceMethod yX2_sendOut, Cond.selects RX2 yX2_sendOut yX2_sendOut, Cond.code yX2_sendOut cX2_sendOut 6 (some .int)]
def wsL_law_r28 : List Cond := [Cond.methodLink RL 111 yX8_pack, Cond.instanceMethod yX8_pack, Cond.selects RX8 yX8_pack yX8_pack, Cond.code yX8_pack cX8_pack 7 (some .int), Cond.methodLink RL 112 yX7_sheet, Cond.instanceMethod yX7_sheet, Cond.selects RX7 yX7_sheet yX7_sheet, Cond.code yX7_sheet cX7_sheet 4 (some .int), Cond.methodLink RX7 214 yX7_isForm, Cond.static yX7_isForm, Cond.code yX7_isForm cX7_isForm 1 (some .boolean), Cond.methodLink RX7 217 yX5_renew, Cond.instanceMethod yX5_renew, Cond.selects RX5 yX5_renew yX5_renew, Cond.code yX5_renew cX5_renew 5 none, Cond.methodLink RX5 37 yX4_write, Cond.methodLink RL 115 yX8_sheet, Cond.instanceMethod yX8_sheet, Cond.selects RX8 yX8_sheet yX8_sheet, Cond.code yX8_sheet cX8_sheet 5 (some .int), Cond.methodLink RL 116 yX7_lose, Cond.instanceMethod yX7_lose, Cond.selects RX7 yX7_lose yX7_lose, Cond.code yX7_lose cX7_lose 3 (some .int)]
def wsL_law_r29 : List Cond := [Cond.methodLink RL 119 yX8_lose, Cond.instanceMethod yX8_lose, Cond.selects RX8 yX8_lose yX8_lose, Cond.code yX8_lose cX8_lose 2 (some .int), Cond.methodLink RL 120 yX7_put, Cond.instanceMethod yX7_put, Cond.selects RX7 yX7_put yX7_put, Cond.code yX7_put cX7_put 6 (some .int), Cond.methodLink RX7 222 yX5_findingAt, Cond.instanceMethod yX5_findingAt, Cond.selects RX5 yX5_findingAt yX5_findingAt, Cond.code yX5_findingAt cX5_findingAt 4 (some .int), Cond.methodLink RX5 33 yX5_isLost, Cond.methodLink RX7 225 yX5_setItem, Cond.instanceMethod yX5_setItem, Cond.selects RX5 yX5_setItem yX5_setItem, Cond.code yX5_setItem cX5_setItem 4 none, Cond.methodLink RX5 41 yX5_lowestBits, Cond.static yX5_lowestBits, Cond.code yX5_lowestBits cX5_lowestBits 2 (some .int), Cond.methodLink RL 124 yX8_put, Cond.instanceMethod yX8_put, Cond.selects RX8 yX8_put yX8_put, Cond.code yX8_put cX8_put 6 (some .int)]
def wsL_law_r30 : List Cond := [Cond.methodLink RX8 175 yX8_lacks, Cond.instanceMethod yX8_lacks, Cond.selects RX8 yX8_lacks yX8_lacks, Cond.code yX8_lacks cX8_lacks 4 (some .int), Cond.methodLink RX8 179 yX8_lay, Cond.instanceMethod yX8_lay, Cond.selects RX8 yX8_lay yX8_lay, Cond.code yX8_lay cX8_lay 4 none, Cond.methodLink RL 125 yX7_get, Cond.instanceMethod yX7_get, Cond.selects RX7 yX7_get yX7_get, Cond.code yX7_get cX7_get 5 (some .int), Cond.constant RX7 228 (-2147483648), Cond.methodLink RL 128 yX8_get, Cond.instanceMethod yX8_get, Cond.selects RX8 yX8_get yX8_get, Cond.code yX8_get cX8_get 5 (some .int), Cond.constant RX8 182 (-2147483648), Cond.methodLink RL 129 yX7_copy, Cond.instanceMethod yX7_copy, Cond.selects RX7 yX7_copy yX7_copy, Cond.code yX7_copy cX7_copy 6 (some .int), Cond.methodLink RX7 232 yX5_moveItems, Cond.instanceMethod yX5_moveItems]
def wsL_law_r31 : List Cond := [Cond.selects RX5 yX5_moveItems yX5_moveItems, Cond.code yX5_moveItems cX5_moveItems 9 none, Cond.methodLink RX5 45 yX5_item, Cond.methodLink RX5 48 yX5_setItem, Cond.methodLink RL 133 yX8_copy, Cond.instanceMethod yX8_copy, Cond.selects RX8 yX8_copy yX8_copy, Cond.code yX8_copy cX8_copy 7 (some .int), Cond.methodLink RL 134 yX7_list, Cond.instanceMethod yX7_list, Cond.selects RX7 yX7_list yX7_list, Cond.code yX7_list cX7_list 7 (some .int), Cond.methodLink RX7 236 yX2_fits, Cond.methodLink RL 137 yX8_list, Cond.instanceMethod yX8_list, Cond.selects RX8 yX8_list yX8_list, Cond.code yX8_list cX8_list 6 (some .int), Cond.methodLink RL 138 yX7_count, Cond.instanceMethod yX7_count, Cond.selects RX7 yX7_count yX7_count, Cond.code yX7_count cX7_count 2 (some .int), Cond.methodLink RL 141 yX8_count, Cond.instanceMethod yX8_count, Cond.selects RX8 yX8_count yX8_count]
def wsL_law_r32 : List Cond := [Cond.code yX8_count cX8_count 2 (some .int), Cond.methodLink RL 142 yX7_digest, Cond.instanceMethod yX7_digest, Cond.selects RX7 yX7_digest yX7_digest, Cond.code yX7_digest cX7_digest 5 (some .long), Cond.constantLong RX7 242 (17), Cond.constantLong RX7 244 (31), Cond.methodLink RX7 246 yX7_count, Cond.methodLink RX7 249 yX7_about, Cond.methodLink RX7 252 yX7_at, Cond.methodLink RX7 255 yX7_washed, Cond.methodLink RL 146 yX8_digest, Cond.instanceMethod yX8_digest, Cond.selects RX8 yX8_digest yX8_digest, Cond.code yX8_digest cX8_digest 5 (some .long), Cond.constantLong RX8 183 (17), Cond.constantLong RX8 185 (31), Cond.methodLink RX8 187 yX8_count, Cond.methodLink RX8 190 yX8_about]
def wsL_law : List Cond := (wsL_law_r1 ++ (wsL_law_r2 ++ (wsL_law_r3 ++ (wsL_law_r4 ++ (wsL_law_r5 ++ (wsL_law_r6 ++ (wsL_law_r7 ++ (wsL_law_r8 ++ (wsL_law_r9 ++ (wsL_law_r10 ++ (wsL_law_r11 ++ (wsL_law_r12 ++ (wsL_law_r13 ++ (wsL_law_r14 ++ (wsL_law_r15 ++ (wsL_law_r16 ++ (wsL_law_r17 ++ (wsL_law_r18 ++ (wsL_law_r19 ++ (wsL_law_r20 ++ (wsL_law_r21 ++ (wsL_law_r22 ++ (wsL_law_r23 ++ (wsL_law_r24 ++ (wsL_law_r25 ++ (wsL_law_r26 ++ (wsL_law_r27 ++ (wsL_law_r28 ++ (wsL_law_r29 ++ (wsL_law_r30 ++ (wsL_law_r31 ++ wsL_law_r32))))))))))))))))))))))))))))))) ++ wsX70 ++ wsX80 ++ wsX10 ++ wsX20 ++ wsX60 ++ wsX30 ++ wsX00 ++ wsX50 ++ wsX40 ++ ([] : List Cond)
set_option maxRecDepth 20000 in
theorem wsL_law_in : ∀ w ∈ wsL_law, w ∈ lw_tbl := fun w h => (goodIn_p wsL_law [56, 59, 64, 70, 104, 141, 175, 193, 255, 262, 706, 300, 303, 307, 311, 824, 827, 315, 319, 322, 326, 831, 835, 331, 335, 339, 839, 843, 343, 847, 348, 851, 352, 356, 855, 360, 363, 367, 370, 374, 378, 859, 863, 383, 386, 390, 395, 399, 403, 867, 870, 874, 407, 878, 411, 415, 419, 882, 424, 428, 886, 432, 436, 440, 890, 894, 445, 898, 449, 453, 457, 902, 461, 465, 469, 472, 906, 910, 476, 480, 484, 488, 914, 918, 493, 497, 501, 507, 511, 515, 922, 520, 524, 528, 927, 532, 932, 536, 540, 544, 549, 555, 560, 564, 569, 573, 577, 581, 585, 589, 593, 597, 601, 605, 609, 613, 618, 936, 940, 944, 948, 952, 956, 622, 960, 626, 964, 631, 635, 968, 639, 642, 646, 972, 651, 976, 655, 659, 664, 667, 980, 984, 988, 671, 992, 676, 680, 997, 686, 1001, 691, 1005, 695, 1009] (by decide +kernel) (by decide +kernel) w h).1
theorem inlX0 : ∀ w ∈ wsX00, w ∈ wsL_law := fun _ h => List.mem_append_left _ (List.mem_append_left _ (List.mem_append_left _ (List.mem_append_right _ h)))
theorem inX0 : ∀ w ∈ wsX00, w ∈ lw_tbl := fun w h => wsL_law_in w (inlX0 w h)
theorem inlX1 : ∀ w ∈ wsX10, w ∈ wsL_law := fun _ h => List.mem_append_left _ (List.mem_append_left _ (List.mem_append_left _ (List.mem_append_left _ (List.mem_append_left _ (List.mem_append_left _ (List.mem_append_left _ (List.mem_append_right _ h)))))))
theorem inX1 : ∀ w ∈ wsX10, w ∈ lw_tbl := fun w h => wsL_law_in w (inlX1 w h)
theorem inlX2 : ∀ w ∈ wsX20, w ∈ wsL_law := fun _ h => List.mem_append_left _ (List.mem_append_left _ (List.mem_append_left _ (List.mem_append_left _ (List.mem_append_left _ (List.mem_append_left _ (List.mem_append_right _ h))))))
theorem inX2 : ∀ w ∈ wsX20, w ∈ lw_tbl := fun w h => wsL_law_in w (inlX2 w h)
theorem inlX3 : ∀ w ∈ wsX30, w ∈ wsL_law := fun _ h => List.mem_append_left _ (List.mem_append_left _ (List.mem_append_left _ (List.mem_append_left _ (List.mem_append_right _ h))))
theorem inX3 : ∀ w ∈ wsX30, w ∈ lw_tbl := fun w h => wsL_law_in w (inlX3 w h)
theorem inlX4 : ∀ w ∈ wsX40, w ∈ wsL_law := fun _ h => List.mem_append_left _ (List.mem_append_right _ h)
theorem inX4 : ∀ w ∈ wsX40, w ∈ lw_tbl := fun w h => wsL_law_in w (inlX4 w h)
theorem inlX5 : ∀ w ∈ wsX50, w ∈ wsL_law := fun _ h => List.mem_append_left _ (List.mem_append_left _ (List.mem_append_right _ h))
theorem inX5 : ∀ w ∈ wsX50, w ∈ lw_tbl := fun w h => wsL_law_in w (inlX5 w h)
theorem inlX6 : ∀ w ∈ wsX60, w ∈ wsL_law := fun _ h => List.mem_append_left _ (List.mem_append_left _ (List.mem_append_left _ (List.mem_append_left _ (List.mem_append_left _ (List.mem_append_right _ h)))))
theorem inX6 : ∀ w ∈ wsX60, w ∈ lw_tbl := fun w h => wsL_law_in w (inlX6 w h)
theorem inlX7 : ∀ w ∈ wsX70, w ∈ wsL_law := fun _ h => List.mem_append_left _ (List.mem_append_left _ (List.mem_append_left _ (List.mem_append_left _ (List.mem_append_left _ (List.mem_append_left _ (List.mem_append_left _ (List.mem_append_left _ (List.mem_append_left _ (List.mem_append_right _ h)))))))))
theorem inX7 : ∀ w ∈ wsX70, w ∈ lw_tbl := fun w h => wsL_law_in w (inlX7 w h)
theorem inlX8 : ∀ w ∈ wsX80, w ∈ wsL_law := fun _ h => List.mem_append_left _ (List.mem_append_left _ (List.mem_append_left _ (List.mem_append_left _ (List.mem_append_left _ (List.mem_append_left _ (List.mem_append_left _ (List.mem_append_left _ (List.mem_append_right _ h))))))))
theorem inX8 : ∀ w ∈ wsX80, w ∈ lw_tbl := fun w h => wsL_law_in w (inlX8 w h)
theorem inJ9 : ∀ w ∈ wsJ90, w ∈ lw_tbl := by decide +kernel
set_option maxRecDepth 20000 in
theorem ggX0_init_X4_init : GoodIn wsX0_init wsX4_init := goodIn_r _ [25, 26, 2, 3, 27, 28, 45] (by decide +kernel) (by decide +kernel)
set_option maxRecDepth 20000 in
theorem gX0_init_X4_init : GoodIn wsX0_init (wsX4_init) := ggX0_init_X4_init
abbrev vwCl : List vw_C := [(RX0, TX0, 16), (RX1, TX1, 6), (RX2, TX2, 7), (RX3, TX3, 3), (RX4, TX4, 1), (RX5, TX5, 3), (RX6, TX6, 5), (RX7, TX7, 7), (RX8, TX8, 37)]
end
section
theorem dX0_init_0 : decode cX0_init 0 = .ok (.aload_n 0, 1) := by decide +kernel
theorem dX0_init_1 : decode cX0_init 1 = .ok (.invokespecial 3, 3) := by decide +kernel
theorem dX0_init_4 : decode cX0_init 4 = .ok (.aload_n 0, 1) := by decide +kernel
theorem dX0_init_5 : decode cX0_init 5 = .ok (.iconst 4, 1) := by decide +kernel
theorem dX0_init_6 : decode cX0_init 6 = .ok (.putfield 9, 3) := by decide +kernel
theorem dX0_init_9 : decode cX0_init 9 = .ok (.aload_n 0, 1) := by decide +kernel
theorem dX0_init_10 : decode cX0_init 10 = .ok (.iconst 2, 1) := by decide +kernel
theorem dX0_init_11 : decode cX0_init 11 = .ok (.putfield 15, 3) := by decide +kernel
theorem dX0_init_14 : decode cX0_init 14 = .ok (.aload_n 0, 1) := by decide +kernel
theorem dX0_init_15 : decode cX0_init 15 = .ok (.iconst 1, 1) := by decide +kernel
theorem dX0_init_16 : decode cX0_init 16 = .ok (.putfield 18, 3) := by decide +kernel
theorem dX0_init_19 : decode cX0_init 19 = .ok (.aload_n 0, 1) := by decide +kernel
theorem dX0_init_20 : decode cX0_init 20 = .ok (.iconst 0, 1) := by decide +kernel
theorem dX0_init_21 : decode cX0_init 21 = .ok (.putfield 21, 3) := by decide +kernel
theorem dX0_init_24 : decode cX0_init 24 = .ok (.aload_n 0, 1) := by decide +kernel
theorem dX0_init_25 : decode cX0_init 25 = .ok (.iconst 0, 1) := by decide +kernel
theorem dX0_init_26 : decode cX0_init 26 = .ok (.putfield 24, 3) := by decide +kernel
theorem dX0_init_29 : decode cX0_init 29 = .ok (.aload_n 0, 1) := by decide +kernel
theorem dX0_init_30 : decode cX0_init 30 = .ok (.iconst 0, 1) := by decide +kernel
theorem dX0_init_31 : decode cX0_init 31 = .ok (.putfield 27, 3) := by decide +kernel
theorem dX0_init_34 : decode cX0_init 34 = .ok (.aload_n 0, 1) := by decide +kernel
theorem dX0_init_35 : decode cX0_init 35 = .ok (.iconst 0, 1) := by decide +kernel
theorem dX0_init_36 : decode cX0_init 36 = .ok (.putfield 30, 3) := by decide +kernel
theorem dX0_init_39 : decode cX0_init 39 = .ok (.aload_n 0, 1) := by decide +kernel
theorem dX0_init_40 : decode cX0_init 40 = .ok (.new 33, 3) := by decide +kernel
theorem dX0_init_43 : decode cX0_init 43 = .ok (.dup, 1) := by decide +kernel
theorem dX0_init_44 : decode cX0_init 44 = .ok (.bipush 67, 2) := by decide +kernel
theorem dX0_init_46 : decode cX0_init 46 = .ok (.invokespecial 35, 3) := by decide +kernel
theorem dX0_init_49 : decode cX0_init 49 = .ok (.putfield 38, 3) := by decide +kernel
theorem dX0_init_52 : decode cX0_init 52 = .ok (.aload_n 0, 1) := by decide +kernel
theorem dX0_init_53 : decode cX0_init 53 = .ok (.new 33, 3) := by decide +kernel
theorem dX0_init_56 : decode cX0_init 56 = .ok (.dup, 1) := by decide +kernel
theorem dX0_init_57 : decode cX0_init 57 = .ok (.bipush 10, 2) := by decide +kernel
theorem dX0_init_59 : decode cX0_init 59 = .ok (.invokespecial 35, 3) := by decide +kernel
theorem dX0_init_62 : decode cX0_init 62 = .ok (.putfield 42, 3) := by decide +kernel
theorem dX0_init_65 : decode cX0_init 65 = .ok (.aload_n 0, 1) := by decide +kernel
theorem dX0_init_66 : decode cX0_init 66 = .ok (.new 33, 3) := by decide +kernel
theorem dX0_init_69 : decode cX0_init 69 = .ok (.dup, 1) := by decide +kernel
theorem dX0_init_70 : decode cX0_init 70 = .ok (.iconst 4, 1) := by decide +kernel
theorem dX0_init_71 : decode cX0_init 71 = .ok (.invokespecial 35, 3) := by decide +kernel
theorem dX0_init_74 : decode cX0_init 74 = .ok (.putfield 45, 3) := by decide +kernel
theorem dX0_init_77 : decode cX0_init 77 = .ok (.aload_n 0, 1) := by decide +kernel
theorem dX0_init_78 : decode cX0_init 78 = .ok (.new 33, 3) := by decide +kernel
theorem dX0_init_81 : decode cX0_init 81 = .ok (.dup, 1) := by decide +kernel
theorem dX0_init_82 : decode cX0_init 82 = .ok (.iconst 3, 1) := by decide +kernel
theorem dX0_init_83 : decode cX0_init 83 = .ok (.invokespecial 35, 3) := by decide +kernel
theorem dX0_init_86 : decode cX0_init 86 = .ok (.putfield 48, 3) := by decide +kernel
theorem dX0_init_89 : decode cX0_init 89 = .ok (.aload_n 0, 1) := by decide +kernel
theorem dX0_init_90 : decode cX0_init 90 = .ok (.new 33, 3) := by decide +kernel
theorem dX0_init_93 : decode cX0_init 93 = .ok (.dup, 1) := by decide +kernel
theorem dX0_init_94 : decode cX0_init 94 = .ok (.bipush 12, 2) := by decide +kernel
theorem dX0_init_96 : decode cX0_init 96 = .ok (.invokespecial 35, 3) := by decide +kernel
theorem dX0_init_99 : decode cX0_init 99 = .ok (.putfield 51, 3) := by decide +kernel
theorem dX0_init_102 : decode cX0_init 102 = .ok (.aload_n 0, 1) := by decide +kernel
theorem dX0_init_103 : decode cX0_init 103 = .ok (.new 33, 3) := by decide +kernel
theorem dX0_init_106 : decode cX0_init 106 = .ok (.dup, 1) := by decide +kernel
theorem dX0_init_107 : decode cX0_init 107 = .ok (.bipush 84, 2) := by decide +kernel
theorem dX0_init_109 : decode cX0_init 109 = .ok (.invokespecial 35, 3) := by decide +kernel
theorem dX0_init_112 : decode cX0_init 112 = .ok (.putfield 54, 3) := by decide +kernel
theorem dX0_init_115 : decode cX0_init 115 = .ok (.aload_n 0, 1) := by decide +kernel
theorem dX0_init_116 : decode cX0_init 116 = .ok (.new 33, 3) := by decide +kernel
theorem dX0_init_119 : decode cX0_init 119 = .ok (.dup, 1) := by decide +kernel
theorem dX0_init_120 : decode cX0_init 120 = .ok (.bipush 7, 2) := by decide +kernel
theorem dX0_init_122 : decode cX0_init 122 = .ok (.invokespecial 35, 3) := by decide +kernel
theorem dX0_init_125 : decode cX0_init 125 = .ok (.putfield 57, 3) := by decide +kernel
theorem dX0_init_128 : decode cX0_init 128 = .ok (.aload_n 0, 1) := by decide +kernel
theorem dX0_init_129 : decode cX0_init 129 = .ok (.aload_n 1, 1) := by decide +kernel
theorem dX0_init_130 : decode cX0_init 130 = .ok (.putfield 60, 3) := by decide +kernel
theorem dX0_init_133 : decode cX0_init 133 = .ok (.aload_n 0, 1) := by decide +kernel
theorem dX0_init_134 : decode cX0_init 134 = .ok (.aload_n 2, 1) := by decide +kernel
theorem dX0_init_135 : decode cX0_init 135 = .ok (.putfield 64, 3) := by decide +kernel
theorem dX0_init_138 : decode cX0_init 138 = .ok (.return_, 1) := by decide +kernel
set_option maxRecDepth 20000 in
theorem ggX0_fact_X4_read : GoodIn wsX0_fact wsX4_read := goodIn_r _ [6, 7, 24] (by decide +kernel) (by decide +kernel)
set_option maxRecDepth 20000 in
theorem gX0_fact_X4_read : GoodIn wsX0_fact (wsV RX0 68 RX4 yX4_read wsX4_read) := goodIn_app (goodIn_of _ (by decide +kernel)) ggX0_fact_X4_read
theorem dX0_fact_0 : decode cX0_fact 0 = .ok (.aload_n 0, 1) := by decide +kernel
theorem dX0_fact_1 : decode cX0_fact 1 = .ok (.getfield 54, 3) := by decide +kernel
theorem dX0_fact_4 : decode cX0_fact 4 = .ok (.iload_n 1, 1) := by decide +kernel
theorem dX0_fact_5 : decode cX0_fact 5 = .ok (.bipush 7, 2) := by decide +kernel
theorem dX0_fact_7 : decode cX0_fact 7 = .ok (.imul, 1) := by decide +kernel
theorem dX0_fact_8 : decode cX0_fact 8 = .ok (.iload_n 2, 1) := by decide +kernel
theorem dX0_fact_9 : decode cX0_fact 9 = .ok (.iadd, 1) := by decide +kernel
theorem dX0_fact_10 : decode cX0_fact 10 = .ok (.invokevirtual 68, 3) := by decide +kernel
theorem dX0_fact_13 : decode cX0_fact 13 = .ok (.ireturn, 1) := by decide +kernel
set_option maxRecDepth 20000 in
theorem ggX0_note_X4_write : GoodIn wsX0_note wsX4_write := goodIn_r _ [6, 7, 24] (by decide +kernel) (by decide +kernel)
set_option maxRecDepth 20000 in
theorem gX0_note_X4_write : GoodIn wsX0_note (wsV RX0 72 RX4 yX4_write wsX4_write) := goodIn_app (goodIn_of _ (by decide +kernel)) ggX0_note_X4_write
theorem dX0_note_0 : decode cX0_note 0 = .ok (.aload_n 0, 1) := by decide +kernel
theorem dX0_note_1 : decode cX0_note 1 = .ok (.getfield 54, 3) := by decide +kernel
theorem dX0_note_4 : decode cX0_note 4 = .ok (.iload_n 1, 1) := by decide +kernel
theorem dX0_note_5 : decode cX0_note 5 = .ok (.bipush 7, 2) := by decide +kernel
theorem dX0_note_7 : decode cX0_note 7 = .ok (.imul, 1) := by decide +kernel
theorem dX0_note_8 : decode cX0_note 8 = .ok (.iload_n 2, 1) := by decide +kernel
theorem dX0_note_9 : decode cX0_note 9 = .ok (.iadd, 1) := by decide +kernel
theorem dX0_note_10 : decode cX0_note 10 = .ok (.iload_n 3, 1) := by decide +kernel
theorem dX0_note_11 : decode cX0_note 11 = .ok (.invokevirtual 72, 3) := by decide +kernel
theorem dX0_note_14 : decode cX0_note 14 = .ok (.return_, 1) := by decide +kernel
set_option maxRecDepth 20000 in
theorem ggX0_addTotal_X4_read : GoodIn wsX0_addTotal wsX4_read := goodIn_r _ [6, 7, 28] (by decide +kernel) (by decide +kernel)
set_option maxRecDepth 20000 in
theorem gX0_addTotal_X4_read : GoodIn wsX0_addTotal (wsV RX0 68 RX4 yX4_read wsX4_read) := goodIn_app (goodIn_of _ (by decide +kernel)) ggX0_addTotal_X4_read
set_option maxRecDepth 20000 in
theorem ggX0_addTotal_X4_write : GoodIn wsX0_addTotal wsX4_write := goodIn_r _ [11, 7, 28] (by decide +kernel) (by decide +kernel)
set_option maxRecDepth 20000 in
theorem gX0_addTotal_X4_write : GoodIn wsX0_addTotal (wsV RX0 72 RX4 yX4_write wsX4_write) := goodIn_app (goodIn_of _ (by decide +kernel)) ggX0_addTotal_X4_write
theorem dX0_addTotal_0 : decode cX0_addTotal 0 = .ok (.aload_n 0, 1) := by decide +kernel
theorem dX0_addTotal_1 : decode cX0_addTotal 1 = .ok (.getfield 57, 3) := by decide +kernel
theorem dX0_addTotal_4 : decode cX0_addTotal 4 = .ok (.iload_n 1, 1) := by decide +kernel
theorem dX0_addTotal_5 : decode cX0_addTotal 5 = .ok (.aload_n 0, 1) := by decide +kernel
theorem dX0_addTotal_6 : decode cX0_addTotal 6 = .ok (.getfield 57, 3) := by decide +kernel
theorem dX0_addTotal_9 : decode cX0_addTotal 9 = .ok (.iload_n 1, 1) := by decide +kernel
theorem dX0_addTotal_10 : decode cX0_addTotal 10 = .ok (.invokevirtual 68, 3) := by decide +kernel
theorem dX0_addTotal_13 : decode cX0_addTotal 13 = .ok (.iload_n 2, 1) := by decide +kernel
theorem dX0_addTotal_14 : decode cX0_addTotal 14 = .ok (.iadd, 1) := by decide +kernel
theorem dX0_addTotal_15 : decode cX0_addTotal 15 = .ok (.invokevirtual 72, 3) := by decide +kernel
theorem dX0_addTotal_18 : decode cX0_addTotal 18 = .ok (.return_, 1) := by decide +kernel
set_option maxRecDepth 20000 in
theorem ggX0_washOrder_X0_clear : GoodIn wsX0_washOrder wsX0_clear := goodIn_r _ [10, 11, 12, 2, 3, 13, 14, 15, 16, 17, 18, 19, 20, 21, 22, 131, 132, 133, 134, 135, 136, 137, 138, 139, 140, 141, 142, 143, 144, 145, 146, 152] (by decide +kernel) (by decide +kernel)
set_option maxRecDepth 20000 in
theorem gX0_washOrder_X0_clear : GoodIn wsX0_washOrder (wsV RX0 76 RX0 yX0_clear wsX0_clear) := goodIn_app (goodIn_of _ (by decide +kernel)) ggX0_washOrder_X0_clear
set_option maxRecDepth 20000 in
theorem ggX0_washOrder_X0_lineUp : GoodIn wsX0_washOrder wsX0_lineUp := goodIn_r _ [26, 1, 27, 28, 29, 30, 20, 31, 22, 32, 33, 34, 35, 36, 37, 38, 39, 40, 41, 42, 43, 44, 45, 46, 47, 48, 49, 50, 51, 52, 53, 54, 55, 56, 57, 58, 59, 60, 61, 62, 63, 9, 64, 65, 11, 66, 67, 68, 69, 70, 71, 72, 73, 13, 74, 75, 76, 77, 3, 131, 132, 133, 134, 135, 136, 137, 138, 139, 140, 141, 142, 143, 144, 145, 146, 147, 148, 149, 150, 151, 152, 153, 154, 155, 156, 157, 158] (by decide +kernel) (by decide +kernel)
set_option maxRecDepth 20000 in
theorem gX0_washOrder_X0_lineUp : GoodIn wsX0_washOrder (wsV RX0 84 RX0 yX0_lineUp wsX0_lineUp) := goodIn_app (goodIn_of _ (by decide +kernel)) ggX0_washOrder_X0_lineUp
set_option maxRecDepth 20000 in
theorem ggX0_washOrder_X4_read : GoodIn wsX0_washOrder wsX4_read := goodIn_r _ [31, 22, 152] (by decide +kernel) (by decide +kernel)
set_option maxRecDepth 20000 in
theorem gX0_washOrder_X4_read : GoodIn wsX0_washOrder (wsV RX0 68 RX4 yX4_read wsX4_read) := goodIn_app (goodIn_of _ (by decide +kernel)) ggX0_washOrder_X4_read
set_option maxRecDepth 20000 in
theorem ggX0_washOrder_X0_doBeat : GoodIn wsX0_washOrder wsX0_doBeat := goodIn_r _ [81, 14, 82, 83, 28, 29, 30, 20, 31, 22, 84, 85, 86, 9, 87, 13, 88, 89, 90, 91, 92, 15, 74, 75, 76, 77, 3, 66, 67, 68, 69, 93, 94, 95, 96, 2, 70, 71, 72, 73, 97, 98, 99, 100, 12, 11, 65, 101, 102, 103, 104, 27, 105, 106, 107, 108, 109, 110, 111, 112, 131, 132, 133, 134, 135, 136, 137, 138, 139, 140, 141, 142, 143, 144, 145, 146, 153, 154, 155, 156, 157, 158, 152] (by decide +kernel) (by decide +kernel)
set_option maxRecDepth 20000 in
theorem gX0_washOrder_X0_doBeat : GoodIn wsX0_washOrder (wsV RX0 88 RX0 yX0_doBeat wsX0_doBeat) := goodIn_app (goodIn_of _ (by decide +kernel)) ggX0_washOrder_X0_doBeat
set_option maxRecDepth 20000 in
theorem ggX0_washOrder_X4_write : GoodIn wsX0_washOrder wsX4_write := goodIn_r _ [69, 22, 152] (by decide +kernel) (by decide +kernel)
set_option maxRecDepth 20000 in
theorem gX0_washOrder_X4_write : GoodIn wsX0_washOrder (wsV RX0 72 RX4 yX4_write wsX4_write) := goodIn_app (goodIn_of _ (by decide +kernel)) ggX0_washOrder_X4_write
set_option maxRecDepth 20000 in
theorem ggX0_washOrder_X0_ironAll : GoodIn wsX0_washOrder wsX0_ironAll := goodIn_r _ [116, 3, 117, 52, 53, 54, 28, 29, 30, 20, 31, 22, 118, 119, 120, 9, 121, 84, 85, 86, 87, 13, 122, 123, 124, 125, 83, 16, 70, 71, 72, 73, 66, 67, 68, 69, 126, 127, 128, 129, 130, 131, 132, 133, 134, 135, 136, 137, 138, 139, 140, 141, 142, 143, 144, 145, 146, 152, 153, 154, 155, 156, 157, 158] (by decide +kernel) (by decide +kernel)
set_option maxRecDepth 20000 in
theorem gX0_washOrder_X0_ironAll : GoodIn wsX0_washOrder (wsV RX0 91 RX0 yX0_ironAll wsX0_ironAll) := goodIn_app (goodIn_of _ (by decide +kernel)) ggX0_washOrder_X0_ironAll
theorem dX0_washOrder_0 : decode cX0_washOrder 0 = .ok (.aload_n 0, 1) := by decide +kernel
theorem dX0_washOrder_1 : decode cX0_washOrder 1 = .ok (.invokevirtual 76, 3) := by decide +kernel
theorem dX0_washOrder_4 : decode cX0_washOrder 4 = .ok (.iconst 0, 1) := by decide +kernel
theorem dX0_washOrder_5 : decode cX0_washOrder 5 = .ok (.istore_n 1, 1) := by decide +kernel
theorem dX0_washOrder_6 : decode cX0_washOrder 6 = .ok (.iload_n 1, 1) := by decide +kernel
theorem dX0_washOrder_7 : decode cX0_washOrder 7 = .ok (.aload_n 0, 1) := by decide +kernel
theorem dX0_washOrder_8 : decode cX0_washOrder 8 = .ok (.getfield 64, 3) := by decide +kernel
theorem dX0_washOrder_11 : decode cX0_washOrder 11 = .ok (.getfield 79, 3) := by decide +kernel
theorem dX0_washOrder_14 : decode cX0_washOrder 14 = .ok (.if_icmp .ge 14, 3) := by decide +kernel
theorem dX0_washOrder_17 : decode cX0_washOrder 17 = .ok (.aload_n 0, 1) := by decide +kernel
theorem dX0_washOrder_18 : decode cX0_washOrder 18 = .ok (.iload_n 1, 1) := by decide +kernel
theorem dX0_washOrder_19 : decode cX0_washOrder 19 = .ok (.invokevirtual 84, 3) := by decide +kernel
theorem dX0_washOrder_22 : decode cX0_washOrder 22 = .ok (.iinc 1 1, 3) := by decide +kernel
theorem dX0_washOrder_25 : decode cX0_washOrder 25 = .ok (.goto (-19), 3) := by decide +kernel
theorem dX0_washOrder_28 : decode cX0_washOrder 28 = .ok (.iconst 0, 1) := by decide +kernel
theorem dX0_washOrder_29 : decode cX0_washOrder 29 = .ok (.istore_n 1, 1) := by decide +kernel
theorem dX0_washOrder_30 : decode cX0_washOrder 30 = .ok (.aload_n 0, 1) := by decide +kernel
theorem dX0_washOrder_31 : decode cX0_washOrder 31 = .ok (.getfield 30, 3) := by decide +kernel
theorem dX0_washOrder_34 : decode cX0_washOrder 34 = .ok (.aload_n 0, 1) := by decide +kernel
theorem dX0_washOrder_35 : decode cX0_washOrder 35 = .ok (.getfield 57, 3) := by decide +kernel
theorem dX0_washOrder_38 : decode cX0_washOrder 38 = .ok (.iconst 5, 1) := by decide +kernel
theorem dX0_washOrder_39 : decode cX0_washOrder 39 = .ok (.invokevirtual 68, 3) := by decide +kernel
theorem dX0_washOrder_42 : decode cX0_washOrder 42 = .ok (.if_icmp .ge 20, 3) := by decide +kernel
theorem dX0_washOrder_45 : decode cX0_washOrder 45 = .ok (.iload_n 1, 1) := by decide +kernel
theorem dX0_washOrder_46 : decode cX0_washOrder 46 = .ok (.ldc 87, 2) := by decide +kernel
theorem dX0_washOrder_48 : decode cX0_washOrder 48 = .ok (.if_icmp .ge 14, 3) := by decide +kernel
theorem dX0_washOrder_51 : decode cX0_washOrder 51 = .ok (.iinc 1 1, 3) := by decide +kernel
theorem dX0_washOrder_54 : decode cX0_washOrder 54 = .ok (.aload_n 0, 1) := by decide +kernel
theorem dX0_washOrder_55 : decode cX0_washOrder 55 = .ok (.iload_n 1, 1) := by decide +kernel
theorem dX0_washOrder_56 : decode cX0_washOrder 56 = .ok (.invokevirtual 88, 3) := by decide +kernel
theorem dX0_washOrder_59 : decode cX0_washOrder 59 = .ok (.goto (-29), 3) := by decide +kernel
theorem dX0_washOrder_62 : decode cX0_washOrder 62 = .ok (.aload_n 0, 1) := by decide +kernel
theorem dX0_washOrder_63 : decode cX0_washOrder 63 = .ok (.getfield 57, 3) := by decide +kernel
theorem dX0_washOrder_66 : decode cX0_washOrder 66 = .ok (.iconst 0, 1) := by decide +kernel
theorem dX0_washOrder_67 : decode cX0_washOrder 67 = .ok (.iload_n 1, 1) := by decide +kernel
theorem dX0_washOrder_68 : decode cX0_washOrder 68 = .ok (.invokevirtual 72, 3) := by decide +kernel
theorem dX0_washOrder_71 : decode cX0_washOrder 71 = .ok (.aload_n 0, 1) := by decide +kernel
theorem dX0_washOrder_72 : decode cX0_washOrder 72 = .ok (.invokevirtual 91, 3) := by decide +kernel
theorem dX0_washOrder_75 : decode cX0_washOrder 75 = .ok (.aload_n 0, 1) := by decide +kernel
theorem dX0_washOrder_76 : decode cX0_washOrder 76 = .ok (.dup, 1) := by decide +kernel
theorem dX0_washOrder_77 : decode cX0_washOrder 77 = .ok (.getfield 21, 3) := by decide +kernel
theorem dX0_washOrder_80 : decode cX0_washOrder 80 = .ok (.iconst 1, 1) := by decide +kernel
theorem dX0_washOrder_81 : decode cX0_washOrder 81 = .ok (.iadd, 1) := by decide +kernel
theorem dX0_washOrder_82 : decode cX0_washOrder 82 = .ok (.putfield 21, 3) := by decide +kernel
theorem dX0_washOrder_85 : decode cX0_washOrder 85 = .ok (.iload_n 1, 1) := by decide +kernel
theorem dX0_washOrder_86 : decode cX0_washOrder 86 = .ok (.ireturn, 1) := by decide +kernel
set_option maxRecDepth 20000 in
theorem ggX0_clear_X4_fill : GoodIn wsX0_clear wsX4_fill := goodIn_r _ [13, 14, 31] (by decide +kernel) (by decide +kernel)
set_option maxRecDepth 20000 in
theorem gX0_clear_X4_fill : GoodIn wsX0_clear (wsV RX0 94 RX4 yX4_fill wsX4_fill) := goodIn_app (goodIn_of _ (by decide +kernel)) ggX0_clear_X4_fill
theorem dX0_clear_0 : decode cX0_clear 0 = .ok (.aload_n 0, 1) := by decide +kernel
theorem dX0_clear_1 : decode cX0_clear 1 = .ok (.iconst 0, 1) := by decide +kernel
theorem dX0_clear_2 : decode cX0_clear 2 = .ok (.putfield 24, 3) := by decide +kernel
theorem dX0_clear_5 : decode cX0_clear 5 = .ok (.aload_n 0, 1) := by decide +kernel
theorem dX0_clear_6 : decode cX0_clear 6 = .ok (.iconst 0, 1) := by decide +kernel
theorem dX0_clear_7 : decode cX0_clear 7 = .ok (.putfield 27, 3) := by decide +kernel
theorem dX0_clear_10 : decode cX0_clear 10 = .ok (.aload_n 0, 1) := by decide +kernel
theorem dX0_clear_11 : decode cX0_clear 11 = .ok (.iconst 0, 1) := by decide +kernel
theorem dX0_clear_12 : decode cX0_clear 12 = .ok (.putfield 30, 3) := by decide +kernel
theorem dX0_clear_15 : decode cX0_clear 15 = .ok (.aload_n 0, 1) := by decide +kernel
theorem dX0_clear_16 : decode cX0_clear 16 = .ok (.getfield 57, 3) := by decide +kernel
theorem dX0_clear_19 : decode cX0_clear 19 = .ok (.iconst 0, 1) := by decide +kernel
theorem dX0_clear_20 : decode cX0_clear 20 = .ok (.invokevirtual 94, 3) := by decide +kernel
theorem dX0_clear_23 : decode cX0_clear 23 = .ok (.aload_n 0, 1) := by decide +kernel
theorem dX0_clear_24 : decode cX0_clear 24 = .ok (.getfield 54, 3) := by decide +kernel
theorem dX0_clear_27 : decode cX0_clear 27 = .ok (.iconst (-1), 1) := by decide +kernel
theorem dX0_clear_28 : decode cX0_clear 28 = .ok (.invokevirtual 94, 3) := by decide +kernel
theorem dX0_clear_31 : decode cX0_clear 31 = .ok (.aload_n 0, 1) := by decide +kernel
theorem dX0_clear_32 : decode cX0_clear 32 = .ok (.getfield 42, 3) := by decide +kernel
theorem dX0_clear_35 : decode cX0_clear 35 = .ok (.iconst (-1), 1) := by decide +kernel
theorem dX0_clear_36 : decode cX0_clear 36 = .ok (.invokevirtual 94, 3) := by decide +kernel
theorem dX0_clear_39 : decode cX0_clear 39 = .ok (.aload_n 0, 1) := by decide +kernel
theorem dX0_clear_40 : decode cX0_clear 40 = .ok (.getfield 45, 3) := by decide +kernel
theorem dX0_clear_43 : decode cX0_clear 43 = .ok (.iconst 0, 1) := by decide +kernel
theorem dX0_clear_44 : decode cX0_clear 44 = .ok (.invokevirtual 94, 3) := by decide +kernel
theorem dX0_clear_47 : decode cX0_clear 47 = .ok (.aload_n 0, 1) := by decide +kernel
theorem dX0_clear_48 : decode cX0_clear 48 = .ok (.getfield 48, 3) := by decide +kernel
theorem dX0_clear_51 : decode cX0_clear 51 = .ok (.iconst 0, 1) := by decide +kernel
theorem dX0_clear_52 : decode cX0_clear 52 = .ok (.invokevirtual 94, 3) := by decide +kernel
theorem dX0_clear_55 : decode cX0_clear 55 = .ok (.return_, 1) := by decide +kernel
set_option maxRecDepth 20000 in
theorem ggX0_lineUp_X4_read : GoodIn wsX0_lineUp wsX4_read := goodIn_r _ [7, 8, 80] (by decide +kernel) (by decide +kernel)
set_option maxRecDepth 20000 in
theorem gX0_lineUp_X4_read : GoodIn wsX0_lineUp (wsV RX0 68 RX4 yX4_read wsX4_read) := goodIn_app (goodIn_of _ (by decide +kernel)) ggX0_lineUp_X4_read
set_option maxRecDepth 20000 in
theorem ggX0_lineUp_X6_gapAhead : GoodIn wsX0_lineUp wsX6_gapAhead := goodIn_r _ [13, 14, 15, 4, 5, 6, 7, 8, 16, 17, 18, 12, 19, 20, 21, 22, 23, 24, 25, 26, 27, 28, 29, 30, 31, 32, 33, 34, 35, 36, 37, 75, 76, 77, 78, 79, 80, 81, 82, 83, 84, 85, 86] (by decide +kernel) (by decide +kernel)
set_option maxRecDepth 20000 in
theorem gX0_lineUp_X6_gapAhead : GoodIn wsX0_lineUp (wsV RX0 101 RX6 yX6_gapAhead wsX6_gapAhead) := goodIn_app (goodIn_of _ (by decide +kernel)) ggX0_lineUp_X6_gapAhead
set_option maxRecDepth 20000 in
theorem ggX0_lineUp_X0_addSlot : GoodIn wsX0_lineUp wsX0_addSlot := goodIn_r _ [42, 43, 44, 45, 46, 47, 6, 48, 8, 59, 60, 61, 62, 63, 64, 65, 66, 67, 68, 69, 70, 71, 72, 73, 74, 80] (by decide +kernel) (by decide +kernel)
set_option maxRecDepth 20000 in
theorem gX0_lineUp_X0_addSlot : GoodIn wsX0_lineUp (wsV RX0 104 RX0 yX0_addSlot wsX0_addSlot) := goodIn_app (goodIn_of _ (by decide +kernel)) ggX0_lineUp_X0_addSlot
set_option maxRecDepth 20000 in
theorem ggX0_lineUp_X0_note : GoodIn wsX0_lineUp wsX0_note := goodIn_r _ [52, 53, 45, 46, 47, 6, 48, 8, 59, 60, 61, 62, 63, 64, 65, 66, 67, 68, 69, 70, 71, 72, 73, 74, 80] (by decide +kernel) (by decide +kernel)
set_option maxRecDepth 20000 in
theorem gX0_lineUp_X0_note : GoodIn wsX0_lineUp (wsV RX0 110 RX0 yX0_note wsX0_note) := goodIn_app (goodIn_of _ (by decide +kernel)) ggX0_lineUp_X0_note
set_option maxRecDepth 20000 in
theorem ggX0_lineUp_X4_write : GoodIn wsX0_lineUp wsX4_write := goodIn_r _ [48, 8, 80] (by decide +kernel) (by decide +kernel)
set_option maxRecDepth 20000 in
theorem gX0_lineUp_X4_write : GoodIn wsX0_lineUp (wsV RX0 72 RX4 yX4_write wsX4_write) := goodIn_app (goodIn_of _ (by decide +kernel)) ggX0_lineUp_X4_write
set_option maxRecDepth 20000 in
theorem ggX0_lineUp_X0_addTotal : GoodIn wsX0_lineUp wsX0_addTotal := goodIn_r _ [57, 58, 3, 4, 5, 6, 7, 8, 45, 46, 47, 48, 59, 60, 61, 62, 63, 64, 65, 66, 67, 68, 69, 70, 71, 72, 73, 74, 80] (by decide +kernel) (by decide +kernel)
set_option maxRecDepth 20000 in
theorem gX0_lineUp_X0_addTotal : GoodIn wsX0_lineUp (wsV RX0 114 RX0 yX0_addTotal wsX0_addTotal) := goodIn_app (goodIn_of _ (by decide +kernel)) ggX0_lineUp_X0_addTotal
theorem dX0_lineUp_0 : decode cX0_lineUp 0 = .ok (.aload_n 0, 1) := by decide +kernel
theorem dX0_lineUp_1 : decode cX0_lineUp 1 = .ok (.getfield 64, 3) := by decide +kernel
theorem dX0_lineUp_4 : decode cX0_lineUp 4 = .ok (.getfield 97, 3) := by decide +kernel
theorem dX0_lineUp_7 : decode cX0_lineUp 7 = .ok (.iload_n 1, 1) := by decide +kernel
theorem dX0_lineUp_8 : decode cX0_lineUp 8 = .ok (.invokevirtual 68, 3) := by decide +kernel
theorem dX0_lineUp_11 : decode cX0_lineUp 11 = .ok (.istore_n 2, 1) := by decide +kernel
theorem dX0_lineUp_12 : decode cX0_lineUp 12 = .ok (.aload_n 0, 1) := by decide +kernel
theorem dX0_lineUp_13 : decode cX0_lineUp 13 = .ok (.getfield 64, 3) := by decide +kernel
theorem dX0_lineUp_16 : decode cX0_lineUp 16 = .ok (.getfield 100, 3) := by decide +kernel
theorem dX0_lineUp_19 : decode cX0_lineUp 19 = .ok (.iload_n 2, 1) := by decide +kernel
theorem dX0_lineUp_20 : decode cX0_lineUp 20 = .ok (.invokevirtual 68, 3) := by decide +kernel
theorem dX0_lineUp_23 : decode cX0_lineUp 23 = .ok (.istore_n 3, 1) := by decide +kernel
theorem dX0_lineUp_24 : decode cX0_lineUp 24 = .ok (.aload_n 0, 1) := by decide +kernel
theorem dX0_lineUp_25 : decode cX0_lineUp 25 = .ok (.getfield 64, 3) := by decide +kernel
theorem dX0_lineUp_28 : decode cX0_lineUp 28 = .ok (.iload_n 1, 1) := by decide +kernel
theorem dX0_lineUp_29 : decode cX0_lineUp 29 = .ok (.invokevirtual 101, 3) := by decide +kernel
theorem dX0_lineUp_32 : decode cX0_lineUp 32 = .ok (.istore 4, 2) := by decide +kernel
theorem dX0_lineUp_34 : decode cX0_lineUp 34 = .ok (.iconst 0, 1) := by decide +kernel
theorem dX0_lineUp_35 : decode cX0_lineUp 35 = .ok (.istore 5, 2) := by decide +kernel
theorem dX0_lineUp_37 : decode cX0_lineUp 37 = .ok (.iload 5, 2) := by decide +kernel
theorem dX0_lineUp_39 : decode cX0_lineUp 39 = .ok (.iload 4, 2) := by decide +kernel
theorem dX0_lineUp_41 : decode cX0_lineUp 41 = .ok (.if_icmp .ge 14, 3) := by decide +kernel
theorem dX0_lineUp_44 : decode cX0_lineUp 44 = .ok (.aload_n 0, 1) := by decide +kernel
theorem dX0_lineUp_45 : decode cX0_lineUp 45 = .ok (.iconst (-1), 1) := by decide +kernel
theorem dX0_lineUp_46 : decode cX0_lineUp 46 = .ok (.invokevirtual 104, 3) := by decide +kernel
theorem dX0_lineUp_49 : decode cX0_lineUp 49 = .ok (.iinc 5 1, 3) := by decide +kernel
theorem dX0_lineUp_52 : decode cX0_lineUp 52 = .ok (.goto (-15), 3) := by decide +kernel
theorem dX0_lineUp_55 : decode cX0_lineUp 55 = .ok (.aload_n 0, 1) := by decide +kernel
theorem dX0_lineUp_56 : decode cX0_lineUp 56 = .ok (.iload_n 1, 1) := by decide +kernel
theorem dX0_lineUp_57 : decode cX0_lineUp 57 = .ok (.invokevirtual 104, 3) := by decide +kernel
theorem dX0_lineUp_60 : decode cX0_lineUp 60 = .ok (.aload_n 0, 1) := by decide +kernel
theorem dX0_lineUp_61 : decode cX0_lineUp 61 = .ok (.iload_n 1, 1) := by decide +kernel
theorem dX0_lineUp_62 : decode cX0_lineUp 62 = .ok (.iconst 0, 1) := by decide +kernel
theorem dX0_lineUp_63 : decode cX0_lineUp 63 = .ok (.aload_n 0, 1) := by decide +kernel
theorem dX0_lineUp_64 : decode cX0_lineUp 64 = .ok (.getfield 64, 3) := by decide +kernel
theorem dX0_lineUp_67 : decode cX0_lineUp 67 = .ok (.getfield 107, 3) := by decide +kernel
theorem dX0_lineUp_70 : decode cX0_lineUp 70 = .ok (.iload_n 2, 1) := by decide +kernel
theorem dX0_lineUp_71 : decode cX0_lineUp 71 = .ok (.invokevirtual 68, 3) := by decide +kernel
theorem dX0_lineUp_74 : decode cX0_lineUp 74 = .ok (.invokevirtual 110, 3) := by decide +kernel
theorem dX0_lineUp_77 : decode cX0_lineUp 77 = .ok (.aload_n 0, 1) := by decide +kernel
theorem dX0_lineUp_78 : decode cX0_lineUp 78 = .ok (.getfield 51, 3) := by decide +kernel
theorem dX0_lineUp_81 : decode cX0_lineUp 81 = .ok (.iload_n 1, 1) := by decide +kernel
theorem dX0_lineUp_82 : decode cX0_lineUp 82 = .ok (.iload_n 3, 1) := by decide +kernel
theorem dX0_lineUp_83 : decode cX0_lineUp 83 = .ok (.invokevirtual 72, 3) := by decide +kernel
theorem dX0_lineUp_86 : decode cX0_lineUp 86 = .ok (.aload_n 0, 1) := by decide +kernel
theorem dX0_lineUp_87 : decode cX0_lineUp 87 = .ok (.iconst 1, 1) := by decide +kernel
theorem dX0_lineUp_88 : decode cX0_lineUp 88 = .ok (.iload 4, 2) := by decide +kernel
theorem dX0_lineUp_90 : decode cX0_lineUp 90 = .ok (.invokevirtual 114, 3) := by decide +kernel
theorem dX0_lineUp_93 : decode cX0_lineUp 93 = .ok (.aload_n 0, 1) := by decide +kernel
theorem dX0_lineUp_94 : decode cX0_lineUp 94 = .ok (.iconst 5, 1) := by decide +kernel
theorem dX0_lineUp_95 : decode cX0_lineUp 95 = .ok (.iconst 1, 1) := by decide +kernel
theorem dX0_lineUp_96 : decode cX0_lineUp 96 = .ok (.invokevirtual 114, 3) := by decide +kernel
theorem dX0_lineUp_99 : decode cX0_lineUp 99 = .ok (.aload_n 0, 1) := by decide +kernel
theorem dX0_lineUp_100 : decode cX0_lineUp 100 = .ok (.bipush 6, 2) := by decide +kernel
theorem dX0_lineUp_102 : decode cX0_lineUp 102 = .ok (.iload_n 3, 1) := by decide +kernel
theorem dX0_lineUp_103 : decode cX0_lineUp 103 = .ok (.invokevirtual 114, 3) := by decide +kernel
theorem dX0_lineUp_106 : decode cX0_lineUp 106 = .ok (.return_, 1) := by decide +kernel
set_option maxRecDepth 20000 in
theorem ggX0_addSlot_X4_write : GoodIn wsX0_addSlot wsX4_write := goodIn_r _ [7, 8, 25] (by decide +kernel) (by decide +kernel)
set_option maxRecDepth 20000 in
theorem gX0_addSlot_X4_write : GoodIn wsX0_addSlot (wsV RX0 72 RX4 yX4_write wsX4_write) := goodIn_app (goodIn_of _ (by decide +kernel)) ggX0_addSlot_X4_write
theorem dX0_addSlot_0 : decode cX0_addSlot 0 = .ok (.aload_n 0, 1) := by decide +kernel
theorem dX0_addSlot_1 : decode cX0_addSlot 1 = .ok (.getfield 38, 3) := by decide +kernel
theorem dX0_addSlot_4 : decode cX0_addSlot 4 = .ok (.aload_n 0, 1) := by decide +kernel
theorem dX0_addSlot_5 : decode cX0_addSlot 5 = .ok (.getfield 24, 3) := by decide +kernel
theorem dX0_addSlot_8 : decode cX0_addSlot 8 = .ok (.iload_n 1, 1) := by decide +kernel
theorem dX0_addSlot_9 : decode cX0_addSlot 9 = .ok (.invokevirtual 72, 3) := by decide +kernel
theorem dX0_addSlot_12 : decode cX0_addSlot 12 = .ok (.aload_n 0, 1) := by decide +kernel
theorem dX0_addSlot_13 : decode cX0_addSlot 13 = .ok (.dup, 1) := by decide +kernel
theorem dX0_addSlot_14 : decode cX0_addSlot 14 = .ok (.getfield 24, 3) := by decide +kernel
theorem dX0_addSlot_17 : decode cX0_addSlot 17 = .ok (.iconst 1, 1) := by decide +kernel
theorem dX0_addSlot_18 : decode cX0_addSlot 18 = .ok (.iadd, 1) := by decide +kernel
theorem dX0_addSlot_19 : decode cX0_addSlot 19 = .ok (.putfield 24, 3) := by decide +kernel
theorem dX0_addSlot_22 : decode cX0_addSlot 22 = .ok (.return_, 1) := by decide +kernel
set_option maxRecDepth 20000 in
theorem ggX0_doBeat_X4_read : GoodIn wsX0_doBeat wsX4_read := goodIn_r _ [8, 9, 82] (by decide +kernel) (by decide +kernel)
set_option maxRecDepth 20000 in
theorem gX0_doBeat_X4_read : GoodIn wsX0_doBeat (wsV RX0 68 RX4 yX4_read wsX4_read) := goodIn_app (goodIn_of _ (by decide +kernel)) ggX0_doBeat_X4_read
set_option maxRecDepth 20000 in
theorem ggX0_doBeat_X0_fact : GoodIn wsX0_doBeat wsX0_fact := goodIn_r _ [14, 15, 4, 5, 6, 7, 8, 9, 60, 61, 62, 63, 64, 65, 66, 67, 68, 69, 70, 71, 72, 73, 74, 75, 82] (by decide +kernel) (by decide +kernel)
set_option maxRecDepth 20000 in
theorem gX0_doBeat_X0_fact : GoodIn wsX0_doBeat (wsV RX0 122 RX0 yX0_fact wsX0_fact) := goodIn_app (goodIn_of _ (by decide +kernel)) ggX0_doBeat_X0_fact
set_option maxRecDepth 20000 in
theorem ggX0_doBeat_X0_freeDryer : GoodIn wsX0_doBeat wsX0_freeDryer := goodIn_r _ [19, 20, 21, 4, 5, 6, 7, 8, 9, 60, 61, 62, 63, 64, 65, 66, 67, 68, 69, 70, 71, 72, 73, 74, 75, 82] (by decide +kernel) (by decide +kernel)
set_option maxRecDepth 20000 in
theorem gX0_doBeat_X0_freeDryer : GoodIn wsX0_doBeat (wsV RX0 126 RX0 yX0_freeDryer wsX0_freeDryer) := goodIn_app (goodIn_of _ (by decide +kernel)) ggX0_doBeat_X0_freeDryer
set_option maxRecDepth 20000 in
theorem ggX0_doBeat_X0_addTotal : GoodIn wsX0_doBeat wsX0_addTotal := goodIn_r _ [25, 26, 4, 5, 6, 7, 8, 9, 27, 28, 29, 30, 60, 61, 62, 63, 64, 65, 66, 67, 68, 69, 70, 71, 72, 73, 74, 75, 82] (by decide +kernel) (by decide +kernel)
set_option maxRecDepth 20000 in
theorem gX0_doBeat_X0_addTotal : GoodIn wsX0_doBeat (wsV RX0 114 RX0 yX0_addTotal wsX0_addTotal) := goodIn_app (goodIn_of _ (by decide +kernel)) ggX0_doBeat_X0_addTotal
set_option maxRecDepth 20000 in
theorem ggX0_doBeat_X0_goOut : GoodIn wsX0_doBeat wsX0_goOut := goodIn_r _ [34, 35, 21, 36, 37, 38, 13, 39, 15, 27, 28, 29, 7, 30, 9, 60, 61, 62, 63, 64, 65, 66, 67, 68, 69, 70, 71, 72, 73, 74, 75, 82] (by decide +kernel) (by decide +kernel)
set_option maxRecDepth 20000 in
theorem gX0_doBeat_X0_goOut : GoodIn wsX0_doBeat (wsV RX0 129 RX0 yX0_goOut wsX0_goOut) := goodIn_app (goodIn_of _ (by decide +kernel)) ggX0_doBeat_X0_goOut
set_option maxRecDepth 20000 in
theorem ggX0_doBeat_X0_moveOn : GoodIn wsX0_doBeat wsX0_moveOn := goodIn_r _ [43, 2, 1, 44, 45, 46, 4, 5, 6, 7, 8, 9, 27, 28, 29, 30, 36, 37, 38, 13, 39, 15, 60, 61, 62, 63, 64, 65, 66, 67, 68, 69, 70, 71, 72, 73, 74, 75, 82] (by decide +kernel) (by decide +kernel)
set_option maxRecDepth 20000 in
theorem gX0_doBeat_X0_moveOn : GoodIn wsX0_doBeat (wsV RX0 133 RX0 yX0_moveOn wsX0_moveOn) := goodIn_app (goodIn_of _ (by decide +kernel)) ggX0_doBeat_X0_moveOn
set_option maxRecDepth 20000 in
theorem ggX0_doBeat_X0_waterOfBeat : GoodIn wsX0_doBeat wsX0_waterOfBeat := goodIn_r _ [50, 2, 1, 51, 4, 5, 6, 7, 8, 9, 52, 53, 54, 13, 55, 56, 57, 58, 59, 3, 10, 11, 12, 14, 15, 60, 61, 62, 63, 64, 65, 66, 67, 68, 69, 70, 71, 72, 73, 74, 75, 82, 76, 77, 78, 79, 80, 81] (by decide +kernel) (by decide +kernel)
set_option maxRecDepth 20000 in
theorem gX0_doBeat_X0_waterOfBeat : GoodIn wsX0_doBeat (wsV RX0 136 RX0 yX0_waterOfBeat wsX0_waterOfBeat) := goodIn_app (goodIn_of _ (by decide +kernel)) ggX0_doBeat_X0_waterOfBeat
theorem dX0_doBeat_0 : decode cX0_doBeat 0 = .ok (.aload_n 0, 1) := by decide +kernel
theorem dX0_doBeat_1 : decode cX0_doBeat 1 = .ok (.getfield 42, 3) := by decide +kernel
theorem dX0_doBeat_4 : decode cX0_doBeat 4 = .ok (.aload_n 0, 1) := by decide +kernel
theorem dX0_doBeat_5 : decode cX0_doBeat 5 = .ok (.getfield 9, 3) := by decide +kernel
theorem dX0_doBeat_8 : decode cX0_doBeat 8 = .ok (.iconst 1, 1) := by decide +kernel
theorem dX0_doBeat_9 : decode cX0_doBeat 9 = .ok (.isub, 1) := by decide +kernel
theorem dX0_doBeat_10 : decode cX0_doBeat 10 = .ok (.invokevirtual 68, 3) := by decide +kernel
theorem dX0_doBeat_13 : decode cX0_doBeat 13 = .ok (.istore_n 2, 1) := by decide +kernel
theorem dX0_doBeat_14 : decode cX0_doBeat 14 = .ok (.iload_n 2, 1) := by decide +kernel
theorem dX0_doBeat_15 : decode cX0_doBeat 15 = .ok (.iconst (-1), 1) := by decide +kernel
theorem dX0_doBeat_16 : decode cX0_doBeat 16 = .ok (.if_icmp .eq 53, 3) := by decide +kernel
theorem dX0_doBeat_19 : decode cX0_doBeat 19 = .ok (.aload_n 0, 1) := by decide +kernel
theorem dX0_doBeat_20 : decode cX0_doBeat 20 = .ok (.getfield 60, 3) := by decide +kernel
theorem dX0_doBeat_23 : decode cX0_doBeat 23 = .ok (.getfield 117, 3) := by decide +kernel
theorem dX0_doBeat_26 : decode cX0_doBeat 26 = .ok (.aload_n 0, 1) := by decide +kernel
theorem dX0_doBeat_27 : decode cX0_doBeat 27 = .ok (.iload_n 2, 1) := by decide +kernel
theorem dX0_doBeat_28 : decode cX0_doBeat 28 = .ok (.iconst 0, 1) := by decide +kernel
theorem dX0_doBeat_29 : decode cX0_doBeat 29 = .ok (.invokevirtual 122, 3) := by decide +kernel
theorem dX0_doBeat_32 : decode cX0_doBeat 32 = .ok (.invokevirtual 68, 3) := by decide +kernel
theorem dX0_doBeat_35 : decode cX0_doBeat 35 = .ok (.istore_n 3, 1) := by decide +kernel
theorem dX0_doBeat_36 : decode cX0_doBeat 36 = .ok (.aload_n 0, 1) := by decide +kernel
theorem dX0_doBeat_37 : decode cX0_doBeat 37 = .ok (.iload_n 1, 1) := by decide +kernel
theorem dX0_doBeat_38 : decode cX0_doBeat 38 = .ok (.invokevirtual 126, 3) := by decide +kernel
theorem dX0_doBeat_41 : decode cX0_doBeat 41 = .ok (.istore 4, 2) := by decide +kernel
theorem dX0_doBeat_43 : decode cX0_doBeat 43 = .ok (.iload_n 3, 1) := by decide +kernel
theorem dX0_doBeat_44 : decode cX0_doBeat 44 = .ok (.ifCond .le 16, 3) := by decide +kernel
theorem dX0_doBeat_47 : decode cX0_doBeat 47 = .ok (.iload 4, 2) := by decide +kernel
theorem dX0_doBeat_49 : decode cX0_doBeat 49 = .ok (.iconst (-1), 1) := by decide +kernel
theorem dX0_doBeat_50 : decode cX0_doBeat 50 = .ok (.if_icmp .ne 10, 3) := by decide +kernel
theorem dX0_doBeat_53 : decode cX0_doBeat 53 = .ok (.aload_n 0, 1) := by decide +kernel
theorem dX0_doBeat_54 : decode cX0_doBeat 54 = .ok (.iconst 2, 1) := by decide +kernel
theorem dX0_doBeat_55 : decode cX0_doBeat 55 = .ok (.iconst 1, 1) := by decide +kernel
theorem dX0_doBeat_56 : decode cX0_doBeat 56 = .ok (.invokevirtual 114, 3) := by decide +kernel
theorem dX0_doBeat_59 : decode cX0_doBeat 59 = .ok (.return_, 1) := by decide +kernel
theorem dX0_doBeat_60 : decode cX0_doBeat 60 = .ok (.aload_n 0, 1) := by decide +kernel
theorem dX0_doBeat_61 : decode cX0_doBeat 61 = .ok (.iload_n 2, 1) := by decide +kernel
theorem dX0_doBeat_62 : decode cX0_doBeat 62 = .ok (.iload_n 1, 1) := by decide +kernel
theorem dX0_doBeat_63 : decode cX0_doBeat 63 = .ok (.iload_n 3, 1) := by decide +kernel
theorem dX0_doBeat_64 : decode cX0_doBeat 64 = .ok (.iload 4, 2) := by decide +kernel
theorem dX0_doBeat_66 : decode cX0_doBeat 66 = .ok (.invokevirtual 129, 3) := by decide +kernel
theorem dX0_doBeat_69 : decode cX0_doBeat 69 = .ok (.aload_n 0, 1) := by decide +kernel
theorem dX0_doBeat_70 : decode cX0_doBeat 70 = .ok (.iload_n 1, 1) := by decide +kernel
theorem dX0_doBeat_71 : decode cX0_doBeat 71 = .ok (.invokevirtual 133, 3) := by decide +kernel
theorem dX0_doBeat_74 : decode cX0_doBeat 74 = .ok (.aload_n 0, 1) := by decide +kernel
theorem dX0_doBeat_75 : decode cX0_doBeat 75 = .ok (.iconst 3, 1) := by decide +kernel
theorem dX0_doBeat_76 : decode cX0_doBeat 76 = .ok (.aload_n 0, 1) := by decide +kernel
theorem dX0_doBeat_77 : decode cX0_doBeat 77 = .ok (.invokevirtual 136, 3) := by decide +kernel
theorem dX0_doBeat_80 : decode cX0_doBeat 80 = .ok (.invokevirtual 114, 3) := by decide +kernel
theorem dX0_doBeat_83 : decode cX0_doBeat 83 = .ok (.return_, 1) := by decide +kernel
set_option maxRecDepth 20000 in
theorem ggX0_freeDryer_X4_read : GoodIn wsX0_freeDryer wsX4_read := goodIn_r _ [7, 8, 25] (by decide +kernel) (by decide +kernel)
set_option maxRecDepth 20000 in
theorem gX0_freeDryer_X4_read : GoodIn wsX0_freeDryer (wsV RX0 68 RX4 yX4_read wsX4_read) := goodIn_app (goodIn_of _ (by decide +kernel)) ggX0_freeDryer_X4_read
theorem dX0_freeDryer_0 : decode cX0_freeDryer 0 = .ok (.iconst 0, 1) := by decide +kernel
theorem dX0_freeDryer_1 : decode cX0_freeDryer 1 = .ok (.istore_n 2, 1) := by decide +kernel
theorem dX0_freeDryer_2 : decode cX0_freeDryer 2 = .ok (.iload_n 2, 1) := by decide +kernel
theorem dX0_freeDryer_3 : decode cX0_freeDryer 3 = .ok (.aload_n 0, 1) := by decide +kernel
theorem dX0_freeDryer_4 : decode cX0_freeDryer 4 = .ok (.getfield 15, 3) := by decide +kernel
theorem dX0_freeDryer_7 : decode cX0_freeDryer 7 = .ok (.if_icmp .ge 23, 3) := by decide +kernel
theorem dX0_freeDryer_10 : decode cX0_freeDryer 10 = .ok (.aload_n 0, 1) := by decide +kernel
theorem dX0_freeDryer_11 : decode cX0_freeDryer 11 = .ok (.getfield 45, 3) := by decide +kernel
theorem dX0_freeDryer_14 : decode cX0_freeDryer 14 = .ok (.iload_n 2, 1) := by decide +kernel
theorem dX0_freeDryer_15 : decode cX0_freeDryer 15 = .ok (.invokevirtual 68, 3) := by decide +kernel
theorem dX0_freeDryer_18 : decode cX0_freeDryer 18 = .ok (.iload_n 1, 1) := by decide +kernel
theorem dX0_freeDryer_19 : decode cX0_freeDryer 19 = .ok (.if_icmp .gt 5, 3) := by decide +kernel
theorem dX0_freeDryer_22 : decode cX0_freeDryer 22 = .ok (.iload_n 2, 1) := by decide +kernel
theorem dX0_freeDryer_23 : decode cX0_freeDryer 23 = .ok (.ireturn, 1) := by decide +kernel
theorem dX0_freeDryer_24 : decode cX0_freeDryer 24 = .ok (.iinc 2 1, 3) := by decide +kernel
theorem dX0_freeDryer_27 : decode cX0_freeDryer 27 = .ok (.goto (-25), 3) := by decide +kernel
theorem dX0_freeDryer_30 : decode cX0_freeDryer 30 = .ok (.iconst (-1), 1) := by decide +kernel
theorem dX0_freeDryer_31 : decode cX0_freeDryer 31 = .ok (.ireturn, 1) := by decide +kernel
set_option maxRecDepth 20000 in
theorem ggX0_goOut_X0_note : GoodIn wsX0_goOut wsX0_note := goodIn_r _ [7, 8, 9, 10, 11, 12, 13, 14, 15, 16, 17, 18, 19, 20, 21, 22, 23, 24, 25, 26, 27, 28, 29, 30, 31] (by decide +kernel) (by decide +kernel)
set_option maxRecDepth 20000 in
theorem gX0_goOut_X0_note : GoodIn wsX0_goOut (wsV RX0 110 RX0 yX0_note wsX0_note) := goodIn_app (goodIn_of _ (by decide +kernel)) ggX0_goOut_X0_note
set_option maxRecDepth 20000 in
theorem ggX0_goOut_X4_write : GoodIn wsX0_goOut wsX4_write := goodIn_r _ [13, 14, 31] (by decide +kernel) (by decide +kernel)
set_option maxRecDepth 20000 in
theorem gX0_goOut_X4_write : GoodIn wsX0_goOut (wsV RX0 72 RX4 yX4_write wsX4_write) := goodIn_app (goodIn_of _ (by decide +kernel)) ggX0_goOut_X4_write
theorem dX0_goOut_0 : decode cX0_goOut 0 = .ok (.aload_n 0, 1) := by decide +kernel
theorem dX0_goOut_1 : decode cX0_goOut 1 = .ok (.dup, 1) := by decide +kernel
theorem dX0_goOut_2 : decode cX0_goOut 2 = .ok (.getfield 30, 3) := by decide +kernel
theorem dX0_goOut_5 : decode cX0_goOut 5 = .ok (.iconst 1, 1) := by decide +kernel
theorem dX0_goOut_6 : decode cX0_goOut 6 = .ok (.iadd, 1) := by decide +kernel
theorem dX0_goOut_7 : decode cX0_goOut 7 = .ok (.putfield 30, 3) := by decide +kernel
theorem dX0_goOut_10 : decode cX0_goOut 10 = .ok (.aload_n 0, 1) := by decide +kernel
theorem dX0_goOut_11 : decode cX0_goOut 11 = .ok (.iload_n 1, 1) := by decide +kernel
theorem dX0_goOut_12 : decode cX0_goOut 12 = .ok (.iconst 2, 1) := by decide +kernel
theorem dX0_goOut_13 : decode cX0_goOut 13 = .ok (.iload_n 2, 1) := by decide +kernel
theorem dX0_goOut_14 : decode cX0_goOut 14 = .ok (.invokevirtual 110, 3) := by decide +kernel
theorem dX0_goOut_17 : decode cX0_goOut 17 = .ok (.aload_n 0, 1) := by decide +kernel
theorem dX0_goOut_18 : decode cX0_goOut 18 = .ok (.iload_n 1, 1) := by decide +kernel
theorem dX0_goOut_19 : decode cX0_goOut 19 = .ok (.iconst 4, 1) := by decide +kernel
theorem dX0_goOut_20 : decode cX0_goOut 20 = .ok (.iload_n 2, 1) := by decide +kernel
theorem dX0_goOut_21 : decode cX0_goOut 21 = .ok (.iload_n 3, 1) := by decide +kernel
theorem dX0_goOut_22 : decode cX0_goOut 22 = .ok (.iadd, 1) := by decide +kernel
theorem dX0_goOut_23 : decode cX0_goOut 23 = .ok (.invokevirtual 110, 3) := by decide +kernel
theorem dX0_goOut_26 : decode cX0_goOut 26 = .ok (.iload_n 3, 1) := by decide +kernel
theorem dX0_goOut_27 : decode cX0_goOut 27 = .ok (.ifCond .le 23, 3) := by decide +kernel
theorem dX0_goOut_30 : decode cX0_goOut 30 = .ok (.aload_n 0, 1) := by decide +kernel
theorem dX0_goOut_31 : decode cX0_goOut 31 = .ok (.iload_n 1, 1) := by decide +kernel
theorem dX0_goOut_32 : decode cX0_goOut 32 = .ok (.iconst 3, 1) := by decide +kernel
theorem dX0_goOut_33 : decode cX0_goOut 33 = .ok (.iload 4, 2) := by decide +kernel
theorem dX0_goOut_35 : decode cX0_goOut 35 = .ok (.invokevirtual 110, 3) := by decide +kernel
theorem dX0_goOut_38 : decode cX0_goOut 38 = .ok (.aload_n 0, 1) := by decide +kernel
theorem dX0_goOut_39 : decode cX0_goOut 39 = .ok (.getfield 45, 3) := by decide +kernel
theorem dX0_goOut_42 : decode cX0_goOut 42 = .ok (.iload 4, 2) := by decide +kernel
theorem dX0_goOut_44 : decode cX0_goOut 44 = .ok (.iload_n 2, 1) := by decide +kernel
theorem dX0_goOut_45 : decode cX0_goOut 45 = .ok (.iload_n 3, 1) := by decide +kernel
theorem dX0_goOut_46 : decode cX0_goOut 46 = .ok (.iadd, 1) := by decide +kernel
theorem dX0_goOut_47 : decode cX0_goOut 47 = .ok (.invokevirtual 72, 3) := by decide +kernel
theorem dX0_goOut_50 : decode cX0_goOut 50 = .ok (.return_, 1) := by decide +kernel
set_option maxRecDepth 20000 in
theorem ggX0_moveOn_X4_read : GoodIn wsX0_moveOn wsX4_read := goodIn_r _ [10, 11, 38] (by decide +kernel) (by decide +kernel)
set_option maxRecDepth 20000 in
theorem gX0_moveOn_X4_read : GoodIn wsX0_moveOn (wsV RX0 68 RX4 yX4_read wsX4_read) := goodIn_app (goodIn_of _ (by decide +kernel)) ggX0_moveOn_X4_read
set_option maxRecDepth 20000 in
theorem ggX0_moveOn_X4_write : GoodIn wsX0_moveOn wsX4_write := goodIn_r _ [15, 11, 38] (by decide +kernel) (by decide +kernel)
set_option maxRecDepth 20000 in
theorem gX0_moveOn_X4_write : GoodIn wsX0_moveOn (wsV RX0 72 RX4 yX4_write wsX4_write) := goodIn_app (goodIn_of _ (by decide +kernel)) ggX0_moveOn_X4_write
set_option maxRecDepth 20000 in
theorem ggX0_moveOn_X0_note : GoodIn wsX0_moveOn wsX0_note := goodIn_r _ [20, 21, 12, 13, 14, 9, 15, 11, 22, 23, 24, 25, 26, 27, 28, 29, 30, 31, 32, 33, 34, 35, 36, 37, 38] (by decide +kernel) (by decide +kernel)
set_option maxRecDepth 20000 in
theorem gX0_moveOn_X0_note : GoodIn wsX0_moveOn (wsV RX0 110 RX0 yX0_note wsX0_note) := goodIn_app (goodIn_of _ (by decide +kernel)) ggX0_moveOn_X0_note
theorem dX0_moveOn_0 : decode cX0_moveOn 0 = .ok (.aload_n 0, 1) := by decide +kernel
theorem dX0_moveOn_1 : decode cX0_moveOn 1 = .ok (.getfield 9, 3) := by decide +kernel
theorem dX0_moveOn_4 : decode cX0_moveOn 4 = .ok (.iconst 1, 1) := by decide +kernel
theorem dX0_moveOn_5 : decode cX0_moveOn 5 = .ok (.isub, 1) := by decide +kernel
theorem dX0_moveOn_6 : decode cX0_moveOn 6 = .ok (.istore_n 2, 1) := by decide +kernel
theorem dX0_moveOn_7 : decode cX0_moveOn 7 = .ok (.iload_n 2, 1) := by decide +kernel
theorem dX0_moveOn_8 : decode cX0_moveOn 8 = .ok (.ifCond .le 27, 3) := by decide +kernel
theorem dX0_moveOn_11 : decode cX0_moveOn 11 = .ok (.aload_n 0, 1) := by decide +kernel
theorem dX0_moveOn_12 : decode cX0_moveOn 12 = .ok (.getfield 42, 3) := by decide +kernel
theorem dX0_moveOn_15 : decode cX0_moveOn 15 = .ok (.iload_n 2, 1) := by decide +kernel
theorem dX0_moveOn_16 : decode cX0_moveOn 16 = .ok (.aload_n 0, 1) := by decide +kernel
theorem dX0_moveOn_17 : decode cX0_moveOn 17 = .ok (.getfield 42, 3) := by decide +kernel
theorem dX0_moveOn_20 : decode cX0_moveOn 20 = .ok (.iload_n 2, 1) := by decide +kernel
theorem dX0_moveOn_21 : decode cX0_moveOn 21 = .ok (.iconst 1, 1) := by decide +kernel
theorem dX0_moveOn_22 : decode cX0_moveOn 22 = .ok (.isub, 1) := by decide +kernel
theorem dX0_moveOn_23 : decode cX0_moveOn 23 = .ok (.invokevirtual 68, 3) := by decide +kernel
theorem dX0_moveOn_26 : decode cX0_moveOn 26 = .ok (.invokevirtual 72, 3) := by decide +kernel
theorem dX0_moveOn_29 : decode cX0_moveOn 29 = .ok (.iinc 2 (-1), 3) := by decide +kernel
theorem dX0_moveOn_32 : decode cX0_moveOn 32 = .ok (.goto (-25), 3) := by decide +kernel
theorem dX0_moveOn_35 : decode cX0_moveOn 35 = .ok (.aload_n 0, 1) := by decide +kernel
theorem dX0_moveOn_36 : decode cX0_moveOn 36 = .ok (.getfield 27, 3) := by decide +kernel
theorem dX0_moveOn_39 : decode cX0_moveOn 39 = .ok (.aload_n 0, 1) := by decide +kernel
theorem dX0_moveOn_40 : decode cX0_moveOn 40 = .ok (.getfield 24, 3) := by decide +kernel
theorem dX0_moveOn_43 : decode cX0_moveOn 43 = .ok (.if_icmp .ge 17, 3) := by decide +kernel
theorem dX0_moveOn_46 : decode cX0_moveOn 46 = .ok (.aload_n 0, 1) := by decide +kernel
theorem dX0_moveOn_47 : decode cX0_moveOn 47 = .ok (.getfield 38, 3) := by decide +kernel
theorem dX0_moveOn_50 : decode cX0_moveOn 50 = .ok (.aload_n 0, 1) := by decide +kernel
theorem dX0_moveOn_51 : decode cX0_moveOn 51 = .ok (.getfield 27, 3) := by decide +kernel
theorem dX0_moveOn_54 : decode cX0_moveOn 54 = .ok (.invokevirtual 68, 3) := by decide +kernel
theorem dX0_moveOn_57 : decode cX0_moveOn 57 = .ok (.goto 4, 3) := by decide +kernel
theorem dX0_moveOn_60 : decode cX0_moveOn 60 = .ok (.iconst (-1), 1) := by decide +kernel
theorem dX0_moveOn_61 : decode cX0_moveOn 61 = .ok (.istore_n 2, 1) := by decide +kernel
theorem dX0_moveOn_62 : decode cX0_moveOn 62 = .ok (.aload_n 0, 1) := by decide +kernel
theorem dX0_moveOn_63 : decode cX0_moveOn 63 = .ok (.dup, 1) := by decide +kernel
theorem dX0_moveOn_64 : decode cX0_moveOn 64 = .ok (.getfield 27, 3) := by decide +kernel
theorem dX0_moveOn_67 : decode cX0_moveOn 67 = .ok (.iconst 1, 1) := by decide +kernel
theorem dX0_moveOn_68 : decode cX0_moveOn 68 = .ok (.iadd, 1) := by decide +kernel
theorem dX0_moveOn_69 : decode cX0_moveOn 69 = .ok (.putfield 27, 3) := by decide +kernel
theorem dX0_moveOn_72 : decode cX0_moveOn 72 = .ok (.aload_n 0, 1) := by decide +kernel
theorem dX0_moveOn_73 : decode cX0_moveOn 73 = .ok (.getfield 42, 3) := by decide +kernel
theorem dX0_moveOn_76 : decode cX0_moveOn 76 = .ok (.iconst 0, 1) := by decide +kernel
theorem dX0_moveOn_77 : decode cX0_moveOn 77 = .ok (.iload_n 2, 1) := by decide +kernel
theorem dX0_moveOn_78 : decode cX0_moveOn 78 = .ok (.invokevirtual 72, 3) := by decide +kernel
theorem dX0_moveOn_81 : decode cX0_moveOn 81 = .ok (.iload_n 2, 1) := by decide +kernel
theorem dX0_moveOn_82 : decode cX0_moveOn 82 = .ok (.iconst (-1), 1) := by decide +kernel
theorem dX0_moveOn_83 : decode cX0_moveOn 83 = .ok (.if_icmp .eq 10, 3) := by decide +kernel
theorem dX0_moveOn_86 : decode cX0_moveOn 86 = .ok (.aload_n 0, 1) := by decide +kernel
theorem dX0_moveOn_87 : decode cX0_moveOn 87 = .ok (.iload_n 2, 1) := by decide +kernel
theorem dX0_moveOn_88 : decode cX0_moveOn 88 = .ok (.iconst 1, 1) := by decide +kernel
theorem dX0_moveOn_89 : decode cX0_moveOn 89 = .ok (.iload_n 1, 1) := by decide +kernel
theorem dX0_moveOn_90 : decode cX0_moveOn 90 = .ok (.invokevirtual 110, 3) := by decide +kernel
theorem dX0_moveOn_93 : decode cX0_moveOn 93 = .ok (.return_, 1) := by decide +kernel
set_option maxRecDepth 20000 in
theorem ggX0_waterOfBeat_X4_read : GoodIn wsX0_waterOfBeat wsX4_read := goodIn_r _ [8, 9, 41] (by decide +kernel) (by decide +kernel)
set_option maxRecDepth 20000 in
theorem gX0_waterOfBeat_X4_read : GoodIn wsX0_waterOfBeat (wsV RX0 68 RX4 yX4_read wsX4_read) := goodIn_app (goodIn_of _ (by decide +kernel)) ggX0_waterOfBeat_X4_read
set_option maxRecDepth 20000 in
theorem ggX0_waterOfBeat_X0_hasWaterOfNext : GoodIn wsX0_waterOfBeat wsX0_hasWaterOfNext := goodIn_r _ [14, 1, 2, 4, 5, 6, 7, 8, 9, 15, 16, 17, 13, 18, 19, 20, 21, 22, 23, 24, 25, 26, 27, 28, 29, 30, 31, 32, 33, 34, 35, 36, 37, 38, 39, 40, 41, 42, 43, 44, 45, 46, 47] (by decide +kernel) (by decide +kernel)
set_option maxRecDepth 20000 in
theorem gX0_waterOfBeat_X0_hasWaterOfNext : GoodIn wsX0_waterOfBeat (wsV RX0 140 RX0 yX0_hasWaterOfNext wsX0_hasWaterOfNext) := goodIn_app (goodIn_of _ (by decide +kernel)) ggX0_waterOfBeat_X0_hasWaterOfNext
theorem dX0_waterOfBeat_0 : decode cX0_waterOfBeat 0 = .ok (.iconst 0, 1) := by decide +kernel
theorem dX0_waterOfBeat_1 : decode cX0_waterOfBeat 1 = .ok (.istore_n 1, 1) := by decide +kernel
theorem dX0_waterOfBeat_2 : decode cX0_waterOfBeat 2 = .ok (.iconst 0, 1) := by decide +kernel
theorem dX0_waterOfBeat_3 : decode cX0_waterOfBeat 3 = .ok (.istore_n 2, 1) := by decide +kernel
theorem dX0_waterOfBeat_4 : decode cX0_waterOfBeat 4 = .ok (.iload_n 2, 1) := by decide +kernel
theorem dX0_waterOfBeat_5 : decode cX0_waterOfBeat 5 = .ok (.aload_n 0, 1) := by decide +kernel
theorem dX0_waterOfBeat_6 : decode cX0_waterOfBeat 6 = .ok (.getfield 9, 3) := by decide +kernel
theorem dX0_waterOfBeat_9 : decode cX0_waterOfBeat 9 = .ok (.if_icmp .ge 45, 3) := by decide +kernel
theorem dX0_waterOfBeat_12 : decode cX0_waterOfBeat 12 = .ok (.aload_n 0, 1) := by decide +kernel
theorem dX0_waterOfBeat_13 : decode cX0_waterOfBeat 13 = .ok (.getfield 42, 3) := by decide +kernel
theorem dX0_waterOfBeat_16 : decode cX0_waterOfBeat 16 = .ok (.iload_n 2, 1) := by decide +kernel
theorem dX0_waterOfBeat_17 : decode cX0_waterOfBeat 17 = .ok (.invokevirtual 68, 3) := by decide +kernel
theorem dX0_waterOfBeat_20 : decode cX0_waterOfBeat 20 = .ok (.istore_n 3, 1) := by decide +kernel
theorem dX0_waterOfBeat_21 : decode cX0_waterOfBeat 21 = .ok (.iload_n 3, 1) := by decide +kernel
theorem dX0_waterOfBeat_22 : decode cX0_waterOfBeat 22 = .ok (.iconst (-1), 1) := by decide +kernel
theorem dX0_waterOfBeat_23 : decode cX0_waterOfBeat 23 = .ok (.if_icmp .eq 25, 3) := by decide +kernel
theorem dX0_waterOfBeat_26 : decode cX0_waterOfBeat 26 = .ok (.aload_n 0, 1) := by decide +kernel
theorem dX0_waterOfBeat_27 : decode cX0_waterOfBeat 27 = .ok (.iload_n 2, 1) := by decide +kernel
theorem dX0_waterOfBeat_28 : decode cX0_waterOfBeat 28 = .ok (.invokevirtual 140, 3) := by decide +kernel
theorem dX0_waterOfBeat_31 : decode cX0_waterOfBeat 31 = .ok (.ifCond .ne 17, 3) := by decide +kernel
theorem dX0_waterOfBeat_34 : decode cX0_waterOfBeat 34 = .ok (.iload_n 1, 1) := by decide +kernel
theorem dX0_waterOfBeat_35 : decode cX0_waterOfBeat 35 = .ok (.bipush 10, 2) := by decide +kernel
theorem dX0_waterOfBeat_37 : decode cX0_waterOfBeat 37 = .ok (.aload_n 0, 1) := by decide +kernel
theorem dX0_waterOfBeat_38 : decode cX0_waterOfBeat 38 = .ok (.getfield 51, 3) := by decide +kernel
theorem dX0_waterOfBeat_41 : decode cX0_waterOfBeat 41 = .ok (.iload_n 3, 1) := by decide +kernel
theorem dX0_waterOfBeat_42 : decode cX0_waterOfBeat 42 = .ok (.invokevirtual 68, 3) := by decide +kernel
theorem dX0_waterOfBeat_45 : decode cX0_waterOfBeat 45 = .ok (.imul, 1) := by decide +kernel
theorem dX0_waterOfBeat_46 : decode cX0_waterOfBeat 46 = .ok (.iadd, 1) := by decide +kernel
theorem dX0_waterOfBeat_47 : decode cX0_waterOfBeat 47 = .ok (.istore_n 1, 1) := by decide +kernel
theorem dX0_waterOfBeat_48 : decode cX0_waterOfBeat 48 = .ok (.iinc 2 1, 3) := by decide +kernel
theorem dX0_waterOfBeat_51 : decode cX0_waterOfBeat 51 = .ok (.goto (-47), 3) := by decide +kernel
theorem dX0_waterOfBeat_54 : decode cX0_waterOfBeat 54 = .ok (.iload_n 1, 1) := by decide +kernel
theorem dX0_waterOfBeat_55 : decode cX0_waterOfBeat 55 = .ok (.ireturn, 1) := by decide +kernel
set_option maxRecDepth 20000 in
theorem ggX0_hasWaterOfNext_X4_read : GoodIn wsX0_hasWaterOfNext wsX4_read := goodIn_r _ [7, 8, 36] (by decide +kernel) (by decide +kernel)
set_option maxRecDepth 20000 in
theorem gX0_hasWaterOfNext_X4_read : GoodIn wsX0_hasWaterOfNext (wsV RX0 68 RX4 yX4_read wsX4_read) := goodIn_app (goodIn_of _ (by decide +kernel)) ggX0_hasWaterOfNext_X4_read
set_option maxRecDepth 20000 in
theorem ggX0_hasWaterOfNext_X0_colourAt : GoodIn wsX0_hasWaterOfNext wsX0_colourAt := goodIn_r _ [13, 14, 15, 16, 17, 12, 18, 19, 3, 4, 5, 6, 7, 8, 20, 21, 22, 23, 24, 25, 26, 27, 28, 29, 30, 31, 32, 33, 34, 35, 37, 38, 39, 40, 41, 42, 36] (by decide +kernel) (by decide +kernel)
set_option maxRecDepth 20000 in
theorem gX0_hasWaterOfNext_X0_colourAt : GoodIn wsX0_hasWaterOfNext (wsV RX0 144 RX0 yX0_colourAt wsX0_colourAt) := goodIn_app (goodIn_of _ (by decide +kernel)) ggX0_hasWaterOfNext_X0_colourAt
theorem dX0_hasWaterOfNext_0 : decode cX0_hasWaterOfNext 0 = .ok (.iload_n 1, 1) := by decide +kernel
theorem dX0_hasWaterOfNext_1 : decode cX0_hasWaterOfNext 1 = .ok (.aload_n 0, 1) := by decide +kernel
theorem dX0_hasWaterOfNext_2 : decode cX0_hasWaterOfNext 2 = .ok (.getfield 9, 3) := by decide +kernel
theorem dX0_hasWaterOfNext_5 : decode cX0_hasWaterOfNext 5 = .ok (.iconst 1, 1) := by decide +kernel
theorem dX0_hasWaterOfNext_6 : decode cX0_hasWaterOfNext 6 = .ok (.isub, 1) := by decide +kernel
theorem dX0_hasWaterOfNext_7 : decode cX0_hasWaterOfNext 7 = .ok (.if_icmp .ge 16, 3) := by decide +kernel
theorem dX0_hasWaterOfNext_10 : decode cX0_hasWaterOfNext 10 = .ok (.aload_n 0, 1) := by decide +kernel
theorem dX0_hasWaterOfNext_11 : decode cX0_hasWaterOfNext 11 = .ok (.getfield 42, 3) := by decide +kernel
theorem dX0_hasWaterOfNext_14 : decode cX0_hasWaterOfNext 14 = .ok (.iload_n 1, 1) := by decide +kernel
theorem dX0_hasWaterOfNext_15 : decode cX0_hasWaterOfNext 15 = .ok (.iconst 1, 1) := by decide +kernel
theorem dX0_hasWaterOfNext_16 : decode cX0_hasWaterOfNext 16 = .ok (.iadd, 1) := by decide +kernel
theorem dX0_hasWaterOfNext_17 : decode cX0_hasWaterOfNext 17 = .ok (.invokevirtual 68, 3) := by decide +kernel
theorem dX0_hasWaterOfNext_20 : decode cX0_hasWaterOfNext 20 = .ok (.goto 4, 3) := by decide +kernel
theorem dX0_hasWaterOfNext_23 : decode cX0_hasWaterOfNext 23 = .ok (.iconst (-1), 1) := by decide +kernel
theorem dX0_hasWaterOfNext_24 : decode cX0_hasWaterOfNext 24 = .ok (.istore_n 2, 1) := by decide +kernel
theorem dX0_hasWaterOfNext_25 : decode cX0_hasWaterOfNext 25 = .ok (.iload_n 2, 1) := by decide +kernel
theorem dX0_hasWaterOfNext_26 : decode cX0_hasWaterOfNext 26 = .ok (.iconst (-1), 1) := by decide +kernel
theorem dX0_hasWaterOfNext_27 : decode cX0_hasWaterOfNext 27 = .ok (.if_icmp .eq 27, 3) := by decide +kernel
theorem dX0_hasWaterOfNext_30 : decode cX0_hasWaterOfNext 30 = .ok (.aload_n 0, 1) := by decide +kernel
theorem dX0_hasWaterOfNext_31 : decode cX0_hasWaterOfNext 31 = .ok (.iload_n 2, 1) := by decide +kernel
theorem dX0_hasWaterOfNext_32 : decode cX0_hasWaterOfNext 32 = .ok (.invokevirtual 144, 3) := by decide +kernel
theorem dX0_hasWaterOfNext_35 : decode cX0_hasWaterOfNext 35 = .ok (.aload_n 0, 1) := by decide +kernel
theorem dX0_hasWaterOfNext_36 : decode cX0_hasWaterOfNext 36 = .ok (.aload_n 0, 1) := by decide +kernel
theorem dX0_hasWaterOfNext_37 : decode cX0_hasWaterOfNext 37 = .ok (.getfield 42, 3) := by decide +kernel
theorem dX0_hasWaterOfNext_40 : decode cX0_hasWaterOfNext 40 = .ok (.iload_n 1, 1) := by decide +kernel
theorem dX0_hasWaterOfNext_41 : decode cX0_hasWaterOfNext 41 = .ok (.invokevirtual 68, 3) := by decide +kernel
theorem dX0_hasWaterOfNext_44 : decode cX0_hasWaterOfNext 44 = .ok (.invokevirtual 144, 3) := by decide +kernel
theorem dX0_hasWaterOfNext_47 : decode cX0_hasWaterOfNext 47 = .ok (.if_icmp .gt 7, 3) := by decide +kernel
theorem dX0_hasWaterOfNext_50 : decode cX0_hasWaterOfNext 50 = .ok (.iconst 1, 1) := by decide +kernel
theorem dX0_hasWaterOfNext_51 : decode cX0_hasWaterOfNext 51 = .ok (.goto 4, 3) := by decide +kernel
theorem dX0_hasWaterOfNext_54 : decode cX0_hasWaterOfNext 54 = .ok (.iconst 0, 1) := by decide +kernel
theorem dX0_hasWaterOfNext_55 : decode cX0_hasWaterOfNext 55 = .ok (.ireturn, 1) := by decide +kernel
set_option maxRecDepth 20000 in
theorem ggX0_colourAt_X0_fact : GoodIn wsX0_colourAt wsX0_fact := goodIn_r _ [6, 7, 8, 9, 10, 11, 12, 13, 14, 15, 16, 17, 18, 19, 20, 21, 22, 23, 24, 25, 26, 27, 28, 29, 36] (by decide +kernel) (by decide +kernel)
set_option maxRecDepth 20000 in
theorem gX0_colourAt_X0_fact : GoodIn wsX0_colourAt (wsV RX0 122 RX0 yX0_fact wsX0_fact) := goodIn_app (goodIn_of _ (by decide +kernel)) ggX0_colourAt_X0_fact
set_option maxRecDepth 20000 in
theorem ggX0_colourAt_X4_read : GoodIn wsX0_colourAt wsX4_read := goodIn_r _ [12, 13, 36] (by decide +kernel) (by decide +kernel)
set_option maxRecDepth 20000 in
theorem gX0_colourAt_X4_read : GoodIn wsX0_colourAt (wsV RX0 68 RX4 yX4_read wsX4_read) := goodIn_app (goodIn_of _ (by decide +kernel)) ggX0_colourAt_X4_read
theorem dX0_colourAt_0 : decode cX0_colourAt 0 = .ok (.aload_n 0, 1) := by decide +kernel
theorem dX0_colourAt_1 : decode cX0_colourAt 1 = .ok (.getfield 60, 3) := by decide +kernel
theorem dX0_colourAt_4 : decode cX0_colourAt 4 = .ok (.getfield 147, 3) := by decide +kernel
theorem dX0_colourAt_7 : decode cX0_colourAt 7 = .ok (.aload_n 0, 1) := by decide +kernel
theorem dX0_colourAt_8 : decode cX0_colourAt 8 = .ok (.iload_n 1, 1) := by decide +kernel
theorem dX0_colourAt_9 : decode cX0_colourAt 9 = .ok (.iconst 0, 1) := by decide +kernel
theorem dX0_colourAt_10 : decode cX0_colourAt 10 = .ok (.invokevirtual 122, 3) := by decide +kernel
theorem dX0_colourAt_13 : decode cX0_colourAt 13 = .ok (.invokevirtual 68, 3) := by decide +kernel
theorem dX0_colourAt_16 : decode cX0_colourAt 16 = .ok (.ireturn, 1) := by decide +kernel
set_option maxRecDepth 20000 in
theorem ggX0_ironAll_X4_read : GoodIn wsX0_ironAll wsX4_read := goodIn_r _ [10, 11, 57] (by decide +kernel) (by decide +kernel)
set_option maxRecDepth 20000 in
theorem gX0_ironAll_X4_read : GoodIn wsX0_ironAll (wsV RX0 68 RX4 yX4_read wsX4_read) := goodIn_app (goodIn_of _ (by decide +kernel)) ggX0_ironAll_X4_read
set_option maxRecDepth 20000 in
theorem ggX0_ironAll_X0_firstDry : GoodIn wsX0_ironAll wsX0_firstDry := goodIn_r _ [16, 1, 6, 7, 8, 9, 10, 11, 17, 18, 19, 15, 20, 21, 41, 42, 43, 44, 45, 46, 47, 48, 49, 50, 51, 52, 53, 54, 55, 56, 57] (by decide +kernel) (by decide +kernel)
set_option maxRecDepth 20000 in
theorem gX0_ironAll_X0_firstDry : GoodIn wsX0_ironAll (wsV RX0 150 RX0 yX0_firstDry wsX0_firstDry) := goodIn_app (goodIn_of _ (by decide +kernel)) ggX0_ironAll_X0_firstDry
set_option maxRecDepth 20000 in
theorem ggX0_ironAll_X0_ironOne : GoodIn wsX0_ironAll wsX0_ironOne := goodIn_r _ [25, 26, 27, 2, 3, 4, 5, 17, 18, 19, 15, 20, 21, 6, 7, 8, 9, 10, 11, 28, 29, 30, 31, 32, 33, 34, 35, 36, 37, 38, 39, 40, 41, 42, 43, 44, 45, 46, 47, 48, 49, 50, 51, 52, 53, 54, 55, 56, 58, 59, 60, 61, 62, 63, 57] (by decide +kernel) (by decide +kernel)
set_option maxRecDepth 20000 in
theorem gX0_ironAll_X0_ironOne : GoodIn wsX0_ironAll (wsV RX0 153 RX0 yX0_ironOne wsX0_ironOne) := goodIn_app (goodIn_of _ (by decide +kernel)) ggX0_ironAll_X0_ironOne
set_option maxRecDepth 20000 in
theorem ggX0_ironAll_X0_fact : GoodIn wsX0_ironAll wsX0_fact := goodIn_r _ [20, 21, 6, 7, 8, 9, 10, 11, 41, 42, 43, 44, 45, 46, 47, 48, 49, 50, 51, 52, 53, 54, 55, 56, 57] (by decide +kernel) (by decide +kernel)
set_option maxRecDepth 20000 in
theorem gX0_ironAll_X0_fact : GoodIn wsX0_ironAll (wsV RX0 122 RX0 yX0_fact wsX0_fact) := goodIn_app (goodIn_of _ (by decide +kernel)) ggX0_ironAll_X0_fact
set_option maxRecDepth 20000 in
theorem ggX0_ironAll_X4_write : GoodIn wsX0_ironAll wsX4_write := goodIn_r _ [35, 11, 57] (by decide +kernel) (by decide +kernel)
set_option maxRecDepth 20000 in
theorem gX0_ironAll_X4_write : GoodIn wsX0_ironAll (wsV RX0 72 RX4 yX4_write wsX4_write) := goodIn_app (goodIn_of _ (by decide +kernel)) ggX0_ironAll_X4_write
theorem dX0_ironAll_0 : decode cX0_ironAll 0 = .ok (.aload_n 0, 1) := by decide +kernel
theorem dX0_ironAll_1 : decode cX0_ironAll 1 = .ok (.getfield 57, 3) := by decide +kernel
theorem dX0_ironAll_4 : decode cX0_ironAll 4 = .ok (.iconst 5, 1) := by decide +kernel
theorem dX0_ironAll_5 : decode cX0_ironAll 5 = .ok (.invokevirtual 68, 3) := by decide +kernel
theorem dX0_ironAll_8 : decode cX0_ironAll 8 = .ok (.istore_n 1, 1) := by decide +kernel
theorem dX0_ironAll_9 : decode cX0_ironAll 9 = .ok (.iconst 0, 1) := by decide +kernel
theorem dX0_ironAll_10 : decode cX0_ironAll 10 = .ok (.istore_n 2, 1) := by decide +kernel
theorem dX0_ironAll_11 : decode cX0_ironAll 11 = .ok (.iconst 0, 1) := by decide +kernel
theorem dX0_ironAll_12 : decode cX0_ironAll 12 = .ok (.istore_n 3, 1) := by decide +kernel
theorem dX0_ironAll_13 : decode cX0_ironAll 13 = .ok (.iload_n 3, 1) := by decide +kernel
theorem dX0_ironAll_14 : decode cX0_ironAll 14 = .ok (.iload_n 1, 1) := by decide +kernel
theorem dX0_ironAll_15 : decode cX0_ironAll 15 = .ok (.if_icmp .ge 56, 3) := by decide +kernel
theorem dX0_ironAll_18 : decode cX0_ironAll 18 = .ok (.aload_n 0, 1) := by decide +kernel
theorem dX0_ironAll_19 : decode cX0_ironAll 19 = .ok (.iload_n 2, 1) := by decide +kernel
theorem dX0_ironAll_20 : decode cX0_ironAll 20 = .ok (.invokevirtual 150, 3) := by decide +kernel
theorem dX0_ironAll_23 : decode cX0_ironAll 23 = .ok (.istore 4, 2) := by decide +kernel
theorem dX0_ironAll_25 : decode cX0_ironAll 25 = .ok (.iload_n 2, 1) := by decide +kernel
theorem dX0_ironAll_26 : decode cX0_ironAll 26 = .ok (.iconst 1, 1) := by decide +kernel
theorem dX0_ironAll_27 : decode cX0_ironAll 27 = .ok (.iload 4, 2) := by decide +kernel
theorem dX0_ironAll_29 : decode cX0_ironAll 29 = .ok (.ishl, 1) := by decide +kernel
theorem dX0_ironAll_30 : decode cX0_ironAll 30 = .ok (.ior, 1) := by decide +kernel
theorem dX0_ironAll_31 : decode cX0_ironAll 31 = .ok (.istore_n 2, 1) := by decide +kernel
theorem dX0_ironAll_32 : decode cX0_ironAll 32 = .ok (.aload_n 0, 1) := by decide +kernel
theorem dX0_ironAll_33 : decode cX0_ironAll 33 = .ok (.iload 4, 2) := by decide +kernel
theorem dX0_ironAll_35 : decode cX0_ironAll 35 = .ok (.invokevirtual 153, 3) := by decide +kernel
theorem dX0_ironAll_38 : decode cX0_ironAll 38 = .ok (.aload_n 0, 1) := by decide +kernel
theorem dX0_ironAll_39 : decode cX0_ironAll 39 = .ok (.getfield 57, 3) := by decide +kernel
theorem dX0_ironAll_42 : decode cX0_ironAll 42 = .ok (.iconst 4, 1) := by decide +kernel
theorem dX0_ironAll_43 : decode cX0_ironAll 43 = .ok (.aload_n 0, 1) := by decide +kernel
theorem dX0_ironAll_44 : decode cX0_ironAll 44 = .ok (.getfield 57, 3) := by decide +kernel
theorem dX0_ironAll_47 : decode cX0_ironAll 47 = .ok (.iconst 4, 1) := by decide +kernel
theorem dX0_ironAll_48 : decode cX0_ironAll 48 = .ok (.invokevirtual 68, 3) := by decide +kernel
theorem dX0_ironAll_51 : decode cX0_ironAll 51 = .ok (.aload_n 0, 1) := by decide +kernel
theorem dX0_ironAll_52 : decode cX0_ironAll 52 = .ok (.iload 4, 2) := by decide +kernel
theorem dX0_ironAll_54 : decode cX0_ironAll 54 = .ok (.bipush 6, 2) := by decide +kernel
theorem dX0_ironAll_56 : decode cX0_ironAll 56 = .ok (.invokevirtual 122, 3) := by decide +kernel
theorem dX0_ironAll_59 : decode cX0_ironAll 59 = .ok (.invokestatic 156, 3) := by decide +kernel
theorem dX0_ironAll_62 : decode cX0_ironAll 62 = .ok (.invokevirtual 72, 3) := by decide +kernel
theorem dX0_ironAll_65 : decode cX0_ironAll 65 = .ok (.iinc 3 1, 3) := by decide +kernel
theorem dX0_ironAll_68 : decode cX0_ironAll 68 = .ok (.goto (-55), 3) := by decide +kernel
theorem dX0_ironAll_71 : decode cX0_ironAll 71 = .ok (.return_, 1) := by decide +kernel
set_option maxRecDepth 20000 in
theorem ggX0_firstDry_X4_read : GoodIn wsX0_firstDry wsX4_read := goodIn_r _ [6, 7, 30] (by decide +kernel) (by decide +kernel)
set_option maxRecDepth 20000 in
theorem gX0_firstDry_X4_read : GoodIn wsX0_firstDry (wsV RX0 68 RX4 yX4_read wsX4_read) := goodIn_app (goodIn_of _ (by decide +kernel)) ggX0_firstDry_X4_read
set_option maxRecDepth 20000 in
theorem ggX0_firstDry_X0_fact : GoodIn wsX0_firstDry wsX0_fact := goodIn_r _ [12, 13, 2, 3, 4, 5, 6, 7, 14, 15, 16, 17, 18, 19, 20, 21, 22, 23, 24, 25, 26, 27, 28, 29, 30] (by decide +kernel) (by decide +kernel)
set_option maxRecDepth 20000 in
theorem gX0_firstDry_X0_fact : GoodIn wsX0_firstDry (wsV RX0 122 RX0 yX0_fact wsX0_fact) := goodIn_app (goodIn_of _ (by decide +kernel)) ggX0_firstDry_X0_fact
theorem dX0_firstDry_0 : decode cX0_firstDry 0 = .ok (.iconst (-1), 1) := by decide +kernel
theorem dX0_firstDry_1 : decode cX0_firstDry 1 = .ok (.istore_n 2, 1) := by decide +kernel
theorem dX0_firstDry_2 : decode cX0_firstDry 2 = .ok (.iconst 0, 1) := by decide +kernel
theorem dX0_firstDry_3 : decode cX0_firstDry 3 = .ok (.istore_n 3, 1) := by decide +kernel
theorem dX0_firstDry_4 : decode cX0_firstDry 4 = .ok (.iload_n 3, 1) := by decide +kernel
theorem dX0_firstDry_5 : decode cX0_firstDry 5 = .ok (.aload_n 0, 1) := by decide +kernel
theorem dX0_firstDry_6 : decode cX0_firstDry 6 = .ok (.getfield 57, 3) := by decide +kernel
theorem dX0_firstDry_9 : decode cX0_firstDry 9 = .ok (.iconst 5, 1) := by decide +kernel
theorem dX0_firstDry_10 : decode cX0_firstDry 10 = .ok (.invokevirtual 68, 3) := by decide +kernel
theorem dX0_firstDry_13 : decode cX0_firstDry 13 = .ok (.if_icmp .ge 51, 3) := by decide +kernel
theorem dX0_firstDry_16 : decode cX0_firstDry 16 = .ok (.iload_n 1, 1) := by decide +kernel
theorem dX0_firstDry_17 : decode cX0_firstDry 17 = .ok (.iload_n 3, 1) := by decide +kernel
theorem dX0_firstDry_18 : decode cX0_firstDry 18 = .ok (.ishr, 1) := by decide +kernel
theorem dX0_firstDry_19 : decode cX0_firstDry 19 = .ok (.iconst 1, 1) := by decide +kernel
theorem dX0_firstDry_20 : decode cX0_firstDry 20 = .ok (.iand, 1) := by decide +kernel
theorem dX0_firstDry_21 : decode cX0_firstDry 21 = .ok (.ifCond .ne 7, 3) := by decide +kernel
theorem dX0_firstDry_24 : decode cX0_firstDry 24 = .ok (.iconst 1, 1) := by decide +kernel
theorem dX0_firstDry_25 : decode cX0_firstDry 25 = .ok (.goto 4, 3) := by decide +kernel
theorem dX0_firstDry_28 : decode cX0_firstDry 28 = .ok (.iconst 0, 1) := by decide +kernel
theorem dX0_firstDry_29 : decode cX0_firstDry 29 = .ok (.istore 4, 2) := by decide +kernel
theorem dX0_firstDry_31 : decode cX0_firstDry 31 = .ok (.iload 4, 2) := by decide +kernel
theorem dX0_firstDry_33 : decode cX0_firstDry 33 = .ok (.ifCond .eq 25, 3) := by decide +kernel
theorem dX0_firstDry_36 : decode cX0_firstDry 36 = .ok (.iload_n 2, 1) := by decide +kernel
theorem dX0_firstDry_37 : decode cX0_firstDry 37 = .ok (.iconst (-1), 1) := by decide +kernel
theorem dX0_firstDry_38 : decode cX0_firstDry 38 = .ok (.if_icmp .eq 18, 3) := by decide +kernel
theorem dX0_firstDry_41 : decode cX0_firstDry 41 = .ok (.aload_n 0, 1) := by decide +kernel
theorem dX0_firstDry_42 : decode cX0_firstDry 42 = .ok (.iload_n 3, 1) := by decide +kernel
theorem dX0_firstDry_43 : decode cX0_firstDry 43 = .ok (.iconst 4, 1) := by decide +kernel
theorem dX0_firstDry_44 : decode cX0_firstDry 44 = .ok (.invokevirtual 122, 3) := by decide +kernel
theorem dX0_firstDry_47 : decode cX0_firstDry 47 = .ok (.aload_n 0, 1) := by decide +kernel
theorem dX0_firstDry_48 : decode cX0_firstDry 48 = .ok (.iload_n 2, 1) := by decide +kernel
theorem dX0_firstDry_49 : decode cX0_firstDry 49 = .ok (.iconst 4, 1) := by decide +kernel
theorem dX0_firstDry_50 : decode cX0_firstDry 50 = .ok (.invokevirtual 122, 3) := by decide +kernel
theorem dX0_firstDry_53 : decode cX0_firstDry 53 = .ok (.if_icmp .ge 5, 3) := by decide +kernel
theorem dX0_firstDry_56 : decode cX0_firstDry 56 = .ok (.iload_n 3, 1) := by decide +kernel
theorem dX0_firstDry_57 : decode cX0_firstDry 57 = .ok (.istore_n 2, 1) := by decide +kernel
theorem dX0_firstDry_58 : decode cX0_firstDry 58 = .ok (.iinc 3 1, 3) := by decide +kernel
theorem dX0_firstDry_61 : decode cX0_firstDry 61 = .ok (.goto (-57), 3) := by decide +kernel
theorem dX0_firstDry_64 : decode cX0_firstDry 64 = .ok (.iload_n 2, 1) := by decide +kernel
theorem dX0_firstDry_65 : decode cX0_firstDry 65 = .ok (.ireturn, 1) := by decide +kernel
set_option maxRecDepth 20000 in
theorem ggX0_ironOne_X0_fact : GoodIn wsX0_ironOne wsX0_fact := goodIn_r _ [11, 12, 13, 14, 15, 16, 17, 18, 32, 33, 34, 35, 36, 37, 38, 39, 40, 41, 42, 43, 44, 45, 46, 47, 54] (by decide +kernel) (by decide +kernel)
set_option maxRecDepth 20000 in
theorem gX0_ironOne_X0_fact : GoodIn wsX0_ironOne (wsV RX0 122 RX0 yX0_fact wsX0_fact) := goodIn_app (goodIn_of _ (by decide +kernel)) ggX0_ironOne_X0_fact
set_option maxRecDepth 20000 in
theorem ggX0_ironOne_X4_read : GoodIn wsX0_ironOne wsX4_read := goodIn_r _ [17, 18, 54] (by decide +kernel) (by decide +kernel)
set_option maxRecDepth 20000 in
theorem gX0_ironOne_X4_read : GoodIn wsX0_ironOne (wsV RX0 68 RX4 yX4_read wsX4_read) := goodIn_app (goodIn_of _ (by decide +kernel)) ggX0_ironOne_X4_read
set_option maxRecDepth 20000 in
theorem ggX0_ironOne_X0_note : GoodIn wsX0_ironOne wsX0_note := goodIn_r _ [22, 12, 23, 24, 25, 16, 26, 18, 32, 33, 34, 35, 36, 37, 38, 39, 40, 41, 42, 43, 44, 45, 46, 47, 54] (by decide +kernel) (by decide +kernel)
set_option maxRecDepth 20000 in
theorem gX0_ironOne_X0_note : GoodIn wsX0_ironOne (wsV RX0 110 RX0 yX0_note wsX0_note) := goodIn_app (goodIn_of _ (by decide +kernel)) ggX0_ironOne_X0_note
set_option maxRecDepth 20000 in
theorem ggX0_ironOne_X0_firstIron : GoodIn wsX0_ironOne wsX0_firstIron := goodIn_r _ [30, 31, 2, 13, 14, 15, 16, 17, 18, 32, 33, 34, 35, 36, 37, 38, 39, 40, 41, 42, 43, 44, 45, 46, 47, 54] (by decide +kernel) (by decide +kernel)
set_option maxRecDepth 20000 in
theorem gX0_ironOne_X0_firstIron : GoodIn wsX0_ironOne (wsV RX0 164 RX0 yX0_firstIron wsX0_firstIron) := goodIn_app (goodIn_of _ (by decide +kernel)) ggX0_ironOne_X0_firstIron
set_option maxRecDepth 20000 in
theorem ggX0_ironOne_X4_write : GoodIn wsX0_ironOne wsX4_write := goodIn_r _ [26, 18, 54] (by decide +kernel) (by decide +kernel)
set_option maxRecDepth 20000 in
theorem gX0_ironOne_X4_write : GoodIn wsX0_ironOne (wsV RX0 72 RX4 yX4_write wsX4_write) := goodIn_app (goodIn_of _ (by decide +kernel)) ggX0_ironOne_X4_write
theorem dX0_ironOne_0 : decode cX0_ironOne 0 = .ok (.aload_n 0, 1) := by decide +kernel
theorem dX0_ironOne_1 : decode cX0_ironOne 1 = .ok (.iload_n 1, 1) := by decide +kernel
theorem dX0_ironOne_2 : decode cX0_ironOne 2 = .ok (.iconst 4, 1) := by decide +kernel
theorem dX0_ironOne_3 : decode cX0_ironOne 3 = .ok (.invokevirtual 122, 3) := by decide +kernel
theorem dX0_ironOne_6 : decode cX0_ironOne 6 = .ok (.istore_n 2, 1) := by decide +kernel
theorem dX0_ironOne_7 : decode cX0_ironOne 7 = .ok (.aload_n 0, 1) := by decide +kernel
theorem dX0_ironOne_8 : decode cX0_ironOne 8 = .ok (.getfield 60, 3) := by decide +kernel
theorem dX0_ironOne_11 : decode cX0_ironOne 11 = .ok (.getfield 161, 3) := by decide +kernel
theorem dX0_ironOne_14 : decode cX0_ironOne 14 = .ok (.aload_n 0, 1) := by decide +kernel
theorem dX0_ironOne_15 : decode cX0_ironOne 15 = .ok (.iload_n 1, 1) := by decide +kernel
theorem dX0_ironOne_16 : decode cX0_ironOne 16 = .ok (.iconst 0, 1) := by decide +kernel
theorem dX0_ironOne_17 : decode cX0_ironOne 17 = .ok (.invokevirtual 122, 3) := by decide +kernel
theorem dX0_ironOne_20 : decode cX0_ironOne 20 = .ok (.invokevirtual 68, 3) := by decide +kernel
theorem dX0_ironOne_23 : decode cX0_ironOne 23 = .ok (.istore_n 3, 1) := by decide +kernel
theorem dX0_ironOne_24 : decode cX0_ironOne 24 = .ok (.iload_n 3, 1) := by decide +kernel
theorem dX0_ironOne_25 : decode cX0_ironOne 25 = .ok (.ifCond .ne 12, 3) := by decide +kernel
theorem dX0_ironOne_28 : decode cX0_ironOne 28 = .ok (.aload_n 0, 1) := by decide +kernel
theorem dX0_ironOne_29 : decode cX0_ironOne 29 = .ok (.iload_n 1, 1) := by decide +kernel
theorem dX0_ironOne_30 : decode cX0_ironOne 30 = .ok (.bipush 6, 2) := by decide +kernel
theorem dX0_ironOne_32 : decode cX0_ironOne 32 = .ok (.iload_n 2, 1) := by decide +kernel
theorem dX0_ironOne_33 : decode cX0_ironOne 33 = .ok (.invokevirtual 110, 3) := by decide +kernel
theorem dX0_ironOne_36 : decode cX0_ironOne 36 = .ok (.return_, 1) := by decide +kernel
theorem dX0_ironOne_37 : decode cX0_ironOne 37 = .ok (.aload_n 0, 1) := by decide +kernel
theorem dX0_ironOne_38 : decode cX0_ironOne 38 = .ok (.invokevirtual 164, 3) := by decide +kernel
theorem dX0_ironOne_41 : decode cX0_ironOne 41 = .ok (.istore 4, 2) := by decide +kernel
theorem dX0_ironOne_43 : decode cX0_ironOne 43 = .ok (.iload_n 2, 1) := by decide +kernel
theorem dX0_ironOne_44 : decode cX0_ironOne 44 = .ok (.aload_n 0, 1) := by decide +kernel
theorem dX0_ironOne_45 : decode cX0_ironOne 45 = .ok (.getfield 48, 3) := by decide +kernel
theorem dX0_ironOne_48 : decode cX0_ironOne 48 = .ok (.iload 4, 2) := by decide +kernel
theorem dX0_ironOne_50 : decode cX0_ironOne 50 = .ok (.invokevirtual 68, 3) := by decide +kernel
theorem dX0_ironOne_53 : decode cX0_ironOne 53 = .ok (.invokestatic 156, 3) := by decide +kernel
theorem dX0_ironOne_56 : decode cX0_ironOne 56 = .ok (.iload_n 3, 1) := by decide +kernel
theorem dX0_ironOne_57 : decode cX0_ironOne 57 = .ok (.iadd, 1) := by decide +kernel
theorem dX0_ironOne_58 : decode cX0_ironOne 58 = .ok (.istore 5, 2) := by decide +kernel
theorem dX0_ironOne_60 : decode cX0_ironOne 60 = .ok (.aload_n 0, 1) := by decide +kernel
theorem dX0_ironOne_61 : decode cX0_ironOne 61 = .ok (.getfield 48, 3) := by decide +kernel
theorem dX0_ironOne_64 : decode cX0_ironOne 64 = .ok (.iload 4, 2) := by decide +kernel
theorem dX0_ironOne_66 : decode cX0_ironOne 66 = .ok (.iload 5, 2) := by decide +kernel
theorem dX0_ironOne_68 : decode cX0_ironOne 68 = .ok (.invokevirtual 72, 3) := by decide +kernel
theorem dX0_ironOne_71 : decode cX0_ironOne 71 = .ok (.aload_n 0, 1) := by decide +kernel
theorem dX0_ironOne_72 : decode cX0_ironOne 72 = .ok (.iload_n 1, 1) := by decide +kernel
theorem dX0_ironOne_73 : decode cX0_ironOne 73 = .ok (.iconst 5, 1) := by decide +kernel
theorem dX0_ironOne_74 : decode cX0_ironOne 74 = .ok (.iload 4, 2) := by decide +kernel
theorem dX0_ironOne_76 : decode cX0_ironOne 76 = .ok (.invokevirtual 110, 3) := by decide +kernel
theorem dX0_ironOne_79 : decode cX0_ironOne 79 = .ok (.aload_n 0, 1) := by decide +kernel
theorem dX0_ironOne_80 : decode cX0_ironOne 80 = .ok (.iload_n 1, 1) := by decide +kernel
theorem dX0_ironOne_81 : decode cX0_ironOne 81 = .ok (.bipush 6, 2) := by decide +kernel
theorem dX0_ironOne_83 : decode cX0_ironOne 83 = .ok (.iload 5, 2) := by decide +kernel
theorem dX0_ironOne_85 : decode cX0_ironOne 85 = .ok (.invokevirtual 110, 3) := by decide +kernel
theorem dX0_ironOne_88 : decode cX0_ironOne 88 = .ok (.return_, 1) := by decide +kernel
set_option maxRecDepth 20000 in
theorem ggX0_firstIron_X4_read : GoodIn wsX0_firstIron wsX4_read := goodIn_r _ [7, 8, 25] (by decide +kernel) (by decide +kernel)
set_option maxRecDepth 20000 in
theorem gX0_firstIron_X4_read : GoodIn wsX0_firstIron (wsV RX0 68 RX4 yX4_read wsX4_read) := goodIn_app (goodIn_of _ (by decide +kernel)) ggX0_firstIron_X4_read
theorem dX0_firstIron_0 : decode cX0_firstIron 0 = .ok (.iconst 0, 1) := by decide +kernel
theorem dX0_firstIron_1 : decode cX0_firstIron 1 = .ok (.istore_n 1, 1) := by decide +kernel
theorem dX0_firstIron_2 : decode cX0_firstIron 2 = .ok (.iconst 1, 1) := by decide +kernel
theorem dX0_firstIron_3 : decode cX0_firstIron 3 = .ok (.istore_n 2, 1) := by decide +kernel
theorem dX0_firstIron_4 : decode cX0_firstIron 4 = .ok (.iload_n 2, 1) := by decide +kernel
theorem dX0_firstIron_5 : decode cX0_firstIron 5 = .ok (.aload_n 0, 1) := by decide +kernel
theorem dX0_firstIron_6 : decode cX0_firstIron 6 = .ok (.getfield 18, 3) := by decide +kernel
theorem dX0_firstIron_9 : decode cX0_firstIron 9 = .ok (.if_icmp .ge 30, 3) := by decide +kernel
theorem dX0_firstIron_12 : decode cX0_firstIron 12 = .ok (.aload_n 0, 1) := by decide +kernel
theorem dX0_firstIron_13 : decode cX0_firstIron 13 = .ok (.getfield 48, 3) := by decide +kernel
theorem dX0_firstIron_16 : decode cX0_firstIron 16 = .ok (.iload_n 2, 1) := by decide +kernel
theorem dX0_firstIron_17 : decode cX0_firstIron 17 = .ok (.invokevirtual 68, 3) := by decide +kernel
theorem dX0_firstIron_20 : decode cX0_firstIron 20 = .ok (.aload_n 0, 1) := by decide +kernel
theorem dX0_firstIron_21 : decode cX0_firstIron 21 = .ok (.getfield 48, 3) := by decide +kernel
theorem dX0_firstIron_24 : decode cX0_firstIron 24 = .ok (.iload_n 1, 1) := by decide +kernel
theorem dX0_firstIron_25 : decode cX0_firstIron 25 = .ok (.invokevirtual 68, 3) := by decide +kernel
theorem dX0_firstIron_28 : decode cX0_firstIron 28 = .ok (.if_icmp .ge 5, 3) := by decide +kernel
theorem dX0_firstIron_31 : decode cX0_firstIron 31 = .ok (.iload_n 2, 1) := by decide +kernel
theorem dX0_firstIron_32 : decode cX0_firstIron 32 = .ok (.istore_n 1, 1) := by decide +kernel
theorem dX0_firstIron_33 : decode cX0_firstIron 33 = .ok (.iinc 2 1, 3) := by decide +kernel
theorem dX0_firstIron_36 : decode cX0_firstIron 36 = .ok (.goto (-32), 3) := by decide +kernel
theorem dX0_firstIron_39 : decode cX0_firstIron 39 = .ok (.iload_n 1, 1) := by decide +kernel
theorem dX0_firstIron_40 : decode cX0_firstIron 40 = .ok (.ireturn, 1) := by decide +kernel
set_option maxRecDepth 20000 in
theorem ggX1_init_X4_init : GoodIn wsX1_init wsX4_init := goodIn_r _ [15, 16, 2, 3, 17, 18, 25] (by decide +kernel) (by decide +kernel)
set_option maxRecDepth 20000 in
theorem gX1_init_X4_init : GoodIn wsX1_init (wsX4_init) := ggX1_init_X4_init
theorem dX1_init_0 : decode cX1_init 0 = .ok (.aload_n 0, 1) := by decide +kernel
theorem dX1_init_1 : decode cX1_init 1 = .ok (.invokespecial 3, 3) := by decide +kernel
theorem dX1_init_4 : decode cX1_init 4 = .ok (.aload_n 0, 1) := by decide +kernel
theorem dX1_init_5 : decode cX1_init 5 = .ok (.iconst 0, 1) := by decide +kernel
theorem dX1_init_6 : decode cX1_init 6 = .ok (.putfield 9, 3) := by decide +kernel
theorem dX1_init_9 : decode cX1_init 9 = .ok (.aload_n 0, 1) := by decide +kernel
theorem dX1_init_10 : decode cX1_init 10 = .ok (.new 15, 3) := by decide +kernel
theorem dX1_init_13 : decode cX1_init 13 = .ok (.dup, 1) := by decide +kernel
theorem dX1_init_14 : decode cX1_init 14 = .ok (.bipush 8, 2) := by decide +kernel
theorem dX1_init_16 : decode cX1_init 16 = .ok (.invokespecial 17, 3) := by decide +kernel
theorem dX1_init_19 : decode cX1_init 19 = .ok (.putfield 20, 3) := by decide +kernel
theorem dX1_init_22 : decode cX1_init 22 = .ok (.aload_n 0, 1) := by decide +kernel
theorem dX1_init_23 : decode cX1_init 23 = .ok (.new 15, 3) := by decide +kernel
theorem dX1_init_26 : decode cX1_init 26 = .ok (.dup, 1) := by decide +kernel
theorem dX1_init_27 : decode cX1_init 27 = .ok (.bipush 8, 2) := by decide +kernel
theorem dX1_init_29 : decode cX1_init 29 = .ok (.invokespecial 17, 3) := by decide +kernel
theorem dX1_init_32 : decode cX1_init 32 = .ok (.putfield 24, 3) := by decide +kernel
theorem dX1_init_35 : decode cX1_init 35 = .ok (.aload_n 0, 1) := by decide +kernel
theorem dX1_init_36 : decode cX1_init 36 = .ok (.new 15, 3) := by decide +kernel
theorem dX1_init_39 : decode cX1_init 39 = .ok (.dup, 1) := by decide +kernel
theorem dX1_init_40 : decode cX1_init 40 = .ok (.bipush 8, 2) := by decide +kernel
theorem dX1_init_42 : decode cX1_init 42 = .ok (.invokespecial 17, 3) := by decide +kernel
theorem dX1_init_45 : decode cX1_init 45 = .ok (.putfield 27, 3) := by decide +kernel
theorem dX1_init_48 : decode cX1_init 48 = .ok (.aload_n 0, 1) := by decide +kernel
theorem dX1_init_49 : decode cX1_init 49 = .ok (.new 15, 3) := by decide +kernel
theorem dX1_init_52 : decode cX1_init 52 = .ok (.dup, 1) := by decide +kernel
theorem dX1_init_53 : decode cX1_init 53 = .ok (.bipush 8, 2) := by decide +kernel
theorem dX1_init_55 : decode cX1_init 55 = .ok (.invokespecial 17, 3) := by decide +kernel
theorem dX1_init_58 : decode cX1_init 58 = .ok (.putfield 30, 3) := by decide +kernel
theorem dX1_init_61 : decode cX1_init 61 = .ok (.aload_n 0, 1) := by decide +kernel
theorem dX1_init_62 : decode cX1_init 62 = .ok (.new 15, 3) := by decide +kernel
theorem dX1_init_65 : decode cX1_init 65 = .ok (.dup, 1) := by decide +kernel
theorem dX1_init_66 : decode cX1_init 66 = .ok (.bipush 8, 2) := by decide +kernel
theorem dX1_init_68 : decode cX1_init 68 = .ok (.invokespecial 17, 3) := by decide +kernel
theorem dX1_init_71 : decode cX1_init 71 = .ok (.putfield 33, 3) := by decide +kernel
theorem dX1_init_74 : decode cX1_init 74 = .ok (.return_, 1) := by decide +kernel
set_option maxRecDepth 20000 in
theorem ggX1_add_X4_write : GoodIn wsX1_add wsX4_write := goodIn_r _ [11, 12, 19] (by decide +kernel) (by decide +kernel)
set_option maxRecDepth 20000 in
theorem gX1_add_X4_write : GoodIn wsX1_add (wsV RX1 36 RX4 yX4_write wsX4_write) := goodIn_app (goodIn_of _ (by decide +kernel)) ggX1_add_X4_write
theorem dX1_add_0 : decode cX1_add 0 = .ok (.aload_n 0, 1) := by decide +kernel
theorem dX1_add_1 : decode cX1_add 1 = .ok (.getfield 20, 3) := by decide +kernel
theorem dX1_add_4 : decode cX1_add 4 = .ok (.aload_n 0, 1) := by decide +kernel
theorem dX1_add_5 : decode cX1_add 5 = .ok (.getfield 9, 3) := by decide +kernel
theorem dX1_add_8 : decode cX1_add 8 = .ok (.iload_n 1, 1) := by decide +kernel
theorem dX1_add_9 : decode cX1_add 9 = .ok (.invokevirtual 36, 3) := by decide +kernel
theorem dX1_add_12 : decode cX1_add 12 = .ok (.aload_n 0, 1) := by decide +kernel
theorem dX1_add_13 : decode cX1_add 13 = .ok (.getfield 24, 3) := by decide +kernel
theorem dX1_add_16 : decode cX1_add 16 = .ok (.aload_n 0, 1) := by decide +kernel
theorem dX1_add_17 : decode cX1_add 17 = .ok (.getfield 9, 3) := by decide +kernel
theorem dX1_add_20 : decode cX1_add 20 = .ok (.iload_n 2, 1) := by decide +kernel
theorem dX1_add_21 : decode cX1_add 21 = .ok (.invokevirtual 36, 3) := by decide +kernel
theorem dX1_add_24 : decode cX1_add 24 = .ok (.aload_n 0, 1) := by decide +kernel
theorem dX1_add_25 : decode cX1_add 25 = .ok (.getfield 27, 3) := by decide +kernel
theorem dX1_add_28 : decode cX1_add 28 = .ok (.aload_n 0, 1) := by decide +kernel
theorem dX1_add_29 : decode cX1_add 29 = .ok (.getfield 9, 3) := by decide +kernel
theorem dX1_add_32 : decode cX1_add 32 = .ok (.iload_n 3, 1) := by decide +kernel
theorem dX1_add_33 : decode cX1_add 33 = .ok (.ifCond .eq 7, 3) := by decide +kernel
theorem dX1_add_36 : decode cX1_add 36 = .ok (.iconst 1, 1) := by decide +kernel
theorem dX1_add_37 : decode cX1_add 37 = .ok (.goto 4, 3) := by decide +kernel
theorem dX1_add_40 : decode cX1_add 40 = .ok (.iconst 0, 1) := by decide +kernel
theorem dX1_add_41 : decode cX1_add 41 = .ok (.invokevirtual 36, 3) := by decide +kernel
theorem dX1_add_44 : decode cX1_add 44 = .ok (.aload_n 0, 1) := by decide +kernel
theorem dX1_add_45 : decode cX1_add 45 = .ok (.getfield 30, 3) := by decide +kernel
theorem dX1_add_48 : decode cX1_add 48 = .ok (.aload_n 0, 1) := by decide +kernel
theorem dX1_add_49 : decode cX1_add 49 = .ok (.getfield 9, 3) := by decide +kernel
theorem dX1_add_52 : decode cX1_add 52 = .ok (.iload 4, 2) := by decide +kernel
theorem dX1_add_54 : decode cX1_add 54 = .ok (.invokevirtual 36, 3) := by decide +kernel
theorem dX1_add_57 : decode cX1_add 57 = .ok (.aload_n 0, 1) := by decide +kernel
theorem dX1_add_58 : decode cX1_add 58 = .ok (.getfield 33, 3) := by decide +kernel
theorem dX1_add_61 : decode cX1_add 61 = .ok (.aload_n 0, 1) := by decide +kernel
theorem dX1_add_62 : decode cX1_add 62 = .ok (.getfield 9, 3) := by decide +kernel
theorem dX1_add_65 : decode cX1_add 65 = .ok (.iload 5, 2) := by decide +kernel
theorem dX1_add_67 : decode cX1_add 67 = .ok (.invokevirtual 36, 3) := by decide +kernel
theorem dX1_add_70 : decode cX1_add 70 = .ok (.aload_n 0, 1) := by decide +kernel
theorem dX1_add_71 : decode cX1_add 71 = .ok (.dup, 1) := by decide +kernel
theorem dX1_add_72 : decode cX1_add 72 = .ok (.getfield 9, 3) := by decide +kernel
theorem dX1_add_75 : decode cX1_add 75 = .ok (.iconst 1, 1) := by decide +kernel
theorem dX1_add_76 : decode cX1_add 76 = .ok (.iadd, 1) := by decide +kernel
theorem dX1_add_77 : decode cX1_add 77 = .ok (.putfield 9, 3) := by decide +kernel
theorem dX1_add_80 : decode cX1_add 80 = .ok (.aload_n 0, 1) := by decide +kernel
theorem dX1_add_81 : decode cX1_add 81 = .ok (.getfield 9, 3) := by decide +kernel
theorem dX1_add_84 : decode cX1_add 84 = .ok (.iconst 1, 1) := by decide +kernel
theorem dX1_add_85 : decode cX1_add 85 = .ok (.isub, 1) := by decide +kernel
theorem dX1_add_86 : decode cX1_add 86 = .ok (.ireturn, 1) := by decide +kernel
set_option maxRecDepth 20000 in
theorem ggX1_gap_X4_read : GoodIn wsX1_gap wsX4_read := goodIn_r _ [15, 16, 23] (by decide +kernel) (by decide +kernel)
set_option maxRecDepth 20000 in
theorem gX1_gap_X4_read : GoodIn wsX1_gap (wsV RX1 40 RX4 yX4_read wsX4_read) := goodIn_app (goodIn_of _ (by decide +kernel)) ggX1_gap_X4_read
theorem dX1_gap_0 : decode cX1_gap 0 = .ok (.iconst 0, 1) := by decide +kernel
theorem dX1_gap_1 : decode cX1_gap 1 = .ok (.aload_n 0, 1) := by decide +kernel
theorem dX1_gap_2 : decode cX1_gap 2 = .ok (.getfield 24, 3) := by decide +kernel
theorem dX1_gap_5 : decode cX1_gap 5 = .ok (.iload_n 1, 1) := by decide +kernel
theorem dX1_gap_6 : decode cX1_gap 6 = .ok (.invokevirtual 40, 3) := by decide +kernel
theorem dX1_gap_9 : decode cX1_gap 9 = .ok (.aload_n 0, 1) := by decide +kernel
theorem dX1_gap_10 : decode cX1_gap 10 = .ok (.getfield 24, 3) := by decide +kernel
theorem dX1_gap_13 : decode cX1_gap 13 = .ok (.iload_n 2, 1) := by decide +kernel
theorem dX1_gap_14 : decode cX1_gap 14 = .ok (.invokevirtual 40, 3) := by decide +kernel
theorem dX1_gap_17 : decode cX1_gap 17 = .ok (.isub, 1) := by decide +kernel
theorem dX1_gap_18 : decode cX1_gap 18 = .ok (.invokestatic 44, 3) := by decide +kernel
theorem dX1_gap_21 : decode cX1_gap 21 = .ok (.istore_n 3, 1) := by decide +kernel
theorem dX1_gap_22 : decode cX1_gap 22 = .ok (.aload_n 0, 1) := by decide +kernel
theorem dX1_gap_23 : decode cX1_gap 23 = .ok (.getfield 20, 3) := by decide +kernel
theorem dX1_gap_26 : decode cX1_gap 26 = .ok (.iload_n 1, 1) := by decide +kernel
theorem dX1_gap_27 : decode cX1_gap 27 = .ok (.invokevirtual 40, 3) := by decide +kernel
theorem dX1_gap_30 : decode cX1_gap 30 = .ok (.aload_n 0, 1) := by decide +kernel
theorem dX1_gap_31 : decode cX1_gap 31 = .ok (.getfield 20, 3) := by decide +kernel
theorem dX1_gap_34 : decode cX1_gap 34 = .ok (.iload_n 2, 1) := by decide +kernel
theorem dX1_gap_35 : decode cX1_gap 35 = .ok (.invokevirtual 40, 3) := by decide +kernel
theorem dX1_gap_38 : decode cX1_gap 38 = .ok (.isub, 1) := by decide +kernel
theorem dX1_gap_39 : decode cX1_gap 39 = .ok (.invokestatic 50, 3) := by decide +kernel
theorem dX1_gap_42 : decode cX1_gap 42 = .ok (.iconst 1, 1) := by decide +kernel
theorem dX1_gap_43 : decode cX1_gap 43 = .ok (.if_icmp .le 6, 3) := by decide +kernel
theorem dX1_gap_46 : decode cX1_gap 46 = .ok (.iinc 3 1, 3) := by decide +kernel
theorem dX1_gap_49 : decode cX1_gap 49 = .ok (.aload_n 0, 1) := by decide +kernel
theorem dX1_gap_50 : decode cX1_gap 50 = .ok (.getfield 27, 3) := by decide +kernel
theorem dX1_gap_53 : decode cX1_gap 53 = .ok (.iload_n 1, 1) := by decide +kernel
theorem dX1_gap_54 : decode cX1_gap 54 = .ok (.invokevirtual 40, 3) := by decide +kernel
theorem dX1_gap_57 : decode cX1_gap 57 = .ok (.iconst 1, 1) := by decide +kernel
theorem dX1_gap_58 : decode cX1_gap 58 = .ok (.if_icmp .ne 17, 3) := by decide +kernel
theorem dX1_gap_61 : decode cX1_gap 61 = .ok (.aload_n 0, 1) := by decide +kernel
theorem dX1_gap_62 : decode cX1_gap 62 = .ok (.getfield 27, 3) := by decide +kernel
theorem dX1_gap_65 : decode cX1_gap 65 = .ok (.iload_n 2, 1) := by decide +kernel
theorem dX1_gap_66 : decode cX1_gap 66 = .ok (.invokevirtual 40, 3) := by decide +kernel
theorem dX1_gap_69 : decode cX1_gap 69 = .ok (.ifCond .ne 6, 3) := by decide +kernel
theorem dX1_gap_72 : decode cX1_gap 72 = .ok (.iinc 3 2, 3) := by decide +kernel
theorem dX1_gap_75 : decode cX1_gap 75 = .ok (.iload_n 3, 1) := by decide +kernel
theorem dX1_gap_76 : decode cX1_gap 76 = .ok (.ireturn, 1) := by decide +kernel
set_option maxRecDepth 20000 in
theorem ggX2_init_X4_init : GoodIn wsX2_init wsX4_init := goodIn_r _ [16, 17, 2, 3, 18, 19, 27] (by decide +kernel) (by decide +kernel)
set_option maxRecDepth 20000 in
theorem gX2_init_X4_init : GoodIn wsX2_init (wsX4_init) := ggX2_init_X4_init
theorem dX2_init_0 : decode cX2_init 0 = .ok (.aload_n 0, 1) := by decide +kernel
theorem dX2_init_1 : decode cX2_init 1 = .ok (.invokespecial 3, 3) := by decide +kernel
theorem dX2_init_4 : decode cX2_init 4 = .ok (.aload_n 0, 1) := by decide +kernel
theorem dX2_init_5 : decode cX2_init 5 = .ok (.iconst 0, 1) := by decide +kernel
theorem dX2_init_6 : decode cX2_init 6 = .ok (.putfield 9, 3) := by decide +kernel
theorem dX2_init_9 : decode cX2_init 9 = .ok (.aload_n 0, 1) := by decide +kernel
theorem dX2_init_10 : decode cX2_init 10 = .ok (.new 15, 3) := by decide +kernel
theorem dX2_init_13 : decode cX2_init 13 = .ok (.dup, 1) := by decide +kernel
theorem dX2_init_14 : decode cX2_init 14 = .ok (.bipush 100, 2) := by decide +kernel
theorem dX2_init_16 : decode cX2_init 16 = .ok (.invokespecial 17, 3) := by decide +kernel
theorem dX2_init_19 : decode cX2_init 19 = .ok (.putfield 20, 3) := by decide +kernel
theorem dX2_init_22 : decode cX2_init 22 = .ok (.aload_n 0, 1) := by decide +kernel
theorem dX2_init_23 : decode cX2_init 23 = .ok (.new 15, 3) := by decide +kernel
theorem dX2_init_26 : decode cX2_init 26 = .ok (.dup, 1) := by decide +kernel
theorem dX2_init_27 : decode cX2_init 27 = .ok (.bipush 100, 2) := by decide +kernel
theorem dX2_init_29 : decode cX2_init 29 = .ok (.invokespecial 17, 3) := by decide +kernel
theorem dX2_init_32 : decode cX2_init 32 = .ok (.putfield 24, 3) := by decide +kernel
theorem dX2_init_35 : decode cX2_init 35 = .ok (.aload_n 0, 1) := by decide +kernel
theorem dX2_init_36 : decode cX2_init 36 = .ok (.new 15, 3) := by decide +kernel
theorem dX2_init_39 : decode cX2_init 39 = .ok (.dup, 1) := by decide +kernel
theorem dX2_init_40 : decode cX2_init 40 = .ok (.bipush 100, 2) := by decide +kernel
theorem dX2_init_42 : decode cX2_init 42 = .ok (.invokespecial 17, 3) := by decide +kernel
theorem dX2_init_45 : decode cX2_init 45 = .ok (.putfield 27, 3) := by decide +kernel
theorem dX2_init_48 : decode cX2_init 48 = .ok (.aload_n 0, 1) := by decide +kernel
theorem dX2_init_49 : decode cX2_init 49 = .ok (.new 15, 3) := by decide +kernel
theorem dX2_init_52 : decode cX2_init 52 = .ok (.dup, 1) := by decide +kernel
theorem dX2_init_53 : decode cX2_init 53 = .ok (.bipush 100, 2) := by decide +kernel
theorem dX2_init_55 : decode cX2_init 55 = .ok (.invokespecial 17, 3) := by decide +kernel
theorem dX2_init_58 : decode cX2_init 58 = .ok (.putfield 30, 3) := by decide +kernel
theorem dX2_init_61 : decode cX2_init 61 = .ok (.aload_n 0, 1) := by decide +kernel
theorem dX2_init_62 : decode cX2_init 62 = .ok (.new 15, 3) := by decide +kernel
theorem dX2_init_65 : decode cX2_init 65 = .ok (.dup, 1) := by decide +kernel
theorem dX2_init_66 : decode cX2_init 66 = .ok (.bipush 100, 2) := by decide +kernel
theorem dX2_init_68 : decode cX2_init 68 = .ok (.invokespecial 17, 3) := by decide +kernel
theorem dX2_init_71 : decode cX2_init 71 = .ok (.putfield 33, 3) := by decide +kernel
theorem dX2_init_74 : decode cX2_init 74 = .ok (.aload_n 0, 1) := by decide +kernel
theorem dX2_init_75 : decode cX2_init 75 = .ok (.new 15, 3) := by decide +kernel
theorem dX2_init_78 : decode cX2_init 78 = .ok (.dup, 1) := by decide +kernel
theorem dX2_init_79 : decode cX2_init 79 = .ok (.bipush 100, 2) := by decide +kernel
theorem dX2_init_81 : decode cX2_init 81 = .ok (.invokespecial 17, 3) := by decide +kernel
theorem dX2_init_84 : decode cX2_init 84 = .ok (.putfield 36, 3) := by decide +kernel
theorem dX2_init_87 : decode cX2_init 87 = .ok (.return_, 1) := by decide +kernel
set_option maxRecDepth 20000 in
theorem ggX2_add_X4_write : GoodIn wsX2_add wsX4_write := goodIn_r _ [12, 13, 21] (by decide +kernel) (by decide +kernel)
set_option maxRecDepth 20000 in
theorem gX2_add_X4_write : GoodIn wsX2_add (wsV RX2 39 RX4 yX4_write wsX4_write) := goodIn_app (goodIn_of _ (by decide +kernel)) ggX2_add_X4_write
theorem dX2_add_0 : decode cX2_add 0 = .ok (.aload_n 0, 1) := by decide +kernel
theorem dX2_add_1 : decode cX2_add 1 = .ok (.getfield 20, 3) := by decide +kernel
theorem dX2_add_4 : decode cX2_add 4 = .ok (.aload_n 0, 1) := by decide +kernel
theorem dX2_add_5 : decode cX2_add 5 = .ok (.getfield 9, 3) := by decide +kernel
theorem dX2_add_8 : decode cX2_add 8 = .ok (.iload_n 1, 1) := by decide +kernel
theorem dX2_add_9 : decode cX2_add 9 = .ok (.invokevirtual 39, 3) := by decide +kernel
theorem dX2_add_12 : decode cX2_add 12 = .ok (.aload_n 0, 1) := by decide +kernel
theorem dX2_add_13 : decode cX2_add 13 = .ok (.getfield 24, 3) := by decide +kernel
theorem dX2_add_16 : decode cX2_add 16 = .ok (.aload_n 0, 1) := by decide +kernel
theorem dX2_add_17 : decode cX2_add 17 = .ok (.getfield 9, 3) := by decide +kernel
theorem dX2_add_20 : decode cX2_add 20 = .ok (.iload_n 2, 1) := by decide +kernel
theorem dX2_add_21 : decode cX2_add 21 = .ok (.invokevirtual 39, 3) := by decide +kernel
theorem dX2_add_24 : decode cX2_add 24 = .ok (.aload_n 0, 1) := by decide +kernel
theorem dX2_add_25 : decode cX2_add 25 = .ok (.getfield 27, 3) := by decide +kernel
theorem dX2_add_28 : decode cX2_add 28 = .ok (.aload_n 0, 1) := by decide +kernel
theorem dX2_add_29 : decode cX2_add 29 = .ok (.getfield 9, 3) := by decide +kernel
theorem dX2_add_32 : decode cX2_add 32 = .ok (.iload_n 3, 1) := by decide +kernel
theorem dX2_add_33 : decode cX2_add 33 = .ok (.ifCond .eq 7, 3) := by decide +kernel
theorem dX2_add_36 : decode cX2_add 36 = .ok (.iconst 1, 1) := by decide +kernel
theorem dX2_add_37 : decode cX2_add 37 = .ok (.goto 4, 3) := by decide +kernel
theorem dX2_add_40 : decode cX2_add 40 = .ok (.iconst 0, 1) := by decide +kernel
theorem dX2_add_41 : decode cX2_add 41 = .ok (.invokevirtual 39, 3) := by decide +kernel
theorem dX2_add_44 : decode cX2_add 44 = .ok (.aload_n 0, 1) := by decide +kernel
theorem dX2_add_45 : decode cX2_add 45 = .ok (.getfield 30, 3) := by decide +kernel
theorem dX2_add_48 : decode cX2_add 48 = .ok (.aload_n 0, 1) := by decide +kernel
theorem dX2_add_49 : decode cX2_add 49 = .ok (.getfield 9, 3) := by decide +kernel
theorem dX2_add_52 : decode cX2_add 52 = .ok (.iconst 0, 1) := by decide +kernel
theorem dX2_add_53 : decode cX2_add 53 = .ok (.invokevirtual 39, 3) := by decide +kernel
theorem dX2_add_56 : decode cX2_add 56 = .ok (.aload_n 0, 1) := by decide +kernel
theorem dX2_add_57 : decode cX2_add 57 = .ok (.getfield 33, 3) := by decide +kernel
theorem dX2_add_60 : decode cX2_add 60 = .ok (.aload_n 0, 1) := by decide +kernel
theorem dX2_add_61 : decode cX2_add 61 = .ok (.getfield 9, 3) := by decide +kernel
theorem dX2_add_64 : decode cX2_add 64 = .ok (.iconst 0, 1) := by decide +kernel
theorem dX2_add_65 : decode cX2_add 65 = .ok (.invokevirtual 39, 3) := by decide +kernel
theorem dX2_add_68 : decode cX2_add 68 = .ok (.aload_n 0, 1) := by decide +kernel
theorem dX2_add_69 : decode cX2_add 69 = .ok (.getfield 36, 3) := by decide +kernel
theorem dX2_add_72 : decode cX2_add 72 = .ok (.aload_n 0, 1) := by decide +kernel
theorem dX2_add_73 : decode cX2_add 73 = .ok (.getfield 9, 3) := by decide +kernel
theorem dX2_add_76 : decode cX2_add 76 = .ok (.iconst (-1), 1) := by decide +kernel
theorem dX2_add_77 : decode cX2_add 77 = .ok (.invokevirtual 39, 3) := by decide +kernel
theorem dX2_add_80 : decode cX2_add 80 = .ok (.aload_n 0, 1) := by decide +kernel
theorem dX2_add_81 : decode cX2_add 81 = .ok (.dup, 1) := by decide +kernel
theorem dX2_add_82 : decode cX2_add 82 = .ok (.getfield 9, 3) := by decide +kernel
theorem dX2_add_85 : decode cX2_add 85 = .ok (.iconst 1, 1) := by decide +kernel
theorem dX2_add_86 : decode cX2_add 86 = .ok (.iadd, 1) := by decide +kernel
theorem dX2_add_87 : decode cX2_add 87 = .ok (.putfield 9, 3) := by decide +kernel
theorem dX2_add_90 : decode cX2_add 90 = .ok (.aload_n 0, 1) := by decide +kernel
theorem dX2_add_91 : decode cX2_add 91 = .ok (.getfield 9, 3) := by decide +kernel
theorem dX2_add_94 : decode cX2_add 94 = .ok (.iconst 1, 1) := by decide +kernel
theorem dX2_add_95 : decode cX2_add 95 = .ok (.isub, 1) := by decide +kernel
theorem dX2_add_96 : decode cX2_add 96 = .ok (.ireturn, 1) := by decide +kernel
set_option maxRecDepth 20000 in
theorem ggX2_fits_X4_read : GoodIn wsX2_fits wsX4_read := goodIn_r _ [8, 9, 17] (by decide +kernel) (by decide +kernel)
set_option maxRecDepth 20000 in
theorem gX2_fits_X4_read : GoodIn wsX2_fits (wsV RX2 43 RX4 yX4_read wsX4_read) := goodIn_app (goodIn_of _ (by decide +kernel)) ggX2_fits_X4_read
theorem dX2_fits_0 : decode cX2_fits 0 = .ok (.aload_n 0, 1) := by decide +kernel
theorem dX2_fits_1 : decode cX2_fits 1 = .ok (.getfield 30, 3) := by decide +kernel
theorem dX2_fits_4 : decode cX2_fits 4 = .ok (.iload_n 1, 1) := by decide +kernel
theorem dX2_fits_5 : decode cX2_fits 5 = .ok (.invokevirtual 43, 3) := by decide +kernel
theorem dX2_fits_8 : decode cX2_fits 8 = .ok (.iload 4, 2) := by decide +kernel
theorem dX2_fits_10 : decode cX2_fits 10 = .ok (.if_icmp .ne 41, 3) := by decide +kernel
theorem dX2_fits_13 : decode cX2_fits 13 = .ok (.iload_n 2, 1) := by decide +kernel
theorem dX2_fits_14 : decode cX2_fits 14 = .ok (.iconst (-1), 1) := by decide +kernel
theorem dX2_fits_15 : decode cX2_fits 15 = .ok (.if_icmp .eq 15, 3) := by decide +kernel
theorem dX2_fits_18 : decode cX2_fits 18 = .ok (.aload_n 0, 1) := by decide +kernel
theorem dX2_fits_19 : decode cX2_fits 19 = .ok (.getfield 24, 3) := by decide +kernel
theorem dX2_fits_22 : decode cX2_fits 22 = .ok (.iload_n 1, 1) := by decide +kernel
theorem dX2_fits_23 : decode cX2_fits 23 = .ok (.invokevirtual 43, 3) := by decide +kernel
theorem dX2_fits_26 : decode cX2_fits 26 = .ok (.iload_n 2, 1) := by decide +kernel
theorem dX2_fits_27 : decode cX2_fits 27 = .ok (.if_icmp .ne 24, 3) := by decide +kernel
theorem dX2_fits_30 : decode cX2_fits 30 = .ok (.iload_n 3, 1) := by decide +kernel
theorem dX2_fits_31 : decode cX2_fits 31 = .ok (.iconst (-1), 1) := by decide +kernel
theorem dX2_fits_32 : decode cX2_fits 32 = .ok (.if_icmp .eq 15, 3) := by decide +kernel
theorem dX2_fits_35 : decode cX2_fits 35 = .ok (.aload_n 0, 1) := by decide +kernel
theorem dX2_fits_36 : decode cX2_fits 36 = .ok (.getfield 20, 3) := by decide +kernel
theorem dX2_fits_39 : decode cX2_fits 39 = .ok (.iload_n 1, 1) := by decide +kernel
theorem dX2_fits_40 : decode cX2_fits 40 = .ok (.invokevirtual 43, 3) := by decide +kernel
theorem dX2_fits_43 : decode cX2_fits 43 = .ok (.iload_n 3, 1) := by decide +kernel
theorem dX2_fits_44 : decode cX2_fits 44 = .ok (.if_icmp .ne 7, 3) := by decide +kernel
theorem dX2_fits_47 : decode cX2_fits 47 = .ok (.iconst 1, 1) := by decide +kernel
theorem dX2_fits_48 : decode cX2_fits 48 = .ok (.goto 4, 3) := by decide +kernel
theorem dX2_fits_51 : decode cX2_fits 51 = .ok (.iconst 0, 1) := by decide +kernel
theorem dX2_fits_52 : decode cX2_fits 52 = .ok (.ireturn, 1) := by decide +kernel
set_option maxRecDepth 20000 in
theorem ggX2_tally_X2_fits : GoodIn wsX2_tally wsX2_fits := goodIn_r _ [6, 7, 8, 9, 10, 11, 12, 13, 14, 15, 16, 17, 18, 19, 20, 21, 22, 23] (by decide +kernel) (by decide +kernel)
set_option maxRecDepth 20000 in
theorem gX2_tally_X2_fits : GoodIn wsX2_tally (wsV RX2 47 RX2 yX2_fits wsX2_fits) := goodIn_app (goodIn_of _ (by decide +kernel)) ggX2_tally_X2_fits
theorem dX2_tally_0 : decode cX2_tally 0 = .ok (.iconst 0, 1) := by decide +kernel
theorem dX2_tally_1 : decode cX2_tally 1 = .ok (.istore 4, 2) := by decide +kernel
theorem dX2_tally_3 : decode cX2_tally 3 = .ok (.iconst 0, 1) := by decide +kernel
theorem dX2_tally_4 : decode cX2_tally 4 = .ok (.istore 5, 2) := by decide +kernel
theorem dX2_tally_6 : decode cX2_tally 6 = .ok (.iload 5, 2) := by decide +kernel
theorem dX2_tally_8 : decode cX2_tally 8 = .ok (.aload_n 0, 1) := by decide +kernel
theorem dX2_tally_9 : decode cX2_tally 9 = .ok (.getfield 9, 3) := by decide +kernel
theorem dX2_tally_12 : decode cX2_tally 12 = .ok (.if_icmp .ge 24, 3) := by decide +kernel
theorem dX2_tally_15 : decode cX2_tally 15 = .ok (.aload_n 0, 1) := by decide +kernel
theorem dX2_tally_16 : decode cX2_tally 16 = .ok (.iload 5, 2) := by decide +kernel
theorem dX2_tally_18 : decode cX2_tally 18 = .ok (.iload_n 1, 1) := by decide +kernel
theorem dX2_tally_19 : decode cX2_tally 19 = .ok (.iload_n 2, 1) := by decide +kernel
theorem dX2_tally_20 : decode cX2_tally 20 = .ok (.iload_n 3, 1) := by decide +kernel
theorem dX2_tally_21 : decode cX2_tally 21 = .ok (.invokevirtual 47, 3) := by decide +kernel
theorem dX2_tally_24 : decode cX2_tally 24 = .ok (.ifCond .eq 6, 3) := by decide +kernel
theorem dX2_tally_27 : decode cX2_tally 27 = .ok (.iinc 4 1, 3) := by decide +kernel
theorem dX2_tally_30 : decode cX2_tally 30 = .ok (.iinc 5 1, 3) := by decide +kernel
theorem dX2_tally_33 : decode cX2_tally 33 = .ok (.goto (-27), 3) := by decide +kernel
theorem dX2_tally_36 : decode cX2_tally 36 = .ok (.iload 4, 2) := by decide +kernel
theorem dX2_tally_38 : decode cX2_tally 38 = .ok (.ireturn, 1) := by decide +kernel
set_option maxRecDepth 20000 in
theorem ggX2_fillBatch_X2_fits : GoodIn wsX2_fillBatch wsX2_fits := goodIn_r _ [8, 2, 9, 10, 11, 12, 13, 14, 15, 16, 21, 22, 23, 24, 25, 26, 27, 28] (by decide +kernel) (by decide +kernel)
set_option maxRecDepth 20000 in
theorem gX2_fillBatch_X2_fits : GoodIn wsX2_fillBatch (wsV RX2 47 RX2 yX2_fits wsX2_fits) := goodIn_app (goodIn_of _ (by decide +kernel)) ggX2_fillBatch_X2_fits
set_option maxRecDepth 20000 in
theorem ggX2_fillBatch_X4_write : GoodIn wsX2_fillBatch wsX4_write := goodIn_r _ [20, 16, 28] (by decide +kernel) (by decide +kernel)
set_option maxRecDepth 20000 in
theorem gX2_fillBatch_X4_write : GoodIn wsX2_fillBatch (wsV RX2 39 RX4 yX4_write wsX4_write) := goodIn_app (goodIn_of _ (by decide +kernel)) ggX2_fillBatch_X4_write
theorem dX2_fillBatch_0 : decode cX2_fillBatch 0 = .ok (.iconst 0, 1) := by decide +kernel
theorem dX2_fillBatch_1 : decode cX2_fillBatch 1 = .ok (.istore 5, 2) := by decide +kernel
theorem dX2_fillBatch_3 : decode cX2_fillBatch 3 = .ok (.iconst 0, 1) := by decide +kernel
theorem dX2_fillBatch_4 : decode cX2_fillBatch 4 = .ok (.istore 6, 2) := by decide +kernel
theorem dX2_fillBatch_6 : decode cX2_fillBatch 6 = .ok (.iload 6, 2) := by decide +kernel
theorem dX2_fillBatch_8 : decode cX2_fillBatch 8 = .ok (.aload_n 0, 1) := by decide +kernel
theorem dX2_fillBatch_9 : decode cX2_fillBatch 9 = .ok (.getfield 9, 3) := by decide +kernel
theorem dX2_fillBatch_12 : decode cX2_fillBatch 12 = .ok (.if_icmp .ge 51, 3) := by decide +kernel
theorem dX2_fillBatch_15 : decode cX2_fillBatch 15 = .ok (.iload 5, 2) := by decide +kernel
theorem dX2_fillBatch_17 : decode cX2_fillBatch 17 = .ok (.iload 4, 2) := by decide +kernel
theorem dX2_fillBatch_19 : decode cX2_fillBatch 19 = .ok (.if_icmp .ge 44, 3) := by decide +kernel
theorem dX2_fillBatch_22 : decode cX2_fillBatch 22 = .ok (.aload_n 0, 1) := by decide +kernel
theorem dX2_fillBatch_23 : decode cX2_fillBatch 23 = .ok (.iload 6, 2) := by decide +kernel
theorem dX2_fillBatch_25 : decode cX2_fillBatch 25 = .ok (.iload_n 3, 1) := by decide +kernel
theorem dX2_fillBatch_26 : decode cX2_fillBatch 26 = .ok (.iload_n 2, 1) := by decide +kernel
theorem dX2_fillBatch_27 : decode cX2_fillBatch 27 = .ok (.iconst 1, 1) := by decide +kernel
theorem dX2_fillBatch_28 : decode cX2_fillBatch 28 = .ok (.invokevirtual 47, 3) := by decide +kernel
theorem dX2_fillBatch_31 : decode cX2_fillBatch 31 = .ok (.ifCond .eq 26, 3) := by decide +kernel
theorem dX2_fillBatch_34 : decode cX2_fillBatch 34 = .ok (.aload_n 0, 1) := by decide +kernel
theorem dX2_fillBatch_35 : decode cX2_fillBatch 35 = .ok (.getfield 30, 3) := by decide +kernel
theorem dX2_fillBatch_38 : decode cX2_fillBatch 38 = .ok (.iload 6, 2) := by decide +kernel
theorem dX2_fillBatch_40 : decode cX2_fillBatch 40 = .ok (.iconst 2, 1) := by decide +kernel
theorem dX2_fillBatch_41 : decode cX2_fillBatch 41 = .ok (.invokevirtual 39, 3) := by decide +kernel
theorem dX2_fillBatch_44 : decode cX2_fillBatch 44 = .ok (.aload_n 0, 1) := by decide +kernel
theorem dX2_fillBatch_45 : decode cX2_fillBatch 45 = .ok (.getfield 36, 3) := by decide +kernel
theorem dX2_fillBatch_48 : decode cX2_fillBatch 48 = .ok (.iload 6, 2) := by decide +kernel
theorem dX2_fillBatch_50 : decode cX2_fillBatch 50 = .ok (.iload_n 1, 1) := by decide +kernel
theorem dX2_fillBatch_51 : decode cX2_fillBatch 51 = .ok (.invokevirtual 39, 3) := by decide +kernel
theorem dX2_fillBatch_54 : decode cX2_fillBatch 54 = .ok (.iinc 5 1, 3) := by decide +kernel
theorem dX2_fillBatch_57 : decode cX2_fillBatch 57 = .ok (.iinc 6 1, 3) := by decide +kernel
theorem dX2_fillBatch_60 : decode cX2_fillBatch 60 = .ok (.goto (-54), 3) := by decide +kernel
theorem dX2_fillBatch_63 : decode cX2_fillBatch 63 = .ok (.iload 5, 2) := by decide +kernel
theorem dX2_fillBatch_65 : decode cX2_fillBatch 65 = .ok (.ireturn, 1) := by decide +kernel
set_option maxRecDepth 20000 in
theorem ggX2_pieceOfBatch_X4_read : GoodIn wsX2_pieceOfBatch wsX4_read := goodIn_r _ [7, 8, 16] (by decide +kernel) (by decide +kernel)
set_option maxRecDepth 20000 in
theorem gX2_pieceOfBatch_X4_read : GoodIn wsX2_pieceOfBatch (wsV RX2 43 RX4 yX4_read wsX4_read) := goodIn_app (goodIn_of _ (by decide +kernel)) ggX2_pieceOfBatch_X4_read
theorem dX2_pieceOfBatch_0 : decode cX2_pieceOfBatch 0 = .ok (.iconst 0, 1) := by decide +kernel
theorem dX2_pieceOfBatch_1 : decode cX2_pieceOfBatch 1 = .ok (.istore_n 3, 1) := by decide +kernel
theorem dX2_pieceOfBatch_2 : decode cX2_pieceOfBatch 2 = .ok (.iconst 0, 1) := by decide +kernel
theorem dX2_pieceOfBatch_3 : decode cX2_pieceOfBatch 3 = .ok (.istore 4, 2) := by decide +kernel
theorem dX2_pieceOfBatch_5 : decode cX2_pieceOfBatch 5 = .ok (.iload 4, 2) := by decide +kernel
theorem dX2_pieceOfBatch_7 : decode cX2_pieceOfBatch 7 = .ok (.aload_n 0, 1) := by decide +kernel
theorem dX2_pieceOfBatch_8 : decode cX2_pieceOfBatch 8 = .ok (.getfield 9, 3) := by decide +kernel
theorem dX2_pieceOfBatch_11 : decode cX2_pieceOfBatch 11 = .ok (.if_icmp .ge 33, 3) := by decide +kernel
theorem dX2_pieceOfBatch_14 : decode cX2_pieceOfBatch 14 = .ok (.aload_n 0, 1) := by decide +kernel
theorem dX2_pieceOfBatch_15 : decode cX2_pieceOfBatch 15 = .ok (.getfield 36, 3) := by decide +kernel
theorem dX2_pieceOfBatch_18 : decode cX2_pieceOfBatch 18 = .ok (.iload 4, 2) := by decide +kernel
theorem dX2_pieceOfBatch_20 : decode cX2_pieceOfBatch 20 = .ok (.invokevirtual 43, 3) := by decide +kernel
theorem dX2_pieceOfBatch_23 : decode cX2_pieceOfBatch 23 = .ok (.iload_n 1, 1) := by decide +kernel
theorem dX2_pieceOfBatch_24 : decode cX2_pieceOfBatch 24 = .ok (.if_icmp .ne 14, 3) := by decide +kernel
theorem dX2_pieceOfBatch_27 : decode cX2_pieceOfBatch 27 = .ok (.iload_n 3, 1) := by decide +kernel
theorem dX2_pieceOfBatch_28 : decode cX2_pieceOfBatch 28 = .ok (.iload_n 2, 1) := by decide +kernel
theorem dX2_pieceOfBatch_29 : decode cX2_pieceOfBatch 29 = .ok (.if_icmp .ne 6, 3) := by decide +kernel
theorem dX2_pieceOfBatch_32 : decode cX2_pieceOfBatch 32 = .ok (.iload 4, 2) := by decide +kernel
theorem dX2_pieceOfBatch_34 : decode cX2_pieceOfBatch 34 = .ok (.ireturn, 1) := by decide +kernel
theorem dX2_pieceOfBatch_35 : decode cX2_pieceOfBatch 35 = .ok (.iinc 3 1, 3) := by decide +kernel
theorem dX2_pieceOfBatch_38 : decode cX2_pieceOfBatch 38 = .ok (.iinc 4 1, 3) := by decide +kernel
theorem dX2_pieceOfBatch_41 : decode cX2_pieceOfBatch 41 = .ok (.goto (-36), 3) := by decide +kernel
theorem dX2_pieceOfBatch_44 : decode cX2_pieceOfBatch 44 = .ok (.iconst (-1), 1) := by decide +kernel
theorem dX2_pieceOfBatch_45 : decode cX2_pieceOfBatch 45 = .ok (.ireturn, 1) := by decide +kernel
set_option maxRecDepth 20000 in
theorem ggX2_emptyBatch_X4_read : GoodIn wsX2_emptyBatch wsX4_read := goodIn_r _ [8, 9, 21] (by decide +kernel) (by decide +kernel)
set_option maxRecDepth 20000 in
theorem gX2_emptyBatch_X4_read : GoodIn wsX2_emptyBatch (wsV RX2 43 RX4 yX4_read wsX4_read) := goodIn_app (goodIn_of _ (by decide +kernel)) ggX2_emptyBatch_X4_read
set_option maxRecDepth 20000 in
theorem ggX2_emptyBatch_X4_write : GoodIn wsX2_emptyBatch wsX4_write := goodIn_r _ [13, 9, 21] (by decide +kernel) (by decide +kernel)
set_option maxRecDepth 20000 in
theorem gX2_emptyBatch_X4_write : GoodIn wsX2_emptyBatch (wsV RX2 39 RX4 yX4_write wsX4_write) := goodIn_app (goodIn_of _ (by decide +kernel)) ggX2_emptyBatch_X4_write
theorem dX2_emptyBatch_0 : decode cX2_emptyBatch 0 = .ok (.iconst 0, 1) := by decide +kernel
theorem dX2_emptyBatch_1 : decode cX2_emptyBatch 1 = .ok (.istore_n 2, 1) := by decide +kernel
theorem dX2_emptyBatch_2 : decode cX2_emptyBatch 2 = .ok (.iload_n 2, 1) := by decide +kernel
theorem dX2_emptyBatch_3 : decode cX2_emptyBatch 3 = .ok (.aload_n 0, 1) := by decide +kernel
theorem dX2_emptyBatch_4 : decode cX2_emptyBatch 4 = .ok (.getfield 9, 3) := by decide +kernel
theorem dX2_emptyBatch_7 : decode cX2_emptyBatch 7 = .ok (.if_icmp .ge 60, 3) := by decide +kernel
theorem dX2_emptyBatch_10 : decode cX2_emptyBatch 10 = .ok (.aload_n 0, 1) := by decide +kernel
theorem dX2_emptyBatch_11 : decode cX2_emptyBatch 11 = .ok (.getfield 36, 3) := by decide +kernel
theorem dX2_emptyBatch_14 : decode cX2_emptyBatch 14 = .ok (.iload_n 2, 1) := by decide +kernel
theorem dX2_emptyBatch_15 : decode cX2_emptyBatch 15 = .ok (.invokevirtual 43, 3) := by decide +kernel
theorem dX2_emptyBatch_18 : decode cX2_emptyBatch 18 = .ok (.istore_n 3, 1) := by decide +kernel
theorem dX2_emptyBatch_19 : decode cX2_emptyBatch 19 = .ok (.iload_n 3, 1) := by decide +kernel
theorem dX2_emptyBatch_20 : decode cX2_emptyBatch 20 = .ok (.iload_n 1, 1) := by decide +kernel
theorem dX2_emptyBatch_21 : decode cX2_emptyBatch 21 = .ok (.if_icmp .ne 24, 3) := by decide +kernel
theorem dX2_emptyBatch_24 : decode cX2_emptyBatch 24 = .ok (.aload_n 0, 1) := by decide +kernel
theorem dX2_emptyBatch_25 : decode cX2_emptyBatch 25 = .ok (.getfield 30, 3) := by decide +kernel
theorem dX2_emptyBatch_28 : decode cX2_emptyBatch 28 = .ok (.iload_n 2, 1) := by decide +kernel
theorem dX2_emptyBatch_29 : decode cX2_emptyBatch 29 = .ok (.iconst 1, 1) := by decide +kernel
theorem dX2_emptyBatch_30 : decode cX2_emptyBatch 30 = .ok (.invokevirtual 39, 3) := by decide +kernel
theorem dX2_emptyBatch_33 : decode cX2_emptyBatch 33 = .ok (.aload_n 0, 1) := by decide +kernel
theorem dX2_emptyBatch_34 : decode cX2_emptyBatch 34 = .ok (.getfield 36, 3) := by decide +kernel
theorem dX2_emptyBatch_37 : decode cX2_emptyBatch 37 = .ok (.iload_n 2, 1) := by decide +kernel
theorem dX2_emptyBatch_38 : decode cX2_emptyBatch 38 = .ok (.iconst (-1), 1) := by decide +kernel
theorem dX2_emptyBatch_39 : decode cX2_emptyBatch 39 = .ok (.invokevirtual 39, 3) := by decide +kernel
theorem dX2_emptyBatch_42 : decode cX2_emptyBatch 42 = .ok (.goto 19, 3) := by decide +kernel
theorem dX2_emptyBatch_45 : decode cX2_emptyBatch 45 = .ok (.iload_n 3, 1) := by decide +kernel
theorem dX2_emptyBatch_46 : decode cX2_emptyBatch 46 = .ok (.iload_n 1, 1) := by decide +kernel
theorem dX2_emptyBatch_47 : decode cX2_emptyBatch 47 = .ok (.if_icmp .le 14, 3) := by decide +kernel
theorem dX2_emptyBatch_50 : decode cX2_emptyBatch 50 = .ok (.aload_n 0, 1) := by decide +kernel
theorem dX2_emptyBatch_51 : decode cX2_emptyBatch 51 = .ok (.getfield 36, 3) := by decide +kernel
theorem dX2_emptyBatch_54 : decode cX2_emptyBatch 54 = .ok (.iload_n 2, 1) := by decide +kernel
theorem dX2_emptyBatch_55 : decode cX2_emptyBatch 55 = .ok (.iload_n 3, 1) := by decide +kernel
theorem dX2_emptyBatch_56 : decode cX2_emptyBatch 56 = .ok (.iconst 1, 1) := by decide +kernel
theorem dX2_emptyBatch_57 : decode cX2_emptyBatch 57 = .ok (.isub, 1) := by decide +kernel
theorem dX2_emptyBatch_58 : decode cX2_emptyBatch 58 = .ok (.invokevirtual 39, 3) := by decide +kernel
theorem dX2_emptyBatch_61 : decode cX2_emptyBatch 61 = .ok (.iinc 2 1, 3) := by decide +kernel
theorem dX2_emptyBatch_64 : decode cX2_emptyBatch 64 = .ok (.goto (-62), 3) := by decide +kernel
theorem dX2_emptyBatch_67 : decode cX2_emptyBatch 67 = .ok (.return_, 1) := by decide +kernel
set_option maxRecDepth 20000 in
theorem ggX2_cleanBatches_X4_read : GoodIn wsX2_cleanBatches wsX4_read := goodIn_r _ [9, 10, 22] (by decide +kernel) (by decide +kernel)
set_option maxRecDepth 20000 in
theorem gX2_cleanBatches_X4_read : GoodIn wsX2_cleanBatches (wsV RX2 43 RX4 yX4_read wsX4_read) := goodIn_app (goodIn_of _ (by decide +kernel)) ggX2_cleanBatches_X4_read
set_option maxRecDepth 20000 in
theorem ggX2_cleanBatches_X4_write : GoodIn wsX2_cleanBatches wsX4_write := goodIn_r _ [14, 10, 22] (by decide +kernel) (by decide +kernel)
set_option maxRecDepth 20000 in
theorem gX2_cleanBatches_X4_write : GoodIn wsX2_cleanBatches (wsV RX2 39 RX4 yX4_write wsX4_write) := goodIn_app (goodIn_of _ (by decide +kernel)) ggX2_cleanBatches_X4_write
theorem dX2_cleanBatches_0 : decode cX2_cleanBatches 0 = .ok (.iconst 0, 1) := by decide +kernel
theorem dX2_cleanBatches_1 : decode cX2_cleanBatches 1 = .ok (.istore_n 1, 1) := by decide +kernel
theorem dX2_cleanBatches_2 : decode cX2_cleanBatches 2 = .ok (.iload_n 1, 1) := by decide +kernel
theorem dX2_cleanBatches_3 : decode cX2_cleanBatches 3 = .ok (.aload_n 0, 1) := by decide +kernel
theorem dX2_cleanBatches_4 : decode cX2_cleanBatches 4 = .ok (.getfield 9, 3) := by decide +kernel
theorem dX2_cleanBatches_7 : decode cX2_cleanBatches 7 = .ok (.if_icmp .ge 57, 3) := by decide +kernel
theorem dX2_cleanBatches_10 : decode cX2_cleanBatches 10 = .ok (.aload_n 0, 1) := by decide +kernel
theorem dX2_cleanBatches_11 : decode cX2_cleanBatches 11 = .ok (.getfield 30, 3) := by decide +kernel
theorem dX2_cleanBatches_14 : decode cX2_cleanBatches 14 = .ok (.iload_n 1, 1) := by decide +kernel
theorem dX2_cleanBatches_15 : decode cX2_cleanBatches 15 = .ok (.invokevirtual 43, 3) := by decide +kernel
theorem dX2_cleanBatches_18 : decode cX2_cleanBatches 18 = .ok (.iconst 2, 1) := by decide +kernel
theorem dX2_cleanBatches_19 : decode cX2_cleanBatches 19 = .ok (.if_icmp .ne 39, 3) := by decide +kernel
theorem dX2_cleanBatches_22 : decode cX2_cleanBatches 22 = .ok (.aload_n 0, 1) := by decide +kernel
theorem dX2_cleanBatches_23 : decode cX2_cleanBatches 23 = .ok (.getfield 30, 3) := by decide +kernel
theorem dX2_cleanBatches_26 : decode cX2_cleanBatches 26 = .ok (.iload_n 1, 1) := by decide +kernel
theorem dX2_cleanBatches_27 : decode cX2_cleanBatches 27 = .ok (.iconst 3, 1) := by decide +kernel
theorem dX2_cleanBatches_28 : decode cX2_cleanBatches 28 = .ok (.invokevirtual 39, 3) := by decide +kernel
theorem dX2_cleanBatches_31 : decode cX2_cleanBatches 31 = .ok (.aload_n 0, 1) := by decide +kernel
theorem dX2_cleanBatches_32 : decode cX2_cleanBatches 32 = .ok (.getfield 36, 3) := by decide +kernel
theorem dX2_cleanBatches_35 : decode cX2_cleanBatches 35 = .ok (.iload_n 1, 1) := by decide +kernel
theorem dX2_cleanBatches_36 : decode cX2_cleanBatches 36 = .ok (.iconst (-1), 1) := by decide +kernel
theorem dX2_cleanBatches_37 : decode cX2_cleanBatches 37 = .ok (.invokevirtual 39, 3) := by decide +kernel
theorem dX2_cleanBatches_40 : decode cX2_cleanBatches 40 = .ok (.aload_n 0, 1) := by decide +kernel
theorem dX2_cleanBatches_41 : decode cX2_cleanBatches 41 = .ok (.getfield 33, 3) := by decide +kernel
theorem dX2_cleanBatches_44 : decode cX2_cleanBatches 44 = .ok (.iload_n 1, 1) := by decide +kernel
theorem dX2_cleanBatches_45 : decode cX2_cleanBatches 45 = .ok (.aload_n 0, 1) := by decide +kernel
theorem dX2_cleanBatches_46 : decode cX2_cleanBatches 46 = .ok (.getfield 33, 3) := by decide +kernel
theorem dX2_cleanBatches_49 : decode cX2_cleanBatches 49 = .ok (.iload_n 1, 1) := by decide +kernel
theorem dX2_cleanBatches_50 : decode cX2_cleanBatches 50 = .ok (.invokevirtual 43, 3) := by decide +kernel
theorem dX2_cleanBatches_53 : decode cX2_cleanBatches 53 = .ok (.iconst 1, 1) := by decide +kernel
theorem dX2_cleanBatches_54 : decode cX2_cleanBatches 54 = .ok (.iadd, 1) := by decide +kernel
theorem dX2_cleanBatches_55 : decode cX2_cleanBatches 55 = .ok (.invokevirtual 39, 3) := by decide +kernel
theorem dX2_cleanBatches_58 : decode cX2_cleanBatches 58 = .ok (.iinc 1 1, 3) := by decide +kernel
theorem dX2_cleanBatches_61 : decode cX2_cleanBatches 61 = .ok (.goto (-59), 3) := by decide +kernel
theorem dX2_cleanBatches_64 : decode cX2_cleanBatches 64 = .ok (.return_, 1) := by decide +kernel
set_option maxRecDepth 20000 in
theorem ggX2_sendOut_X2_fits : GoodIn wsX2_sendOut wsX2_fits := goodIn_r _ [7, 2, 8, 9, 10, 11, 12, 13, 14, 15, 20, 21, 22, 23, 24, 25, 26, 27] (by decide +kernel) (by decide +kernel)
set_option maxRecDepth 20000 in
theorem gX2_sendOut_X2_fits : GoodIn wsX2_sendOut (wsV RX2 47 RX2 yX2_fits wsX2_fits) := goodIn_app (goodIn_of _ (by decide +kernel)) ggX2_sendOut_X2_fits
set_option maxRecDepth 20000 in
theorem ggX2_sendOut_X4_write : GoodIn wsX2_sendOut wsX4_write := goodIn_r _ [19, 15, 27] (by decide +kernel) (by decide +kernel)
set_option maxRecDepth 20000 in
theorem gX2_sendOut_X4_write : GoodIn wsX2_sendOut (wsV RX2 39 RX4 yX4_write wsX4_write) := goodIn_app (goodIn_of _ (by decide +kernel)) ggX2_sendOut_X4_write
theorem dX2_sendOut_0 : decode cX2_sendOut 0 = .ok (.iconst 0, 1) := by decide +kernel
theorem dX2_sendOut_1 : decode cX2_sendOut 1 = .ok (.istore 4, 2) := by decide +kernel
theorem dX2_sendOut_3 : decode cX2_sendOut 3 = .ok (.iconst 0, 1) := by decide +kernel
theorem dX2_sendOut_4 : decode cX2_sendOut 4 = .ok (.istore 5, 2) := by decide +kernel
theorem dX2_sendOut_6 : decode cX2_sendOut 6 = .ok (.iload 5, 2) := by decide +kernel
theorem dX2_sendOut_8 : decode cX2_sendOut 8 = .ok (.aload_n 0, 1) := by decide +kernel
theorem dX2_sendOut_9 : decode cX2_sendOut 9 = .ok (.getfield 9, 3) := by decide +kernel
theorem dX2_sendOut_12 : decode cX2_sendOut 12 = .ok (.if_icmp .ge 40, 3) := by decide +kernel
theorem dX2_sendOut_15 : decode cX2_sendOut 15 = .ok (.iload 4, 2) := by decide +kernel
theorem dX2_sendOut_17 : decode cX2_sendOut 17 = .ok (.iload_n 3, 1) := by decide +kernel
theorem dX2_sendOut_18 : decode cX2_sendOut 18 = .ok (.if_icmp .ge 34, 3) := by decide +kernel
theorem dX2_sendOut_21 : decode cX2_sendOut 21 = .ok (.aload_n 0, 1) := by decide +kernel
theorem dX2_sendOut_22 : decode cX2_sendOut 22 = .ok (.iload 5, 2) := by decide +kernel
theorem dX2_sendOut_24 : decode cX2_sendOut 24 = .ok (.iload_n 1, 1) := by decide +kernel
theorem dX2_sendOut_25 : decode cX2_sendOut 25 = .ok (.iload_n 2, 1) := by decide +kernel
theorem dX2_sendOut_26 : decode cX2_sendOut 26 = .ok (.iconst 3, 1) := by decide +kernel
theorem dX2_sendOut_27 : decode cX2_sendOut 27 = .ok (.invokevirtual 47, 3) := by decide +kernel
theorem dX2_sendOut_30 : decode cX2_sendOut 30 = .ok (.ifCond .eq 16, 3) := by decide +kernel
theorem dX2_sendOut_33 : decode cX2_sendOut 33 = .ok (.aload_n 0, 1) := by decide +kernel
theorem dX2_sendOut_34 : decode cX2_sendOut 34 = .ok (.getfield 30, 3) := by decide +kernel
theorem dX2_sendOut_37 : decode cX2_sendOut 37 = .ok (.iload 5, 2) := by decide +kernel
theorem dX2_sendOut_39 : decode cX2_sendOut 39 = .ok (.iconst 0, 1) := by decide +kernel
theorem dX2_sendOut_40 : decode cX2_sendOut 40 = .ok (.invokevirtual 39, 3) := by decide +kernel
theorem dX2_sendOut_43 : decode cX2_sendOut 43 = .ok (.iinc 4 1, 3) := by decide +kernel
theorem dX2_sendOut_46 : decode cX2_sendOut 46 = .ok (.iinc 5 1, 3) := by decide +kernel
theorem dX2_sendOut_49 : decode cX2_sendOut 49 = .ok (.goto (-43), 3) := by decide +kernel
theorem dX2_sendOut_52 : decode cX2_sendOut 52 = .ok (.iload 4, 2) := by decide +kernel
theorem dX2_sendOut_54 : decode cX2_sendOut 54 = .ok (.ireturn, 1) := by decide +kernel
set_option maxRecDepth 20000 in
theorem ggX3_init_X4_init : GoodIn wsX3_init wsX4_init := goodIn_r _ [12, 13, 2, 3, 14, 15, 16] (by decide +kernel) (by decide +kernel)
set_option maxRecDepth 20000 in
theorem gX3_init_X4_init : GoodIn wsX3_init (wsX4_init) := ggX3_init_X4_init
theorem dX3_init_0 : decode cX3_init 0 = .ok (.aload_n 0, 1) := by decide +kernel
theorem dX3_init_1 : decode cX3_init 1 = .ok (.invokespecial 3, 3) := by decide +kernel
theorem dX3_init_4 : decode cX3_init 4 = .ok (.aload_n 0, 1) := by decide +kernel
theorem dX3_init_5 : decode cX3_init 5 = .ok (.new 9, 3) := by decide +kernel
theorem dX3_init_8 : decode cX3_init 8 = .ok (.dup, 1) := by decide +kernel
theorem dX3_init_9 : decode cX3_init 9 = .ok (.bipush 64, 2) := by decide +kernel
theorem dX3_init_11 : decode cX3_init 11 = .ok (.invokespecial 11, 3) := by decide +kernel
theorem dX3_init_14 : decode cX3_init 14 = .ok (.putfield 14, 3) := by decide +kernel
theorem dX3_init_17 : decode cX3_init 17 = .ok (.aload_n 0, 1) := by decide +kernel
theorem dX3_init_18 : decode cX3_init 18 = .ok (.new 9, 3) := by decide +kernel
theorem dX3_init_21 : decode cX3_init 21 = .ok (.dup, 1) := by decide +kernel
theorem dX3_init_22 : decode cX3_init 22 = .ok (.sipush 2048, 3) := by decide +kernel
theorem dX3_init_25 : decode cX3_init 25 = .ok (.invokespecial 11, 3) := by decide +kernel
theorem dX3_init_28 : decode cX3_init 28 = .ok (.putfield 20, 3) := by decide +kernel
theorem dX3_init_31 : decode cX3_init 31 = .ok (.aload_n 0, 1) := by decide +kernel
theorem dX3_init_32 : decode cX3_init 32 = .ok (.aload_n 1, 1) := by decide +kernel
theorem dX3_init_33 : decode cX3_init 33 = .ok (.putfield 23, 3) := by decide +kernel
theorem dX3_init_36 : decode cX3_init 36 = .ok (.return_, 1) := by decide +kernel
set_option maxRecDepth 20000 in
theorem ggX3_orderBest_X3_fillGaps : GoodIn wsX3_orderBest wsX3_fillGaps := goodIn_r _ [6, 1, 7, 8, 9, 10, 11, 12, 13, 14, 15, 16, 17, 18, 19, 20, 21, 22, 23, 24, 25, 26, 27, 28, 29, 30, 31, 32, 33, 34, 35, 36, 37, 38, 39, 40, 55, 56, 57, 58, 59, 60, 61, 62, 63, 64, 65, 66, 67, 68, 69] (by decide +kernel) (by decide +kernel)
set_option maxRecDepth 20000 in
theorem gX3_orderBest_X3_fillGaps : GoodIn wsX3_orderBest (wsV RX3 27 RX3 yX3_fillGaps wsX3_fillGaps) := goodIn_app (goodIn_of _ (by decide +kernel)) ggX3_orderBest_X3_fillGaps
set_option maxRecDepth 20000 in
theorem ggX3_orderBest_X3_fillFewest : GoodIn wsX3_orderBest wsX3_fillFewest := goodIn_r _ [44, 1, 45, 46, 47, 48, 5, 49, 50, 51, 52, 53, 7, 54, 16, 17, 18, 19, 20, 37, 38, 39, 40, 55, 56, 57, 58, 59, 60, 61, 62, 63] (by decide +kernel) (by decide +kernel)
set_option maxRecDepth 20000 in
theorem gX3_orderBest_X3_fillFewest : GoodIn wsX3_orderBest (wsV RX3 30 RX3 yX3_fillFewest wsX3_fillFewest) := goodIn_app (goodIn_of _ (by decide +kernel)) ggX3_orderBest_X3_fillFewest
set_option maxRecDepth 20000 in
theorem ggX3_orderBest_X3_bestBehind : GoodIn wsX3_orderBest wsX3_bestBehind := goodIn_r _ [49, 1, 50, 51, 52, 5, 53, 7, 45, 54, 16, 17, 18, 19, 20, 55, 56, 57, 58, 59, 60, 61, 62, 63] (by decide +kernel) (by decide +kernel)
set_option maxRecDepth 20000 in
theorem gX3_orderBest_X3_bestBehind : GoodIn wsX3_orderBest (wsV RX3 39 RX3 yX3_bestBehind wsX3_bestBehind) := goodIn_app (goodIn_of _ (by decide +kernel)) ggX3_orderBest_X3_bestBehind
set_option maxRecDepth 20000 in
theorem ggX3_orderBest_X4_write : GoodIn wsX3_orderBest wsX4_write := goodIn_r _ [40, 20, 63] (by decide +kernel) (by decide +kernel)
set_option maxRecDepth 20000 in
theorem gX3_orderBest_X4_write : GoodIn wsX3_orderBest (wsV RX3 46 RX4 yX4_write wsX4_write) := goodIn_app (goodIn_of _ (by decide +kernel)) ggX3_orderBest_X4_write
theorem dX3_orderBest_0 : decode cX3_orderBest 0 = .ok (.aload_n 0, 1) := by decide +kernel
theorem dX3_orderBest_1 : decode cX3_orderBest 1 = .ok (.invokevirtual 27, 3) := by decide +kernel
theorem dX3_orderBest_4 : decode cX3_orderBest 4 = .ok (.aload_n 0, 1) := by decide +kernel
theorem dX3_orderBest_5 : decode cX3_orderBest 5 = .ok (.invokevirtual 30, 3) := by decide +kernel
theorem dX3_orderBest_8 : decode cX3_orderBest 8 = .ok (.iconst 0, 1) := by decide +kernel
theorem dX3_orderBest_9 : decode cX3_orderBest 9 = .ok (.istore_n 1, 1) := by decide +kernel
theorem dX3_orderBest_10 : decode cX3_orderBest 10 = .ok (.iconst (-1), 1) := by decide +kernel
theorem dX3_orderBest_11 : decode cX3_orderBest 11 = .ok (.istore_n 2, 1) := by decide +kernel
theorem dX3_orderBest_12 : decode cX3_orderBest 12 = .ok (.iconst 0, 1) := by decide +kernel
theorem dX3_orderBest_13 : decode cX3_orderBest 13 = .ok (.istore_n 3, 1) := by decide +kernel
theorem dX3_orderBest_14 : decode cX3_orderBest 14 = .ok (.iload_n 3, 1) := by decide +kernel
theorem dX3_orderBest_15 : decode cX3_orderBest 15 = .ok (.aload_n 0, 1) := by decide +kernel
theorem dX3_orderBest_16 : decode cX3_orderBest 16 = .ok (.getfield 23, 3) := by decide +kernel
theorem dX3_orderBest_19 : decode cX3_orderBest 19 = .ok (.getfield 33, 3) := by decide +kernel
theorem dX3_orderBest_22 : decode cX3_orderBest 22 = .ok (.if_icmp .ge 34, 3) := by decide +kernel
theorem dX3_orderBest_25 : decode cX3_orderBest 25 = .ok (.aload_n 0, 1) := by decide +kernel
theorem dX3_orderBest_26 : decode cX3_orderBest 26 = .ok (.iload_n 1, 1) := by decide +kernel
theorem dX3_orderBest_27 : decode cX3_orderBest 27 = .ok (.iload_n 2, 1) := by decide +kernel
theorem dX3_orderBest_28 : decode cX3_orderBest 28 = .ok (.invokevirtual 39, 3) := by decide +kernel
theorem dX3_orderBest_31 : decode cX3_orderBest 31 = .ok (.istore_n 2, 1) := by decide +kernel
theorem dX3_orderBest_32 : decode cX3_orderBest 32 = .ok (.iload_n 1, 1) := by decide +kernel
theorem dX3_orderBest_33 : decode cX3_orderBest 33 = .ok (.iconst 1, 1) := by decide +kernel
theorem dX3_orderBest_34 : decode cX3_orderBest 34 = .ok (.iload_n 2, 1) := by decide +kernel
theorem dX3_orderBest_35 : decode cX3_orderBest 35 = .ok (.ishl, 1) := by decide +kernel
theorem dX3_orderBest_36 : decode cX3_orderBest 36 = .ok (.ior, 1) := by decide +kernel
theorem dX3_orderBest_37 : decode cX3_orderBest 37 = .ok (.istore_n 1, 1) := by decide +kernel
theorem dX3_orderBest_38 : decode cX3_orderBest 38 = .ok (.aload_n 0, 1) := by decide +kernel
theorem dX3_orderBest_39 : decode cX3_orderBest 39 = .ok (.getfield 23, 3) := by decide +kernel
theorem dX3_orderBest_42 : decode cX3_orderBest 42 = .ok (.getfield 43, 3) := by decide +kernel
theorem dX3_orderBest_45 : decode cX3_orderBest 45 = .ok (.iload_n 3, 1) := by decide +kernel
theorem dX3_orderBest_46 : decode cX3_orderBest 46 = .ok (.iload_n 2, 1) := by decide +kernel
theorem dX3_orderBest_47 : decode cX3_orderBest 47 = .ok (.invokevirtual 46, 3) := by decide +kernel
theorem dX3_orderBest_50 : decode cX3_orderBest 50 = .ok (.iinc 3 1, 3) := by decide +kernel
theorem dX3_orderBest_53 : decode cX3_orderBest 53 = .ok (.goto (-39), 3) := by decide +kernel
theorem dX3_orderBest_56 : decode cX3_orderBest 56 = .ok (.return_, 1) := by decide +kernel
set_option maxRecDepth 20000 in
theorem ggX3_fillGaps_X6_gapOf : GoodIn wsX3_fillGaps wsX6_gapOf := goodIn_r _ [7, 8, 9, 10, 11, 12, 13, 14, 15, 16, 17, 18, 19, 20, 21, 22, 23, 24, 25, 26, 27, 28, 29, 30, 31, 39, 40, 41, 42, 43, 44, 45, 46, 47, 48, 49, 50] (by decide +kernel) (by decide +kernel)
set_option maxRecDepth 20000 in
theorem gX3_fillGaps_X6_gapOf : GoodIn wsX3_fillGaps (wsV RX3 50 RX6 yX6_gapOf wsX6_gapOf) := goodIn_app (goodIn_of _ (by decide +kernel)) ggX3_fillGaps_X6_gapOf
set_option maxRecDepth 20000 in
theorem ggX3_fillGaps_X4_write : GoodIn wsX3_fillGaps wsX4_write := goodIn_r _ [35, 15, 44] (by decide +kernel) (by decide +kernel)
set_option maxRecDepth 20000 in
theorem gX3_fillGaps_X4_write : GoodIn wsX3_fillGaps (wsV RX3 46 RX4 yX4_write wsX4_write) := goodIn_app (goodIn_of _ (by decide +kernel)) ggX3_fillGaps_X4_write
theorem dX3_fillGaps_0 : decode cX3_fillGaps 0 = .ok (.iconst 0, 1) := by decide +kernel
theorem dX3_fillGaps_1 : decode cX3_fillGaps 1 = .ok (.istore_n 1, 1) := by decide +kernel
theorem dX3_fillGaps_2 : decode cX3_fillGaps 2 = .ok (.iload_n 1, 1) := by decide +kernel
theorem dX3_fillGaps_3 : decode cX3_fillGaps 3 = .ok (.aload_n 0, 1) := by decide +kernel
theorem dX3_fillGaps_4 : decode cX3_fillGaps 4 = .ok (.getfield 23, 3) := by decide +kernel
theorem dX3_fillGaps_7 : decode cX3_fillGaps 7 = .ok (.getfield 33, 3) := by decide +kernel
theorem dX3_fillGaps_10 : decode cX3_fillGaps 10 = .ok (.if_icmp .ge 50, 3) := by decide +kernel
theorem dX3_fillGaps_13 : decode cX3_fillGaps 13 = .ok (.iconst 0, 1) := by decide +kernel
theorem dX3_fillGaps_14 : decode cX3_fillGaps 14 = .ok (.istore_n 2, 1) := by decide +kernel
theorem dX3_fillGaps_15 : decode cX3_fillGaps 15 = .ok (.iload_n 2, 1) := by decide +kernel
theorem dX3_fillGaps_16 : decode cX3_fillGaps 16 = .ok (.aload_n 0, 1) := by decide +kernel
theorem dX3_fillGaps_17 : decode cX3_fillGaps 17 = .ok (.getfield 23, 3) := by decide +kernel
theorem dX3_fillGaps_20 : decode cX3_fillGaps 20 = .ok (.getfield 33, 3) := by decide +kernel
theorem dX3_fillGaps_23 : decode cX3_fillGaps 23 = .ok (.if_icmp .ge 31, 3) := by decide +kernel
theorem dX3_fillGaps_26 : decode cX3_fillGaps 26 = .ok (.aload_n 0, 1) := by decide +kernel
theorem dX3_fillGaps_27 : decode cX3_fillGaps 27 = .ok (.getfield 14, 3) := by decide +kernel
theorem dX3_fillGaps_30 : decode cX3_fillGaps 30 = .ok (.iload_n 1, 1) := by decide +kernel
theorem dX3_fillGaps_31 : decode cX3_fillGaps 31 = .ok (.bipush 8, 2) := by decide +kernel
theorem dX3_fillGaps_33 : decode cX3_fillGaps 33 = .ok (.imul, 1) := by decide +kernel
theorem dX3_fillGaps_34 : decode cX3_fillGaps 34 = .ok (.iload_n 2, 1) := by decide +kernel
theorem dX3_fillGaps_35 : decode cX3_fillGaps 35 = .ok (.iadd, 1) := by decide +kernel
theorem dX3_fillGaps_36 : decode cX3_fillGaps 36 = .ok (.aload_n 0, 1) := by decide +kernel
theorem dX3_fillGaps_37 : decode cX3_fillGaps 37 = .ok (.getfield 23, 3) := by decide +kernel
theorem dX3_fillGaps_40 : decode cX3_fillGaps 40 = .ok (.iload_n 1, 1) := by decide +kernel
theorem dX3_fillGaps_41 : decode cX3_fillGaps 41 = .ok (.iload_n 2, 1) := by decide +kernel
theorem dX3_fillGaps_42 : decode cX3_fillGaps 42 = .ok (.invokevirtual 50, 3) := by decide +kernel
theorem dX3_fillGaps_45 : decode cX3_fillGaps 45 = .ok (.invokevirtual 46, 3) := by decide +kernel
theorem dX3_fillGaps_48 : decode cX3_fillGaps 48 = .ok (.iinc 2 1, 3) := by decide +kernel
theorem dX3_fillGaps_51 : decode cX3_fillGaps 51 = .ok (.goto (-36), 3) := by decide +kernel
theorem dX3_fillGaps_54 : decode cX3_fillGaps 54 = .ok (.iinc 1 1, 3) := by decide +kernel
theorem dX3_fillGaps_57 : decode cX3_fillGaps 57 = .ok (.goto (-55), 3) := by decide +kernel
theorem dX3_fillGaps_60 : decode cX3_fillGaps 60 = .ok (.return_, 1) := by decide +kernel
set_option maxRecDepth 20000 in
theorem ggX3_fillFewest_X3_bestBehind : GoodIn wsX3_fillFewest wsX3_bestBehind := goodIn_r _ [7, 1, 8, 9, 10, 6, 11, 12, 2, 13, 14, 15, 16, 17, 18, 23, 24, 25, 26, 27, 28, 29, 30, 31] (by decide +kernel) (by decide +kernel)
set_option maxRecDepth 20000 in
theorem gX3_fillFewest_X3_bestBehind : GoodIn wsX3_fillFewest (wsV RX3 39 RX3 yX3_bestBehind wsX3_bestBehind) := goodIn_app (goodIn_of _ (by decide +kernel)) ggX3_fillFewest_X3_bestBehind
set_option maxRecDepth 20000 in
theorem ggX3_fillFewest_X3_costBehind : GoodIn wsX3_fillFewest wsX3_costBehind := goodIn_r _ [11, 12, 2, 13, 14, 15, 16, 17, 18, 23, 24, 25, 31] (by decide +kernel) (by decide +kernel)
set_option maxRecDepth 20000 in
theorem gX3_fillFewest_X3_costBehind : GoodIn wsX3_fillFewest (wsV RX3 53 RX3 yX3_costBehind wsX3_costBehind) := goodIn_app (goodIn_of _ (by decide +kernel)) ggX3_fillFewest_X3_costBehind
set_option maxRecDepth 20000 in
theorem ggX3_fillFewest_X4_write : GoodIn wsX3_fillFewest wsX4_write := goodIn_r _ [22, 18, 31] (by decide +kernel) (by decide +kernel)
set_option maxRecDepth 20000 in
theorem gX3_fillFewest_X4_write : GoodIn wsX3_fillFewest (wsV RX3 46 RX4 yX4_write wsX4_write) := goodIn_app (goodIn_of _ (by decide +kernel)) ggX3_fillFewest_X4_write
theorem dX3_fillFewest_0 : decode cX3_fillFewest 0 = .ok (.iconst 1, 1) := by decide +kernel
theorem dX3_fillFewest_1 : decode cX3_fillFewest 1 = .ok (.aload_n 0, 1) := by decide +kernel
theorem dX3_fillFewest_2 : decode cX3_fillFewest 2 = .ok (.getfield 23, 3) := by decide +kernel
theorem dX3_fillFewest_5 : decode cX3_fillFewest 5 = .ok (.getfield 33, 3) := by decide +kernel
theorem dX3_fillFewest_8 : decode cX3_fillFewest 8 = .ok (.ishl, 1) := by decide +kernel
theorem dX3_fillFewest_9 : decode cX3_fillFewest 9 = .ok (.iconst 1, 1) := by decide +kernel
theorem dX3_fillFewest_10 : decode cX3_fillFewest 10 = .ok (.isub, 1) := by decide +kernel
theorem dX3_fillFewest_11 : decode cX3_fillFewest 11 = .ok (.istore_n 1, 1) := by decide +kernel
theorem dX3_fillFewest_12 : decode cX3_fillFewest 12 = .ok (.iload_n 1, 1) := by decide +kernel
theorem dX3_fillFewest_13 : decode cX3_fillFewest 13 = .ok (.ifCond .le 77, 3) := by decide +kernel
theorem dX3_fillFewest_16 : decode cX3_fillFewest 16 = .ok (.iconst 0, 1) := by decide +kernel
theorem dX3_fillFewest_17 : decode cX3_fillFewest 17 = .ok (.istore_n 2, 1) := by decide +kernel
theorem dX3_fillFewest_18 : decode cX3_fillFewest 18 = .ok (.iload_n 2, 1) := by decide +kernel
theorem dX3_fillFewest_19 : decode cX3_fillFewest 19 = .ok (.aload_n 0, 1) := by decide +kernel
theorem dX3_fillFewest_20 : decode cX3_fillFewest 20 = .ok (.getfield 23, 3) := by decide +kernel
theorem dX3_fillFewest_23 : decode cX3_fillFewest 23 = .ok (.getfield 33, 3) := by decide +kernel
theorem dX3_fillFewest_26 : decode cX3_fillFewest 26 = .ok (.if_icmp .ge 58, 3) := by decide +kernel
theorem dX3_fillFewest_29 : decode cX3_fillFewest 29 = .ok (.iload_n 1, 1) := by decide +kernel
theorem dX3_fillFewest_30 : decode cX3_fillFewest 30 = .ok (.iload_n 2, 1) := by decide +kernel
theorem dX3_fillFewest_31 : decode cX3_fillFewest 31 = .ok (.ishr, 1) := by decide +kernel
theorem dX3_fillFewest_32 : decode cX3_fillFewest 32 = .ok (.iconst 1, 1) := by decide +kernel
theorem dX3_fillFewest_33 : decode cX3_fillFewest 33 = .ok (.iand, 1) := by decide +kernel
theorem dX3_fillFewest_34 : decode cX3_fillFewest 34 = .ok (.iconst 1, 1) := by decide +kernel
theorem dX3_fillFewest_35 : decode cX3_fillFewest 35 = .ok (.if_icmp .ne 43, 3) := by decide +kernel
theorem dX3_fillFewest_38 : decode cX3_fillFewest 38 = .ok (.aload_n 0, 1) := by decide +kernel
theorem dX3_fillFewest_39 : decode cX3_fillFewest 39 = .ok (.iload_n 1, 1) := by decide +kernel
theorem dX3_fillFewest_40 : decode cX3_fillFewest 40 = .ok (.iload_n 2, 1) := by decide +kernel
theorem dX3_fillFewest_41 : decode cX3_fillFewest 41 = .ok (.invokevirtual 39, 3) := by decide +kernel
theorem dX3_fillFewest_44 : decode cX3_fillFewest 44 = .ok (.istore_n 3, 1) := by decide +kernel
theorem dX3_fillFewest_45 : decode cX3_fillFewest 45 = .ok (.iload_n 3, 1) := by decide +kernel
theorem dX3_fillFewest_46 : decode cX3_fillFewest 46 = .ok (.iconst (-1), 1) := by decide +kernel
theorem dX3_fillFewest_47 : decode cX3_fillFewest 47 = .ok (.if_icmp .ne 7, 3) := by decide +kernel
theorem dX3_fillFewest_50 : decode cX3_fillFewest 50 = .ok (.iconst 0, 1) := by decide +kernel
theorem dX3_fillFewest_51 : decode cX3_fillFewest 51 = .ok (.goto 10, 3) := by decide +kernel
theorem dX3_fillFewest_54 : decode cX3_fillFewest 54 = .ok (.aload_n 0, 1) := by decide +kernel
theorem dX3_fillFewest_55 : decode cX3_fillFewest 55 = .ok (.iload_n 1, 1) := by decide +kernel
theorem dX3_fillFewest_56 : decode cX3_fillFewest 56 = .ok (.iload_n 2, 1) := by decide +kernel
theorem dX3_fillFewest_57 : decode cX3_fillFewest 57 = .ok (.iload_n 3, 1) := by decide +kernel
theorem dX3_fillFewest_58 : decode cX3_fillFewest 58 = .ok (.invokevirtual 53, 3) := by decide +kernel
theorem dX3_fillFewest_61 : decode cX3_fillFewest 61 = .ok (.istore 4, 2) := by decide +kernel
theorem dX3_fillFewest_63 : decode cX3_fillFewest 63 = .ok (.aload_n 0, 1) := by decide +kernel
theorem dX3_fillFewest_64 : decode cX3_fillFewest 64 = .ok (.getfield 20, 3) := by decide +kernel
theorem dX3_fillFewest_67 : decode cX3_fillFewest 67 = .ok (.iload_n 1, 1) := by decide +kernel
theorem dX3_fillFewest_68 : decode cX3_fillFewest 68 = .ok (.bipush 8, 2) := by decide +kernel
theorem dX3_fillFewest_70 : decode cX3_fillFewest 70 = .ok (.imul, 1) := by decide +kernel
theorem dX3_fillFewest_71 : decode cX3_fillFewest 71 = .ok (.iload_n 2, 1) := by decide +kernel
theorem dX3_fillFewest_72 : decode cX3_fillFewest 72 = .ok (.iadd, 1) := by decide +kernel
theorem dX3_fillFewest_73 : decode cX3_fillFewest 73 = .ok (.iload 4, 2) := by decide +kernel
theorem dX3_fillFewest_75 : decode cX3_fillFewest 75 = .ok (.invokevirtual 46, 3) := by decide +kernel
theorem dX3_fillFewest_78 : decode cX3_fillFewest 78 = .ok (.iinc 2 1, 3) := by decide +kernel
theorem dX3_fillFewest_81 : decode cX3_fillFewest 81 = .ok (.goto (-63), 3) := by decide +kernel
theorem dX3_fillFewest_84 : decode cX3_fillFewest 84 = .ok (.iinc 1 (-1), 3) := by decide +kernel
theorem dX3_fillFewest_87 : decode cX3_fillFewest 87 = .ok (.goto (-75), 3) := by decide +kernel
theorem dX3_fillFewest_90 : decode cX3_fillFewest 90 = .ok (.return_, 1) := by decide +kernel
set_option maxRecDepth 20000 in
theorem ggX3_bestBehind_X3_costBehind : GoodIn wsX3_bestBehind wsX3_costBehind := goodIn_r _ [6, 7, 8, 9, 10, 11, 12, 13, 14, 15, 16, 17, 23] (by decide +kernel) (by decide +kernel)
set_option maxRecDepth 20000 in
theorem gX3_bestBehind_X3_costBehind : GoodIn wsX3_bestBehind (wsV RX3 53 RX3 yX3_costBehind wsX3_costBehind) := goodIn_app (goodIn_of _ (by decide +kernel)) ggX3_bestBehind_X3_costBehind
theorem dX3_bestBehind_0 : decode cX3_bestBehind 0 = .ok (.iconst (-1), 1) := by decide +kernel
theorem dX3_bestBehind_1 : decode cX3_bestBehind 1 = .ok (.istore_n 3, 1) := by decide +kernel
theorem dX3_bestBehind_2 : decode cX3_bestBehind 2 = .ok (.iconst 0, 1) := by decide +kernel
theorem dX3_bestBehind_3 : decode cX3_bestBehind 3 = .ok (.istore 4, 2) := by decide +kernel
theorem dX3_bestBehind_5 : decode cX3_bestBehind 5 = .ok (.iconst 0, 1) := by decide +kernel
theorem dX3_bestBehind_6 : decode cX3_bestBehind 6 = .ok (.istore 5, 2) := by decide +kernel
theorem dX3_bestBehind_8 : decode cX3_bestBehind 8 = .ok (.iload 5, 2) := by decide +kernel
theorem dX3_bestBehind_10 : decode cX3_bestBehind 10 = .ok (.aload_n 0, 1) := by decide +kernel
theorem dX3_bestBehind_11 : decode cX3_bestBehind 11 = .ok (.getfield 23, 3) := by decide +kernel
theorem dX3_bestBehind_14 : decode cX3_bestBehind 14 = .ok (.getfield 33, 3) := by decide +kernel
theorem dX3_bestBehind_17 : decode cX3_bestBehind 17 = .ok (.if_icmp .ge 47, 3) := by decide +kernel
theorem dX3_bestBehind_20 : decode cX3_bestBehind 20 = .ok (.iload_n 1, 1) := by decide +kernel
theorem dX3_bestBehind_21 : decode cX3_bestBehind 21 = .ok (.iload 5, 2) := by decide +kernel
theorem dX3_bestBehind_23 : decode cX3_bestBehind 23 = .ok (.ishr, 1) := by decide +kernel
theorem dX3_bestBehind_24 : decode cX3_bestBehind 24 = .ok (.iconst 1, 1) := by decide +kernel
theorem dX3_bestBehind_25 : decode cX3_bestBehind 25 = .ok (.iand, 1) := by decide +kernel
theorem dX3_bestBehind_26 : decode cX3_bestBehind 26 = .ok (.ifCond .ne 32, 3) := by decide +kernel
theorem dX3_bestBehind_29 : decode cX3_bestBehind 29 = .ok (.aload_n 0, 1) := by decide +kernel
theorem dX3_bestBehind_30 : decode cX3_bestBehind 30 = .ok (.iload_n 1, 1) := by decide +kernel
theorem dX3_bestBehind_31 : decode cX3_bestBehind 31 = .ok (.iload_n 2, 1) := by decide +kernel
theorem dX3_bestBehind_32 : decode cX3_bestBehind 32 = .ok (.iload 5, 2) := by decide +kernel
theorem dX3_bestBehind_34 : decode cX3_bestBehind 34 = .ok (.invokevirtual 53, 3) := by decide +kernel
theorem dX3_bestBehind_37 : decode cX3_bestBehind 37 = .ok (.istore 6, 2) := by decide +kernel
theorem dX3_bestBehind_39 : decode cX3_bestBehind 39 = .ok (.iload_n 3, 1) := by decide +kernel
theorem dX3_bestBehind_40 : decode cX3_bestBehind 40 = .ok (.iconst (-1), 1) := by decide +kernel
theorem dX3_bestBehind_41 : decode cX3_bestBehind 41 = .ok (.if_icmp .eq 10, 3) := by decide +kernel
theorem dX3_bestBehind_44 : decode cX3_bestBehind 44 = .ok (.iload 6, 2) := by decide +kernel
theorem dX3_bestBehind_46 : decode cX3_bestBehind 46 = .ok (.iload 4, 2) := by decide +kernel
theorem dX3_bestBehind_48 : decode cX3_bestBehind 48 = .ok (.if_icmp .ge 10, 3) := by decide +kernel
theorem dX3_bestBehind_51 : decode cX3_bestBehind 51 = .ok (.iload 5, 2) := by decide +kernel
theorem dX3_bestBehind_53 : decode cX3_bestBehind 53 = .ok (.istore_n 3, 1) := by decide +kernel
theorem dX3_bestBehind_54 : decode cX3_bestBehind 54 = .ok (.iload 6, 2) := by decide +kernel
theorem dX3_bestBehind_56 : decode cX3_bestBehind 56 = .ok (.istore 4, 2) := by decide +kernel
theorem dX3_bestBehind_58 : decode cX3_bestBehind 58 = .ok (.iinc 5 1, 3) := by decide +kernel
theorem dX3_bestBehind_61 : decode cX3_bestBehind 61 = .ok (.goto (-53), 3) := by decide +kernel
theorem dX3_bestBehind_64 : decode cX3_bestBehind 64 = .ok (.iload_n 3, 1) := by decide +kernel
theorem dX3_bestBehind_65 : decode cX3_bestBehind 65 = .ok (.ireturn, 1) := by decide +kernel
set_option maxRecDepth 20000 in
theorem ggX3_costBehind_X4_read : GoodIn wsX3_costBehind wsX4_read := goodIn_r _ [7, 8, 12] (by decide +kernel) (by decide +kernel)
set_option maxRecDepth 20000 in
theorem gX3_costBehind_X4_read : GoodIn wsX3_costBehind (wsV RX3 57 RX4 yX4_read wsX4_read) := goodIn_app (goodIn_of _ (by decide +kernel)) ggX3_costBehind_X4_read
theorem dX3_costBehind_0 : decode cX3_costBehind 0 = .ok (.iload_n 2, 1) := by decide +kernel
theorem dX3_costBehind_1 : decode cX3_costBehind 1 = .ok (.iconst (-1), 1) := by decide +kernel
theorem dX3_costBehind_2 : decode cX3_costBehind 2 = .ok (.if_icmp .ne 7, 3) := by decide +kernel
theorem dX3_costBehind_5 : decode cX3_costBehind 5 = .ok (.iconst 0, 1) := by decide +kernel
theorem dX3_costBehind_6 : decode cX3_costBehind 6 = .ok (.goto 16, 3) := by decide +kernel
theorem dX3_costBehind_9 : decode cX3_costBehind 9 = .ok (.aload_n 0, 1) := by decide +kernel
theorem dX3_costBehind_10 : decode cX3_costBehind 10 = .ok (.getfield 14, 3) := by decide +kernel
theorem dX3_costBehind_13 : decode cX3_costBehind 13 = .ok (.iload_n 2, 1) := by decide +kernel
theorem dX3_costBehind_14 : decode cX3_costBehind 14 = .ok (.bipush 8, 2) := by decide +kernel
theorem dX3_costBehind_16 : decode cX3_costBehind 16 = .ok (.imul, 1) := by decide +kernel
theorem dX3_costBehind_17 : decode cX3_costBehind 17 = .ok (.iload_n 3, 1) := by decide +kernel
theorem dX3_costBehind_18 : decode cX3_costBehind 18 = .ok (.iadd, 1) := by decide +kernel
theorem dX3_costBehind_19 : decode cX3_costBehind 19 = .ok (.invokevirtual 57, 3) := by decide +kernel
theorem dX3_costBehind_22 : decode cX3_costBehind 22 = .ok (.istore 4, 2) := by decide +kernel
theorem dX3_costBehind_24 : decode cX3_costBehind 24 = .ok (.iload 4, 2) := by decide +kernel
theorem dX3_costBehind_26 : decode cX3_costBehind 26 = .ok (.aload_n 0, 1) := by decide +kernel
theorem dX3_costBehind_27 : decode cX3_costBehind 27 = .ok (.getfield 20, 3) := by decide +kernel
theorem dX3_costBehind_30 : decode cX3_costBehind 30 = .ok (.iload_n 1, 1) := by decide +kernel
theorem dX3_costBehind_31 : decode cX3_costBehind 31 = .ok (.iconst 1, 1) := by decide +kernel
theorem dX3_costBehind_32 : decode cX3_costBehind 32 = .ok (.iload_n 3, 1) := by decide +kernel
theorem dX3_costBehind_33 : decode cX3_costBehind 33 = .ok (.ishl, 1) := by decide +kernel
theorem dX3_costBehind_34 : decode cX3_costBehind 34 = .ok (.ior, 1) := by decide +kernel
theorem dX3_costBehind_35 : decode cX3_costBehind 35 = .ok (.bipush 8, 2) := by decide +kernel
theorem dX3_costBehind_37 : decode cX3_costBehind 37 = .ok (.imul, 1) := by decide +kernel
theorem dX3_costBehind_38 : decode cX3_costBehind 38 = .ok (.iload_n 3, 1) := by decide +kernel
theorem dX3_costBehind_39 : decode cX3_costBehind 39 = .ok (.iadd, 1) := by decide +kernel
theorem dX3_costBehind_40 : decode cX3_costBehind 40 = .ok (.invokevirtual 57, 3) := by decide +kernel
theorem dX3_costBehind_43 : decode cX3_costBehind 43 = .ok (.iadd, 1) := by decide +kernel
theorem dX3_costBehind_44 : decode cX3_costBehind 44 = .ok (.ireturn, 1) := by decide +kernel
theorem dX4_init_0 : decode cX4_init 0 = .ok (.aload_n 0, 1) := by decide +kernel
theorem dX4_init_1 : decode cX4_init 1 = .ok (.invokespecial 1, 3) := by decide +kernel
theorem dX4_init_4 : decode cX4_init 4 = .ok (.aload_n 0, 1) := by decide +kernel
theorem dX4_init_5 : decode cX4_init 5 = .ok (.iload_n 1, 1) := by decide +kernel
theorem dX4_init_6 : decode cX4_init 6 = .ok (.ifCond .le 7, 3) := by decide +kernel
theorem dX4_init_9 : decode cX4_init 9 = .ok (.iload_n 1, 1) := by decide +kernel
theorem dX4_init_10 : decode cX4_init 10 = .ok (.goto 4, 3) := by decide +kernel
theorem dX4_init_13 : decode cX4_init 13 = .ok (.iconst 0, 1) := by decide +kernel
theorem dX4_init_14 : decode cX4_init 14 = .ok (.newarray .int, 2) := by decide +kernel
theorem dX4_init_16 : decode cX4_init 16 = .ok (.putfield 7, 3) := by decide +kernel
theorem dX4_init_19 : decode cX4_init 19 = .ok (.return_, 1) := by decide +kernel
theorem dX4_read_0 : decode cX4_read 0 = .ok (.iload_n 1, 1) := by decide +kernel
theorem dX4_read_1 : decode cX4_read 1 = .ok (.ifCond .lt 21, 3) := by decide +kernel
theorem dX4_read_4 : decode cX4_read 4 = .ok (.iload_n 1, 1) := by decide +kernel
theorem dX4_read_5 : decode cX4_read 5 = .ok (.aload_n 0, 1) := by decide +kernel
theorem dX4_read_6 : decode cX4_read 6 = .ok (.getfield 7, 3) := by decide +kernel
theorem dX4_read_9 : decode cX4_read 9 = .ok (.arraylength, 1) := by decide +kernel
theorem dX4_read_10 : decode cX4_read 10 = .ok (.if_icmp .ge 12, 3) := by decide +kernel
theorem dX4_read_13 : decode cX4_read 13 = .ok (.aload_n 0, 1) := by decide +kernel
theorem dX4_read_14 : decode cX4_read 14 = .ok (.getfield 7, 3) := by decide +kernel
theorem dX4_read_17 : decode cX4_read 17 = .ok (.iload_n 1, 1) := by decide +kernel
theorem dX4_read_18 : decode cX4_read 18 = .ok (.iaload, 1) := by decide +kernel
theorem dX4_read_19 : decode cX4_read 19 = .ok (.goto 4, 3) := by decide +kernel
theorem dX4_read_22 : decode cX4_read 22 = .ok (.iconst 0, 1) := by decide +kernel
theorem dX4_read_23 : decode cX4_read 23 = .ok (.ireturn, 1) := by decide +kernel
theorem dX4_write_0 : decode cX4_write 0 = .ok (.iload_n 1, 1) := by decide +kernel
theorem dX4_write_1 : decode cX4_write 1 = .ok (.ifCond .lt 19, 3) := by decide +kernel
theorem dX4_write_4 : decode cX4_write 4 = .ok (.iload_n 1, 1) := by decide +kernel
theorem dX4_write_5 : decode cX4_write 5 = .ok (.aload_n 0, 1) := by decide +kernel
theorem dX4_write_6 : decode cX4_write 6 = .ok (.getfield 7, 3) := by decide +kernel
theorem dX4_write_9 : decode cX4_write 9 = .ok (.arraylength, 1) := by decide +kernel
theorem dX4_write_10 : decode cX4_write 10 = .ok (.if_icmp .ge 10, 3) := by decide +kernel
theorem dX4_write_13 : decode cX4_write 13 = .ok (.aload_n 0, 1) := by decide +kernel
theorem dX4_write_14 : decode cX4_write 14 = .ok (.getfield 7, 3) := by decide +kernel
theorem dX4_write_17 : decode cX4_write 17 = .ok (.iload_n 1, 1) := by decide +kernel
theorem dX4_write_18 : decode cX4_write 18 = .ok (.iload_n 2, 1) := by decide +kernel
theorem dX4_write_19 : decode cX4_write 19 = .ok (.iastore, 1) := by decide +kernel
theorem dX4_write_20 : decode cX4_write 20 = .ok (.return_, 1) := by decide +kernel
theorem dX4_fill_0 : decode cX4_fill 0 = .ok (.iconst 0, 1) := by decide +kernel
theorem dX4_fill_1 : decode cX4_fill 1 = .ok (.istore_n 2, 1) := by decide +kernel
theorem dX4_fill_2 : decode cX4_fill 2 = .ok (.iload_n 2, 1) := by decide +kernel
theorem dX4_fill_3 : decode cX4_fill 3 = .ok (.aload_n 0, 1) := by decide +kernel
theorem dX4_fill_4 : decode cX4_fill 4 = .ok (.getfield 7, 3) := by decide +kernel
theorem dX4_fill_7 : decode cX4_fill 7 = .ok (.arraylength, 1) := by decide +kernel
theorem dX4_fill_8 : decode cX4_fill 8 = .ok (.if_icmp .ge 16, 3) := by decide +kernel
theorem dX4_fill_11 : decode cX4_fill 11 = .ok (.aload_n 0, 1) := by decide +kernel
theorem dX4_fill_12 : decode cX4_fill 12 = .ok (.getfield 7, 3) := by decide +kernel
theorem dX4_fill_15 : decode cX4_fill 15 = .ok (.iload_n 2, 1) := by decide +kernel
theorem dX4_fill_16 : decode cX4_fill 16 = .ok (.iload_n 1, 1) := by decide +kernel
theorem dX4_fill_17 : decode cX4_fill 17 = .ok (.iastore, 1) := by decide +kernel
theorem dX4_fill_18 : decode cX4_fill 18 = .ok (.iinc 2 1, 3) := by decide +kernel
theorem dX4_fill_21 : decode cX4_fill 21 = .ok (.goto (-19), 3) := by decide +kernel
theorem dX4_fill_24 : decode cX4_fill 24 = .ok (.return_, 1) := by decide +kernel
set_option maxRecDepth 20000 in
theorem ggX5_init_X4_init : GoodIn wsX5_init wsX4_init := goodIn_r _ [12, 13, 2, 3, 14, 15, 20] (by decide +kernel) (by decide +kernel)
set_option maxRecDepth 20000 in
theorem gX5_init_X4_init : GoodIn wsX5_init (wsX4_init) := ggX5_init_X4_init
set_option maxRecDepth 20000 in
theorem ggX5_init_X4_fill : GoodIn wsX5_init wsX4_fill := goodIn_r _ [19, 15, 20] (by decide +kernel) (by decide +kernel)
set_option maxRecDepth 20000 in
theorem gX5_init_X4_fill : GoodIn wsX5_init (wsV RX5 26 RX4 yX4_fill wsX4_fill) := goodIn_app (goodIn_of _ (by decide +kernel)) ggX5_init_X4_fill
theorem dX5_init_0 : decode cX5_init 0 = .ok (.aload_n 0, 1) := by decide +kernel
theorem dX5_init_1 : decode cX5_init 1 = .ok (.invokespecial 3, 3) := by decide +kernel
theorem dX5_init_4 : decode cX5_init 4 = .ok (.aload_n 0, 1) := by decide +kernel
theorem dX5_init_5 : decode cX5_init 5 = .ok (.new 9, 3) := by decide +kernel
theorem dX5_init_8 : decode cX5_init 8 = .ok (.dup, 1) := by decide +kernel
theorem dX5_init_9 : decode cX5_init 9 = .ok (.iconst 4, 1) := by decide +kernel
theorem dX5_init_10 : decode cX5_init 10 = .ok (.invokespecial 11, 3) := by decide +kernel
theorem dX5_init_13 : decode cX5_init 13 = .ok (.putfield 14, 3) := by decide +kernel
theorem dX5_init_16 : decode cX5_init 16 = .ok (.aload_n 0, 1) := by decide +kernel
theorem dX5_init_17 : decode cX5_init 17 = .ok (.new 9, 3) := by decide +kernel
theorem dX5_init_20 : decode cX5_init 20 = .ok (.dup, 1) := by decide +kernel
theorem dX5_init_21 : decode cX5_init 21 = .ok (.iconst 4, 1) := by decide +kernel
theorem dX5_init_22 : decode cX5_init 22 = .ok (.invokespecial 11, 3) := by decide +kernel
theorem dX5_init_25 : decode cX5_init 25 = .ok (.putfield 20, 3) := by decide +kernel
theorem dX5_init_28 : decode cX5_init 28 = .ok (.aload_n 0, 1) := by decide +kernel
theorem dX5_init_29 : decode cX5_init 29 = .ok (.new 9, 3) := by decide +kernel
theorem dX5_init_32 : decode cX5_init 32 = .ok (.dup, 1) := by decide +kernel
theorem dX5_init_33 : decode cX5_init 33 = .ok (.sipush 240, 3) := by decide +kernel
theorem dX5_init_36 : decode cX5_init 36 = .ok (.invokespecial 11, 3) := by decide +kernel
theorem dX5_init_39 : decode cX5_init 39 = .ok (.putfield 23, 3) := by decide +kernel
theorem dX5_init_42 : decode cX5_init 42 = .ok (.aload_n 0, 1) := by decide +kernel
theorem dX5_init_43 : decode cX5_init 43 = .ok (.getfield 14, 3) := by decide +kernel
theorem dX5_init_46 : decode cX5_init 46 = .ok (.iconst (-1), 1) := by decide +kernel
theorem dX5_init_47 : decode cX5_init 47 = .ok (.invokevirtual 26, 3) := by decide +kernel
theorem dX5_init_50 : decode cX5_init 50 = .ok (.return_, 1) := by decide +kernel
set_option maxRecDepth 20000 in
theorem ggX5_isLost_X4_read : GoodIn wsX5_isLost wsX4_read := goodIn_r _ [6, 7, 11] (by decide +kernel) (by decide +kernel)
set_option maxRecDepth 20000 in
theorem gX5_isLost_X4_read : GoodIn wsX5_isLost (wsV RX5 29 RX4 yX4_read wsX4_read) := goodIn_app (goodIn_of _ (by decide +kernel)) ggX5_isLost_X4_read
theorem dX5_isLost_0 : decode cX5_isLost 0 = .ok (.aload_n 0, 1) := by decide +kernel
theorem dX5_isLost_1 : decode cX5_isLost 1 = .ok (.getfield 14, 3) := by decide +kernel
theorem dX5_isLost_4 : decode cX5_isLost 4 = .ok (.iload_n 1, 1) := by decide +kernel
theorem dX5_isLost_5 : decode cX5_isLost 5 = .ok (.invokevirtual 29, 3) := by decide +kernel
theorem dX5_isLost_8 : decode cX5_isLost 8 = .ok (.iconst (-1), 1) := by decide +kernel
theorem dX5_isLost_9 : decode cX5_isLost 9 = .ok (.if_icmp .ne 7, 3) := by decide +kernel
theorem dX5_isLost_12 : decode cX5_isLost 12 = .ok (.iconst 1, 1) := by decide +kernel
theorem dX5_isLost_13 : decode cX5_isLost 13 = .ok (.goto 4, 3) := by decide +kernel
theorem dX5_isLost_16 : decode cX5_isLost 16 = .ok (.iconst 0, 1) := by decide +kernel
theorem dX5_isLost_17 : decode cX5_isLost 17 = .ok (.ireturn, 1) := by decide +kernel
set_option maxRecDepth 20000 in
theorem ggX5_holds_X4_read : GoodIn wsX5_holds wsX4_read := goodIn_r _ [6, 7, 11] (by decide +kernel) (by decide +kernel)
set_option maxRecDepth 20000 in
theorem gX5_holds_X4_read : GoodIn wsX5_holds (wsV RX5 29 RX4 yX4_read wsX4_read) := goodIn_app (goodIn_of _ (by decide +kernel)) ggX5_holds_X4_read
theorem dX5_holds_0 : decode cX5_holds 0 = .ok (.iload_n 2, 1) := by decide +kernel
theorem dX5_holds_1 : decode cX5_holds 1 = .ok (.ifCond .lt 37, 3) := by decide +kernel
theorem dX5_holds_4 : decode cX5_holds 4 = .ok (.iload_n 3, 1) := by decide +kernel
theorem dX5_holds_5 : decode cX5_holds 5 = .ok (.ifCond .lt 33, 3) := by decide +kernel
theorem dX5_holds_8 : decode cX5_holds 8 = .ok (.iload_n 2, 1) := by decide +kernel
theorem dX5_holds_9 : decode cX5_holds 9 = .ok (.aload_n 0, 1) := by decide +kernel
theorem dX5_holds_10 : decode cX5_holds 10 = .ok (.getfield 20, 3) := by decide +kernel
theorem dX5_holds_13 : decode cX5_holds 13 = .ok (.iload_n 1, 1) := by decide +kernel
theorem dX5_holds_14 : decode cX5_holds 14 = .ok (.invokevirtual 29, 3) := by decide +kernel
theorem dX5_holds_17 : decode cX5_holds 17 = .ok (.if_icmp .gt 21, 3) := by decide +kernel
theorem dX5_holds_20 : decode cX5_holds 20 = .ok (.iload_n 3, 1) := by decide +kernel
theorem dX5_holds_21 : decode cX5_holds 21 = .ok (.aload_n 0, 1) := by decide +kernel
theorem dX5_holds_22 : decode cX5_holds 22 = .ok (.getfield 20, 3) := by decide +kernel
theorem dX5_holds_25 : decode cX5_holds 25 = .ok (.iload_n 1, 1) := by decide +kernel
theorem dX5_holds_26 : decode cX5_holds 26 = .ok (.invokevirtual 29, 3) := by decide +kernel
theorem dX5_holds_29 : decode cX5_holds 29 = .ok (.iload_n 2, 1) := by decide +kernel
theorem dX5_holds_30 : decode cX5_holds 30 = .ok (.isub, 1) := by decide +kernel
theorem dX5_holds_31 : decode cX5_holds 31 = .ok (.if_icmp .gt 7, 3) := by decide +kernel
theorem dX5_holds_34 : decode cX5_holds 34 = .ok (.iconst 1, 1) := by decide +kernel
theorem dX5_holds_35 : decode cX5_holds 35 = .ok (.goto 4, 3) := by decide +kernel
theorem dX5_holds_38 : decode cX5_holds 38 = .ok (.iconst 0, 1) := by decide +kernel
theorem dX5_holds_39 : decode cX5_holds 39 = .ok (.ireturn, 1) := by decide +kernel
set_option maxRecDepth 20000 in
theorem ggX5_findingAt_X5_isLost : GoodIn wsX5_findingAt wsX5_isLost := goodIn_r _ [7, 1, 8, 9, 10, 11, 12, 13, 14, 15, 16, 17] (by decide +kernel) (by decide +kernel)
set_option maxRecDepth 20000 in
theorem gX5_findingAt_X5_isLost : GoodIn wsX5_findingAt (wsV RX5 33 RX5 yX5_isLost wsX5_isLost) := goodIn_app (goodIn_of _ (by decide +kernel)) ggX5_findingAt_X5_isLost
set_option maxRecDepth 20000 in
theorem ggX5_findingAt_X4_read : GoodIn wsX5_findingAt wsX4_read := goodIn_r _ [12, 13, 17] (by decide +kernel) (by decide +kernel)
set_option maxRecDepth 20000 in
theorem gX5_findingAt_X4_read : GoodIn wsX5_findingAt (wsV RX5 29 RX4 yX4_read wsX4_read) := goodIn_app (goodIn_of _ (by decide +kernel)) ggX5_findingAt_X4_read
theorem dX5_findingAt_0 : decode cX5_findingAt 0 = .ok (.aload_n 0, 1) := by decide +kernel
theorem dX5_findingAt_1 : decode cX5_findingAt 1 = .ok (.iload_n 1, 1) := by decide +kernel
theorem dX5_findingAt_2 : decode cX5_findingAt 2 = .ok (.invokevirtual 33, 3) := by decide +kernel
theorem dX5_findingAt_5 : decode cX5_findingAt 5 = .ok (.ifCond .eq 5, 3) := by decide +kernel
theorem dX5_findingAt_8 : decode cX5_findingAt 8 = .ok (.iconst 1, 1) := by decide +kernel
theorem dX5_findingAt_9 : decode cX5_findingAt 9 = .ok (.ireturn, 1) := by decide +kernel
theorem dX5_findingAt_10 : decode cX5_findingAt 10 = .ok (.aload_n 0, 1) := by decide +kernel
theorem dX5_findingAt_11 : decode cX5_findingAt 11 = .ok (.getfield 14, 3) := by decide +kernel
theorem dX5_findingAt_14 : decode cX5_findingAt 14 = .ok (.iload_n 1, 1) := by decide +kernel
theorem dX5_findingAt_15 : decode cX5_findingAt 15 = .ok (.invokevirtual 29, 3) := by decide +kernel
theorem dX5_findingAt_18 : decode cX5_findingAt 18 = .ok (.iload_n 2, 1) := by decide +kernel
theorem dX5_findingAt_19 : decode cX5_findingAt 19 = .ok (.if_icmp .eq 5, 3) := by decide +kernel
theorem dX5_findingAt_22 : decode cX5_findingAt 22 = .ok (.iconst 3, 1) := by decide +kernel
theorem dX5_findingAt_23 : decode cX5_findingAt 23 = .ok (.ireturn, 1) := by decide +kernel
theorem dX5_findingAt_24 : decode cX5_findingAt 24 = .ok (.iload_n 3, 1) := by decide +kernel
theorem dX5_findingAt_25 : decode cX5_findingAt 25 = .ok (.ifCond .lt 19, 3) := by decide +kernel
theorem dX5_findingAt_28 : decode cX5_findingAt 28 = .ok (.iload_n 3, 1) := by decide +kernel
theorem dX5_findingAt_29 : decode cX5_findingAt 29 = .ok (.aload_n 0, 1) := by decide +kernel
theorem dX5_findingAt_30 : decode cX5_findingAt 30 = .ok (.getfield 20, 3) := by decide +kernel
theorem dX5_findingAt_33 : decode cX5_findingAt 33 = .ok (.iload_n 1, 1) := by decide +kernel
theorem dX5_findingAt_34 : decode cX5_findingAt 34 = .ok (.invokevirtual 29, 3) := by decide +kernel
theorem dX5_findingAt_37 : decode cX5_findingAt 37 = .ok (.if_icmp .ge 7, 3) := by decide +kernel
theorem dX5_findingAt_40 : decode cX5_findingAt 40 = .ok (.iconst 0, 1) := by decide +kernel
theorem dX5_findingAt_41 : decode cX5_findingAt 41 = .ok (.goto 4, 3) := by decide +kernel
theorem dX5_findingAt_44 : decode cX5_findingAt 44 = .ok (.iconst 2, 1) := by decide +kernel
theorem dX5_findingAt_45 : decode cX5_findingAt 45 = .ok (.ireturn, 1) := by decide +kernel
set_option maxRecDepth 20000 in
theorem ggX5_renew_X4_write : GoodIn wsX5_renew wsX4_write := goodIn_r _ [8, 9, 13] (by decide +kernel) (by decide +kernel)
set_option maxRecDepth 20000 in
theorem gX5_renew_X4_write : GoodIn wsX5_renew (wsV RX5 37 RX4 yX4_write wsX4_write) := goodIn_app (goodIn_of _ (by decide +kernel)) ggX5_renew_X4_write
theorem dX5_renew_0 : decode cX5_renew 0 = .ok (.aload_n 0, 1) := by decide +kernel
theorem dX5_renew_1 : decode cX5_renew 1 = .ok (.getfield 14, 3) := by decide +kernel
theorem dX5_renew_4 : decode cX5_renew 4 = .ok (.iload_n 1, 1) := by decide +kernel
theorem dX5_renew_5 : decode cX5_renew 5 = .ok (.iload_n 2, 1) := by decide +kernel
theorem dX5_renew_6 : decode cX5_renew 6 = .ok (.invokevirtual 37, 3) := by decide +kernel
theorem dX5_renew_9 : decode cX5_renew 9 = .ok (.aload_n 0, 1) := by decide +kernel
theorem dX5_renew_10 : decode cX5_renew 10 = .ok (.getfield 20, 3) := by decide +kernel
theorem dX5_renew_13 : decode cX5_renew 13 = .ok (.iload_n 1, 1) := by decide +kernel
theorem dX5_renew_14 : decode cX5_renew 14 = .ok (.iload_n 3, 1) := by decide +kernel
theorem dX5_renew_15 : decode cX5_renew 15 = .ok (.invokevirtual 37, 3) := by decide +kernel
theorem dX5_renew_18 : decode cX5_renew 18 = .ok (.iconst 0, 1) := by decide +kernel
theorem dX5_renew_19 : decode cX5_renew 19 = .ok (.istore 4, 2) := by decide +kernel
theorem dX5_renew_21 : decode cX5_renew 21 = .ok (.iload 4, 2) := by decide +kernel
theorem dX5_renew_23 : decode cX5_renew 23 = .ok (.bipush 60, 2) := by decide +kernel
theorem dX5_renew_25 : decode cX5_renew 25 = .ok (.if_icmp .ge 24, 3) := by decide +kernel
theorem dX5_renew_28 : decode cX5_renew 28 = .ok (.aload_n 0, 1) := by decide +kernel
theorem dX5_renew_29 : decode cX5_renew 29 = .ok (.getfield 23, 3) := by decide +kernel
theorem dX5_renew_32 : decode cX5_renew 32 = .ok (.iload_n 1, 1) := by decide +kernel
theorem dX5_renew_33 : decode cX5_renew 33 = .ok (.bipush 60, 2) := by decide +kernel
theorem dX5_renew_35 : decode cX5_renew 35 = .ok (.imul, 1) := by decide +kernel
theorem dX5_renew_36 : decode cX5_renew 36 = .ok (.iload 4, 2) := by decide +kernel
theorem dX5_renew_38 : decode cX5_renew 38 = .ok (.iadd, 1) := by decide +kernel
theorem dX5_renew_39 : decode cX5_renew 39 = .ok (.iconst 0, 1) := by decide +kernel
theorem dX5_renew_40 : decode cX5_renew 40 = .ok (.invokevirtual 37, 3) := by decide +kernel
theorem dX5_renew_43 : decode cX5_renew 43 = .ok (.iinc 4 1, 3) := by decide +kernel
theorem dX5_renew_46 : decode cX5_renew 46 = .ok (.goto (-25), 3) := by decide +kernel
theorem dX5_renew_49 : decode cX5_renew 49 = .ok (.return_, 1) := by decide +kernel
set_option maxRecDepth 20000 in
theorem ggX5_item_X4_read : GoodIn wsX5_item wsX4_read := goodIn_r _ [6, 7, 11] (by decide +kernel) (by decide +kernel)
set_option maxRecDepth 20000 in
theorem gX5_item_X4_read : GoodIn wsX5_item (wsV RX5 29 RX4 yX4_read wsX4_read) := goodIn_app (goodIn_of _ (by decide +kernel)) ggX5_item_X4_read
theorem dX5_item_0 : decode cX5_item 0 = .ok (.aload_n 0, 1) := by decide +kernel
theorem dX5_item_1 : decode cX5_item 1 = .ok (.getfield 23, 3) := by decide +kernel
theorem dX5_item_4 : decode cX5_item 4 = .ok (.iload_n 1, 1) := by decide +kernel
theorem dX5_item_5 : decode cX5_item 5 = .ok (.bipush 60, 2) := by decide +kernel
theorem dX5_item_7 : decode cX5_item 7 = .ok (.imul, 1) := by decide +kernel
theorem dX5_item_8 : decode cX5_item 8 = .ok (.iload_n 2, 1) := by decide +kernel
theorem dX5_item_9 : decode cX5_item 9 = .ok (.iadd, 1) := by decide +kernel
theorem dX5_item_10 : decode cX5_item 10 = .ok (.invokevirtual 29, 3) := by decide +kernel
theorem dX5_item_13 : decode cX5_item 13 = .ok (.ireturn, 1) := by decide +kernel
set_option maxRecDepth 20000 in
theorem ggX5_setItem_X4_read : GoodIn wsX5_setItem wsX4_read := goodIn_r _ [7, 8, 20] (by decide +kernel) (by decide +kernel)
set_option maxRecDepth 20000 in
theorem gX5_setItem_X4_read : GoodIn wsX5_setItem (wsV RX5 29 RX4 yX4_read wsX4_read) := goodIn_app (goodIn_of _ (by decide +kernel)) ggX5_setItem_X4_read
set_option maxRecDepth 20000 in
theorem ggX5_setItem_X5_lowestBits : GoodIn wsX5_setItem wsX5_lowestBits := goodIn_r _ [12] (by decide +kernel) (by decide +kernel)
set_option maxRecDepth 20000 in
theorem gX5_setItem_X5_lowestBits : GoodIn wsX5_setItem (va_wsS RX5 41 yX5_lowestBits wsX5_lowestBits) := goodIn_app (goodIn_of _ (by decide +kernel)) ggX5_setItem_X5_lowestBits
set_option maxRecDepth 20000 in
theorem ggX5_setItem_X4_write : GoodIn wsX5_setItem wsX4_write := goodIn_r _ [16, 8, 20] (by decide +kernel) (by decide +kernel)
set_option maxRecDepth 20000 in
theorem gX5_setItem_X4_write : GoodIn wsX5_setItem (wsV RX5 37 RX4 yX4_write wsX4_write) := goodIn_app (goodIn_of _ (by decide +kernel)) ggX5_setItem_X4_write
theorem dX5_setItem_0 : decode cX5_setItem 0 = .ok (.aload_n 0, 1) := by decide +kernel
theorem dX5_setItem_1 : decode cX5_setItem 1 = .ok (.getfield 23, 3) := by decide +kernel
theorem dX5_setItem_4 : decode cX5_setItem 4 = .ok (.iload_n 1, 1) := by decide +kernel
theorem dX5_setItem_5 : decode cX5_setItem 5 = .ok (.bipush 60, 2) := by decide +kernel
theorem dX5_setItem_7 : decode cX5_setItem 7 = .ok (.imul, 1) := by decide +kernel
theorem dX5_setItem_8 : decode cX5_setItem 8 = .ok (.iload_n 2, 1) := by decide +kernel
theorem dX5_setItem_9 : decode cX5_setItem 9 = .ok (.iadd, 1) := by decide +kernel
theorem dX5_setItem_10 : decode cX5_setItem 10 = .ok (.aload_n 0, 1) := by decide +kernel
theorem dX5_setItem_11 : decode cX5_setItem 11 = .ok (.getfield 14, 3) := by decide +kernel
theorem dX5_setItem_14 : decode cX5_setItem 14 = .ok (.iload_n 1, 1) := by decide +kernel
theorem dX5_setItem_15 : decode cX5_setItem 15 = .ok (.invokevirtual 29, 3) := by decide +kernel
theorem dX5_setItem_18 : decode cX5_setItem 18 = .ok (.iload_n 3, 1) := by decide +kernel
theorem dX5_setItem_19 : decode cX5_setItem 19 = .ok (.invokestatic 41, 3) := by decide +kernel
theorem dX5_setItem_22 : decode cX5_setItem 22 = .ok (.invokevirtual 37, 3) := by decide +kernel
theorem dX5_setItem_25 : decode cX5_setItem 25 = .ok (.return_, 1) := by decide +kernel
theorem dX5_lowestBits_0 : decode cX5_lowestBits 0 = .ok (.iload_n 0, 1) := by decide +kernel
theorem dX5_lowestBits_1 : decode cX5_lowestBits 1 = .ok (.ifCond .ne 6, 3) := by decide +kernel
theorem dX5_lowestBits_4 : decode cX5_lowestBits 4 = .ok (.iload_n 1, 1) := by decide +kernel
theorem dX5_lowestBits_5 : decode cX5_lowestBits 5 = .ok (.i2b, 1) := by decide +kernel
theorem dX5_lowestBits_6 : decode cX5_lowestBits 6 = .ok (.ireturn, 1) := by decide +kernel
theorem dX5_lowestBits_7 : decode cX5_lowestBits 7 = .ok (.iload_n 0, 1) := by decide +kernel
theorem dX5_lowestBits_8 : decode cX5_lowestBits 8 = .ok (.iconst 1, 1) := by decide +kernel
theorem dX5_lowestBits_9 : decode cX5_lowestBits 9 = .ok (.if_icmp .ne 8, 3) := by decide +kernel
theorem dX5_lowestBits_12 : decode cX5_lowestBits 12 = .ok (.iload_n 1, 1) := by decide +kernel
theorem dX5_lowestBits_13 : decode cX5_lowestBits 13 = .ok (.i2s, 1) := by decide +kernel
theorem dX5_lowestBits_14 : decode cX5_lowestBits 14 = .ok (.goto 4, 3) := by decide +kernel
theorem dX5_lowestBits_17 : decode cX5_lowestBits 17 = .ok (.iload_n 1, 1) := by decide +kernel
theorem dX5_lowestBits_18 : decode cX5_lowestBits 18 = .ok (.ireturn, 1) := by decide +kernel
set_option maxRecDepth 20000 in
theorem ggX5_moveItems_X5_item : GoodIn wsX5_moveItems wsX5_item := goodIn_r _ [5, 6, 7, 8, 9, 10, 11, 12, 25, 26, 27, 28] (by decide +kernel) (by decide +kernel)
set_option maxRecDepth 20000 in
theorem gX5_moveItems_X5_item : GoodIn wsX5_moveItems (wsV RX5 45 RX5 yX5_item wsX5_item) := goodIn_app (goodIn_of _ (by decide +kernel)) ggX5_moveItems_X5_item
set_option maxRecDepth 20000 in
theorem ggX5_moveItems_X5_setItem : GoodIn wsX5_moveItems wsX5_setItem := goodIn_r _ [16, 6, 17, 7, 8, 9, 10, 11, 12, 18, 19, 4, 20, 21, 22, 23, 24, 25, 26, 27, 28] (by decide +kernel) (by decide +kernel)
set_option maxRecDepth 20000 in
theorem gX5_moveItems_X5_setItem : GoodIn wsX5_moveItems (wsV RX5 48 RX5 yX5_setItem wsX5_setItem) := goodIn_app (goodIn_of _ (by decide +kernel)) ggX5_moveItems_X5_setItem
theorem dX5_moveItems_0 : decode cX5_moveItems 0 = .ok (.iload_n 2, 1) := by decide +kernel
theorem dX5_moveItems_1 : decode cX5_moveItems 1 = .ok (.iload 4, 2) := by decide +kernel
theorem dX5_moveItems_3 : decode cX5_moveItems 3 = .ok (.if_icmp .ge 7, 3) := by decide +kernel
theorem dX5_moveItems_6 : decode cX5_moveItems 6 = .ok (.iconst 1, 1) := by decide +kernel
theorem dX5_moveItems_7 : decode cX5_moveItems 7 = .ok (.goto 4, 3) := by decide +kernel
theorem dX5_moveItems_10 : decode cX5_moveItems 10 = .ok (.iconst 0, 1) := by decide +kernel
theorem dX5_moveItems_11 : decode cX5_moveItems 11 = .ok (.istore 6, 2) := by decide +kernel
theorem dX5_moveItems_13 : decode cX5_moveItems 13 = .ok (.iconst 0, 1) := by decide +kernel
theorem dX5_moveItems_14 : decode cX5_moveItems 14 = .ok (.istore 7, 2) := by decide +kernel
theorem dX5_moveItems_16 : decode cX5_moveItems 16 = .ok (.iload 7, 2) := by decide +kernel
theorem dX5_moveItems_18 : decode cX5_moveItems 18 = .ok (.iload 5, 2) := by decide +kernel
theorem dX5_moveItems_20 : decode cX5_moveItems 20 = .ok (.if_icmp .ge 47, 3) := by decide +kernel
theorem dX5_moveItems_23 : decode cX5_moveItems 23 = .ok (.iload 6, 2) := by decide +kernel
theorem dX5_moveItems_25 : decode cX5_moveItems 25 = .ok (.ifCond .eq 13, 3) := by decide +kernel
theorem dX5_moveItems_28 : decode cX5_moveItems 28 = .ok (.iload 5, 2) := by decide +kernel
theorem dX5_moveItems_30 : decode cX5_moveItems 30 = .ok (.iconst 1, 1) := by decide +kernel
theorem dX5_moveItems_31 : decode cX5_moveItems 31 = .ok (.isub, 1) := by decide +kernel
theorem dX5_moveItems_32 : decode cX5_moveItems 32 = .ok (.iload 7, 2) := by decide +kernel
theorem dX5_moveItems_34 : decode cX5_moveItems 34 = .ok (.isub, 1) := by decide +kernel
theorem dX5_moveItems_35 : decode cX5_moveItems 35 = .ok (.goto 5, 3) := by decide +kernel
theorem dX5_moveItems_38 : decode cX5_moveItems 38 = .ok (.iload 7, 2) := by decide +kernel
theorem dX5_moveItems_40 : decode cX5_moveItems 40 = .ok (.istore 8, 2) := by decide +kernel
theorem dX5_moveItems_42 : decode cX5_moveItems 42 = .ok (.aload_n 0, 1) := by decide +kernel
theorem dX5_moveItems_43 : decode cX5_moveItems 43 = .ok (.iload_n 3, 1) := by decide +kernel
theorem dX5_moveItems_44 : decode cX5_moveItems 44 = .ok (.iload 4, 2) := by decide +kernel
theorem dX5_moveItems_46 : decode cX5_moveItems 46 = .ok (.iload 8, 2) := by decide +kernel
theorem dX5_moveItems_48 : decode cX5_moveItems 48 = .ok (.iadd, 1) := by decide +kernel
theorem dX5_moveItems_49 : decode cX5_moveItems 49 = .ok (.aload_n 0, 1) := by decide +kernel
theorem dX5_moveItems_50 : decode cX5_moveItems 50 = .ok (.iload_n 1, 1) := by decide +kernel
theorem dX5_moveItems_51 : decode cX5_moveItems 51 = .ok (.iload_n 2, 1) := by decide +kernel
theorem dX5_moveItems_52 : decode cX5_moveItems 52 = .ok (.iload 8, 2) := by decide +kernel
theorem dX5_moveItems_54 : decode cX5_moveItems 54 = .ok (.iadd, 1) := by decide +kernel
theorem dX5_moveItems_55 : decode cX5_moveItems 55 = .ok (.invokevirtual 45, 3) := by decide +kernel
theorem dX5_moveItems_58 : decode cX5_moveItems 58 = .ok (.invokevirtual 48, 3) := by decide +kernel
theorem dX5_moveItems_61 : decode cX5_moveItems 61 = .ok (.iinc 7 1, 3) := by decide +kernel
theorem dX5_moveItems_64 : decode cX5_moveItems 64 = .ok (.goto (-48), 3) := by decide +kernel
theorem dX5_moveItems_67 : decode cX5_moveItems 67 = .ok (.return_, 1) := by decide +kernel
set_option maxRecDepth 20000 in
theorem ggX6_init_X4_init : GoodIn wsX6_init wsX4_init := goodIn_r _ [14, 15, 2, 3, 16, 17, 23] (by decide +kernel) (by decide +kernel)
set_option maxRecDepth 20000 in
theorem gX6_init_X4_init : GoodIn wsX6_init (wsX4_init) := ggX6_init_X4_init
theorem dX6_init_0 : decode cX6_init 0 = .ok (.aload_n 0, 1) := by decide +kernel
theorem dX6_init_1 : decode cX6_init 1 = .ok (.invokespecial 3, 3) := by decide +kernel
theorem dX6_init_4 : decode cX6_init 4 = .ok (.aload_n 0, 1) := by decide +kernel
theorem dX6_init_5 : decode cX6_init 5 = .ok (.iconst 0, 1) := by decide +kernel
theorem dX6_init_6 : decode cX6_init 6 = .ok (.putfield 9, 3) := by decide +kernel
theorem dX6_init_9 : decode cX6_init 9 = .ok (.aload_n 0, 1) := by decide +kernel
theorem dX6_init_10 : decode cX6_init 10 = .ok (.new 15, 3) := by decide +kernel
theorem dX6_init_13 : decode cX6_init 13 = .ok (.dup, 1) := by decide +kernel
theorem dX6_init_14 : decode cX6_init 14 = .ok (.bipush 12, 2) := by decide +kernel
theorem dX6_init_16 : decode cX6_init 16 = .ok (.invokespecial 17, 3) := by decide +kernel
theorem dX6_init_19 : decode cX6_init 19 = .ok (.putfield 20, 3) := by decide +kernel
theorem dX6_init_22 : decode cX6_init 22 = .ok (.aload_n 0, 1) := by decide +kernel
theorem dX6_init_23 : decode cX6_init 23 = .ok (.new 15, 3) := by decide +kernel
theorem dX6_init_26 : decode cX6_init 26 = .ok (.dup, 1) := by decide +kernel
theorem dX6_init_27 : decode cX6_init 27 = .ok (.bipush 12, 2) := by decide +kernel
theorem dX6_init_29 : decode cX6_init 29 = .ok (.invokespecial 17, 3) := by decide +kernel
theorem dX6_init_32 : decode cX6_init 32 = .ok (.putfield 24, 3) := by decide +kernel
theorem dX6_init_35 : decode cX6_init 35 = .ok (.aload_n 0, 1) := by decide +kernel
theorem dX6_init_36 : decode cX6_init 36 = .ok (.new 15, 3) := by decide +kernel
theorem dX6_init_39 : decode cX6_init 39 = .ok (.dup, 1) := by decide +kernel
theorem dX6_init_40 : decode cX6_init 40 = .ok (.bipush 12, 2) := by decide +kernel
theorem dX6_init_42 : decode cX6_init 42 = .ok (.invokespecial 17, 3) := by decide +kernel
theorem dX6_init_45 : decode cX6_init 45 = .ok (.putfield 27, 3) := by decide +kernel
theorem dX6_init_48 : decode cX6_init 48 = .ok (.aload_n 0, 1) := by decide +kernel
theorem dX6_init_49 : decode cX6_init 49 = .ok (.aload_n 1, 1) := by decide +kernel
theorem dX6_init_50 : decode cX6_init 50 = .ok (.putfield 30, 3) := by decide +kernel
theorem dX6_init_53 : decode cX6_init 53 = .ok (.return_, 1) := by decide +kernel
set_option maxRecDepth 20000 in
theorem ggX6_add_X4_write : GoodIn wsX6_add wsX4_write := goodIn_r _ [9, 10, 16] (by decide +kernel) (by decide +kernel)
set_option maxRecDepth 20000 in
theorem gX6_add_X4_write : GoodIn wsX6_add (wsV RX6 34 RX4 yX4_write wsX4_write) := goodIn_app (goodIn_of _ (by decide +kernel)) ggX6_add_X4_write
theorem dX6_add_0 : decode cX6_add 0 = .ok (.aload_n 0, 1) := by decide +kernel
theorem dX6_add_1 : decode cX6_add 1 = .ok (.getfield 20, 3) := by decide +kernel
theorem dX6_add_4 : decode cX6_add 4 = .ok (.aload_n 0, 1) := by decide +kernel
theorem dX6_add_5 : decode cX6_add 5 = .ok (.getfield 9, 3) := by decide +kernel
theorem dX6_add_8 : decode cX6_add 8 = .ok (.iload_n 1, 1) := by decide +kernel
theorem dX6_add_9 : decode cX6_add 9 = .ok (.invokevirtual 34, 3) := by decide +kernel
theorem dX6_add_12 : decode cX6_add 12 = .ok (.aload_n 0, 1) := by decide +kernel
theorem dX6_add_13 : decode cX6_add 13 = .ok (.getfield 24, 3) := by decide +kernel
theorem dX6_add_16 : decode cX6_add 16 = .ok (.aload_n 0, 1) := by decide +kernel
theorem dX6_add_17 : decode cX6_add 17 = .ok (.getfield 9, 3) := by decide +kernel
theorem dX6_add_20 : decode cX6_add 20 = .ok (.iload_n 2, 1) := by decide +kernel
theorem dX6_add_21 : decode cX6_add 21 = .ok (.invokevirtual 34, 3) := by decide +kernel
theorem dX6_add_24 : decode cX6_add 24 = .ok (.aload_n 0, 1) := by decide +kernel
theorem dX6_add_25 : decode cX6_add 25 = .ok (.getfield 27, 3) := by decide +kernel
theorem dX6_add_28 : decode cX6_add 28 = .ok (.aload_n 0, 1) := by decide +kernel
theorem dX6_add_29 : decode cX6_add 29 = .ok (.getfield 9, 3) := by decide +kernel
theorem dX6_add_32 : decode cX6_add 32 = .ok (.aload_n 0, 1) := by decide +kernel
theorem dX6_add_33 : decode cX6_add 33 = .ok (.getfield 9, 3) := by decide +kernel
theorem dX6_add_36 : decode cX6_add 36 = .ok (.invokevirtual 34, 3) := by decide +kernel
theorem dX6_add_39 : decode cX6_add 39 = .ok (.aload_n 0, 1) := by decide +kernel
theorem dX6_add_40 : decode cX6_add 40 = .ok (.dup, 1) := by decide +kernel
theorem dX6_add_41 : decode cX6_add 41 = .ok (.getfield 9, 3) := by decide +kernel
theorem dX6_add_44 : decode cX6_add 44 = .ok (.iconst 1, 1) := by decide +kernel
theorem dX6_add_45 : decode cX6_add 45 = .ok (.iadd, 1) := by decide +kernel
theorem dX6_add_46 : decode cX6_add 46 = .ok (.putfield 9, 3) := by decide +kernel
theorem dX6_add_49 : decode cX6_add 49 = .ok (.return_, 1) := by decide +kernel
set_option maxRecDepth 20000 in
theorem ggX6_dropLast_X4_read : GoodIn wsX6_dropLast wsX4_read := goodIn_r _ [9, 10, 20] (by decide +kernel) (by decide +kernel)
set_option maxRecDepth 20000 in
theorem gX6_dropLast_X4_read : GoodIn wsX6_dropLast (wsV RX6 38 RX4 yX4_read wsX4_read) := goodIn_app (goodIn_of _ (by decide +kernel)) ggX6_dropLast_X4_read
set_option maxRecDepth 20000 in
theorem ggX6_dropLast_X4_write : GoodIn wsX6_dropLast wsX4_write := goodIn_r _ [14, 10, 20] (by decide +kernel) (by decide +kernel)
set_option maxRecDepth 20000 in
theorem gX6_dropLast_X4_write : GoodIn wsX6_dropLast (wsV RX6 34 RX4 yX4_write wsX4_write) := goodIn_app (goodIn_of _ (by decide +kernel)) ggX6_dropLast_X4_write
theorem dX6_dropLast_0 : decode cX6_dropLast 0 = .ok (.aload_n 0, 1) := by decide +kernel
theorem dX6_dropLast_1 : decode cX6_dropLast 1 = .ok (.dup, 1) := by decide +kernel
theorem dX6_dropLast_2 : decode cX6_dropLast 2 = .ok (.getfield 9, 3) := by decide +kernel
theorem dX6_dropLast_5 : decode cX6_dropLast 5 = .ok (.iconst 1, 1) := by decide +kernel
theorem dX6_dropLast_6 : decode cX6_dropLast 6 = .ok (.isub, 1) := by decide +kernel
theorem dX6_dropLast_7 : decode cX6_dropLast 7 = .ok (.putfield 9, 3) := by decide +kernel
theorem dX6_dropLast_10 : decode cX6_dropLast 10 = .ok (.iload_n 1, 1) := by decide +kernel
theorem dX6_dropLast_11 : decode cX6_dropLast 11 = .ok (.istore_n 2, 1) := by decide +kernel
theorem dX6_dropLast_12 : decode cX6_dropLast 12 = .ok (.iload_n 2, 1) := by decide +kernel
theorem dX6_dropLast_13 : decode cX6_dropLast 13 = .ok (.aload_n 0, 1) := by decide +kernel
theorem dX6_dropLast_14 : decode cX6_dropLast 14 = .ok (.getfield 9, 3) := by decide +kernel
theorem dX6_dropLast_17 : decode cX6_dropLast 17 = .ok (.if_icmp .ge 45, 3) := by decide +kernel
theorem dX6_dropLast_20 : decode cX6_dropLast 20 = .ok (.aload_n 0, 1) := by decide +kernel
theorem dX6_dropLast_21 : decode cX6_dropLast 21 = .ok (.getfield 20, 3) := by decide +kernel
theorem dX6_dropLast_24 : decode cX6_dropLast 24 = .ok (.iload_n 2, 1) := by decide +kernel
theorem dX6_dropLast_25 : decode cX6_dropLast 25 = .ok (.aload_n 0, 1) := by decide +kernel
theorem dX6_dropLast_26 : decode cX6_dropLast 26 = .ok (.getfield 20, 3) := by decide +kernel
theorem dX6_dropLast_29 : decode cX6_dropLast 29 = .ok (.iload_n 2, 1) := by decide +kernel
theorem dX6_dropLast_30 : decode cX6_dropLast 30 = .ok (.iconst 1, 1) := by decide +kernel
theorem dX6_dropLast_31 : decode cX6_dropLast 31 = .ok (.iadd, 1) := by decide +kernel
theorem dX6_dropLast_32 : decode cX6_dropLast 32 = .ok (.invokevirtual 38, 3) := by decide +kernel
theorem dX6_dropLast_35 : decode cX6_dropLast 35 = .ok (.invokevirtual 34, 3) := by decide +kernel
theorem dX6_dropLast_38 : decode cX6_dropLast 38 = .ok (.aload_n 0, 1) := by decide +kernel
theorem dX6_dropLast_39 : decode cX6_dropLast 39 = .ok (.getfield 24, 3) := by decide +kernel
theorem dX6_dropLast_42 : decode cX6_dropLast 42 = .ok (.iload_n 2, 1) := by decide +kernel
theorem dX6_dropLast_43 : decode cX6_dropLast 43 = .ok (.aload_n 0, 1) := by decide +kernel
theorem dX6_dropLast_44 : decode cX6_dropLast 44 = .ok (.getfield 24, 3) := by decide +kernel
theorem dX6_dropLast_47 : decode cX6_dropLast 47 = .ok (.iload_n 2, 1) := by decide +kernel
theorem dX6_dropLast_48 : decode cX6_dropLast 48 = .ok (.iconst 1, 1) := by decide +kernel
theorem dX6_dropLast_49 : decode cX6_dropLast 49 = .ok (.iadd, 1) := by decide +kernel
theorem dX6_dropLast_50 : decode cX6_dropLast 50 = .ok (.invokevirtual 38, 3) := by decide +kernel
theorem dX6_dropLast_53 : decode cX6_dropLast 53 = .ok (.invokevirtual 34, 3) := by decide +kernel
theorem dX6_dropLast_56 : decode cX6_dropLast 56 = .ok (.iinc 2 1, 3) := by decide +kernel
theorem dX6_dropLast_59 : decode cX6_dropLast 59 = .ok (.goto (-47), 3) := by decide +kernel
theorem dX6_dropLast_62 : decode cX6_dropLast 62 = .ok (.iconst 0, 1) := by decide +kernel
theorem dX6_dropLast_63 : decode cX6_dropLast 63 = .ok (.istore_n 2, 1) := by decide +kernel
theorem dX6_dropLast_64 : decode cX6_dropLast 64 = .ok (.iload_n 2, 1) := by decide +kernel
theorem dX6_dropLast_65 : decode cX6_dropLast 65 = .ok (.aload_n 0, 1) := by decide +kernel
theorem dX6_dropLast_66 : decode cX6_dropLast 66 = .ok (.getfield 9, 3) := by decide +kernel
theorem dX6_dropLast_69 : decode cX6_dropLast 69 = .ok (.if_icmp .ge 38, 3) := by decide +kernel
theorem dX6_dropLast_72 : decode cX6_dropLast 72 = .ok (.aload_n 0, 1) := by decide +kernel
theorem dX6_dropLast_73 : decode cX6_dropLast 73 = .ok (.getfield 27, 3) := by decide +kernel
theorem dX6_dropLast_76 : decode cX6_dropLast 76 = .ok (.iload_n 2, 1) := by decide +kernel
theorem dX6_dropLast_77 : decode cX6_dropLast 77 = .ok (.invokevirtual 38, 3) := by decide +kernel
theorem dX6_dropLast_80 : decode cX6_dropLast 80 = .ok (.istore_n 3, 1) := by decide +kernel
theorem dX6_dropLast_81 : decode cX6_dropLast 81 = .ok (.aload_n 0, 1) := by decide +kernel
theorem dX6_dropLast_82 : decode cX6_dropLast 82 = .ok (.getfield 27, 3) := by decide +kernel
theorem dX6_dropLast_85 : decode cX6_dropLast 85 = .ok (.iload_n 2, 1) := by decide +kernel
theorem dX6_dropLast_86 : decode cX6_dropLast 86 = .ok (.iload_n 3, 1) := by decide +kernel
theorem dX6_dropLast_87 : decode cX6_dropLast 87 = .ok (.iload_n 1, 1) := by decide +kernel
theorem dX6_dropLast_88 : decode cX6_dropLast 88 = .ok (.if_icmp .le 9, 3) := by decide +kernel
theorem dX6_dropLast_91 : decode cX6_dropLast 91 = .ok (.iload_n 3, 1) := by decide +kernel
theorem dX6_dropLast_92 : decode cX6_dropLast 92 = .ok (.iconst 1, 1) := by decide +kernel
theorem dX6_dropLast_93 : decode cX6_dropLast 93 = .ok (.isub, 1) := by decide +kernel
theorem dX6_dropLast_94 : decode cX6_dropLast 94 = .ok (.goto 4, 3) := by decide +kernel
theorem dX6_dropLast_97 : decode cX6_dropLast 97 = .ok (.iload_n 3, 1) := by decide +kernel
theorem dX6_dropLast_98 : decode cX6_dropLast 98 = .ok (.invokevirtual 34, 3) := by decide +kernel
theorem dX6_dropLast_101 : decode cX6_dropLast 101 = .ok (.iinc 2 1, 3) := by decide +kernel
theorem dX6_dropLast_104 : decode cX6_dropLast 104 = .ok (.goto (-40), 3) := by decide +kernel
theorem dX6_dropLast_107 : decode cX6_dropLast 107 = .ok (.return_, 1) := by decide +kernel
set_option maxRecDepth 20000 in
theorem ggX6_placeOf_X4_read : GoodIn wsX6_placeOf wsX4_read := goodIn_r _ [7, 8, 14] (by decide +kernel) (by decide +kernel)
set_option maxRecDepth 20000 in
theorem gX6_placeOf_X4_read : GoodIn wsX6_placeOf (wsV RX6 38 RX4 yX4_read wsX4_read) := goodIn_app (goodIn_of _ (by decide +kernel)) ggX6_placeOf_X4_read
theorem dX6_placeOf_0 : decode cX6_placeOf 0 = .ok (.iconst 0, 1) := by decide +kernel
theorem dX6_placeOf_1 : decode cX6_placeOf 1 = .ok (.istore_n 2, 1) := by decide +kernel
theorem dX6_placeOf_2 : decode cX6_placeOf 2 = .ok (.iload_n 2, 1) := by decide +kernel
theorem dX6_placeOf_3 : decode cX6_placeOf 3 = .ok (.aload_n 0, 1) := by decide +kernel
theorem dX6_placeOf_4 : decode cX6_placeOf 4 = .ok (.getfield 9, 3) := by decide +kernel
theorem dX6_placeOf_7 : decode cX6_placeOf 7 = .ok (.if_icmp .ge 23, 3) := by decide +kernel
theorem dX6_placeOf_10 : decode cX6_placeOf 10 = .ok (.aload_n 0, 1) := by decide +kernel
theorem dX6_placeOf_11 : decode cX6_placeOf 11 = .ok (.getfield 27, 3) := by decide +kernel
theorem dX6_placeOf_14 : decode cX6_placeOf 14 = .ok (.iload_n 2, 1) := by decide +kernel
theorem dX6_placeOf_15 : decode cX6_placeOf 15 = .ok (.invokevirtual 38, 3) := by decide +kernel
theorem dX6_placeOf_18 : decode cX6_placeOf 18 = .ok (.iload_n 1, 1) := by decide +kernel
theorem dX6_placeOf_19 : decode cX6_placeOf 19 = .ok (.if_icmp .ne 5, 3) := by decide +kernel
theorem dX6_placeOf_22 : decode cX6_placeOf 22 = .ok (.iload_n 2, 1) := by decide +kernel
theorem dX6_placeOf_23 : decode cX6_placeOf 23 = .ok (.ireturn, 1) := by decide +kernel
theorem dX6_placeOf_24 : decode cX6_placeOf 24 = .ok (.iinc 2 1, 3) := by decide +kernel
theorem dX6_placeOf_27 : decode cX6_placeOf 27 = .ok (.goto (-25), 3) := by decide +kernel
theorem dX6_placeOf_30 : decode cX6_placeOf 30 = .ok (.iconst (-1), 1) := by decide +kernel
theorem dX6_placeOf_31 : decode cX6_placeOf 31 = .ok (.ireturn, 1) := by decide +kernel
set_option maxRecDepth 20000 in
theorem ggX6_gapOf_X4_read : GoodIn wsX6_gapOf wsX4_read := goodIn_r _ [7, 8, 30] (by decide +kernel) (by decide +kernel)
set_option maxRecDepth 20000 in
theorem gX6_gapOf_X4_read : GoodIn wsX6_gapOf (wsV RX6 38 RX4 yX4_read wsX4_read) := goodIn_app (goodIn_of _ (by decide +kernel)) ggX6_gapOf_X4_read
set_option maxRecDepth 20000 in
theorem ggX6_gapOf_X1_gap : GoodIn wsX6_gapOf wsX1_gap := goodIn_r _ [13, 14, 15, 16, 17, 18, 19, 20, 21, 22, 23, 24, 4, 5, 6, 7, 8, 31, 32, 33, 34, 35, 36, 30] (by decide +kernel) (by decide +kernel)
set_option maxRecDepth 20000 in
theorem gX6_gapOf_X1_gap : GoodIn wsX6_gapOf (wsV RX6 42 RX1 yX1_gap wsX1_gap) := goodIn_app (goodIn_of _ (by decide +kernel)) ggX6_gapOf_X1_gap
theorem dX6_gapOf_0 : decode cX6_gapOf 0 = .ok (.aload_n 0, 1) := by decide +kernel
theorem dX6_gapOf_1 : decode cX6_gapOf 1 = .ok (.getfield 30, 3) := by decide +kernel
theorem dX6_gapOf_4 : decode cX6_gapOf 4 = .ok (.aload_n 0, 1) := by decide +kernel
theorem dX6_gapOf_5 : decode cX6_gapOf 5 = .ok (.getfield 20, 3) := by decide +kernel
theorem dX6_gapOf_8 : decode cX6_gapOf 8 = .ok (.iload_n 1, 1) := by decide +kernel
theorem dX6_gapOf_9 : decode cX6_gapOf 9 = .ok (.invokevirtual 38, 3) := by decide +kernel
theorem dX6_gapOf_12 : decode cX6_gapOf 12 = .ok (.aload_n 0, 1) := by decide +kernel
theorem dX6_gapOf_13 : decode cX6_gapOf 13 = .ok (.getfield 20, 3) := by decide +kernel
theorem dX6_gapOf_16 : decode cX6_gapOf 16 = .ok (.iload_n 2, 1) := by decide +kernel
theorem dX6_gapOf_17 : decode cX6_gapOf 17 = .ok (.invokevirtual 38, 3) := by decide +kernel
theorem dX6_gapOf_20 : decode cX6_gapOf 20 = .ok (.invokevirtual 42, 3) := by decide +kernel
theorem dX6_gapOf_23 : decode cX6_gapOf 23 = .ok (.ireturn, 1) := by decide +kernel
set_option maxRecDepth 20000 in
theorem ggX6_gapAhead_X4_read : GoodIn wsX6_gapAhead wsX4_read := goodIn_r _ [6, 7, 36] (by decide +kernel) (by decide +kernel)
set_option maxRecDepth 20000 in
theorem gX6_gapAhead_X4_read : GoodIn wsX6_gapAhead (wsV RX6 38 RX4 yX4_read wsX4_read) := goodIn_app (goodIn_of _ (by decide +kernel)) ggX6_gapAhead_X4_read
set_option maxRecDepth 20000 in
theorem ggX6_gapAhead_X6_gapOf : GoodIn wsX6_gapAhead wsX6_gapOf := goodIn_r _ [12, 13, 14, 2, 3, 4, 5, 6, 7, 15, 16, 17, 18, 19, 20, 21, 22, 23, 24, 25, 26, 27, 28, 29, 30, 31, 32, 33, 34, 35, 36, 37, 38, 39, 40, 41, 42] (by decide +kernel) (by decide +kernel)
set_option maxRecDepth 20000 in
theorem gX6_gapAhead_X6_gapOf : GoodIn wsX6_gapAhead (wsV RX6 48 RX6 yX6_gapOf wsX6_gapOf) := goodIn_app (goodIn_of _ (by decide +kernel)) ggX6_gapAhead_X6_gapOf
theorem dX6_gapAhead_0 : decode cX6_gapAhead 0 = .ok (.iload_n 1, 1) := by decide +kernel
theorem dX6_gapAhead_1 : decode cX6_gapAhead 1 = .ok (.ifCond .le 28, 3) := by decide +kernel
theorem dX6_gapAhead_4 : decode cX6_gapAhead 4 = .ok (.aload_n 0, 1) := by decide +kernel
theorem dX6_gapAhead_5 : decode cX6_gapAhead 5 = .ok (.aload_n 0, 1) := by decide +kernel
theorem dX6_gapAhead_6 : decode cX6_gapAhead 6 = .ok (.getfield 27, 3) := by decide +kernel
theorem dX6_gapAhead_9 : decode cX6_gapAhead 9 = .ok (.iload_n 1, 1) := by decide +kernel
theorem dX6_gapAhead_10 : decode cX6_gapAhead 10 = .ok (.iconst 1, 1) := by decide +kernel
theorem dX6_gapAhead_11 : decode cX6_gapAhead 11 = .ok (.isub, 1) := by decide +kernel
theorem dX6_gapAhead_12 : decode cX6_gapAhead 12 = .ok (.invokevirtual 38, 3) := by decide +kernel
theorem dX6_gapAhead_15 : decode cX6_gapAhead 15 = .ok (.aload_n 0, 1) := by decide +kernel
theorem dX6_gapAhead_16 : decode cX6_gapAhead 16 = .ok (.getfield 27, 3) := by decide +kernel
theorem dX6_gapAhead_19 : decode cX6_gapAhead 19 = .ok (.iload_n 1, 1) := by decide +kernel
theorem dX6_gapAhead_20 : decode cX6_gapAhead 20 = .ok (.invokevirtual 38, 3) := by decide +kernel
theorem dX6_gapAhead_23 : decode cX6_gapAhead 23 = .ok (.invokevirtual 48, 3) := by decide +kernel
theorem dX6_gapAhead_26 : decode cX6_gapAhead 26 = .ok (.goto 4, 3) := by decide +kernel
theorem dX6_gapAhead_29 : decode cX6_gapAhead 29 = .ok (.iconst 0, 1) := by decide +kernel
theorem dX6_gapAhead_30 : decode cX6_gapAhead 30 = .ok (.ireturn, 1) := by decide +kernel
set_option maxRecDepth 20000 in
theorem ggX6_gapsInOrder_X6_gapAhead : GoodIn wsX6_gapsInOrder wsX6_gapAhead := goodIn_r _ [6, 7, 8, 9, 10, 11, 12, 13, 14, 15, 16, 5, 17, 18, 19, 20, 21, 22, 23, 24, 25, 26, 27, 28, 29, 30, 31, 32, 33, 34, 35, 36, 37, 38, 39, 40, 41, 42, 43, 44, 45, 46, 47] (by decide +kernel) (by decide +kernel)
set_option maxRecDepth 20000 in
theorem gX6_gapsInOrder_X6_gapAhead : GoodIn wsX6_gapsInOrder (wsV RX6 51 RX6 yX6_gapAhead wsX6_gapAhead) := goodIn_app (goodIn_of _ (by decide +kernel)) ggX6_gapsInOrder_X6_gapAhead
theorem dX6_gapsInOrder_0 : decode cX6_gapsInOrder 0 = .ok (.iconst 0, 1) := by decide +kernel
theorem dX6_gapsInOrder_1 : decode cX6_gapsInOrder 1 = .ok (.istore_n 1, 1) := by decide +kernel
theorem dX6_gapsInOrder_2 : decode cX6_gapsInOrder 2 = .ok (.iconst 1, 1) := by decide +kernel
theorem dX6_gapsInOrder_3 : decode cX6_gapsInOrder 3 = .ok (.istore_n 2, 1) := by decide +kernel
theorem dX6_gapsInOrder_4 : decode cX6_gapsInOrder 4 = .ok (.iload_n 2, 1) := by decide +kernel
theorem dX6_gapsInOrder_5 : decode cX6_gapsInOrder 5 = .ok (.aload_n 0, 1) := by decide +kernel
theorem dX6_gapsInOrder_6 : decode cX6_gapsInOrder 6 = .ok (.getfield 9, 3) := by decide +kernel
theorem dX6_gapsInOrder_9 : decode cX6_gapsInOrder 9 = .ok (.if_icmp .ge 17, 3) := by decide +kernel
theorem dX6_gapsInOrder_12 : decode cX6_gapsInOrder 12 = .ok (.iload_n 1, 1) := by decide +kernel
theorem dX6_gapsInOrder_13 : decode cX6_gapsInOrder 13 = .ok (.aload_n 0, 1) := by decide +kernel
theorem dX6_gapsInOrder_14 : decode cX6_gapsInOrder 14 = .ok (.iload_n 2, 1) := by decide +kernel
theorem dX6_gapsInOrder_15 : decode cX6_gapsInOrder 15 = .ok (.invokevirtual 51, 3) := by decide +kernel
theorem dX6_gapsInOrder_18 : decode cX6_gapsInOrder 18 = .ok (.iadd, 1) := by decide +kernel
theorem dX6_gapsInOrder_19 : decode cX6_gapsInOrder 19 = .ok (.istore_n 1, 1) := by decide +kernel
theorem dX6_gapsInOrder_20 : decode cX6_gapsInOrder 20 = .ok (.iinc 2 1, 3) := by decide +kernel
theorem dX6_gapsInOrder_23 : decode cX6_gapsInOrder 23 = .ok (.goto (-19), 3) := by decide +kernel
theorem dX6_gapsInOrder_26 : decode cX6_gapsInOrder 26 = .ok (.iload_n 1, 1) := by decide +kernel
theorem dX6_gapsInOrder_27 : decode cX6_gapsInOrder 27 = .ok (.ireturn, 1) := by decide +kernel
set_option maxRecDepth 20000 in
theorem ggX6_orderByNext_X4_read : GoodIn wsX6_orderByNext wsX4_read := goodIn_r _ [7, 8, 45] (by decide +kernel) (by decide +kernel)
set_option maxRecDepth 20000 in
theorem gX6_orderByNext_X4_read : GoodIn wsX6_orderByNext (wsV RX6 38 RX4 yX4_read wsX4_read) := goodIn_app (goodIn_of _ (by decide +kernel)) ggX6_orderByNext_X4_read
set_option maxRecDepth 20000 in
theorem ggX6_orderByNext_X6_nextOf : GoodIn wsX6_orderByNext wsX6_nextOf := goodIn_r _ [13, 1, 14, 15, 16, 12, 17, 18, 19, 3, 4, 5, 6, 7, 8, 20, 21, 22, 23, 24, 25, 26, 27, 28, 29, 30, 31, 32, 33, 34, 35, 40, 41, 42, 43, 44, 45, 46, 47, 48, 49, 50, 51] (by decide +kernel) (by decide +kernel)
set_option maxRecDepth 20000 in
theorem gX6_orderByNext_X6_nextOf : GoodIn wsX6_orderByNext (wsV RX6 54 RX6 yX6_nextOf wsX6_nextOf) := goodIn_app (goodIn_of _ (by decide +kernel)) ggX6_orderByNext_X6_nextOf
set_option maxRecDepth 20000 in
theorem ggX6_orderByNext_X4_write : GoodIn wsX6_orderByNext wsX4_write := goodIn_r _ [39, 8, 45] (by decide +kernel) (by decide +kernel)
set_option maxRecDepth 20000 in
theorem gX6_orderByNext_X4_write : GoodIn wsX6_orderByNext (wsV RX6 34 RX4 yX4_write wsX4_write) := goodIn_app (goodIn_of _ (by decide +kernel)) ggX6_orderByNext_X4_write
theorem dX6_orderByNext_0 : decode cX6_orderByNext 0 = .ok (.iconst 1, 1) := by decide +kernel
theorem dX6_orderByNext_1 : decode cX6_orderByNext 1 = .ok (.aload_n 0, 1) := by decide +kernel
theorem dX6_orderByNext_2 : decode cX6_orderByNext 2 = .ok (.getfield 9, 3) := by decide +kernel
theorem dX6_orderByNext_5 : decode cX6_orderByNext 5 = .ok (.ishl, 1) := by decide +kernel
theorem dX6_orderByNext_6 : decode cX6_orderByNext 6 = .ok (.iconst 1, 1) := by decide +kernel
theorem dX6_orderByNext_7 : decode cX6_orderByNext 7 = .ok (.isub, 1) := by decide +kernel
theorem dX6_orderByNext_8 : decode cX6_orderByNext 8 = .ok (.istore_n 1, 1) := by decide +kernel
theorem dX6_orderByNext_9 : decode cX6_orderByNext 9 = .ok (.iconst 0, 1) := by decide +kernel
theorem dX6_orderByNext_10 : decode cX6_orderByNext 10 = .ok (.istore_n 2, 1) := by decide +kernel
theorem dX6_orderByNext_11 : decode cX6_orderByNext 11 = .ok (.iload_n 2, 1) := by decide +kernel
theorem dX6_orderByNext_12 : decode cX6_orderByNext 12 = .ok (.aload_n 0, 1) := by decide +kernel
theorem dX6_orderByNext_13 : decode cX6_orderByNext 13 = .ok (.getfield 9, 3) := by decide +kernel
theorem dX6_orderByNext_16 : decode cX6_orderByNext 16 = .ok (.if_icmp .ge 57, 3) := by decide +kernel
theorem dX6_orderByNext_19 : decode cX6_orderByNext 19 = .ok (.iload_n 2, 1) := by decide +kernel
theorem dX6_orderByNext_20 : decode cX6_orderByNext 20 = .ok (.ifCond .ne 14, 3) := by decide +kernel
theorem dX6_orderByNext_23 : decode cX6_orderByNext 23 = .ok (.aload_n 0, 1) := by decide +kernel
theorem dX6_orderByNext_24 : decode cX6_orderByNext 24 = .ok (.getfield 27, 3) := by decide +kernel
theorem dX6_orderByNext_27 : decode cX6_orderByNext 27 = .ok (.iconst 0, 1) := by decide +kernel
theorem dX6_orderByNext_28 : decode cX6_orderByNext 28 = .ok (.invokevirtual 38, 3) := by decide +kernel
theorem dX6_orderByNext_31 : decode cX6_orderByNext 31 = .ok (.goto 18, 3) := by decide +kernel
theorem dX6_orderByNext_34 : decode cX6_orderByNext 34 = .ok (.aload_n 0, 1) := by decide +kernel
theorem dX6_orderByNext_35 : decode cX6_orderByNext 35 = .ok (.iload_n 1, 1) := by decide +kernel
theorem dX6_orderByNext_36 : decode cX6_orderByNext 36 = .ok (.aload_n 0, 1) := by decide +kernel
theorem dX6_orderByNext_37 : decode cX6_orderByNext 37 = .ok (.getfield 27, 3) := by decide +kernel
theorem dX6_orderByNext_40 : decode cX6_orderByNext 40 = .ok (.iload_n 2, 1) := by decide +kernel
theorem dX6_orderByNext_41 : decode cX6_orderByNext 41 = .ok (.iconst 1, 1) := by decide +kernel
theorem dX6_orderByNext_42 : decode cX6_orderByNext 42 = .ok (.isub, 1) := by decide +kernel
theorem dX6_orderByNext_43 : decode cX6_orderByNext 43 = .ok (.invokevirtual 38, 3) := by decide +kernel
theorem dX6_orderByNext_46 : decode cX6_orderByNext 46 = .ok (.invokevirtual 54, 3) := by decide +kernel
theorem dX6_orderByNext_49 : decode cX6_orderByNext 49 = .ok (.istore_n 3, 1) := by decide +kernel
theorem dX6_orderByNext_50 : decode cX6_orderByNext 50 = .ok (.aload_n 0, 1) := by decide +kernel
theorem dX6_orderByNext_51 : decode cX6_orderByNext 51 = .ok (.getfield 27, 3) := by decide +kernel
theorem dX6_orderByNext_54 : decode cX6_orderByNext 54 = .ok (.iload_n 2, 1) := by decide +kernel
theorem dX6_orderByNext_55 : decode cX6_orderByNext 55 = .ok (.iload_n 3, 1) := by decide +kernel
theorem dX6_orderByNext_56 : decode cX6_orderByNext 56 = .ok (.invokevirtual 34, 3) := by decide +kernel
theorem dX6_orderByNext_59 : decode cX6_orderByNext 59 = .ok (.iload_n 1, 1) := by decide +kernel
theorem dX6_orderByNext_60 : decode cX6_orderByNext 60 = .ok (.iconst 1, 1) := by decide +kernel
theorem dX6_orderByNext_61 : decode cX6_orderByNext 61 = .ok (.iload_n 3, 1) := by decide +kernel
theorem dX6_orderByNext_62 : decode cX6_orderByNext 62 = .ok (.ishl, 1) := by decide +kernel
theorem dX6_orderByNext_63 : decode cX6_orderByNext 63 = .ok (.iconst (-1), 1) := by decide +kernel
theorem dX6_orderByNext_64 : decode cX6_orderByNext 64 = .ok (.ixor, 1) := by decide +kernel
theorem dX6_orderByNext_65 : decode cX6_orderByNext 65 = .ok (.iand, 1) := by decide +kernel
theorem dX6_orderByNext_66 : decode cX6_orderByNext 66 = .ok (.istore_n 1, 1) := by decide +kernel
theorem dX6_orderByNext_67 : decode cX6_orderByNext 67 = .ok (.iinc 2 1, 3) := by decide +kernel
theorem dX6_orderByNext_70 : decode cX6_orderByNext 70 = .ok (.goto (-59), 3) := by decide +kernel
theorem dX6_orderByNext_73 : decode cX6_orderByNext 73 = .ok (.return_, 1) := by decide +kernel
set_option maxRecDepth 20000 in
theorem ggX6_nextOf_X6_gapOf : GoodIn wsX6_nextOf wsX6_gapOf := goodIn_r _ [6, 7, 8, 9, 10, 11, 12, 13, 14, 15, 16, 17, 18, 19, 20, 21, 22, 23, 24, 25, 26, 27, 28, 29, 30, 31, 32, 33, 34, 35, 36, 37, 38, 39, 40, 41, 42] (by decide +kernel) (by decide +kernel)
set_option maxRecDepth 20000 in
theorem gX6_nextOf_X6_gapOf : GoodIn wsX6_nextOf (wsV RX6 48 RX6 yX6_gapOf wsX6_gapOf) := goodIn_app (goodIn_of _ (by decide +kernel)) ggX6_nextOf_X6_gapOf
theorem dX6_nextOf_0 : decode cX6_nextOf 0 = .ok (.iconst (-1), 1) := by decide +kernel
theorem dX6_nextOf_1 : decode cX6_nextOf 1 = .ok (.istore_n 3, 1) := by decide +kernel
theorem dX6_nextOf_2 : decode cX6_nextOf 2 = .ok (.iconst 0, 1) := by decide +kernel
theorem dX6_nextOf_3 : decode cX6_nextOf 3 = .ok (.istore 4, 2) := by decide +kernel
theorem dX6_nextOf_5 : decode cX6_nextOf 5 = .ok (.iload 4, 2) := by decide +kernel
theorem dX6_nextOf_7 : decode cX6_nextOf 7 = .ok (.aload_n 0, 1) := by decide +kernel
theorem dX6_nextOf_8 : decode cX6_nextOf 8 = .ok (.getfield 9, 3) := by decide +kernel
theorem dX6_nextOf_11 : decode cX6_nextOf 11 = .ok (.if_icmp .ge 55, 3) := by decide +kernel
theorem dX6_nextOf_14 : decode cX6_nextOf 14 = .ok (.iload_n 1, 1) := by decide +kernel
theorem dX6_nextOf_15 : decode cX6_nextOf 15 = .ok (.iload 4, 2) := by decide +kernel
theorem dX6_nextOf_17 : decode cX6_nextOf 17 = .ok (.ishr, 1) := by decide +kernel
theorem dX6_nextOf_18 : decode cX6_nextOf 18 = .ok (.iconst 1, 1) := by decide +kernel
theorem dX6_nextOf_19 : decode cX6_nextOf 19 = .ok (.iand, 1) := by decide +kernel
theorem dX6_nextOf_20 : decode cX6_nextOf 20 = .ok (.iconst 1, 1) := by decide +kernel
theorem dX6_nextOf_21 : decode cX6_nextOf 21 = .ok (.if_icmp .ne 7, 3) := by decide +kernel
theorem dX6_nextOf_24 : decode cX6_nextOf 24 = .ok (.iconst 1, 1) := by decide +kernel
theorem dX6_nextOf_25 : decode cX6_nextOf 25 = .ok (.goto 4, 3) := by decide +kernel
theorem dX6_nextOf_28 : decode cX6_nextOf 28 = .ok (.iconst 0, 1) := by decide +kernel
theorem dX6_nextOf_29 : decode cX6_nextOf 29 = .ok (.istore 5, 2) := by decide +kernel
theorem dX6_nextOf_31 : decode cX6_nextOf 31 = .ok (.iload 5, 2) := by decide +kernel
theorem dX6_nextOf_33 : decode cX6_nextOf 33 = .ok (.ifCond .eq 27, 3) := by decide +kernel
theorem dX6_nextOf_36 : decode cX6_nextOf 36 = .ok (.iload_n 3, 1) := by decide +kernel
theorem dX6_nextOf_37 : decode cX6_nextOf 37 = .ok (.iconst (-1), 1) := by decide +kernel
theorem dX6_nextOf_38 : decode cX6_nextOf 38 = .ok (.if_icmp .eq 19, 3) := by decide +kernel
theorem dX6_nextOf_41 : decode cX6_nextOf 41 = .ok (.aload_n 0, 1) := by decide +kernel
theorem dX6_nextOf_42 : decode cX6_nextOf 42 = .ok (.iload_n 2, 1) := by decide +kernel
theorem dX6_nextOf_43 : decode cX6_nextOf 43 = .ok (.iload 4, 2) := by decide +kernel
theorem dX6_nextOf_45 : decode cX6_nextOf 45 = .ok (.invokevirtual 48, 3) := by decide +kernel
theorem dX6_nextOf_48 : decode cX6_nextOf 48 = .ok (.aload_n 0, 1) := by decide +kernel
theorem dX6_nextOf_49 : decode cX6_nextOf 49 = .ok (.iload_n 2, 1) := by decide +kernel
theorem dX6_nextOf_50 : decode cX6_nextOf 50 = .ok (.iload_n 3, 1) := by decide +kernel
theorem dX6_nextOf_51 : decode cX6_nextOf 51 = .ok (.invokevirtual 48, 3) := by decide +kernel
theorem dX6_nextOf_54 : decode cX6_nextOf 54 = .ok (.if_icmp .ge 6, 3) := by decide +kernel
theorem dX6_nextOf_57 : decode cX6_nextOf 57 = .ok (.iload 4, 2) := by decide +kernel
theorem dX6_nextOf_59 : decode cX6_nextOf 59 = .ok (.istore_n 3, 1) := by decide +kernel
theorem dX6_nextOf_60 : decode cX6_nextOf 60 = .ok (.iinc 4 1, 3) := by decide +kernel
theorem dX6_nextOf_63 : decode cX6_nextOf 63 = .ok (.goto (-58), 3) := by decide +kernel
theorem dX6_nextOf_66 : decode cX6_nextOf 66 = .ok (.iload_n 3, 1) := by decide +kernel
theorem dX6_nextOf_67 : decode cX6_nextOf 67 = .ok (.ireturn, 1) := by decide +kernel
set_option maxRecDepth 20000 in
theorem ggX7_init_X1_init : GoodIn wsX7_init wsX1_init := goodIn_r _ [30, 31, 2, 3, 32, 33, 34, 35, 36, 37, 38, 39, 40, 41, 42, 43, 44, 45, 46, 114, 115, 116, 117, 118, 119, 161] (by decide +kernel) (by decide +kernel)
set_option maxRecDepth 20000 in
theorem gX7_init_X1_init_n11 : GoodIn wsX7_init (wsX1_init) := ggX7_init_X1_init
set_option maxRecDepth 20000 in
theorem ggX7_init_X2_init : GoodIn wsX7_init wsX2_init := goodIn_r _ [48, 49, 2, 3, 50, 51, 34, 35, 52, 53, 54, 55, 56, 57, 58, 42, 43, 44, 45, 46, 127, 128, 129, 130, 131, 132, 133, 161] (by decide +kernel) (by decide +kernel)
set_option maxRecDepth 20000 in
theorem gX7_init_X2_init_n18 : GoodIn wsX7_init (wsX2_init) := ggX7_init_X2_init
set_option maxRecDepth 20000 in
theorem ggX7_init_X6_init : GoodIn wsX7_init wsX6_init := goodIn_r _ [61, 62, 2, 3, 63, 64, 34, 35, 65, 66, 67, 68, 69, 42, 43, 44, 45, 46, 134, 135, 136, 137, 138, 161] (by decide +kernel) (by decide +kernel)
set_option maxRecDepth 20000 in
theorem gX7_init_X6_init : GoodIn wsX7_init (wsX6_init) := ggX7_init_X6_init
set_option maxRecDepth 20000 in
theorem ggX7_init_X3_init : GoodIn wsX7_init wsX3_init := goodIn_r _ [72, 73, 2, 3, 74, 34, 35, 75, 76, 77, 78, 42, 43, 44, 45, 46, 161, 139, 140, 141] (by decide +kernel) (by decide +kernel)
set_option maxRecDepth 20000 in
theorem gX7_init_X3_init : GoodIn wsX7_init (wsX3_init) := ggX7_init_X3_init
set_option maxRecDepth 20000 in
theorem ggX7_init_X0_init : GoodIn wsX7_init wsX0_init := goodIn_r _ [81, 82, 2, 3, 83, 84, 85, 86, 87, 88, 89, 90, 34, 35, 91, 92, 93, 94, 95, 96, 97, 98, 99, 100, 42, 43, 44, 45, 46, 142, 143, 144, 145, 146, 147, 148, 149, 150, 151, 152, 153, 154, 155, 156, 157, 161] (by decide +kernel) (by decide +kernel)
set_option maxRecDepth 20000 in
theorem gX7_init_X0_init : GoodIn wsX7_init (wsX0_init) := ggX7_init_X0_init
set_option maxRecDepth 20000 in
theorem ggX7_init_X5_init : GoodIn wsX7_init wsX5_init := goodIn_r _ [103, 104, 2, 3, 105, 34, 35, 106, 107, 108, 109, 42, 43, 44, 45, 46, 110, 111, 112, 113, 161, 158, 159, 160] (by decide +kernel) (by decide +kernel)
set_option maxRecDepth 20000 in
theorem gX7_init_X5_init : GoodIn wsX7_init (wsX5_init) := ggX7_init_X5_init
theorem dX7_init_0 : decode cX7_init 0 = .ok (.aload_n 0, 1) := by decide +kernel
theorem dX7_init_1 : decode cX7_init 1 = .ok (.invokespecial 3, 3) := by decide +kernel
theorem dX7_init_4 : decode cX7_init 4 = .ok (.aload_n 0, 1) := by decide +kernel
theorem dX7_init_5 : decode cX7_init 5 = .ok (.new 9, 3) := by decide +kernel
theorem dX7_init_8 : decode cX7_init 8 = .ok (.dup, 1) := by decide +kernel
theorem dX7_init_9 : decode cX7_init 9 = .ok (.invokespecial 11, 3) := by decide +kernel
theorem dX7_init_12 : decode cX7_init 12 = .ok (.putfield 12, 3) := by decide +kernel
theorem dX7_init_15 : decode cX7_init 15 = .ok (.aload_n 0, 1) := by decide +kernel
theorem dX7_init_16 : decode cX7_init 16 = .ok (.new 16, 3) := by decide +kernel
theorem dX7_init_19 : decode cX7_init 19 = .ok (.dup, 1) := by decide +kernel
theorem dX7_init_20 : decode cX7_init 20 = .ok (.invokespecial 18, 3) := by decide +kernel
theorem dX7_init_23 : decode cX7_init 23 = .ok (.putfield 19, 3) := by decide +kernel
theorem dX7_init_26 : decode cX7_init 26 = .ok (.aload_n 0, 1) := by decide +kernel
theorem dX7_init_27 : decode cX7_init 27 = .ok (.new 23, 3) := by decide +kernel
theorem dX7_init_30 : decode cX7_init 30 = .ok (.dup, 1) := by decide +kernel
theorem dX7_init_31 : decode cX7_init 31 = .ok (.aload_n 0, 1) := by decide +kernel
theorem dX7_init_32 : decode cX7_init 32 = .ok (.getfield 12, 3) := by decide +kernel
theorem dX7_init_35 : decode cX7_init 35 = .ok (.invokespecial 25, 3) := by decide +kernel
theorem dX7_init_38 : decode cX7_init 38 = .ok (.putfield 28, 3) := by decide +kernel
theorem dX7_init_41 : decode cX7_init 41 = .ok (.aload_n 0, 1) := by decide +kernel
theorem dX7_init_42 : decode cX7_init 42 = .ok (.new 32, 3) := by decide +kernel
theorem dX7_init_45 : decode cX7_init 45 = .ok (.dup, 1) := by decide +kernel
theorem dX7_init_46 : decode cX7_init 46 = .ok (.aload_n 0, 1) := by decide +kernel
theorem dX7_init_47 : decode cX7_init 47 = .ok (.getfield 28, 3) := by decide +kernel
theorem dX7_init_50 : decode cX7_init 50 = .ok (.invokespecial 34, 3) := by decide +kernel
theorem dX7_init_53 : decode cX7_init 53 = .ok (.putfield 37, 3) := by decide +kernel
theorem dX7_init_56 : decode cX7_init 56 = .ok (.aload_n 0, 1) := by decide +kernel
theorem dX7_init_57 : decode cX7_init 57 = .ok (.new 41, 3) := by decide +kernel
theorem dX7_init_60 : decode cX7_init 60 = .ok (.dup, 1) := by decide +kernel
theorem dX7_init_61 : decode cX7_init 61 = .ok (.aload_n 0, 1) := by decide +kernel
theorem dX7_init_62 : decode cX7_init 62 = .ok (.getfield 12, 3) := by decide +kernel
theorem dX7_init_65 : decode cX7_init 65 = .ok (.aload_n 0, 1) := by decide +kernel
theorem dX7_init_66 : decode cX7_init 66 = .ok (.getfield 28, 3) := by decide +kernel
theorem dX7_init_69 : decode cX7_init 69 = .ok (.invokespecial 43, 3) := by decide +kernel
theorem dX7_init_72 : decode cX7_init 72 = .ok (.putfield 46, 3) := by decide +kernel
theorem dX7_init_75 : decode cX7_init 75 = .ok (.aload_n 0, 1) := by decide +kernel
theorem dX7_init_76 : decode cX7_init 76 = .ok (.new 50, 3) := by decide +kernel
theorem dX7_init_79 : decode cX7_init 79 = .ok (.dup, 1) := by decide +kernel
theorem dX7_init_80 : decode cX7_init 80 = .ok (.invokespecial 52, 3) := by decide +kernel
theorem dX7_init_83 : decode cX7_init 83 = .ok (.putfield 53, 3) := by decide +kernel
theorem dX7_init_86 : decode cX7_init 86 = .ok (.aload_n 0, 1) := by decide +kernel
theorem dX7_init_87 : decode cX7_init 87 = .ok (.iconst 0, 1) := by decide +kernel
theorem dX7_init_88 : decode cX7_init 88 = .ok (.putfield 57, 3) := by decide +kernel
theorem dX7_init_91 : decode cX7_init 91 = .ok (.return_, 1) := by decide +kernel
set_option maxRecDepth 20000 in
theorem ggX7_kind_X7_within : GoodIn wsX7_kind wsX7_within := goodIn_r _ [5] (by decide +kernel) (by decide +kernel)
set_option maxRecDepth 20000 in
theorem gX7_kind_X7_within : GoodIn wsX7_kind (va_wsS RX7 61 yX7_within wsX7_within) := goodIn_app (goodIn_of _ (by decide +kernel)) ggX7_kind_X7_within
set_option maxRecDepth 20000 in
theorem ggX7_kind_X1_add : GoodIn wsX7_kind wsX1_add := goodIn_r _ [10, 11, 12, 13, 14, 15, 16, 17, 18, 19, 20, 21, 22, 30, 31, 32, 33, 34, 35, 36] (by decide +kernel) (by decide +kernel)
set_option maxRecDepth 20000 in
theorem gX7_kind_X1_add : GoodIn wsX7_kind (wsV RX7 68 RX1 yX1_add wsX1_add) := goodIn_app (goodIn_of _ (by decide +kernel)) ggX7_kind_X1_add
theorem dX7_kind_0 : decode cX7_kind 0 = .ok (.iload_n 1, 1) := by decide +kernel
theorem dX7_kind_1 : decode cX7_kind 1 = .ok (.iconst 0, 1) := by decide +kernel
theorem dX7_kind_2 : decode cX7_kind 2 = .ok (.iconst 3, 1) := by decide +kernel
theorem dX7_kind_3 : decode cX7_kind 3 = .ok (.invokestatic 61, 3) := by decide +kernel
theorem dX7_kind_6 : decode cX7_kind 6 = .ok (.ifCond .eq 12, 3) := by decide +kernel
theorem dX7_kind_9 : decode cX7_kind 9 = .ok (.iload_n 2, 1) := by decide +kernel
theorem dX7_kind_10 : decode cX7_kind 10 = .ok (.iconst 0, 1) := by decide +kernel
theorem dX7_kind_11 : decode cX7_kind 11 = .ok (.iconst 2, 1) := by decide +kernel
theorem dX7_kind_12 : decode cX7_kind 12 = .ok (.invokestatic 61, 3) := by decide +kernel
theorem dX7_kind_15 : decode cX7_kind 15 = .ok (.ifCond .ne 6, 3) := by decide +kernel
theorem dX7_kind_18 : decode cX7_kind 18 = .ok (.bipush (-2), 2) := by decide +kernel
theorem dX7_kind_20 : decode cX7_kind 20 = .ok (.ireturn, 1) := by decide +kernel
theorem dX7_kind_21 : decode cX7_kind 21 = .ok (.iload 4, 2) := by decide +kernel
theorem dX7_kind_23 : decode cX7_kind 23 = .ok (.iconst 0, 1) := by decide +kernel
theorem dX7_kind_24 : decode cX7_kind 24 = .ok (.bipush 9, 2) := by decide +kernel
theorem dX7_kind_26 : decode cX7_kind 26 = .ok (.invokestatic 61, 3) := by decide +kernel
theorem dX7_kind_29 : decode cX7_kind 29 = .ok (.ifCond .eq 14, 3) := by decide +kernel
theorem dX7_kind_32 : decode cX7_kind 32 = .ok (.iload 5, 2) := by decide +kernel
theorem dX7_kind_34 : decode cX7_kind 34 = .ok (.iconst 0, 1) := by decide +kernel
theorem dX7_kind_35 : decode cX7_kind 35 = .ok (.bipush 9, 2) := by decide +kernel
theorem dX7_kind_37 : decode cX7_kind 37 = .ok (.invokestatic 61, 3) := by decide +kernel
theorem dX7_kind_40 : decode cX7_kind 40 = .ok (.ifCond .ne 6, 3) := by decide +kernel
theorem dX7_kind_43 : decode cX7_kind 43 = .ok (.bipush (-2), 2) := by decide +kernel
theorem dX7_kind_45 : decode cX7_kind 45 = .ok (.ireturn, 1) := by decide +kernel
theorem dX7_kind_46 : decode cX7_kind 46 = .ok (.aload_n 0, 1) := by decide +kernel
theorem dX7_kind_47 : decode cX7_kind 47 = .ok (.getfield 12, 3) := by decide +kernel
theorem dX7_kind_50 : decode cX7_kind 50 = .ok (.getfield 65, 3) := by decide +kernel
theorem dX7_kind_53 : decode cX7_kind 53 = .ok (.bipush 8, 2) := by decide +kernel
theorem dX7_kind_55 : decode cX7_kind 55 = .ok (.if_icmp .lt 6, 3) := by decide +kernel
theorem dX7_kind_58 : decode cX7_kind 58 = .ok (.bipush (-3), 2) := by decide +kernel
theorem dX7_kind_60 : decode cX7_kind 60 = .ok (.ireturn, 1) := by decide +kernel
theorem dX7_kind_61 : decode cX7_kind 61 = .ok (.aload_n 0, 1) := by decide +kernel
theorem dX7_kind_62 : decode cX7_kind 62 = .ok (.getfield 12, 3) := by decide +kernel
theorem dX7_kind_65 : decode cX7_kind 65 = .ok (.iload_n 1, 1) := by decide +kernel
theorem dX7_kind_66 : decode cX7_kind 66 = .ok (.iload_n 2, 1) := by decide +kernel
theorem dX7_kind_67 : decode cX7_kind 67 = .ok (.iload_n 3, 1) := by decide +kernel
theorem dX7_kind_68 : decode cX7_kind 68 = .ok (.iload 4, 2) := by decide +kernel
theorem dX7_kind_70 : decode cX7_kind 70 = .ok (.iload 5, 2) := by decide +kernel
theorem dX7_kind_72 : decode cX7_kind 72 = .ok (.invokevirtual 68, 3) := by decide +kernel
theorem dX7_kind_75 : decode cX7_kind 75 = .ok (.ireturn, 1) := by decide +kernel
set_option maxRecDepth 20000 in
theorem ggX7_piece_X7_isKind : GoodIn wsX7_piece wsX7_isKind := goodIn_r _ [6, 7, 8, 9, 5, 10, 32, 33, 34, 35, 36, 37, 38, 46, 47, 48, 49, 50, 51] (by decide +kernel) (by decide +kernel)
set_option maxRecDepth 20000 in
theorem gX7_piece_X7_isKind : GoodIn wsX7_piece (wsV RX7 72 RX7 yX7_isKind wsX7_isKind) := goodIn_app (goodIn_of _ (by decide +kernel)) ggX7_piece_X7_isKind
set_option maxRecDepth 20000 in
theorem ggX7_piece_X7_isOwner : GoodIn wsX7_piece wsX7_isOwner := goodIn_r _ [13, 8, 9, 5, 10] (by decide +kernel) (by decide +kernel)
set_option maxRecDepth 20000 in
theorem gX7_piece_X7_isOwner : GoodIn wsX7_piece (va_wsS RX7 76 yX7_isOwner wsX7_isOwner) := goodIn_app (goodIn_of _ (by decide +kernel)) ggX7_piece_X7_isOwner
set_option maxRecDepth 20000 in
theorem ggX7_piece_X2_add : GoodIn wsX7_piece wsX2_add := goodIn_r _ [18, 19, 20, 21, 22, 23, 24, 25, 26, 27, 28, 29, 30, 31, 39, 40, 41, 42, 43, 44, 45, 52] (by decide +kernel) (by decide +kernel)
set_option maxRecDepth 20000 in
theorem gX7_piece_X2_add : GoodIn wsX7_piece (wsV RX7 80 RX2 yX2_add wsX2_add) := goodIn_app (goodIn_of _ (by decide +kernel)) ggX7_piece_X2_add
theorem dX7_piece_0 : decode cX7_piece 0 = .ok (.aload_n 0, 1) := by decide +kernel
theorem dX7_piece_1 : decode cX7_piece 1 = .ok (.iload_n 1, 1) := by decide +kernel
theorem dX7_piece_2 : decode cX7_piece 2 = .ok (.invokevirtual 72, 3) := by decide +kernel
theorem dX7_piece_5 : decode cX7_piece 5 = .ok (.ifCond .eq 10, 3) := by decide +kernel
theorem dX7_piece_8 : decode cX7_piece 8 = .ok (.iload_n 2, 1) := by decide +kernel
theorem dX7_piece_9 : decode cX7_piece 9 = .ok (.invokestatic 76, 3) := by decide +kernel
theorem dX7_piece_12 : decode cX7_piece 12 = .ok (.ifCond .ne 6, 3) := by decide +kernel
theorem dX7_piece_15 : decode cX7_piece 15 = .ok (.bipush (-2), 2) := by decide +kernel
theorem dX7_piece_17 : decode cX7_piece 17 = .ok (.ireturn, 1) := by decide +kernel
theorem dX7_piece_18 : decode cX7_piece 18 = .ok (.aload_n 0, 1) := by decide +kernel
theorem dX7_piece_19 : decode cX7_piece 19 = .ok (.getfield 19, 3) := by decide +kernel
theorem dX7_piece_22 : decode cX7_piece 22 = .ok (.getfield 79, 3) := by decide +kernel
theorem dX7_piece_25 : decode cX7_piece 25 = .ok (.bipush 100, 2) := by decide +kernel
theorem dX7_piece_27 : decode cX7_piece 27 = .ok (.if_icmp .lt 6, 3) := by decide +kernel
theorem dX7_piece_30 : decode cX7_piece 30 = .ok (.bipush (-3), 2) := by decide +kernel
theorem dX7_piece_32 : decode cX7_piece 32 = .ok (.ireturn, 1) := by decide +kernel
theorem dX7_piece_33 : decode cX7_piece 33 = .ok (.aload_n 0, 1) := by decide +kernel
theorem dX7_piece_34 : decode cX7_piece 34 = .ok (.getfield 19, 3) := by decide +kernel
theorem dX7_piece_37 : decode cX7_piece 37 = .ok (.iload_n 1, 1) := by decide +kernel
theorem dX7_piece_38 : decode cX7_piece 38 = .ok (.iload_n 2, 1) := by decide +kernel
theorem dX7_piece_39 : decode cX7_piece 39 = .ok (.iload_n 3, 1) := by decide +kernel
theorem dX7_piece_40 : decode cX7_piece 40 = .ok (.invokevirtual 80, 3) := by decide +kernel
theorem dX7_piece_43 : decode cX7_piece 43 = .ok (.ireturn, 1) := by decide +kernel
set_option maxRecDepth 20000 in
theorem ggX7_about_X7_isPiece : GoodIn wsX7_about wsX7_isPiece := goodIn_r _ [6, 1, 7, 8, 5, 9, 16, 17, 18, 19, 20, 21, 22, 23, 24, 25, 26, 27, 28, 29] (by decide +kernel) (by decide +kernel)
set_option maxRecDepth 20000 in
theorem gX7_about_X7_isPiece : GoodIn wsX7_about (wsV RX7 83 RX7 yX7_isPiece wsX7_isPiece) := goodIn_app (goodIn_of _ (by decide +kernel)) ggX7_about_X7_isPiece
set_option maxRecDepth 20000 in
theorem ggX7_about_X4_read : GoodIn wsX7_about wsX4_read := goodIn_r _ [14, 15, 30] (by decide +kernel) (by decide +kernel)
set_option maxRecDepth 20000 in
theorem gX7_about_X4_read : GoodIn wsX7_about (wsV RX7 90 RX4 yX4_read wsX4_read) := goodIn_app (goodIn_of _ (by decide +kernel)) ggX7_about_X4_read
theorem dX7_about_0 : decode cX7_about 0 = .ok (.aload_n 0, 1) := by decide +kernel
theorem dX7_about_1 : decode cX7_about 1 = .ok (.iload_n 1, 1) := by decide +kernel
theorem dX7_about_2 : decode cX7_about 2 = .ok (.invokevirtual 83, 3) := by decide +kernel
theorem dX7_about_5 : decode cX7_about 5 = .ok (.ifCond .ne 6, 3) := by decide +kernel
theorem dX7_about_8 : decode cX7_about 8 = .ok (.bipush (-2), 2) := by decide +kernel
theorem dX7_about_10 : decode cX7_about 10 = .ok (.ireturn, 1) := by decide +kernel
theorem dX7_about_11 : decode cX7_about 11 = .ok (.iload_n 2, 1) := by decide +kernel
theorem dX7_about_12 : decode cX7_about 12 = .ok (.tableswitch 112 0 5 #[40, 52, 64, 76, 88, 100], 40) := by decide +kernel
theorem dX7_about_52 : decode cX7_about 52 = .ok (.aload_n 0, 1) := by decide +kernel
theorem dX7_about_53 : decode cX7_about 53 = .ok (.getfield 19, 3) := by decide +kernel
theorem dX7_about_56 : decode cX7_about 56 = .ok (.getfield 86, 3) := by decide +kernel
theorem dX7_about_59 : decode cX7_about 59 = .ok (.iload_n 1, 1) := by decide +kernel
theorem dX7_about_60 : decode cX7_about 60 = .ok (.invokevirtual 90, 3) := by decide +kernel
theorem dX7_about_63 : decode cX7_about 63 = .ok (.ireturn, 1) := by decide +kernel
theorem dX7_about_64 : decode cX7_about 64 = .ok (.aload_n 0, 1) := by decide +kernel
theorem dX7_about_65 : decode cX7_about 65 = .ok (.getfield 19, 3) := by decide +kernel
theorem dX7_about_68 : decode cX7_about 68 = .ok (.getfield 96, 3) := by decide +kernel
theorem dX7_about_71 : decode cX7_about 71 = .ok (.iload_n 1, 1) := by decide +kernel
theorem dX7_about_72 : decode cX7_about 72 = .ok (.invokevirtual 90, 3) := by decide +kernel
theorem dX7_about_75 : decode cX7_about 75 = .ok (.ireturn, 1) := by decide +kernel
theorem dX7_about_76 : decode cX7_about 76 = .ok (.aload_n 0, 1) := by decide +kernel
theorem dX7_about_77 : decode cX7_about 77 = .ok (.getfield 19, 3) := by decide +kernel
theorem dX7_about_80 : decode cX7_about 80 = .ok (.getfield 99, 3) := by decide +kernel
theorem dX7_about_83 : decode cX7_about 83 = .ok (.iload_n 1, 1) := by decide +kernel
theorem dX7_about_84 : decode cX7_about 84 = .ok (.invokevirtual 90, 3) := by decide +kernel
theorem dX7_about_87 : decode cX7_about 87 = .ok (.ireturn, 1) := by decide +kernel
theorem dX7_about_88 : decode cX7_about 88 = .ok (.aload_n 0, 1) := by decide +kernel
theorem dX7_about_89 : decode cX7_about 89 = .ok (.getfield 19, 3) := by decide +kernel
theorem dX7_about_92 : decode cX7_about 92 = .ok (.getfield 102, 3) := by decide +kernel
theorem dX7_about_95 : decode cX7_about 95 = .ok (.iload_n 1, 1) := by decide +kernel
theorem dX7_about_96 : decode cX7_about 96 = .ok (.invokevirtual 90, 3) := by decide +kernel
theorem dX7_about_99 : decode cX7_about 99 = .ok (.ireturn, 1) := by decide +kernel
theorem dX7_about_100 : decode cX7_about 100 = .ok (.aload_n 0, 1) := by decide +kernel
theorem dX7_about_101 : decode cX7_about 101 = .ok (.getfield 19, 3) := by decide +kernel
theorem dX7_about_104 : decode cX7_about 104 = .ok (.getfield 105, 3) := by decide +kernel
theorem dX7_about_107 : decode cX7_about 107 = .ok (.iload_n 1, 1) := by decide +kernel
theorem dX7_about_108 : decode cX7_about 108 = .ok (.invokevirtual 90, 3) := by decide +kernel
theorem dX7_about_111 : decode cX7_about 111 = .ok (.ireturn, 1) := by decide +kernel
theorem dX7_about_112 : decode cX7_about 112 = .ok (.aload_n 0, 1) := by decide +kernel
theorem dX7_about_113 : decode cX7_about 113 = .ok (.getfield 19, 3) := by decide +kernel
theorem dX7_about_116 : decode cX7_about 116 = .ok (.getfield 108, 3) := by decide +kernel
theorem dX7_about_119 : decode cX7_about 119 = .ok (.iload_n 1, 1) := by decide +kernel
theorem dX7_about_120 : decode cX7_about 120 = .ok (.invokevirtual 90, 3) := by decide +kernel
theorem dX7_about_123 : decode cX7_about 123 = .ok (.ireturn, 1) := by decide +kernel
theorem dX7_about_124 : decode cX7_about 124 = .ok (.bipush (-2), 2) := by decide +kernel
theorem dX7_about_126 : decode cX7_about 126 = .ok (.ireturn, 1) := by decide +kernel
set_option maxRecDepth 20000 in
theorem ggX7_chip_X7_isPiece : GoodIn wsX7_chip wsX7_isPiece := goodIn_r _ [6, 1, 7, 8, 5, 9, 16, 17, 18, 19, 20, 21, 22, 23, 24, 25, 26, 27, 28, 29] (by decide +kernel) (by decide +kernel)
set_option maxRecDepth 20000 in
theorem gX7_chip_X7_isPiece : GoodIn wsX7_chip (wsV RX7 83 RX7 yX7_isPiece wsX7_isPiece) := goodIn_app (goodIn_of _ (by decide +kernel)) ggX7_chip_X7_isPiece
set_option maxRecDepth 20000 in
theorem ggX7_chip_X4_write : GoodIn wsX7_chip wsX4_write := goodIn_r _ [14, 15, 30] (by decide +kernel) (by decide +kernel)
set_option maxRecDepth 20000 in
theorem gX7_chip_X4_write : GoodIn wsX7_chip (wsV RX7 111 RX4 yX4_write wsX4_write) := goodIn_app (goodIn_of _ (by decide +kernel)) ggX7_chip_X4_write
theorem dX7_chip_0 : decode cX7_chip 0 = .ok (.aload_n 0, 1) := by decide +kernel
theorem dX7_chip_1 : decode cX7_chip 1 = .ok (.iload_n 1, 1) := by decide +kernel
theorem dX7_chip_2 : decode cX7_chip 2 = .ok (.invokevirtual 83, 3) := by decide +kernel
theorem dX7_chip_5 : decode cX7_chip 5 = .ok (.ifCond .ne 6, 3) := by decide +kernel
theorem dX7_chip_8 : decode cX7_chip 8 = .ok (.bipush (-2), 2) := by decide +kernel
theorem dX7_chip_10 : decode cX7_chip 10 = .ok (.ireturn, 1) := by decide +kernel
theorem dX7_chip_11 : decode cX7_chip 11 = .ok (.aload_n 0, 1) := by decide +kernel
theorem dX7_chip_12 : decode cX7_chip 12 = .ok (.getfield 19, 3) := by decide +kernel
theorem dX7_chip_15 : decode cX7_chip 15 = .ok (.getfield 99, 3) := by decide +kernel
theorem dX7_chip_18 : decode cX7_chip 18 = .ok (.iload_n 1, 1) := by decide +kernel
theorem dX7_chip_19 : decode cX7_chip 19 = .ok (.iload_n 2, 1) := by decide +kernel
theorem dX7_chip_20 : decode cX7_chip 20 = .ok (.ifCond .eq 7, 3) := by decide +kernel
theorem dX7_chip_23 : decode cX7_chip 23 = .ok (.iconst 1, 1) := by decide +kernel
theorem dX7_chip_24 : decode cX7_chip 24 = .ok (.goto 4, 3) := by decide +kernel
theorem dX7_chip_27 : decode cX7_chip 27 = .ok (.iconst 0, 1) := by decide +kernel
theorem dX7_chip_28 : decode cX7_chip 28 = .ok (.invokevirtual 111, 3) := by decide +kernel
theorem dX7_chip_31 : decode cX7_chip 31 = .ok (.iconst 1, 1) := by decide +kernel
theorem dX7_chip_32 : decode cX7_chip 32 = .ok (.ireturn, 1) := by decide +kernel
set_option maxRecDepth 20000 in
theorem ggX7_lost_X7_isPiece : GoodIn wsX7_lost wsX7_isPiece := goodIn_r _ [6, 1, 7, 8, 5, 9, 20, 21, 22, 23, 24, 25, 26, 27, 28, 29, 30, 31, 32, 33] (by decide +kernel) (by decide +kernel)
set_option maxRecDepth 20000 in
theorem gX7_lost_X7_isPiece : GoodIn wsX7_lost (wsV RX7 83 RX7 yX7_isPiece wsX7_isPiece) := goodIn_app (goodIn_of _ (by decide +kernel)) ggX7_lost_X7_isPiece
set_option maxRecDepth 20000 in
theorem ggX7_lost_X4_read : GoodIn wsX7_lost wsX4_read := goodIn_r _ [14, 15, 34] (by decide +kernel) (by decide +kernel)
set_option maxRecDepth 20000 in
theorem gX7_lost_X4_read : GoodIn wsX7_lost (wsV RX7 90 RX4 yX4_read wsX4_read) := goodIn_app (goodIn_of _ (by decide +kernel)) ggX7_lost_X4_read
set_option maxRecDepth 20000 in
theorem ggX7_lost_X4_write : GoodIn wsX7_lost wsX4_write := goodIn_r _ [19, 15, 34] (by decide +kernel) (by decide +kernel)
set_option maxRecDepth 20000 in
theorem gX7_lost_X4_write : GoodIn wsX7_lost (wsV RX7 111 RX4 yX4_write wsX4_write) := goodIn_app (goodIn_of _ (by decide +kernel)) ggX7_lost_X4_write
theorem dX7_lost_0 : decode cX7_lost 0 = .ok (.aload_n 0, 1) := by decide +kernel
theorem dX7_lost_1 : decode cX7_lost 1 = .ok (.iload_n 1, 1) := by decide +kernel
theorem dX7_lost_2 : decode cX7_lost 2 = .ok (.invokevirtual 83, 3) := by decide +kernel
theorem dX7_lost_5 : decode cX7_lost 5 = .ok (.ifCond .ne 6, 3) := by decide +kernel
theorem dX7_lost_8 : decode cX7_lost 8 = .ok (.bipush (-2), 2) := by decide +kernel
theorem dX7_lost_10 : decode cX7_lost 10 = .ok (.ireturn, 1) := by decide +kernel
theorem dX7_lost_11 : decode cX7_lost 11 = .ok (.aload_n 0, 1) := by decide +kernel
theorem dX7_lost_12 : decode cX7_lost 12 = .ok (.getfield 19, 3) := by decide +kernel
theorem dX7_lost_15 : decode cX7_lost 15 = .ok (.getfield 102, 3) := by decide +kernel
theorem dX7_lost_18 : decode cX7_lost 18 = .ok (.iload_n 1, 1) := by decide +kernel
theorem dX7_lost_19 : decode cX7_lost 19 = .ok (.invokevirtual 90, 3) := by decide +kernel
theorem dX7_lost_22 : decode cX7_lost 22 = .ok (.istore_n 2, 1) := by decide +kernel
theorem dX7_lost_23 : decode cX7_lost 23 = .ok (.iload_n 2, 1) := by decide +kernel
theorem dX7_lost_24 : decode cX7_lost 24 = .ok (.iconst 2, 1) := by decide +kernel
theorem dX7_lost_25 : decode cX7_lost 25 = .ok (.if_icmp .ne 6, 3) := by decide +kernel
theorem dX7_lost_28 : decode cX7_lost 28 = .ok (.bipush (-4), 2) := by decide +kernel
theorem dX7_lost_30 : decode cX7_lost 30 = .ok (.ireturn, 1) := by decide +kernel
theorem dX7_lost_31 : decode cX7_lost 31 = .ok (.iload_n 2, 1) := by decide +kernel
theorem dX7_lost_32 : decode cX7_lost 32 = .ok (.iconst 4, 1) := by decide +kernel
theorem dX7_lost_33 : decode cX7_lost 33 = .ok (.if_icmp .ne 7, 3) := by decide +kernel
theorem dX7_lost_36 : decode cX7_lost 36 = .ok (.iconst 0, 1) := by decide +kernel
theorem dX7_lost_37 : decode cX7_lost 37 = .ok (.goto 4, 3) := by decide +kernel
theorem dX7_lost_40 : decode cX7_lost 40 = .ok (.iconst 4, 1) := by decide +kernel
theorem dX7_lost_41 : decode cX7_lost 41 = .ok (.istore_n 3, 1) := by decide +kernel
theorem dX7_lost_42 : decode cX7_lost 42 = .ok (.aload_n 0, 1) := by decide +kernel
theorem dX7_lost_43 : decode cX7_lost 43 = .ok (.getfield 19, 3) := by decide +kernel
theorem dX7_lost_46 : decode cX7_lost 46 = .ok (.getfield 102, 3) := by decide +kernel
theorem dX7_lost_49 : decode cX7_lost 49 = .ok (.iload_n 1, 1) := by decide +kernel
theorem dX7_lost_50 : decode cX7_lost 50 = .ok (.iload_n 3, 1) := by decide +kernel
theorem dX7_lost_51 : decode cX7_lost 51 = .ok (.invokevirtual 111, 3) := by decide +kernel
theorem dX7_lost_54 : decode cX7_lost 54 = .ok (.iload_n 3, 1) := by decide +kernel
theorem dX7_lost_55 : decode cX7_lost 55 = .ok (.ireturn, 1) := by decide +kernel
set_option maxRecDepth 20000 in
theorem ggX7_again_X7_soilFrom : GoodIn wsX7_again wsX7_soilFrom := goodIn_r _ [5, 6, 7, 8, 9, 4, 10, 11, 12, 13, 14, 15, 16, 17, 18, 19, 20, 21, 22, 23, 24, 25, 26, 27, 28, 29, 30, 31, 32, 33, 34, 35, 36, 37, 38] (by decide +kernel) (by decide +kernel)
set_option maxRecDepth 20000 in
theorem gX7_again_X7_soilFrom : GoodIn wsX7_again (wsV RX7 115 RX7 yX7_soilFrom wsX7_soilFrom) := goodIn_app (goodIn_of _ (by decide +kernel)) ggX7_again_X7_soilFrom
theorem dX7_again_0 : decode cX7_again 0 = .ok (.aload_n 0, 1) := by decide +kernel
theorem dX7_again_1 : decode cX7_again 1 = .ok (.iload_n 1, 1) := by decide +kernel
theorem dX7_again_2 : decode cX7_again 2 = .ok (.iconst 3, 1) := by decide +kernel
theorem dX7_again_3 : decode cX7_again 3 = .ok (.invokevirtual 115, 3) := by decide +kernel
theorem dX7_again_6 : decode cX7_again 6 = .ok (.ireturn, 1) := by decide +kernel
set_option maxRecDepth 20000 in
theorem ggX7_pieces_X7_isOwnerOrAny : GoodIn wsX7_pieces wsX7_isOwnerOrAny := goodIn_r _ [5, 6, 7, 4, 8, 9, 10, 11] (by decide +kernel) (by decide +kernel)
set_option maxRecDepth 20000 in
theorem gX7_pieces_X7_isOwnerOrAny : GoodIn wsX7_pieces (va_wsS RX7 119 yX7_isOwnerOrAny wsX7_isOwnerOrAny) := goodIn_app (goodIn_of _ (by decide +kernel)) ggX7_pieces_X7_isOwnerOrAny
set_option maxRecDepth 20000 in
theorem ggX7_pieces_X7_isKindOrAny : GoodIn wsX7_pieces wsX7_isKindOrAny := goodIn_r _ [15, 16, 17, 18, 4, 19, 20, 9, 10, 11, 43, 44, 45, 46, 47, 48, 49, 50, 51, 52, 53, 54, 55] (by decide +kernel) (by decide +kernel)
set_option maxRecDepth 20000 in
theorem gX7_pieces_X7_isKindOrAny : GoodIn wsX7_pieces (wsV RX7 122 RX7 yX7_isKindOrAny wsX7_isKindOrAny) := goodIn_app (goodIn_of _ (by decide +kernel)) ggX7_pieces_X7_isKindOrAny
set_option maxRecDepth 20000 in
theorem ggX7_pieces_X7_isPlace : GoodIn wsX7_pieces wsX7_isPlace := goodIn_r _ [23, 9, 10, 4, 11] (by decide +kernel) (by decide +kernel)
set_option maxRecDepth 20000 in
theorem gX7_pieces_X7_isPlace : GoodIn wsX7_pieces (va_wsS RX7 125 yX7_isPlace wsX7_isPlace) := goodIn_app (goodIn_of _ (by decide +kernel)) ggX7_pieces_X7_isPlace
set_option maxRecDepth 20000 in
theorem ggX7_pieces_X2_tally : GoodIn wsX7_pieces wsX2_tally := goodIn_r _ [28, 29, 30, 31, 32, 27, 33, 34, 35, 36, 37, 38, 39, 40, 41, 42, 56, 57, 58, 59, 60, 61, 62, 63] (by decide +kernel) (by decide +kernel)
set_option maxRecDepth 20000 in
theorem gX7_pieces_X2_tally : GoodIn wsX7_pieces (wsV RX7 128 RX2 yX2_tally wsX2_tally) := goodIn_app (goodIn_of _ (by decide +kernel)) ggX7_pieces_X2_tally
theorem dX7_pieces_0 : decode cX7_pieces 0 = .ok (.iload_n 1, 1) := by decide +kernel
theorem dX7_pieces_1 : decode cX7_pieces 1 = .ok (.invokestatic 119, 3) := by decide +kernel
theorem dX7_pieces_4 : decode cX7_pieces 4 = .ok (.ifCond .eq 18, 3) := by decide +kernel
theorem dX7_pieces_7 : decode cX7_pieces 7 = .ok (.aload_n 0, 1) := by decide +kernel
theorem dX7_pieces_8 : decode cX7_pieces 8 = .ok (.iload_n 2, 1) := by decide +kernel
theorem dX7_pieces_9 : decode cX7_pieces 9 = .ok (.invokevirtual 122, 3) := by decide +kernel
theorem dX7_pieces_12 : decode cX7_pieces 12 = .ok (.ifCond .eq 10, 3) := by decide +kernel
theorem dX7_pieces_15 : decode cX7_pieces 15 = .ok (.iload_n 3, 1) := by decide +kernel
theorem dX7_pieces_16 : decode cX7_pieces 16 = .ok (.invokestatic 125, 3) := by decide +kernel
theorem dX7_pieces_19 : decode cX7_pieces 19 = .ok (.ifCond .ne 6, 3) := by decide +kernel
theorem dX7_pieces_22 : decode cX7_pieces 22 = .ok (.bipush (-2), 2) := by decide +kernel
theorem dX7_pieces_24 : decode cX7_pieces 24 = .ok (.ireturn, 1) := by decide +kernel
theorem dX7_pieces_25 : decode cX7_pieces 25 = .ok (.aload_n 0, 1) := by decide +kernel
theorem dX7_pieces_26 : decode cX7_pieces 26 = .ok (.getfield 19, 3) := by decide +kernel
theorem dX7_pieces_29 : decode cX7_pieces 29 = .ok (.iload_n 1, 1) := by decide +kernel
theorem dX7_pieces_30 : decode cX7_pieces 30 = .ok (.iload_n 2, 1) := by decide +kernel
theorem dX7_pieces_31 : decode cX7_pieces 31 = .ok (.iload_n 3, 1) := by decide +kernel
theorem dX7_pieces_32 : decode cX7_pieces 32 = .ok (.invokevirtual 128, 3) := by decide +kernel
theorem dX7_pieces_35 : decode cX7_pieces 35 = .ok (.ireturn, 1) := by decide +kernel
set_option maxRecDepth 20000 in
theorem ggX7_scan_X7_isSheet : GoodIn wsX7_scan wsX7_isSheet := goodIn_r _ [6, 7, 8, 5, 9] (by decide +kernel) (by decide +kernel)
set_option maxRecDepth 20000 in
theorem gX7_scan_X7_isSheet : GoodIn wsX7_scan (va_wsS RX7 132 yX7_isSheet wsX7_isSheet) := goodIn_app (goodIn_of _ (by decide +kernel)) ggX7_scan_X7_isSheet
set_option maxRecDepth 20000 in
theorem ggX7_scan_X7_within : GoodIn wsX7_scan wsX7_within := goodIn_r _ [9] (by decide +kernel) (by decide +kernel)
set_option maxRecDepth 20000 in
theorem gX7_scan_X7_within : GoodIn wsX7_scan (va_wsS RX7 61 yX7_within wsX7_within) := goodIn_app (goodIn_of _ (by decide +kernel)) ggX7_scan_X7_within
set_option maxRecDepth 20000 in
theorem ggX7_scan_X5_isLost : GoodIn wsX7_scan wsX5_isLost := goodIn_r _ [14, 15, 16, 17, 18, 19, 20, 21, 64, 65, 66, 67] (by decide +kernel) (by decide +kernel)
set_option maxRecDepth 20000 in
theorem gX7_scan_X5_isLost : GoodIn wsX7_scan (wsV RX7 135 RX5 yX5_isLost wsX5_isLost) := goodIn_app (goodIn_of _ (by decide +kernel)) ggX7_scan_X5_isLost
set_option maxRecDepth 20000 in
theorem ggX7_scan_X7_find : GoodIn wsX7_scan wsX7_find := goodIn_r _ [25, 26, 50, 51, 52, 53, 54, 55, 56] (by decide +kernel) (by decide +kernel)
set_option maxRecDepth 20000 in
theorem gX7_scan_X7_find : GoodIn wsX7_scan (wsV RX7 138 RX7 yX7_find wsX7_find) := goodIn_app (goodIn_of _ (by decide +kernel)) ggX7_scan_X7_find
set_option maxRecDepth 20000 in
theorem ggX7_scan_X5_holds : GoodIn wsX7_scan wsX5_holds := goodIn_r _ [30, 31, 16, 17, 18, 19, 20, 21, 64, 65, 66, 67] (by decide +kernel) (by decide +kernel)
set_option maxRecDepth 20000 in
theorem gX7_scan_X5_holds : GoodIn wsX7_scan (wsV RX7 141 RX5 yX5_holds wsX5_holds) := goodIn_app (goodIn_of _ (by decide +kernel)) ggX7_scan_X5_holds
set_option maxRecDepth 20000 in
theorem ggX7_scan_X5_item : GoodIn wsX7_scan wsX5_item := goodIn_r _ [35, 36, 16, 17, 18, 19, 20, 21, 64, 65, 66, 67] (by decide +kernel) (by decide +kernel)
set_option maxRecDepth 20000 in
theorem gX7_scan_X5_item : GoodIn wsX7_scan (wsV RX7 144 RX5 yX5_item wsX5_item) := goodIn_app (goodIn_of _ (by decide +kernel)) ggX7_scan_X5_item
set_option maxRecDepth 20000 in
theorem ggX7_scan_X7_isPiece : GoodIn wsX7_scan wsX7_isPiece := goodIn_r _ [40, 2, 7, 8, 5, 9, 50, 51, 52, 53, 54, 55, 56, 57, 58, 59, 60, 61, 62, 63] (by decide +kernel) (by decide +kernel)
set_option maxRecDepth 20000 in
theorem gX7_scan_X7_isPiece : GoodIn wsX7_scan (wsV RX7 83 RX7 yX7_isPiece wsX7_isPiece) := goodIn_app (goodIn_of _ (by decide +kernel)) ggX7_scan_X7_isPiece
set_option maxRecDepth 20000 in
theorem ggX7_scan_X4_read : GoodIn wsX7_scan wsX4_read := goodIn_r _ [20, 21, 67] (by decide +kernel) (by decide +kernel)
set_option maxRecDepth 20000 in
theorem gX7_scan_X4_read : GoodIn wsX7_scan (wsV RX7 90 RX4 yX4_read wsX4_read) := goodIn_app (goodIn_of _ (by decide +kernel)) ggX7_scan_X4_read
set_option maxRecDepth 20000 in
theorem ggX7_scan_X7_soilFrom : GoodIn wsX7_scan wsX7_soilFrom := goodIn_r _ [45, 2, 37, 38, 39, 5, 40, 7, 8, 9, 41, 17, 18, 19, 20, 21, 46, 47, 48, 49, 50, 51, 52, 53, 54, 55, 56, 57, 58, 59, 60, 61, 62, 63, 67] (by decide +kernel) (by decide +kernel)
set_option maxRecDepth 20000 in
theorem gX7_scan_X7_soilFrom : GoodIn wsX7_scan (wsV RX7 115 RX7 yX7_soilFrom wsX7_soilFrom) := goodIn_app (goodIn_of _ (by decide +kernel)) ggX7_scan_X7_soilFrom
theorem dX7_scan_0 : decode cX7_scan 0 = .ok (.iload_n 1, 1) := by decide +kernel
theorem dX7_scan_1 : decode cX7_scan 1 = .ok (.invokestatic 132, 3) := by decide +kernel
theorem dX7_scan_4 : decode cX7_scan 4 = .ok (.ifCond .eq 13, 3) := by decide +kernel
theorem dX7_scan_7 : decode cX7_scan 7 = .ok (.iload_n 2, 1) := by decide +kernel
theorem dX7_scan_8 : decode cX7_scan 8 = .ok (.iconst 0, 1) := by decide +kernel
theorem dX7_scan_9 : decode cX7_scan 9 = .ok (.bipush 60, 2) := by decide +kernel
theorem dX7_scan_11 : decode cX7_scan 11 = .ok (.invokestatic 61, 3) := by decide +kernel
theorem dX7_scan_14 : decode cX7_scan 14 = .ok (.ifCond .ne 6, 3) := by decide +kernel
theorem dX7_scan_17 : decode cX7_scan 17 = .ok (.bipush (-2), 2) := by decide +kernel
theorem dX7_scan_19 : decode cX7_scan 19 = .ok (.ireturn, 1) := by decide +kernel
theorem dX7_scan_20 : decode cX7_scan 20 = .ok (.aload_n 0, 1) := by decide +kernel
theorem dX7_scan_21 : decode cX7_scan 21 = .ok (.getfield 53, 3) := by decide +kernel
theorem dX7_scan_24 : decode cX7_scan 24 = .ok (.iload_n 1, 1) := by decide +kernel
theorem dX7_scan_25 : decode cX7_scan 25 = .ok (.invokevirtual 135, 3) := by decide +kernel
theorem dX7_scan_28 : decode cX7_scan 28 = .ok (.ifCond .eq 9, 3) := by decide +kernel
theorem dX7_scan_31 : decode cX7_scan 31 = .ok (.aload_n 0, 1) := by decide +kernel
theorem dX7_scan_32 : decode cX7_scan 32 = .ok (.iconst 1, 1) := by decide +kernel
theorem dX7_scan_33 : decode cX7_scan 33 = .ok (.invokevirtual 138, 3) := by decide +kernel
theorem dX7_scan_36 : decode cX7_scan 36 = .ok (.ireturn, 1) := by decide +kernel
theorem dX7_scan_37 : decode cX7_scan 37 = .ok (.aload_n 0, 1) := by decide +kernel
theorem dX7_scan_38 : decode cX7_scan 38 = .ok (.getfield 53, 3) := by decide +kernel
theorem dX7_scan_41 : decode cX7_scan 41 = .ok (.iload_n 1, 1) := by decide +kernel
theorem dX7_scan_42 : decode cX7_scan 42 = .ok (.iconst 0, 1) := by decide +kernel
theorem dX7_scan_43 : decode cX7_scan 43 = .ok (.iload_n 2, 1) := by decide +kernel
theorem dX7_scan_44 : decode cX7_scan 44 = .ok (.invokevirtual 141, 3) := by decide +kernel
theorem dX7_scan_47 : decode cX7_scan 47 = .ok (.ifCond .ne 9, 3) := by decide +kernel
theorem dX7_scan_50 : decode cX7_scan 50 = .ok (.aload_n 0, 1) := by decide +kernel
theorem dX7_scan_51 : decode cX7_scan 51 = .ok (.iconst 2, 1) := by decide +kernel
theorem dX7_scan_52 : decode cX7_scan 52 = .ok (.invokevirtual 138, 3) := by decide +kernel
theorem dX7_scan_55 : decode cX7_scan 55 = .ok (.ireturn, 1) := by decide +kernel
theorem dX7_scan_56 : decode cX7_scan 56 = .ok (.iconst 0, 1) := by decide +kernel
theorem dX7_scan_57 : decode cX7_scan 57 = .ok (.istore_n 3, 1) := by decide +kernel
theorem dX7_scan_58 : decode cX7_scan 58 = .ok (.iconst 0, 1) := by decide +kernel
theorem dX7_scan_59 : decode cX7_scan 59 = .ok (.istore 4, 2) := by decide +kernel
theorem dX7_scan_61 : decode cX7_scan 61 = .ok (.iload 4, 2) := by decide +kernel
theorem dX7_scan_63 : decode cX7_scan 63 = .ok (.iload_n 2, 1) := by decide +kernel
theorem dX7_scan_64 : decode cX7_scan 64 = .ok (.if_icmp .ge 60, 3) := by decide +kernel
theorem dX7_scan_67 : decode cX7_scan 67 = .ok (.aload_n 0, 1) := by decide +kernel
theorem dX7_scan_68 : decode cX7_scan 68 = .ok (.getfield 53, 3) := by decide +kernel
theorem dX7_scan_71 : decode cX7_scan 71 = .ok (.iload_n 1, 1) := by decide +kernel
theorem dX7_scan_72 : decode cX7_scan 72 = .ok (.iload 4, 2) := by decide +kernel
theorem dX7_scan_74 : decode cX7_scan 74 = .ok (.invokevirtual 144, 3) := by decide +kernel
theorem dX7_scan_77 : decode cX7_scan 77 = .ok (.istore 5, 2) := by decide +kernel
theorem dX7_scan_79 : decode cX7_scan 79 = .ok (.aload_n 0, 1) := by decide +kernel
theorem dX7_scan_80 : decode cX7_scan 80 = .ok (.iload 5, 2) := by decide +kernel
theorem dX7_scan_82 : decode cX7_scan 82 = .ok (.invokevirtual 83, 3) := by decide +kernel
theorem dX7_scan_85 : decode cX7_scan 85 = .ok (.ifCond .eq 33, 3) := by decide +kernel
theorem dX7_scan_88 : decode cX7_scan 88 = .ok (.aload_n 0, 1) := by decide +kernel
theorem dX7_scan_89 : decode cX7_scan 89 = .ok (.getfield 19, 3) := by decide +kernel
theorem dX7_scan_92 : decode cX7_scan 92 = .ok (.getfield 99, 3) := by decide +kernel
theorem dX7_scan_95 : decode cX7_scan 95 = .ok (.iload 5, 2) := by decide +kernel
theorem dX7_scan_97 : decode cX7_scan 97 = .ok (.invokevirtual 90, 3) := by decide +kernel
theorem dX7_scan_100 : decode cX7_scan 100 = .ok (.iconst 1, 1) := by decide +kernel
theorem dX7_scan_101 : decode cX7_scan 101 = .ok (.if_icmp .ne 17, 3) := by decide +kernel
theorem dX7_scan_104 : decode cX7_scan 104 = .ok (.aload_n 0, 1) := by decide +kernel
theorem dX7_scan_105 : decode cX7_scan 105 = .ok (.iload 5, 2) := by decide +kernel
theorem dX7_scan_107 : decode cX7_scan 107 = .ok (.iconst 0, 1) := by decide +kernel
theorem dX7_scan_108 : decode cX7_scan 108 = .ok (.invokevirtual 115, 3) := by decide +kernel
theorem dX7_scan_111 : decode cX7_scan 111 = .ok (.iconst 1, 1) := by decide +kernel
theorem dX7_scan_112 : decode cX7_scan 112 = .ok (.if_icmp .ne 6, 3) := by decide +kernel
theorem dX7_scan_115 : decode cX7_scan 115 = .ok (.iinc 3 1, 3) := by decide +kernel
theorem dX7_scan_118 : decode cX7_scan 118 = .ok (.iinc 4 1, 3) := by decide +kernel
theorem dX7_scan_121 : decode cX7_scan 121 = .ok (.goto (-60), 3) := by decide +kernel
theorem dX7_scan_124 : decode cX7_scan 124 = .ok (.iload_n 3, 1) := by decide +kernel
theorem dX7_scan_125 : decode cX7_scan 125 = .ok (.ireturn, 1) := by decide +kernel
set_option maxRecDepth 20000 in
theorem ggX7_hand_X7_soilFrom : GoodIn wsX7_hand wsX7_soilFrom := goodIn_r _ [5, 6, 7, 8, 9, 4, 10, 11, 12, 13, 14, 15, 16, 17, 18, 19, 20, 21, 22, 23, 24, 25, 26, 27, 28, 29, 30, 31, 32, 33, 34, 35, 36, 37, 38] (by decide +kernel) (by decide +kernel)
set_option maxRecDepth 20000 in
theorem gX7_hand_X7_soilFrom : GoodIn wsX7_hand (wsV RX7 115 RX7 yX7_soilFrom wsX7_soilFrom) := goodIn_app (goodIn_of _ (by decide +kernel)) ggX7_hand_X7_soilFrom
theorem dX7_hand_0 : decode cX7_hand 0 = .ok (.aload_n 0, 1) := by decide +kernel
theorem dX7_hand_1 : decode cX7_hand 1 = .ok (.iload_n 1, 1) := by decide +kernel
theorem dX7_hand_2 : decode cX7_hand 2 = .ok (.iconst 0, 1) := by decide +kernel
theorem dX7_hand_3 : decode cX7_hand 3 = .ok (.invokevirtual 115, 3) := by decide +kernel
theorem dX7_hand_6 : decode cX7_hand 6 = .ok (.ireturn, 1) := by decide +kernel
set_option maxRecDepth 20000 in
theorem ggX7_batch_X7_isKind : GoodIn wsX7_batch wsX7_isKind := goodIn_r _ [7, 8, 9, 10, 6, 11, 52, 53, 54, 55, 56, 57, 58, 64, 65, 66, 67, 68, 69] (by decide +kernel) (by decide +kernel)
set_option maxRecDepth 20000 in
theorem gX7_batch_X7_isKind : GoodIn wsX7_batch (wsV RX7 72 RX7 yX7_isKind wsX7_isKind) := goodIn_app (goodIn_of _ (by decide +kernel)) ggX7_batch_X7_isKind
set_option maxRecDepth 20000 in
theorem ggX7_batch_X7_isOwnerOrAny : GoodIn wsX7_batch wsX7_isOwnerOrAny := goodIn_r _ [14, 15, 16, 6, 17, 9, 10, 11] (by decide +kernel) (by decide +kernel)
set_option maxRecDepth 20000 in
theorem gX7_batch_X7_isOwnerOrAny : GoodIn wsX7_batch (va_wsS RX7 119 yX7_isOwnerOrAny wsX7_isOwnerOrAny) := goodIn_app (goodIn_of _ (by decide +kernel)) ggX7_batch_X7_isOwnerOrAny
set_option maxRecDepth 20000 in
theorem ggX7_batch_X7_within : GoodIn wsX7_batch wsX7_within := goodIn_r _ [11] (by decide +kernel) (by decide +kernel)
set_option maxRecDepth 20000 in
theorem gX7_batch_X7_within : GoodIn wsX7_batch (va_wsS RX7 61 yX7_within wsX7_within) := goodIn_app (goodIn_of _ (by decide +kernel)) ggX7_batch_X7_within
set_option maxRecDepth 20000 in
theorem ggX7_batch_X2_fillBatch : GoodIn wsX7_batch wsX2_fillBatch := goodIn_r _ [22, 23, 24, 25, 26, 27, 28, 21, 29, 30, 31, 32, 33, 34, 35, 36, 37, 38, 39, 40, 41, 70, 71, 72, 73, 74, 75, 76, 77] (by decide +kernel) (by decide +kernel)
set_option maxRecDepth 20000 in
theorem gX7_batch_X2_fillBatch : GoodIn wsX7_batch (wsV RX7 148 RX2 yX2_fillBatch wsX2_fillBatch) := goodIn_app (goodIn_of _ (by decide +kernel)) ggX7_batch_X2_fillBatch
set_option maxRecDepth 20000 in
theorem ggX7_batch_X6_add : GoodIn wsX7_batch wsX6_add := goodIn_r _ [46, 47, 48, 49, 50, 51, 39, 40, 35, 41, 37, 59, 60, 61, 62, 63, 77] (by decide +kernel) (by decide +kernel)
set_option maxRecDepth 20000 in
theorem gX7_batch_X6_add : GoodIn wsX7_batch (wsV RX7 152 RX6 yX6_add wsX6_add) := goodIn_app (goodIn_of _ (by decide +kernel)) ggX7_batch_X6_add
theorem dX7_batch_0 : decode cX7_batch 0 = .ok (.aload_n 0, 1) := by decide +kernel
theorem dX7_batch_1 : decode cX7_batch 1 = .ok (.iload_n 1, 1) := by decide +kernel
theorem dX7_batch_2 : decode cX7_batch 2 = .ok (.invokevirtual 72, 3) := by decide +kernel
theorem dX7_batch_5 : decode cX7_batch 5 = .ok (.ifCond .eq 20, 3) := by decide +kernel
theorem dX7_batch_8 : decode cX7_batch 8 = .ok (.iload_n 2, 1) := by decide +kernel
theorem dX7_batch_9 : decode cX7_batch 9 = .ok (.invokestatic 119, 3) := by decide +kernel
theorem dX7_batch_12 : decode cX7_batch 12 = .ok (.ifCond .eq 13, 3) := by decide +kernel
theorem dX7_batch_15 : decode cX7_batch 15 = .ok (.iload_n 3, 1) := by decide +kernel
theorem dX7_batch_16 : decode cX7_batch 16 = .ok (.iconst 1, 1) := by decide +kernel
theorem dX7_batch_17 : decode cX7_batch 17 = .ok (.bipush 20, 2) := by decide +kernel
theorem dX7_batch_19 : decode cX7_batch 19 = .ok (.invokestatic 61, 3) := by decide +kernel
theorem dX7_batch_22 : decode cX7_batch 22 = .ok (.ifCond .ne 6, 3) := by decide +kernel
theorem dX7_batch_25 : decode cX7_batch 25 = .ok (.bipush (-2), 2) := by decide +kernel
theorem dX7_batch_27 : decode cX7_batch 27 = .ok (.ireturn, 1) := by decide +kernel
theorem dX7_batch_28 : decode cX7_batch 28 = .ok (.aload_n 0, 1) := by decide +kernel
theorem dX7_batch_29 : decode cX7_batch 29 = .ok (.getfield 28, 3) := by decide +kernel
theorem dX7_batch_32 : decode cX7_batch 32 = .ok (.getfield 147, 3) := by decide +kernel
theorem dX7_batch_35 : decode cX7_batch 35 = .ok (.bipush 12, 2) := by decide +kernel
theorem dX7_batch_37 : decode cX7_batch 37 = .ok (.if_icmp .lt 6, 3) := by decide +kernel
theorem dX7_batch_40 : decode cX7_batch 40 = .ok (.bipush (-3), 2) := by decide +kernel
theorem dX7_batch_42 : decode cX7_batch 42 = .ok (.ireturn, 1) := by decide +kernel
theorem dX7_batch_43 : decode cX7_batch 43 = .ok (.aload_n 0, 1) := by decide +kernel
theorem dX7_batch_44 : decode cX7_batch 44 = .ok (.getfield 19, 3) := by decide +kernel
theorem dX7_batch_47 : decode cX7_batch 47 = .ok (.aload_n 0, 1) := by decide +kernel
theorem dX7_batch_48 : decode cX7_batch 48 = .ok (.getfield 28, 3) := by decide +kernel
theorem dX7_batch_51 : decode cX7_batch 51 = .ok (.getfield 147, 3) := by decide +kernel
theorem dX7_batch_54 : decode cX7_batch 54 = .ok (.iload_n 1, 1) := by decide +kernel
theorem dX7_batch_55 : decode cX7_batch 55 = .ok (.iload_n 2, 1) := by decide +kernel
theorem dX7_batch_56 : decode cX7_batch 56 = .ok (.iload_n 3, 1) := by decide +kernel
theorem dX7_batch_57 : decode cX7_batch 57 = .ok (.invokevirtual 148, 3) := by decide +kernel
theorem dX7_batch_60 : decode cX7_batch 60 = .ok (.istore 4, 2) := by decide +kernel
theorem dX7_batch_62 : decode cX7_batch 62 = .ok (.iload 4, 2) := by decide +kernel
theorem dX7_batch_64 : decode cX7_batch 64 = .ok (.ifCond .ne 6, 3) := by decide +kernel
theorem dX7_batch_67 : decode cX7_batch 67 = .ok (.bipush (-4), 2) := by decide +kernel
theorem dX7_batch_69 : decode cX7_batch 69 = .ok (.ireturn, 1) := by decide +kernel
theorem dX7_batch_70 : decode cX7_batch 70 = .ok (.aload_n 0, 1) := by decide +kernel
theorem dX7_batch_71 : decode cX7_batch 71 = .ok (.getfield 28, 3) := by decide +kernel
theorem dX7_batch_74 : decode cX7_batch 74 = .ok (.iload_n 1, 1) := by decide +kernel
theorem dX7_batch_75 : decode cX7_batch 75 = .ok (.iload 4, 2) := by decide +kernel
theorem dX7_batch_77 : decode cX7_batch 77 = .ok (.invokevirtual 152, 3) := by decide +kernel
theorem dX7_batch_80 : decode cX7_batch 80 = .ok (.iload 4, 2) := by decide +kernel
theorem dX7_batch_82 : decode cX7_batch 82 = .ok (.ireturn, 1) := by decide +kernel
set_option maxRecDepth 20000 in
theorem ggX7_at_X7_isOrderPlace : GoodIn wsX7_at wsX7_isOrderPlace := goodIn_r _ [6, 1, 7, 8, 5, 9, 16, 17, 18, 19, 20, 21, 22, 23, 24, 25, 26, 27] (by decide +kernel) (by decide +kernel)
set_option maxRecDepth 20000 in
theorem gX7_at_X7_isOrderPlace : GoodIn wsX7_at (wsV RX7 154 RX7 yX7_isOrderPlace wsX7_isOrderPlace) := goodIn_app (goodIn_of _ (by decide +kernel)) ggX7_at_X7_isOrderPlace
set_option maxRecDepth 20000 in
theorem ggX7_at_X4_read : GoodIn wsX7_at wsX4_read := goodIn_r _ [14, 15, 28] (by decide +kernel) (by decide +kernel)
set_option maxRecDepth 20000 in
theorem gX7_at_X4_read : GoodIn wsX7_at (wsV RX7 90 RX4 yX4_read wsX4_read) := goodIn_app (goodIn_of _ (by decide +kernel)) ggX7_at_X4_read
theorem dX7_at_0 : decode cX7_at 0 = .ok (.aload_n 0, 1) := by decide +kernel
theorem dX7_at_1 : decode cX7_at 1 = .ok (.iload_n 1, 1) := by decide +kernel
theorem dX7_at_2 : decode cX7_at 2 = .ok (.invokevirtual 154, 3) := by decide +kernel
theorem dX7_at_5 : decode cX7_at 5 = .ok (.ifCond .eq 17, 3) := by decide +kernel
theorem dX7_at_8 : decode cX7_at 8 = .ok (.aload_n 0, 1) := by decide +kernel
theorem dX7_at_9 : decode cX7_at 9 = .ok (.getfield 28, 3) := by decide +kernel
theorem dX7_at_12 : decode cX7_at 12 = .ok (.getfield 157, 3) := by decide +kernel
theorem dX7_at_15 : decode cX7_at 15 = .ok (.iload_n 1, 1) := by decide +kernel
theorem dX7_at_16 : decode cX7_at 16 = .ok (.invokevirtual 90, 3) := by decide +kernel
theorem dX7_at_19 : decode cX7_at 19 = .ok (.goto 4, 3) := by decide +kernel
theorem dX7_at_22 : decode cX7_at 22 = .ok (.iconst (-1), 1) := by decide +kernel
theorem dX7_at_23 : decode cX7_at 23 = .ok (.ireturn, 1) := by decide +kernel
set_option maxRecDepth 20000 in
theorem ggX7_of_X7_within : GoodIn wsX7_of wsX7_within := goodIn_r _ [6] (by decide +kernel) (by decide +kernel)
set_option maxRecDepth 20000 in
theorem gX7_of_X7_within : GoodIn wsX7_of (va_wsS RX7 61 yX7_within wsX7_within) := goodIn_app (goodIn_of _ (by decide +kernel)) ggX7_of_X7_within
set_option maxRecDepth 20000 in
theorem ggX7_of_X4_read : GoodIn wsX7_of wsX4_read := goodIn_r _ [11, 12, 41] (by decide +kernel) (by decide +kernel)
set_option maxRecDepth 20000 in
theorem gX7_of_X4_read : GoodIn wsX7_of (wsV RX7 90 RX4 yX4_read wsX4_read) := goodIn_app (goodIn_of _ (by decide +kernel)) ggX7_of_X4_read
set_option maxRecDepth 20000 in
theorem ggX7_of_X2_pieceOfBatch : GoodIn wsX7_of wsX2_pieceOfBatch := goodIn_r _ [17, 18, 19, 20, 8, 9, 10, 11, 12, 42, 43, 44, 45, 46, 47, 48, 41] (by decide +kernel) (by decide +kernel)
set_option maxRecDepth 20000 in
theorem gX7_of_X2_pieceOfBatch : GoodIn wsX7_of (wsV RX7 163 RX2 yX2_pieceOfBatch wsX2_pieceOfBatch) := goodIn_app (goodIn_of _ (by decide +kernel)) ggX7_of_X2_pieceOfBatch
set_option maxRecDepth 20000 in
theorem ggX7_of_X6_placeOf : GoodIn wsX7_of wsX6_placeOf := goodIn_r _ [25, 26, 27, 28, 8, 9, 10, 11, 12, 36, 37, 38, 39, 40, 41] (by decide +kernel) (by decide +kernel)
set_option maxRecDepth 20000 in
theorem gX7_of_X6_placeOf : GoodIn wsX7_of (wsV RX7 167 RX6 yX6_placeOf wsX6_placeOf) := goodIn_app (goodIn_of _ (by decide +kernel)) ggX7_of_X6_placeOf
theorem dX7_of_0 : decode cX7_of 0 = .ok (.iload_n 1, 1) := by decide +kernel
theorem dX7_of_1 : decode cX7_of 1 = .ok (.iconst 0, 1) := by decide +kernel
theorem dX7_of_2 : decode cX7_of 2 = .ok (.aload_n 0, 1) := by decide +kernel
theorem dX7_of_3 : decode cX7_of 3 = .ok (.getfield 28, 3) := by decide +kernel
theorem dX7_of_6 : decode cX7_of 6 = .ok (.getfield 147, 3) := by decide +kernel
theorem dX7_of_9 : decode cX7_of 9 = .ok (.iconst 1, 1) := by decide +kernel
theorem dX7_of_10 : decode cX7_of 10 = .ok (.isub, 1) := by decide +kernel
theorem dX7_of_11 : decode cX7_of 11 = .ok (.invokestatic 61, 3) := by decide +kernel
theorem dX7_of_14 : decode cX7_of 14 = .ok (.ifCond .ne 6, 3) := by decide +kernel
theorem dX7_of_17 : decode cX7_of 17 = .ok (.bipush (-2), 2) := by decide +kernel
theorem dX7_of_19 : decode cX7_of 19 = .ok (.ireturn, 1) := by decide +kernel
theorem dX7_of_20 : decode cX7_of 20 = .ok (.aload_n 0, 1) := by decide +kernel
theorem dX7_of_21 : decode cX7_of 21 = .ok (.getfield 28, 3) := by decide +kernel
theorem dX7_of_24 : decode cX7_of 24 = .ok (.getfield 160, 3) := by decide +kernel
theorem dX7_of_27 : decode cX7_of 27 = .ok (.iload_n 1, 1) := by decide +kernel
theorem dX7_of_28 : decode cX7_of 28 = .ok (.invokevirtual 90, 3) := by decide +kernel
theorem dX7_of_31 : decode cX7_of 31 = .ok (.istore_n 3, 1) := by decide +kernel
theorem dX7_of_32 : decode cX7_of 32 = .ok (.iload_n 2, 1) := by decide +kernel
theorem dX7_of_33 : decode cX7_of 33 = .ok (.bipush 10, 2) := by decide +kernel
theorem dX7_of_35 : decode cX7_of 35 = .ok (.bipush 10, 2) := by decide +kernel
theorem dX7_of_37 : decode cX7_of 37 = .ok (.iload_n 3, 1) := by decide +kernel
theorem dX7_of_38 : decode cX7_of 38 = .ok (.iadd, 1) := by decide +kernel
theorem dX7_of_39 : decode cX7_of 39 = .ok (.iconst 1, 1) := by decide +kernel
theorem dX7_of_40 : decode cX7_of 40 = .ok (.isub, 1) := by decide +kernel
theorem dX7_of_41 : decode cX7_of 41 = .ok (.invokestatic 61, 3) := by decide +kernel
theorem dX7_of_44 : decode cX7_of 44 = .ok (.ifCond .eq 16, 3) := by decide +kernel
theorem dX7_of_47 : decode cX7_of 47 = .ok (.aload_n 0, 1) := by decide +kernel
theorem dX7_of_48 : decode cX7_of 48 = .ok (.getfield 19, 3) := by decide +kernel
theorem dX7_of_51 : decode cX7_of 51 = .ok (.iload_n 1, 1) := by decide +kernel
theorem dX7_of_52 : decode cX7_of 52 = .ok (.iload_n 2, 1) := by decide +kernel
theorem dX7_of_53 : decode cX7_of 53 = .ok (.bipush 10, 2) := by decide +kernel
theorem dX7_of_55 : decode cX7_of 55 = .ok (.isub, 1) := by decide +kernel
theorem dX7_of_56 : decode cX7_of 56 = .ok (.invokevirtual 163, 3) := by decide +kernel
theorem dX7_of_59 : decode cX7_of 59 = .ok (.ireturn, 1) := by decide +kernel
theorem dX7_of_60 : decode cX7_of 60 = .ok (.iload_n 2, 1) := by decide +kernel
theorem dX7_of_61 : decode cX7_of 61 = .ok (.tableswitch 50 0 2 #[27, 39, 41], 27) := by decide +kernel
theorem dX7_of_88 : decode cX7_of 88 = .ok (.aload_n 0, 1) := by decide +kernel
theorem dX7_of_89 : decode cX7_of 89 = .ok (.getfield 28, 3) := by decide +kernel
theorem dX7_of_92 : decode cX7_of 92 = .ok (.getfield 166, 3) := by decide +kernel
theorem dX7_of_95 : decode cX7_of 95 = .ok (.iload_n 1, 1) := by decide +kernel
theorem dX7_of_96 : decode cX7_of 96 = .ok (.invokevirtual 90, 3) := by decide +kernel
theorem dX7_of_99 : decode cX7_of 99 = .ok (.ireturn, 1) := by decide +kernel
theorem dX7_of_100 : decode cX7_of 100 = .ok (.iload_n 3, 1) := by decide +kernel
theorem dX7_of_101 : decode cX7_of 101 = .ok (.ireturn, 1) := by decide +kernel
theorem dX7_of_102 : decode cX7_of 102 = .ok (.aload_n 0, 1) := by decide +kernel
theorem dX7_of_103 : decode cX7_of 103 = .ok (.getfield 28, 3) := by decide +kernel
theorem dX7_of_106 : decode cX7_of 106 = .ok (.iload_n 1, 1) := by decide +kernel
theorem dX7_of_107 : decode cX7_of 107 = .ok (.invokevirtual 167, 3) := by decide +kernel
theorem dX7_of_110 : decode cX7_of 110 = .ok (.ireturn, 1) := by decide +kernel
theorem dX7_of_111 : decode cX7_of 111 = .ok (.bipush (-2), 2) := by decide +kernel
theorem dX7_of_113 : decode cX7_of 113 = .ok (.ireturn, 1) := by decide +kernel
set_option maxRecDepth 20000 in
theorem ggX7_swap_X7_isOrderPlace : GoodIn wsX7_swap wsX7_isOrderPlace := goodIn_r _ [6, 1, 7, 8, 5, 9, 20, 21, 22, 23, 24, 25, 26, 27, 28, 29, 30, 31] (by decide +kernel) (by decide +kernel)
set_option maxRecDepth 20000 in
theorem gX7_swap_X7_isOrderPlace : GoodIn wsX7_swap (wsV RX7 154 RX7 yX7_isOrderPlace wsX7_isOrderPlace) := goodIn_app (goodIn_of _ (by decide +kernel)) ggX7_swap_X7_isOrderPlace
set_option maxRecDepth 20000 in
theorem ggX7_swap_X4_read : GoodIn wsX7_swap wsX4_read := goodIn_r _ [14, 15, 32] (by decide +kernel) (by decide +kernel)
set_option maxRecDepth 20000 in
theorem gX7_swap_X4_read : GoodIn wsX7_swap (wsV RX7 90 RX4 yX4_read wsX4_read) := goodIn_app (goodIn_of _ (by decide +kernel)) ggX7_swap_X4_read
set_option maxRecDepth 20000 in
theorem ggX7_swap_X4_write : GoodIn wsX7_swap wsX4_write := goodIn_r _ [19, 15, 32] (by decide +kernel) (by decide +kernel)
set_option maxRecDepth 20000 in
theorem gX7_swap_X4_write : GoodIn wsX7_swap (wsV RX7 111 RX4 yX4_write wsX4_write) := goodIn_app (goodIn_of _ (by decide +kernel)) ggX7_swap_X4_write
theorem dX7_swap_0 : decode cX7_swap 0 = .ok (.aload_n 0, 1) := by decide +kernel
theorem dX7_swap_1 : decode cX7_swap 1 = .ok (.iload_n 1, 1) := by decide +kernel
theorem dX7_swap_2 : decode cX7_swap 2 = .ok (.invokevirtual 154, 3) := by decide +kernel
theorem dX7_swap_5 : decode cX7_swap 5 = .ok (.ifCond .eq 11, 3) := by decide +kernel
theorem dX7_swap_8 : decode cX7_swap 8 = .ok (.aload_n 0, 1) := by decide +kernel
theorem dX7_swap_9 : decode cX7_swap 9 = .ok (.iload_n 2, 1) := by decide +kernel
theorem dX7_swap_10 : decode cX7_swap 10 = .ok (.invokevirtual 154, 3) := by decide +kernel
theorem dX7_swap_13 : decode cX7_swap 13 = .ok (.ifCond .ne 6, 3) := by decide +kernel
theorem dX7_swap_16 : decode cX7_swap 16 = .ok (.bipush (-2), 2) := by decide +kernel
theorem dX7_swap_18 : decode cX7_swap 18 = .ok (.ireturn, 1) := by decide +kernel
theorem dX7_swap_19 : decode cX7_swap 19 = .ok (.aload_n 0, 1) := by decide +kernel
theorem dX7_swap_20 : decode cX7_swap 20 = .ok (.getfield 28, 3) := by decide +kernel
theorem dX7_swap_23 : decode cX7_swap 23 = .ok (.getfield 157, 3) := by decide +kernel
theorem dX7_swap_26 : decode cX7_swap 26 = .ok (.iload_n 1, 1) := by decide +kernel
theorem dX7_swap_27 : decode cX7_swap 27 = .ok (.invokevirtual 90, 3) := by decide +kernel
theorem dX7_swap_30 : decode cX7_swap 30 = .ok (.istore_n 3, 1) := by decide +kernel
theorem dX7_swap_31 : decode cX7_swap 31 = .ok (.aload_n 0, 1) := by decide +kernel
theorem dX7_swap_32 : decode cX7_swap 32 = .ok (.getfield 28, 3) := by decide +kernel
theorem dX7_swap_35 : decode cX7_swap 35 = .ok (.getfield 157, 3) := by decide +kernel
theorem dX7_swap_38 : decode cX7_swap 38 = .ok (.iload_n 1, 1) := by decide +kernel
theorem dX7_swap_39 : decode cX7_swap 39 = .ok (.aload_n 0, 1) := by decide +kernel
theorem dX7_swap_40 : decode cX7_swap 40 = .ok (.getfield 28, 3) := by decide +kernel
theorem dX7_swap_43 : decode cX7_swap 43 = .ok (.getfield 157, 3) := by decide +kernel
theorem dX7_swap_46 : decode cX7_swap 46 = .ok (.iload_n 2, 1) := by decide +kernel
theorem dX7_swap_47 : decode cX7_swap 47 = .ok (.invokevirtual 90, 3) := by decide +kernel
theorem dX7_swap_50 : decode cX7_swap 50 = .ok (.invokevirtual 111, 3) := by decide +kernel
theorem dX7_swap_53 : decode cX7_swap 53 = .ok (.aload_n 0, 1) := by decide +kernel
theorem dX7_swap_54 : decode cX7_swap 54 = .ok (.getfield 28, 3) := by decide +kernel
theorem dX7_swap_57 : decode cX7_swap 57 = .ok (.getfield 157, 3) := by decide +kernel
theorem dX7_swap_60 : decode cX7_swap 60 = .ok (.iload_n 2, 1) := by decide +kernel
theorem dX7_swap_61 : decode cX7_swap 61 = .ok (.iload_n 3, 1) := by decide +kernel
theorem dX7_swap_62 : decode cX7_swap 62 = .ok (.invokevirtual 111, 3) := by decide +kernel
theorem dX7_swap_65 : decode cX7_swap 65 = .ok (.iconst 1, 1) := by decide +kernel
theorem dX7_swap_66 : decode cX7_swap 66 = .ok (.ireturn, 1) := by decide +kernel
set_option maxRecDepth 20000 in
theorem ggX7_undo_X4_read : GoodIn wsX7_undo wsX4_read := goodIn_r _ [7, 8, 45] (by decide +kernel) (by decide +kernel)
set_option maxRecDepth 20000 in
theorem gX7_undo_X4_read : GoodIn wsX7_undo (wsV RX7 90 RX4 yX4_read wsX4_read) := goodIn_app (goodIn_of _ (by decide +kernel)) ggX7_undo_X4_read
set_option maxRecDepth 20000 in
theorem ggX7_undo_X2_emptyBatch : GoodIn wsX7_undo wsX2_emptyBatch := goodIn_r _ [13, 14, 15, 16, 17, 4, 5, 6, 7, 8, 18, 19, 20, 21, 46, 47, 48, 49, 50, 51, 52, 45] (by decide +kernel) (by decide +kernel)
set_option maxRecDepth 20000 in
theorem gX7_undo_X2_emptyBatch : GoodIn wsX7_undo (wsV RX7 170 RX2 yX2_emptyBatch wsX2_emptyBatch) := goodIn_app (goodIn_of _ (by decide +kernel)) ggX7_undo_X2_emptyBatch
set_option maxRecDepth 20000 in
theorem ggX7_undo_X6_dropLast : GoodIn wsX7_undo wsX6_dropLast := goodIn_r _ [26, 27, 28, 29, 30, 31, 4, 5, 6, 7, 8, 32, 19, 20, 21, 40, 41, 42, 43, 44, 45] (by decide +kernel) (by decide +kernel)
set_option maxRecDepth 20000 in
theorem gX7_undo_X6_dropLast : GoodIn wsX7_undo (wsV RX7 174 RX6 yX6_dropLast wsX6_dropLast) := goodIn_app (goodIn_of _ (by decide +kernel)) ggX7_undo_X6_dropLast
theorem dX7_undo_0 : decode cX7_undo 0 = .ok (.aload_n 0, 1) := by decide +kernel
theorem dX7_undo_1 : decode cX7_undo 1 = .ok (.getfield 28, 3) := by decide +kernel
theorem dX7_undo_4 : decode cX7_undo 4 = .ok (.getfield 147, 3) := by decide +kernel
theorem dX7_undo_7 : decode cX7_undo 7 = .ok (.ifCond .ne 6, 3) := by decide +kernel
theorem dX7_undo_10 : decode cX7_undo 10 = .ok (.bipush (-4), 2) := by decide +kernel
theorem dX7_undo_12 : decode cX7_undo 12 = .ok (.ireturn, 1) := by decide +kernel
theorem dX7_undo_13 : decode cX7_undo 13 = .ok (.aload_n 0, 1) := by decide +kernel
theorem dX7_undo_14 : decode cX7_undo 14 = .ok (.getfield 28, 3) := by decide +kernel
theorem dX7_undo_17 : decode cX7_undo 17 = .ok (.getfield 157, 3) := by decide +kernel
theorem dX7_undo_20 : decode cX7_undo 20 = .ok (.aload_n 0, 1) := by decide +kernel
theorem dX7_undo_21 : decode cX7_undo 21 = .ok (.getfield 28, 3) := by decide +kernel
theorem dX7_undo_24 : decode cX7_undo 24 = .ok (.getfield 147, 3) := by decide +kernel
theorem dX7_undo_27 : decode cX7_undo 27 = .ok (.iconst 1, 1) := by decide +kernel
theorem dX7_undo_28 : decode cX7_undo 28 = .ok (.isub, 1) := by decide +kernel
theorem dX7_undo_29 : decode cX7_undo 29 = .ok (.invokevirtual 90, 3) := by decide +kernel
theorem dX7_undo_32 : decode cX7_undo 32 = .ok (.istore_n 1, 1) := by decide +kernel
theorem dX7_undo_33 : decode cX7_undo 33 = .ok (.aload_n 0, 1) := by decide +kernel
theorem dX7_undo_34 : decode cX7_undo 34 = .ok (.getfield 19, 3) := by decide +kernel
theorem dX7_undo_37 : decode cX7_undo 37 = .ok (.iload_n 1, 1) := by decide +kernel
theorem dX7_undo_38 : decode cX7_undo 38 = .ok (.invokevirtual 170, 3) := by decide +kernel
theorem dX7_undo_41 : decode cX7_undo 41 = .ok (.aload_n 0, 1) := by decide +kernel
theorem dX7_undo_42 : decode cX7_undo 42 = .ok (.getfield 28, 3) := by decide +kernel
theorem dX7_undo_45 : decode cX7_undo 45 = .ok (.iload_n 1, 1) := by decide +kernel
theorem dX7_undo_46 : decode cX7_undo 46 = .ok (.invokevirtual 174, 3) := by decide +kernel
theorem dX7_undo_49 : decode cX7_undo 49 = .ok (.aload_n 0, 1) := by decide +kernel
theorem dX7_undo_50 : decode cX7_undo 50 = .ok (.getfield 28, 3) := by decide +kernel
theorem dX7_undo_53 : decode cX7_undo 53 = .ok (.getfield 147, 3) := by decide +kernel
theorem dX7_undo_56 : decode cX7_undo 56 = .ok (.ireturn, 1) := by decide +kernel
set_option maxRecDepth 20000 in
theorem ggX7_between_X7_isKind : GoodIn wsX7_between wsX7_isKind := goodIn_r _ [6, 1, 7, 8, 5, 9, 31, 32, 33, 34, 35, 36, 37, 38, 39, 40, 41, 42, 43] (by decide +kernel) (by decide +kernel)
set_option maxRecDepth 20000 in
theorem gX7_between_X7_isKind : GoodIn wsX7_between (wsV RX7 72 RX7 yX7_isKind wsX7_isKind) := goodIn_app (goodIn_of _ (by decide +kernel)) ggX7_between_X7_isKind
set_option maxRecDepth 20000 in
theorem ggX7_between_X1_gap : GoodIn wsX7_between wsX1_gap := goodIn_r _ [14, 15, 16, 17, 18, 19, 20, 21, 22, 23, 24, 25, 26, 27, 28, 29, 30, 38, 39, 40, 41, 42, 43, 44] (by decide +kernel) (by decide +kernel)
set_option maxRecDepth 20000 in
theorem gX7_between_X1_gap : GoodIn wsX7_between (wsV RX7 177 RX1 yX1_gap wsX1_gap) := goodIn_app (goodIn_of _ (by decide +kernel)) ggX7_between_X1_gap
theorem dX7_between_0 : decode cX7_between 0 = .ok (.aload_n 0, 1) := by decide +kernel
theorem dX7_between_1 : decode cX7_between 1 = .ok (.iload_n 1, 1) := by decide +kernel
theorem dX7_between_2 : decode cX7_between 2 = .ok (.invokevirtual 72, 3) := by decide +kernel
theorem dX7_between_5 : decode cX7_between 5 = .ok (.ifCond .eq 23, 3) := by decide +kernel
theorem dX7_between_8 : decode cX7_between 8 = .ok (.aload_n 0, 1) := by decide +kernel
theorem dX7_between_9 : decode cX7_between 9 = .ok (.iload_n 2, 1) := by decide +kernel
theorem dX7_between_10 : decode cX7_between 10 = .ok (.invokevirtual 72, 3) := by decide +kernel
theorem dX7_between_13 : decode cX7_between 13 = .ok (.ifCond .eq 15, 3) := by decide +kernel
theorem dX7_between_16 : decode cX7_between 16 = .ok (.aload_n 0, 1) := by decide +kernel
theorem dX7_between_17 : decode cX7_between 17 = .ok (.getfield 12, 3) := by decide +kernel
theorem dX7_between_20 : decode cX7_between 20 = .ok (.iload_n 1, 1) := by decide +kernel
theorem dX7_between_21 : decode cX7_between 21 = .ok (.iload_n 2, 1) := by decide +kernel
theorem dX7_between_22 : decode cX7_between 22 = .ok (.invokevirtual 177, 3) := by decide +kernel
theorem dX7_between_25 : decode cX7_between 25 = .ok (.goto 5, 3) := by decide +kernel
theorem dX7_between_28 : decode cX7_between 28 = .ok (.bipush (-2), 2) := by decide +kernel
theorem dX7_between_30 : decode cX7_between 30 = .ok (.ireturn, 1) := by decide +kernel
set_option maxRecDepth 20000 in
theorem ggX7_empties_X6_gapsInOrder : GoodIn wsX7_empties wsX6_gapsInOrder := goodIn_r _ [6, 7, 8, 9, 10, 5, 11, 12, 13, 14, 15, 16, 17, 18, 19, 20, 21, 22, 23, 24, 25, 26, 27, 28, 29, 30, 31, 32, 33, 34, 35, 36, 37, 38, 39, 40, 48, 49, 50, 51, 52, 53, 54, 55, 56, 57, 58, 59] (by decide +kernel) (by decide +kernel)
set_option maxRecDepth 20000 in
theorem gX7_empties_X6_gapsInOrder : GoodIn wsX7_empties (wsV RX7 180 RX6 yX6_gapsInOrder wsX6_gapsInOrder) := goodIn_app (goodIn_of _ (by decide +kernel)) ggX7_empties_X6_gapsInOrder
theorem dX7_empties_0 : decode cX7_empties 0 = .ok (.aload_n 0, 1) := by decide +kernel
theorem dX7_empties_1 : decode cX7_empties 1 = .ok (.getfield 28, 3) := by decide +kernel
theorem dX7_empties_4 : decode cX7_empties 4 = .ok (.invokevirtual 180, 3) := by decide +kernel
theorem dX7_empties_7 : decode cX7_empties 7 = .ok (.ireturn, 1) := by decide +kernel
set_option maxRecDepth 20000 in
theorem ggX7_plan_X3_orderBest : GoodIn wsX7_plan wsX3_orderBest := goodIn_r _ [7, 8, 9, 10, 11, 6, 12, 13, 14, 15, 16, 17, 18, 19, 20, 21, 22, 23, 24, 25, 26, 27, 28, 29, 30, 31, 32, 33, 34, 35, 36, 37, 38, 39, 40, 41, 42, 43, 44, 45, 46, 47, 48, 49, 50, 51, 52, 53, 54, 55, 56, 57, 58, 59, 60, 84, 85, 86, 79, 80, 81, 82, 83, 87, 88, 89, 90, 91, 92, 93] (by decide +kernel) (by decide +kernel)
set_option maxRecDepth 20000 in
theorem gX7_plan_X3_orderBest : GoodIn wsX7_plan (wsV RX7 184 RX3 yX3_orderBest wsX3_orderBest) := goodIn_app (goodIn_of _ (by decide +kernel)) ggX7_plan_X3_orderBest
set_option maxRecDepth 20000 in
theorem ggX7_plan_X6_gapsInOrder : GoodIn wsX7_plan wsX6_gapsInOrder := goodIn_r _ [64, 65, 66, 67, 68, 17, 69, 70, 21, 22, 23, 24, 25, 26, 71, 15, 16, 18, 19, 20, 27, 28, 29, 30, 31, 32, 33, 34, 35, 36, 37, 38, 39, 40, 41, 42, 79, 80, 81, 82, 83, 87, 88, 89, 90, 91, 92, 93] (by decide +kernel) (by decide +kernel)
set_option maxRecDepth 20000 in
theorem gX7_plan_X6_gapsInOrder : GoodIn wsX7_plan (wsV RX7 180 RX6 yX6_gapsInOrder wsX6_gapsInOrder) := goodIn_app (goodIn_of _ (by decide +kernel)) ggX7_plan_X6_gapsInOrder
theorem dX7_plan_0 : decode cX7_plan 0 = .ok (.aload_n 0, 1) := by decide +kernel
theorem dX7_plan_1 : decode cX7_plan 1 = .ok (.getfield 28, 3) := by decide +kernel
theorem dX7_plan_4 : decode cX7_plan 4 = .ok (.getfield 147, 3) := by decide +kernel
theorem dX7_plan_7 : decode cX7_plan 7 = .ok (.bipush 8, 2) := by decide +kernel
theorem dX7_plan_9 : decode cX7_plan 9 = .ok (.if_icmp .le 6, 3) := by decide +kernel
theorem dX7_plan_12 : decode cX7_plan 12 = .ok (.bipush (-4), 2) := by decide +kernel
theorem dX7_plan_14 : decode cX7_plan 14 = .ok (.ireturn, 1) := by decide +kernel
theorem dX7_plan_15 : decode cX7_plan 15 = .ok (.aload_n 0, 1) := by decide +kernel
theorem dX7_plan_16 : decode cX7_plan 16 = .ok (.getfield 37, 3) := by decide +kernel
theorem dX7_plan_19 : decode cX7_plan 19 = .ok (.invokevirtual 184, 3) := by decide +kernel
theorem dX7_plan_22 : decode cX7_plan 22 = .ok (.aload_n 0, 1) := by decide +kernel
theorem dX7_plan_23 : decode cX7_plan 23 = .ok (.getfield 28, 3) := by decide +kernel
theorem dX7_plan_26 : decode cX7_plan 26 = .ok (.invokevirtual 180, 3) := by decide +kernel
theorem dX7_plan_29 : decode cX7_plan 29 = .ok (.ireturn, 1) := by decide +kernel
set_option maxRecDepth 20000 in
theorem ggX7_greedy_X6_orderByNext : GoodIn wsX7_greedy wsX6_orderByNext := goodIn_r _ [6, 7, 8, 9, 10, 11, 12, 13, 14, 15, 16, 17, 5, 18, 19, 20, 21, 22, 23, 24, 25, 26, 27, 28, 29, 30, 31, 32, 33, 34, 35, 36, 37, 38, 39, 40, 41, 42, 43, 44, 60, 61, 62, 63, 64, 65, 66, 67, 68, 69, 70, 71] (by decide +kernel) (by decide +kernel)
set_option maxRecDepth 20000 in
theorem gX7_greedy_X6_orderByNext : GoodIn wsX7_greedy (wsV RX7 187 RX6 yX6_orderByNext wsX6_orderByNext) := goodIn_app (goodIn_of _ (by decide +kernel)) ggX7_greedy_X6_orderByNext
set_option maxRecDepth 20000 in
theorem ggX7_greedy_X6_gapsInOrder : GoodIn wsX7_greedy wsX6_gapsInOrder := goodIn_r _ [48, 7, 49, 50, 51, 5, 52, 8, 9, 10, 11, 12, 13, 14, 19, 20, 21, 22, 23, 24, 25, 26, 27, 28, 29, 30, 31, 32, 33, 34, 35, 36, 37, 38, 39, 40, 60, 61, 62, 63, 64, 65, 66, 67, 68, 69, 70, 71] (by decide +kernel) (by decide +kernel)
set_option maxRecDepth 20000 in
theorem gX7_greedy_X6_gapsInOrder : GoodIn wsX7_greedy (wsV RX7 180 RX6 yX6_gapsInOrder wsX6_gapsInOrder) := goodIn_app (goodIn_of _ (by decide +kernel)) ggX7_greedy_X6_gapsInOrder
theorem dX7_greedy_0 : decode cX7_greedy 0 = .ok (.aload_n 0, 1) := by decide +kernel
theorem dX7_greedy_1 : decode cX7_greedy 1 = .ok (.getfield 28, 3) := by decide +kernel
theorem dX7_greedy_4 : decode cX7_greedy 4 = .ok (.invokevirtual 187, 3) := by decide +kernel
theorem dX7_greedy_7 : decode cX7_greedy 7 = .ok (.aload_n 0, 1) := by decide +kernel
theorem dX7_greedy_8 : decode cX7_greedy 8 = .ok (.getfield 28, 3) := by decide +kernel
theorem dX7_greedy_11 : decode cX7_greedy 11 = .ok (.invokevirtual 180, 3) := by decide +kernel
theorem dX7_greedy_14 : decode cX7_greedy 14 = .ok (.ireturn, 1) := by decide +kernel
set_option maxRecDepth 20000 in
theorem ggX7_tunnel_X7_within : GoodIn wsX7_tunnel wsX7_within := goodIn_r _ [5] (by decide +kernel) (by decide +kernel)
set_option maxRecDepth 20000 in
theorem gX7_tunnel_X7_within : GoodIn wsX7_tunnel (va_wsS RX7 61 yX7_within wsX7_within) := goodIn_app (goodIn_of _ (by decide +kernel)) ggX7_tunnel_X7_within
theorem dX7_tunnel_0 : decode cX7_tunnel 0 = .ok (.iload_n 1, 1) := by decide +kernel
theorem dX7_tunnel_1 : decode cX7_tunnel 1 = .ok (.iconst 2, 1) := by decide +kernel
theorem dX7_tunnel_2 : decode cX7_tunnel 2 = .ok (.bipush 10, 2) := by decide +kernel
theorem dX7_tunnel_4 : decode cX7_tunnel 4 = .ok (.invokestatic 61, 3) := by decide +kernel
theorem dX7_tunnel_7 : decode cX7_tunnel 7 = .ok (.ifCond .eq 21, 3) := by decide +kernel
theorem dX7_tunnel_10 : decode cX7_tunnel 10 = .ok (.iload_n 2, 1) := by decide +kernel
theorem dX7_tunnel_11 : decode cX7_tunnel 11 = .ok (.iconst 1, 1) := by decide +kernel
theorem dX7_tunnel_12 : decode cX7_tunnel 12 = .ok (.iconst 4, 1) := by decide +kernel
theorem dX7_tunnel_13 : decode cX7_tunnel 13 = .ok (.invokestatic 61, 3) := by decide +kernel
theorem dX7_tunnel_16 : decode cX7_tunnel 16 = .ok (.ifCond .eq 12, 3) := by decide +kernel
theorem dX7_tunnel_19 : decode cX7_tunnel 19 = .ok (.iload_n 3, 1) := by decide +kernel
theorem dX7_tunnel_20 : decode cX7_tunnel 20 = .ok (.iconst 1, 1) := by decide +kernel
theorem dX7_tunnel_21 : decode cX7_tunnel 21 = .ok (.iconst 3, 1) := by decide +kernel
theorem dX7_tunnel_22 : decode cX7_tunnel 22 = .ok (.invokestatic 61, 3) := by decide +kernel
theorem dX7_tunnel_25 : decode cX7_tunnel 25 = .ok (.ifCond .ne 6, 3) := by decide +kernel
theorem dX7_tunnel_28 : decode cX7_tunnel 28 = .ok (.bipush (-2), 2) := by decide +kernel
theorem dX7_tunnel_30 : decode cX7_tunnel 30 = .ok (.ireturn, 1) := by decide +kernel
theorem dX7_tunnel_31 : decode cX7_tunnel 31 = .ok (.aload_n 0, 1) := by decide +kernel
theorem dX7_tunnel_32 : decode cX7_tunnel 32 = .ok (.getfield 46, 3) := by decide +kernel
theorem dX7_tunnel_35 : decode cX7_tunnel 35 = .ok (.iload_n 1, 1) := by decide +kernel
theorem dX7_tunnel_36 : decode cX7_tunnel 36 = .ok (.putfield 190, 3) := by decide +kernel
theorem dX7_tunnel_39 : decode cX7_tunnel 39 = .ok (.aload_n 0, 1) := by decide +kernel
theorem dX7_tunnel_40 : decode cX7_tunnel 40 = .ok (.getfield 46, 3) := by decide +kernel
theorem dX7_tunnel_43 : decode cX7_tunnel 43 = .ok (.iload_n 2, 1) := by decide +kernel
theorem dX7_tunnel_44 : decode cX7_tunnel 44 = .ok (.putfield 193, 3) := by decide +kernel
theorem dX7_tunnel_47 : decode cX7_tunnel 47 = .ok (.aload_n 0, 1) := by decide +kernel
theorem dX7_tunnel_48 : decode cX7_tunnel 48 = .ok (.getfield 46, 3) := by decide +kernel
theorem dX7_tunnel_51 : decode cX7_tunnel 51 = .ok (.iload_n 3, 1) := by decide +kernel
theorem dX7_tunnel_52 : decode cX7_tunnel 52 = .ok (.putfield 196, 3) := by decide +kernel
theorem dX7_tunnel_55 : decode cX7_tunnel 55 = .ok (.iconst 1, 1) := by decide +kernel
theorem dX7_tunnel_56 : decode cX7_tunnel 56 = .ok (.ireturn, 1) := by decide +kernel
set_option maxRecDepth 20000 in
theorem ggX7_wash_X0_washOrder : GoodIn wsX7_wash wsX0_washOrder := goodIn_r _ [8, 9, 10, 11, 12, 13, 14, 15, 16, 7, 17, 18, 19, 20, 21, 22, 23, 24, 25, 26, 27, 28, 29, 30, 31, 32, 33, 34, 35, 36, 37, 38, 39, 40, 41, 42, 43, 44, 45, 46, 47, 48, 49, 50, 51, 52, 53, 54, 55, 56, 57, 58, 59, 60, 61, 62, 63, 64, 65, 66, 67, 68, 69, 70, 71, 72, 73, 74, 75, 76, 77, 78, 79, 80, 81, 82, 83, 84, 85, 86, 87, 88, 89, 90, 91, 92, 93, 94, 95, 96, 97, 98, 99, 100, 101, 102, 103, 104, 105, 106, 107, 108, 109, 110, 111, 112, 113, 114, 115, 116, 117, 118, 119, 120, 121, 122, 123, 124, 125, 126, 127, 128, 129, 130, 131, 132, 133, 134, 135, 136, 137, 161, 162, 163, 164, 165, 166, 167, 168, 169, 170, 171, 172, 173, 174, 175, 176, 156, 157, 158, 159, 160, 177, 178, 179, 180, 181, 182, 183] (by decide +kernel) (by decide +kernel)
set_option maxRecDepth 20000 in
theorem gX7_wash_X0_washOrder : GoodIn wsX7_wash (wsV RX7 199 RX0 yX0_washOrder wsX0_washOrder) := goodIn_app (goodIn_of _ (by decide +kernel)) ggX7_wash_X0_washOrder
set_option maxRecDepth 20000 in
theorem ggX7_wash_X2_cleanBatches : GoodIn wsX7_wash wsX2_cleanBatches := goodIn_r _ [142, 143, 144, 145, 146, 147, 36, 37, 27, 38, 29, 148, 74, 75, 76, 184, 185, 186, 187, 188, 189, 190, 177] (by decide +kernel) (by decide +kernel)
set_option maxRecDepth 20000 in
theorem gX7_wash_X2_cleanBatches : GoodIn wsX7_wash (wsV RX7 202 RX2 yX2_cleanBatches wsX2_cleanBatches) := goodIn_app (goodIn_of _ (by decide +kernel)) ggX7_wash_X2_cleanBatches
theorem dX7_wash_0 : decode cX7_wash 0 = .ok (.aload_n 0, 1) := by decide +kernel
theorem dX7_wash_1 : decode cX7_wash 1 = .ok (.getfield 28, 3) := by decide +kernel
theorem dX7_wash_4 : decode cX7_wash 4 = .ok (.getfield 147, 3) := by decide +kernel
theorem dX7_wash_7 : decode cX7_wash 7 = .ok (.ifCond .ne 6, 3) := by decide +kernel
theorem dX7_wash_10 : decode cX7_wash 10 = .ok (.bipush (-4), 2) := by decide +kernel
theorem dX7_wash_12 : decode cX7_wash 12 = .ok (.ireturn, 1) := by decide +kernel
theorem dX7_wash_13 : decode cX7_wash 13 = .ok (.aload_n 0, 1) := by decide +kernel
theorem dX7_wash_14 : decode cX7_wash 14 = .ok (.getfield 46, 3) := by decide +kernel
theorem dX7_wash_17 : decode cX7_wash 17 = .ok (.invokevirtual 199, 3) := by decide +kernel
theorem dX7_wash_20 : decode cX7_wash 20 = .ok (.istore_n 1, 1) := by decide +kernel
theorem dX7_wash_21 : decode cX7_wash 21 = .ok (.aload_n 0, 1) := by decide +kernel
theorem dX7_wash_22 : decode cX7_wash 22 = .ok (.getfield 19, 3) := by decide +kernel
theorem dX7_wash_25 : decode cX7_wash 25 = .ok (.invokevirtual 202, 3) := by decide +kernel
theorem dX7_wash_28 : decode cX7_wash 28 = .ok (.aload_n 0, 1) := by decide +kernel
theorem dX7_wash_29 : decode cX7_wash 29 = .ok (.getfield 28, 3) := by decide +kernel
theorem dX7_wash_32 : decode cX7_wash 32 = .ok (.iconst 0, 1) := by decide +kernel
theorem dX7_wash_33 : decode cX7_wash 33 = .ok (.putfield 147, 3) := by decide +kernel
theorem dX7_wash_36 : decode cX7_wash 36 = .ok (.iload_n 1, 1) := by decide +kernel
theorem dX7_wash_37 : decode cX7_wash 37 = .ok (.ireturn, 1) := by decide +kernel
set_option maxRecDepth 20000 in
theorem ggX7_washed_X7_within : GoodIn wsX7_washed wsX7_within := goodIn_r _ [5] (by decide +kernel) (by decide +kernel)
set_option maxRecDepth 20000 in
theorem gX7_washed_X7_within : GoodIn wsX7_washed (va_wsS RX7 61 yX7_within wsX7_within) := goodIn_app (goodIn_of _ (by decide +kernel)) ggX7_washed_X7_within
set_option maxRecDepth 20000 in
theorem ggX7_washed_X4_read : GoodIn wsX7_washed wsX4_read := goodIn_r _ [10, 11, 35] (by decide +kernel) (by decide +kernel)
set_option maxRecDepth 20000 in
theorem gX7_washed_X4_read : GoodIn wsX7_washed (wsV RX7 90 RX4 yX4_read wsX4_read) := goodIn_app (goodIn_of _ (by decide +kernel)) ggX7_washed_X4_read
theorem dX7_washed_0 : decode cX7_washed 0 = .ok (.iload_n 1, 1) := by decide +kernel
theorem dX7_washed_1 : decode cX7_washed 1 = .ok (.iconst 0, 1) := by decide +kernel
theorem dX7_washed_2 : decode cX7_washed 2 = .ok (.bipush 6, 2) := by decide +kernel
theorem dX7_washed_4 : decode cX7_washed 4 = .ok (.invokestatic 61, 3) := by decide +kernel
theorem dX7_washed_7 : decode cX7_washed 7 = .ok (.ifCond .eq 17, 3) := by decide +kernel
theorem dX7_washed_10 : decode cX7_washed 10 = .ok (.aload_n 0, 1) := by decide +kernel
theorem dX7_washed_11 : decode cX7_washed 11 = .ok (.getfield 46, 3) := by decide +kernel
theorem dX7_washed_14 : decode cX7_washed 14 = .ok (.getfield 205, 3) := by decide +kernel
theorem dX7_washed_17 : decode cX7_washed 17 = .ok (.iload_n 1, 1) := by decide +kernel
theorem dX7_washed_18 : decode cX7_washed 18 = .ok (.invokevirtual 90, 3) := by decide +kernel
theorem dX7_washed_21 : decode cX7_washed 21 = .ok (.goto 5, 3) := by decide +kernel
theorem dX7_washed_24 : decode cX7_washed 24 = .ok (.bipush (-2), 2) := by decide +kernel
theorem dX7_washed_26 : decode cX7_washed 26 = .ok (.ireturn, 1) := by decide +kernel
set_option maxRecDepth 20000 in
theorem ggX7_run_X4_read : GoodIn wsX7_run wsX4_read := goodIn_r _ [6, 7, 42] (by decide +kernel) (by decide +kernel)
set_option maxRecDepth 20000 in
theorem gX7_run_X4_read : GoodIn wsX7_run (wsV RX7 90 RX4 yX4_read wsX4_read) := goodIn_app (goodIn_of _ (by decide +kernel)) ggX7_run_X4_read
set_option maxRecDepth 20000 in
theorem ggX7_run_X7_within : GoodIn wsX7_run wsX7_within := goodIn_r _ [11] (by decide +kernel) (by decide +kernel)
set_option maxRecDepth 20000 in
theorem gX7_run_X7_within : GoodIn wsX7_run (va_wsS RX7 61 yX7_within wsX7_within) := goodIn_app (goodIn_of _ (by decide +kernel)) ggX7_run_X7_within
set_option maxRecDepth 20000 in
theorem ggX7_run_X0_fact : GoodIn wsX7_run wsX0_fact := goodIn_r _ [16, 17, 18, 3, 4, 5, 6, 7, 26, 27, 28, 29, 30, 31, 32, 33, 34, 35, 36, 37, 38, 39, 40, 41, 42] (by decide +kernel) (by decide +kernel)
set_option maxRecDepth 20000 in
theorem gX7_run_X0_fact : GoodIn wsX7_run (wsV RX7 208 RX0 yX0_fact wsX0_fact) := goodIn_app (goodIn_of _ (by decide +kernel)) ggX7_run_X0_fact
theorem dX7_run_0 : decode cX7_run 0 = .ok (.iload_n 1, 1) := by decide +kernel
theorem dX7_run_1 : decode cX7_run 1 = .ok (.iconst 0, 1) := by decide +kernel
theorem dX7_run_2 : decode cX7_run 2 = .ok (.aload_n 0, 1) := by decide +kernel
theorem dX7_run_3 : decode cX7_run 3 = .ok (.getfield 46, 3) := by decide +kernel
theorem dX7_run_6 : decode cX7_run 6 = .ok (.getfield 205, 3) := by decide +kernel
theorem dX7_run_9 : decode cX7_run 9 = .ok (.iconst 5, 1) := by decide +kernel
theorem dX7_run_10 : decode cX7_run 10 = .ok (.invokevirtual 90, 3) := by decide +kernel
theorem dX7_run_13 : decode cX7_run 13 = .ok (.iconst 1, 1) := by decide +kernel
theorem dX7_run_14 : decode cX7_run 14 = .ok (.isub, 1) := by decide +kernel
theorem dX7_run_15 : decode cX7_run 15 = .ok (.invokestatic 61, 3) := by decide +kernel
theorem dX7_run_18 : decode cX7_run 18 = .ok (.ifCond .eq 13, 3) := by decide +kernel
theorem dX7_run_21 : decode cX7_run 21 = .ok (.iload_n 2, 1) := by decide +kernel
theorem dX7_run_22 : decode cX7_run 22 = .ok (.iconst 0, 1) := by decide +kernel
theorem dX7_run_23 : decode cX7_run 23 = .ok (.bipush 6, 2) := by decide +kernel
theorem dX7_run_25 : decode cX7_run 25 = .ok (.invokestatic 61, 3) := by decide +kernel
theorem dX7_run_28 : decode cX7_run 28 = .ok (.ifCond .ne 6, 3) := by decide +kernel
theorem dX7_run_31 : decode cX7_run 31 = .ok (.bipush (-2), 2) := by decide +kernel
theorem dX7_run_33 : decode cX7_run 33 = .ok (.ireturn, 1) := by decide +kernel
theorem dX7_run_34 : decode cX7_run 34 = .ok (.aload_n 0, 1) := by decide +kernel
theorem dX7_run_35 : decode cX7_run 35 = .ok (.getfield 46, 3) := by decide +kernel
theorem dX7_run_38 : decode cX7_run 38 = .ok (.iload_n 1, 1) := by decide +kernel
theorem dX7_run_39 : decode cX7_run 39 = .ok (.iload_n 2, 1) := by decide +kernel
theorem dX7_run_40 : decode cX7_run 40 = .ok (.invokevirtual 208, 3) := by decide +kernel
theorem dX7_run_43 : decode cX7_run 43 = .ok (.ireturn, 1) := by decide +kernel
set_option maxRecDepth 20000 in
theorem ggX7_pack_X7_isOwner : GoodIn wsX7_pack wsX7_isOwner := goodIn_r _ [5, 6, 7, 4, 8] (by decide +kernel) (by decide +kernel)
set_option maxRecDepth 20000 in
theorem gX7_pack_X7_isOwner : GoodIn wsX7_pack (va_wsS RX7 76 yX7_isOwner wsX7_isOwner) := goodIn_app (goodIn_of _ (by decide +kernel)) ggX7_pack_X7_isOwner
set_option maxRecDepth 20000 in
theorem ggX7_pack_X7_isKind : GoodIn wsX7_pack wsX7_isKind := goodIn_r _ [12, 13, 6, 7, 4, 8, 41, 42, 43, 44, 45, 46, 47, 48, 49, 50, 51, 52, 53] (by decide +kernel) (by decide +kernel)
set_option maxRecDepth 20000 in
theorem gX7_pack_X7_isKind : GoodIn wsX7_pack (wsV RX7 72 RX7 yX7_isKind wsX7_isKind) := goodIn_app (goodIn_of _ (by decide +kernel)) ggX7_pack_X7_isKind
set_option maxRecDepth 20000 in
theorem ggX7_pack_X7_within : GoodIn wsX7_pack wsX7_within := goodIn_r _ [8] (by decide +kernel) (by decide +kernel)
set_option maxRecDepth 20000 in
theorem gX7_pack_X7_within : GoodIn wsX7_pack (va_wsS RX7 61 yX7_within wsX7_within) := goodIn_app (goodIn_of _ (by decide +kernel)) ggX7_pack_X7_within
set_option maxRecDepth 20000 in
theorem ggX7_pack_X2_tally : GoodIn wsX7_pack wsX2_tally := goodIn_r _ [18, 19, 20, 21, 22, 17, 23, 24, 25, 26, 27, 28, 29, 30, 31, 32, 54, 55, 56, 57, 58, 59, 60, 61] (by decide +kernel) (by decide +kernel)
set_option maxRecDepth 20000 in
theorem gX7_pack_X2_tally : GoodIn wsX7_pack (wsV RX7 128 RX2 yX2_tally wsX2_tally) := goodIn_app (goodIn_of _ (by decide +kernel)) ggX7_pack_X2_tally
set_option maxRecDepth 20000 in
theorem ggX7_pack_X2_sendOut : GoodIn wsX7_pack wsX2_sendOut := goodIn_r _ [36, 19, 24, 20, 21, 22, 17, 23, 25, 26, 27, 28, 29, 30, 31, 32, 37, 38, 39, 40, 54, 55, 56, 57, 58, 59, 60, 61] (by decide +kernel) (by decide +kernel)
set_option maxRecDepth 20000 in
theorem gX7_pack_X2_sendOut : GoodIn wsX7_pack (wsV RX7 211 RX2 yX2_sendOut wsX2_sendOut) := goodIn_app (goodIn_of _ (by decide +kernel)) ggX7_pack_X2_sendOut
theorem dX7_pack_0 : decode cX7_pack 0 = .ok (.iload_n 1, 1) := by decide +kernel
theorem dX7_pack_1 : decode cX7_pack 1 = .ok (.invokestatic 76, 3) := by decide +kernel
theorem dX7_pack_4 : decode cX7_pack 4 = .ok (.ifCond .eq 21, 3) := by decide +kernel
theorem dX7_pack_7 : decode cX7_pack 7 = .ok (.aload_n 0, 1) := by decide +kernel
theorem dX7_pack_8 : decode cX7_pack 8 = .ok (.iload_n 2, 1) := by decide +kernel
theorem dX7_pack_9 : decode cX7_pack 9 = .ok (.invokevirtual 72, 3) := by decide +kernel
theorem dX7_pack_12 : decode cX7_pack 12 = .ok (.ifCond .eq 13, 3) := by decide +kernel
theorem dX7_pack_15 : decode cX7_pack 15 = .ok (.iload_n 3, 1) := by decide +kernel
theorem dX7_pack_16 : decode cX7_pack 16 = .ok (.iconst 1, 1) := by decide +kernel
theorem dX7_pack_17 : decode cX7_pack 17 = .ok (.bipush 40, 2) := by decide +kernel
theorem dX7_pack_19 : decode cX7_pack 19 = .ok (.invokestatic 61, 3) := by decide +kernel
theorem dX7_pack_22 : decode cX7_pack 22 = .ok (.ifCond .ne 6, 3) := by decide +kernel
theorem dX7_pack_25 : decode cX7_pack 25 = .ok (.bipush (-2), 2) := by decide +kernel
theorem dX7_pack_27 : decode cX7_pack 27 = .ok (.ireturn, 1) := by decide +kernel
theorem dX7_pack_28 : decode cX7_pack 28 = .ok (.iload_n 3, 1) := by decide +kernel
theorem dX7_pack_29 : decode cX7_pack 29 = .ok (.aload_n 0, 1) := by decide +kernel
theorem dX7_pack_30 : decode cX7_pack 30 = .ok (.getfield 19, 3) := by decide +kernel
theorem dX7_pack_33 : decode cX7_pack 33 = .ok (.iload_n 1, 1) := by decide +kernel
theorem dX7_pack_34 : decode cX7_pack 34 = .ok (.iload_n 2, 1) := by decide +kernel
theorem dX7_pack_35 : decode cX7_pack 35 = .ok (.iconst 3, 1) := by decide +kernel
theorem dX7_pack_36 : decode cX7_pack 36 = .ok (.invokevirtual 128, 3) := by decide +kernel
theorem dX7_pack_39 : decode cX7_pack 39 = .ok (.isub, 1) := by decide +kernel
theorem dX7_pack_40 : decode cX7_pack 40 = .ok (.istore 4, 2) := by decide +kernel
theorem dX7_pack_42 : decode cX7_pack 42 = .ok (.iload 4, 2) := by decide +kernel
theorem dX7_pack_44 : decode cX7_pack 44 = .ok (.ifCond .le 9, 3) := by decide +kernel
theorem dX7_pack_47 : decode cX7_pack 47 = .ok (.bipush (-100), 2) := by decide +kernel
theorem dX7_pack_49 : decode cX7_pack 49 = .ok (.iload 4, 2) := by decide +kernel
theorem dX7_pack_51 : decode cX7_pack 51 = .ok (.isub, 1) := by decide +kernel
theorem dX7_pack_52 : decode cX7_pack 52 = .ok (.ireturn, 1) := by decide +kernel
theorem dX7_pack_53 : decode cX7_pack 53 = .ok (.aload_n 0, 1) := by decide +kernel
theorem dX7_pack_54 : decode cX7_pack 54 = .ok (.getfield 19, 3) := by decide +kernel
theorem dX7_pack_57 : decode cX7_pack 57 = .ok (.iload_n 1, 1) := by decide +kernel
theorem dX7_pack_58 : decode cX7_pack 58 = .ok (.iload_n 2, 1) := by decide +kernel
theorem dX7_pack_59 : decode cX7_pack 59 = .ok (.iload_n 3, 1) := by decide +kernel
theorem dX7_pack_60 : decode cX7_pack 60 = .ok (.invokevirtual 211, 3) := by decide +kernel
theorem dX7_pack_63 : decode cX7_pack 63 = .ok (.ireturn, 1) := by decide +kernel
set_option maxRecDepth 20000 in
theorem ggX7_sheet_X7_isSheet : GoodIn wsX7_sheet wsX7_isSheet := goodIn_r _ [5, 6, 7, 4, 8] (by decide +kernel) (by decide +kernel)
set_option maxRecDepth 20000 in
theorem gX7_sheet_X7_isSheet : GoodIn wsX7_sheet (va_wsS RX7 132 yX7_isSheet wsX7_isSheet) := goodIn_app (goodIn_of _ (by decide +kernel)) ggX7_sheet_X7_isSheet
set_option maxRecDepth 20000 in
theorem ggX7_sheet_X7_isForm : GoodIn wsX7_sheet wsX7_isForm := goodIn_r _ [11, 6, 7, 4, 8] (by decide +kernel) (by decide +kernel)
set_option maxRecDepth 20000 in
theorem gX7_sheet_X7_isForm : GoodIn wsX7_sheet (va_wsS RX7 214 yX7_isForm wsX7_isForm) := goodIn_app (goodIn_of _ (by decide +kernel)) ggX7_sheet_X7_isForm
set_option maxRecDepth 20000 in
theorem ggX7_sheet_X7_find : GoodIn wsX7_sheet wsX7_find := goodIn_r _ [15, 16, 31, 32, 33, 34, 35, 36, 37] (by decide +kernel) (by decide +kernel)
set_option maxRecDepth 20000 in
theorem gX7_sheet_X7_find : GoodIn wsX7_sheet (wsV RX7 138 RX7 yX7_find wsX7_find) := goodIn_app (goodIn_of _ (by decide +kernel)) ggX7_sheet_X7_find
set_option maxRecDepth 20000 in
theorem ggX7_sheet_X5_renew : GoodIn wsX7_sheet wsX5_renew := goodIn_r _ [21, 22, 23, 24, 25, 26, 27, 28, 29, 30, 38, 39, 40, 41] (by decide +kernel) (by decide +kernel)
set_option maxRecDepth 20000 in
theorem gX7_sheet_X5_renew : GoodIn wsX7_sheet (wsV RX7 217 RX5 yX5_renew wsX5_renew) := goodIn_app (goodIn_of _ (by decide +kernel)) ggX7_sheet_X5_renew
theorem dX7_sheet_0 : decode cX7_sheet 0 = .ok (.iload_n 1, 1) := by decide +kernel
theorem dX7_sheet_1 : decode cX7_sheet 1 = .ok (.invokestatic 132, 3) := by decide +kernel
theorem dX7_sheet_4 : decode cX7_sheet 4 = .ok (.ifCond .eq 16, 3) := by decide +kernel
theorem dX7_sheet_7 : decode cX7_sheet 7 = .ok (.iload_n 2, 1) := by decide +kernel
theorem dX7_sheet_8 : decode cX7_sheet 8 = .ok (.invokestatic 214, 3) := by decide +kernel
theorem dX7_sheet_11 : decode cX7_sheet 11 = .ok (.ifCond .eq 9, 3) := by decide +kernel
theorem dX7_sheet_14 : decode cX7_sheet 14 = .ok (.iload_n 3, 1) := by decide +kernel
theorem dX7_sheet_15 : decode cX7_sheet 15 = .ok (.bipush 60, 2) := by decide +kernel
theorem dX7_sheet_17 : decode cX7_sheet 17 = .ok (.if_icmp .le 6, 3) := by decide +kernel
theorem dX7_sheet_20 : decode cX7_sheet 20 = .ok (.bipush (-2), 2) := by decide +kernel
theorem dX7_sheet_22 : decode cX7_sheet 22 = .ok (.ireturn, 1) := by decide +kernel
theorem dX7_sheet_23 : decode cX7_sheet 23 = .ok (.iload_n 3, 1) := by decide +kernel
theorem dX7_sheet_24 : decode cX7_sheet 24 = .ok (.ifCond .ge 9, 3) := by decide +kernel
theorem dX7_sheet_27 : decode cX7_sheet 27 = .ok (.aload_n 0, 1) := by decide +kernel
theorem dX7_sheet_28 : decode cX7_sheet 28 = .ok (.iconst 5, 1) := by decide +kernel
theorem dX7_sheet_29 : decode cX7_sheet 29 = .ok (.invokevirtual 138, 3) := by decide +kernel
theorem dX7_sheet_32 : decode cX7_sheet 32 = .ok (.ireturn, 1) := by decide +kernel
theorem dX7_sheet_33 : decode cX7_sheet 33 = .ok (.aload_n 0, 1) := by decide +kernel
theorem dX7_sheet_34 : decode cX7_sheet 34 = .ok (.getfield 53, 3) := by decide +kernel
theorem dX7_sheet_37 : decode cX7_sheet 37 = .ok (.iload_n 1, 1) := by decide +kernel
theorem dX7_sheet_38 : decode cX7_sheet 38 = .ok (.iload_n 2, 1) := by decide +kernel
theorem dX7_sheet_39 : decode cX7_sheet 39 = .ok (.iload_n 3, 1) := by decide +kernel
theorem dX7_sheet_40 : decode cX7_sheet 40 = .ok (.invokevirtual 217, 3) := by decide +kernel
theorem dX7_sheet_43 : decode cX7_sheet 43 = .ok (.iload_n 3, 1) := by decide +kernel
theorem dX7_sheet_44 : decode cX7_sheet 44 = .ok (.ireturn, 1) := by decide +kernel
set_option maxRecDepth 20000 in
theorem ggX7_lose_X7_isSheet : GoodIn wsX7_lose wsX7_isSheet := goodIn_r _ [5, 6, 7, 4, 8] (by decide +kernel) (by decide +kernel)
set_option maxRecDepth 20000 in
theorem gX7_lose_X7_isSheet : GoodIn wsX7_lose (va_wsS RX7 132 yX7_isSheet wsX7_isSheet) := goodIn_app (goodIn_of _ (by decide +kernel)) ggX7_lose_X7_isSheet
set_option maxRecDepth 20000 in
theorem ggX7_lose_X5_isLost : GoodIn wsX7_lose wsX5_isLost := goodIn_r _ [13, 14, 15, 16, 17, 18, 19, 20, 44, 45, 46, 47] (by decide +kernel) (by decide +kernel)
set_option maxRecDepth 20000 in
theorem gX7_lose_X5_isLost : GoodIn wsX7_lose (wsV RX7 135 RX5 yX5_isLost wsX5_isLost) := goodIn_app (goodIn_of _ (by decide +kernel)) ggX7_lose_X5_isLost
set_option maxRecDepth 20000 in
theorem ggX7_lose_X7_find : GoodIn wsX7_lose wsX7_find := goodIn_r _ [24, 25, 37, 38, 39, 40, 41, 42, 43] (by decide +kernel) (by decide +kernel)
set_option maxRecDepth 20000 in
theorem gX7_lose_X7_find : GoodIn wsX7_lose (wsV RX7 138 RX7 yX7_find wsX7_find) := goodIn_app (goodIn_of _ (by decide +kernel)) ggX7_lose_X7_find
set_option maxRecDepth 20000 in
theorem ggX7_lose_X4_read : GoodIn wsX7_lose wsX4_read := goodIn_r _ [19, 20, 47] (by decide +kernel) (by decide +kernel)
set_option maxRecDepth 20000 in
theorem gX7_lose_X4_read : GoodIn wsX7_lose (wsV RX7 90 RX4 yX4_read wsX4_read) := goodIn_app (goodIn_of _ (by decide +kernel)) ggX7_lose_X4_read
set_option maxRecDepth 20000 in
theorem ggX7_lose_X5_renew : GoodIn wsX7_lose wsX5_renew := goodIn_r _ [30, 14, 31, 32, 33, 34, 35, 18, 36, 20, 44, 45, 46, 47] (by decide +kernel) (by decide +kernel)
set_option maxRecDepth 20000 in
theorem gX7_lose_X5_renew : GoodIn wsX7_lose (wsV RX7 217 RX5 yX5_renew wsX5_renew) := goodIn_app (goodIn_of _ (by decide +kernel)) ggX7_lose_X5_renew
theorem dX7_lose_0 : decode cX7_lose 0 = .ok (.iload_n 1, 1) := by decide +kernel
theorem dX7_lose_1 : decode cX7_lose 1 = .ok (.invokestatic 132, 3) := by decide +kernel
theorem dX7_lose_4 : decode cX7_lose 4 = .ok (.ifCond .ne 6, 3) := by decide +kernel
theorem dX7_lose_7 : decode cX7_lose 7 = .ok (.bipush (-2), 2) := by decide +kernel
theorem dX7_lose_9 : decode cX7_lose 9 = .ok (.ireturn, 1) := by decide +kernel
theorem dX7_lose_10 : decode cX7_lose 10 = .ok (.aload_n 0, 1) := by decide +kernel
theorem dX7_lose_11 : decode cX7_lose 11 = .ok (.getfield 53, 3) := by decide +kernel
theorem dX7_lose_14 : decode cX7_lose 14 = .ok (.iload_n 1, 1) := by decide +kernel
theorem dX7_lose_15 : decode cX7_lose 15 = .ok (.invokevirtual 135, 3) := by decide +kernel
theorem dX7_lose_18 : decode cX7_lose 18 = .ok (.ifCond .eq 9, 3) := by decide +kernel
theorem dX7_lose_21 : decode cX7_lose 21 = .ok (.aload_n 0, 1) := by decide +kernel
theorem dX7_lose_22 : decode cX7_lose 22 = .ok (.iconst 1, 1) := by decide +kernel
theorem dX7_lose_23 : decode cX7_lose 23 = .ok (.invokevirtual 138, 3) := by decide +kernel
theorem dX7_lose_26 : decode cX7_lose 26 = .ok (.ireturn, 1) := by decide +kernel
theorem dX7_lose_27 : decode cX7_lose 27 = .ok (.aload_n 0, 1) := by decide +kernel
theorem dX7_lose_28 : decode cX7_lose 28 = .ok (.getfield 53, 3) := by decide +kernel
theorem dX7_lose_31 : decode cX7_lose 31 = .ok (.getfield 221, 3) := by decide +kernel
theorem dX7_lose_34 : decode cX7_lose 34 = .ok (.iload_n 1, 1) := by decide +kernel
theorem dX7_lose_35 : decode cX7_lose 35 = .ok (.invokevirtual 90, 3) := by decide +kernel
theorem dX7_lose_38 : decode cX7_lose 38 = .ok (.istore_n 2, 1) := by decide +kernel
theorem dX7_lose_39 : decode cX7_lose 39 = .ok (.aload_n 0, 1) := by decide +kernel
theorem dX7_lose_40 : decode cX7_lose 40 = .ok (.getfield 53, 3) := by decide +kernel
theorem dX7_lose_43 : decode cX7_lose 43 = .ok (.iload_n 1, 1) := by decide +kernel
theorem dX7_lose_44 : decode cX7_lose 44 = .ok (.iconst (-1), 1) := by decide +kernel
theorem dX7_lose_45 : decode cX7_lose 45 = .ok (.iconst 0, 1) := by decide +kernel
theorem dX7_lose_46 : decode cX7_lose 46 = .ok (.invokevirtual 217, 3) := by decide +kernel
theorem dX7_lose_49 : decode cX7_lose 49 = .ok (.iload_n 2, 1) := by decide +kernel
theorem dX7_lose_50 : decode cX7_lose 50 = .ok (.ireturn, 1) := by decide +kernel
set_option maxRecDepth 20000 in
theorem ggX7_put_X7_isSheet : GoodIn wsX7_put wsX7_isSheet := goodIn_r _ [5, 6, 7, 4, 8] (by decide +kernel) (by decide +kernel)
set_option maxRecDepth 20000 in
theorem gX7_put_X7_isSheet : GoodIn wsX7_put (va_wsS RX7 132 yX7_isSheet wsX7_isSheet) := goodIn_app (goodIn_of _ (by decide +kernel)) ggX7_put_X7_isSheet
set_option maxRecDepth 20000 in
theorem ggX7_put_X7_isForm : GoodIn wsX7_put wsX7_isForm := goodIn_r _ [11, 6, 7, 4, 8] (by decide +kernel) (by decide +kernel)
set_option maxRecDepth 20000 in
theorem gX7_put_X7_isForm : GoodIn wsX7_put (va_wsS RX7 214 yX7_isForm wsX7_isForm) := goodIn_app (goodIn_of _ (by decide +kernel)) ggX7_put_X7_isForm
set_option maxRecDepth 20000 in
theorem ggX7_put_X5_findingAt : GoodIn wsX7_put wsX5_findingAt := goodIn_r _ [16, 17, 18, 19, 20, 21, 15, 22, 23, 24, 25, 26, 27, 28, 53, 54, 55, 56] (by decide +kernel) (by decide +kernel)
set_option maxRecDepth 20000 in
theorem gX7_put_X5_findingAt : GoodIn wsX7_put (wsV RX7 222 RX5 yX5_findingAt wsX5_findingAt) := goodIn_app (goodIn_of _ (by decide +kernel)) ggX7_put_X5_findingAt
set_option maxRecDepth 20000 in
theorem ggX7_put_X7_find : GoodIn wsX7_put wsX7_find := goodIn_r _ [32, 33, 46, 47, 48, 49, 50, 51, 52] (by decide +kernel) (by decide +kernel)
set_option maxRecDepth 20000 in
theorem gX7_put_X7_find : GoodIn wsX7_put (wsV RX7 138 RX7 yX7_find wsX7_find) := goodIn_app (goodIn_of _ (by decide +kernel)) ggX7_put_X7_find
set_option maxRecDepth 20000 in
theorem ggX7_put_X5_setItem : GoodIn wsX7_put wsX5_setItem := goodIn_r _ [37, 38, 17, 23, 24, 25, 26, 27, 28, 39, 40, 15, 41, 42, 43, 44, 45, 53, 54, 55, 56] (by decide +kernel) (by decide +kernel)
set_option maxRecDepth 20000 in
theorem gX7_put_X5_setItem : GoodIn wsX7_put (wsV RX7 225 RX5 yX5_setItem wsX5_setItem) := goodIn_app (goodIn_of _ (by decide +kernel)) ggX7_put_X5_setItem
theorem dX7_put_0 : decode cX7_put 0 = .ok (.iload_n 1, 1) := by decide +kernel
theorem dX7_put_1 : decode cX7_put 1 = .ok (.invokestatic 132, 3) := by decide +kernel
theorem dX7_put_4 : decode cX7_put 4 = .ok (.ifCond .eq 10, 3) := by decide +kernel
theorem dX7_put_7 : decode cX7_put 7 = .ok (.iload_n 2, 1) := by decide +kernel
theorem dX7_put_8 : decode cX7_put 8 = .ok (.invokestatic 214, 3) := by decide +kernel
theorem dX7_put_11 : decode cX7_put 11 = .ok (.ifCond .ne 6, 3) := by decide +kernel
theorem dX7_put_14 : decode cX7_put 14 = .ok (.bipush (-2), 2) := by decide +kernel
theorem dX7_put_16 : decode cX7_put 16 = .ok (.ireturn, 1) := by decide +kernel
theorem dX7_put_17 : decode cX7_put 17 = .ok (.aload_n 0, 1) := by decide +kernel
theorem dX7_put_18 : decode cX7_put 18 = .ok (.getfield 53, 3) := by decide +kernel
theorem dX7_put_21 : decode cX7_put 21 = .ok (.iload_n 1, 1) := by decide +kernel
theorem dX7_put_22 : decode cX7_put 22 = .ok (.iload_n 2, 1) := by decide +kernel
theorem dX7_put_23 : decode cX7_put 23 = .ok (.iload_n 3, 1) := by decide +kernel
theorem dX7_put_24 : decode cX7_put 24 = .ok (.invokevirtual 222, 3) := by decide +kernel
theorem dX7_put_27 : decode cX7_put 27 = .ok (.istore 5, 2) := by decide +kernel
theorem dX7_put_29 : decode cX7_put 29 = .ok (.iload 5, 2) := by decide +kernel
theorem dX7_put_31 : decode cX7_put 31 = .ok (.ifCond .eq 10, 3) := by decide +kernel
theorem dX7_put_34 : decode cX7_put 34 = .ok (.aload_n 0, 1) := by decide +kernel
theorem dX7_put_35 : decode cX7_put 35 = .ok (.iload 5, 2) := by decide +kernel
theorem dX7_put_37 : decode cX7_put 37 = .ok (.invokevirtual 138, 3) := by decide +kernel
theorem dX7_put_40 : decode cX7_put 40 = .ok (.ireturn, 1) := by decide +kernel
theorem dX7_put_41 : decode cX7_put 41 = .ok (.aload_n 0, 1) := by decide +kernel
theorem dX7_put_42 : decode cX7_put 42 = .ok (.getfield 53, 3) := by decide +kernel
theorem dX7_put_45 : decode cX7_put 45 = .ok (.iload_n 1, 1) := by decide +kernel
theorem dX7_put_46 : decode cX7_put 46 = .ok (.iload_n 3, 1) := by decide +kernel
theorem dX7_put_47 : decode cX7_put 47 = .ok (.iload 4, 2) := by decide +kernel
theorem dX7_put_49 : decode cX7_put 49 = .ok (.invokevirtual 225, 3) := by decide +kernel
theorem dX7_put_52 : decode cX7_put 52 = .ok (.iconst 1, 1) := by decide +kernel
theorem dX7_put_53 : decode cX7_put 53 = .ok (.ireturn, 1) := by decide +kernel
set_option maxRecDepth 20000 in
theorem ggX7_get_X7_isSheet : GoodIn wsX7_get wsX7_isSheet := goodIn_r _ [7, 8, 9, 6, 10] (by decide +kernel) (by decide +kernel)
set_option maxRecDepth 20000 in
theorem gX7_get_X7_isSheet : GoodIn wsX7_get (va_wsS RX7 132 yX7_isSheet wsX7_isSheet) := goodIn_app (goodIn_of _ (by decide +kernel)) ggX7_get_X7_isSheet
set_option maxRecDepth 20000 in
theorem ggX7_get_X7_isForm : GoodIn wsX7_get wsX7_isForm := goodIn_r _ [13, 8, 9, 6, 10] (by decide +kernel) (by decide +kernel)
set_option maxRecDepth 20000 in
theorem gX7_get_X7_isForm : GoodIn wsX7_get (va_wsS RX7 214 yX7_isForm wsX7_isForm) := goodIn_app (goodIn_of _ (by decide +kernel)) ggX7_get_X7_isForm
set_option maxRecDepth 20000 in
theorem ggX7_get_X5_findingAt : GoodIn wsX7_get wsX5_findingAt := goodIn_r _ [18, 19, 20, 21, 22, 23, 17, 24, 25, 26, 27, 28, 29, 30, 43, 44, 45, 46] (by decide +kernel) (by decide +kernel)
set_option maxRecDepth 20000 in
theorem gX7_get_X5_findingAt : GoodIn wsX7_get (wsV RX7 222 RX5 yX5_findingAt wsX5_findingAt) := goodIn_app (goodIn_of _ (by decide +kernel)) ggX7_get_X5_findingAt
set_option maxRecDepth 20000 in
theorem ggX7_get_X5_item : GoodIn wsX7_get wsX5_item := goodIn_r _ [34, 35, 25, 26, 27, 28, 29, 30, 43, 44, 45, 46] (by decide +kernel) (by decide +kernel)
set_option maxRecDepth 20000 in
theorem gX7_get_X5_item : GoodIn wsX7_get (wsV RX7 144 RX5 yX5_item wsX5_item) := goodIn_app (goodIn_of _ (by decide +kernel)) ggX7_get_X5_item
theorem dX7_get_0 : decode cX7_get 0 = .ok (.iload_n 1, 1) := by decide +kernel
theorem dX7_get_1 : decode cX7_get 1 = .ok (.invokestatic 132, 3) := by decide +kernel
theorem dX7_get_4 : decode cX7_get 4 = .ok (.ifCond .eq 10, 3) := by decide +kernel
theorem dX7_get_7 : decode cX7_get 7 = .ok (.iload_n 2, 1) := by decide +kernel
theorem dX7_get_8 : decode cX7_get 8 = .ok (.invokestatic 214, 3) := by decide +kernel
theorem dX7_get_11 : decode cX7_get 11 = .ok (.ifCond .ne 6, 3) := by decide +kernel
theorem dX7_get_14 : decode cX7_get 14 = .ok (.ldc 228, 2) := by decide +kernel
theorem dX7_get_16 : decode cX7_get 16 = .ok (.ireturn, 1) := by decide +kernel
theorem dX7_get_17 : decode cX7_get 17 = .ok (.aload_n 0, 1) := by decide +kernel
theorem dX7_get_18 : decode cX7_get 18 = .ok (.getfield 53, 3) := by decide +kernel
theorem dX7_get_21 : decode cX7_get 21 = .ok (.iload_n 1, 1) := by decide +kernel
theorem dX7_get_22 : decode cX7_get 22 = .ok (.iload_n 2, 1) := by decide +kernel
theorem dX7_get_23 : decode cX7_get 23 = .ok (.iload_n 3, 1) := by decide +kernel
theorem dX7_get_24 : decode cX7_get 24 = .ok (.invokevirtual 222, 3) := by decide +kernel
theorem dX7_get_27 : decode cX7_get 27 = .ok (.istore 4, 2) := by decide +kernel
theorem dX7_get_29 : decode cX7_get 29 = .ok (.iload 4, 2) := by decide +kernel
theorem dX7_get_31 : decode cX7_get 31 = .ok (.ifCond .eq 12, 3) := by decide +kernel
theorem dX7_get_34 : decode cX7_get 34 = .ok (.aload_n 0, 1) := by decide +kernel
theorem dX7_get_35 : decode cX7_get 35 = .ok (.iload 4, 2) := by decide +kernel
theorem dX7_get_37 : decode cX7_get 37 = .ok (.putfield 57, 3) := by decide +kernel
theorem dX7_get_40 : decode cX7_get 40 = .ok (.ldc 228, 2) := by decide +kernel
theorem dX7_get_42 : decode cX7_get 42 = .ok (.ireturn, 1) := by decide +kernel
theorem dX7_get_43 : decode cX7_get 43 = .ok (.aload_n 0, 1) := by decide +kernel
theorem dX7_get_44 : decode cX7_get 44 = .ok (.getfield 53, 3) := by decide +kernel
theorem dX7_get_47 : decode cX7_get 47 = .ok (.iload_n 1, 1) := by decide +kernel
theorem dX7_get_48 : decode cX7_get 48 = .ok (.iload_n 3, 1) := by decide +kernel
theorem dX7_get_49 : decode cX7_get 49 = .ok (.invokevirtual 144, 3) := by decide +kernel
theorem dX7_get_52 : decode cX7_get 52 = .ok (.ireturn, 1) := by decide +kernel
set_option maxRecDepth 20000 in
theorem ggX7_copy_X7_isSheet : GoodIn wsX7_copy wsX7_isSheet := goodIn_r _ [5, 6, 7, 4, 8] (by decide +kernel) (by decide +kernel)
set_option maxRecDepth 20000 in
theorem gX7_copy_X7_isSheet : GoodIn wsX7_copy (va_wsS RX7 132 yX7_isSheet wsX7_isSheet) := goodIn_app (goodIn_of _ (by decide +kernel)) ggX7_copy_X7_isSheet
set_option maxRecDepth 20000 in
theorem ggX7_copy_X5_isLost : GoodIn wsX7_copy wsX5_isLost := goodIn_r _ [13, 14, 15, 16, 17, 18, 19, 20, 59, 60, 61, 62] (by decide +kernel) (by decide +kernel)
set_option maxRecDepth 20000 in
theorem gX7_copy_X5_isLost : GoodIn wsX7_copy (wsV RX7 135 RX5 yX5_isLost wsX5_isLost) := goodIn_app (goodIn_of _ (by decide +kernel)) ggX7_copy_X5_isLost
set_option maxRecDepth 20000 in
theorem ggX7_copy_X7_find : GoodIn wsX7_copy wsX7_find := goodIn_r _ [24, 25, 52, 53, 54, 55, 56, 57, 58] (by decide +kernel) (by decide +kernel)
set_option maxRecDepth 20000 in
theorem gX7_copy_X7_find : GoodIn wsX7_copy (wsV RX7 138 RX7 yX7_find wsX7_find) := goodIn_app (goodIn_of _ (by decide +kernel)) ggX7_copy_X7_find
set_option maxRecDepth 20000 in
theorem ggX7_copy_X4_read : GoodIn wsX7_copy wsX4_read := goodIn_r _ [19, 20, 62] (by decide +kernel) (by decide +kernel)
set_option maxRecDepth 20000 in
theorem gX7_copy_X4_read : GoodIn wsX7_copy (wsV RX7 90 RX4 yX4_read wsX4_read) := goodIn_app (goodIn_of _ (by decide +kernel)) ggX7_copy_X4_read
set_option maxRecDepth 20000 in
theorem ggX7_copy_X5_holds : GoodIn wsX7_copy wsX5_holds := goodIn_r _ [30, 31, 15, 16, 17, 18, 19, 20, 59, 60, 61, 62] (by decide +kernel) (by decide +kernel)
set_option maxRecDepth 20000 in
theorem gX7_copy_X5_holds : GoodIn wsX7_copy (wsV RX7 141 RX5 yX5_holds wsX5_holds) := goodIn_app (goodIn_of _ (by decide +kernel)) ggX7_copy_X5_holds
set_option maxRecDepth 20000 in
theorem ggX7_copy_X5_moveItems : GoodIn wsX7_copy wsX5_moveItems := goodIn_r _ [35, 36, 37, 38, 12, 39, 40, 15, 16, 17, 18, 19, 20, 41, 42, 43, 44, 14, 45, 46, 47, 48, 49, 50, 51, 59, 60, 61, 62] (by decide +kernel) (by decide +kernel)
set_option maxRecDepth 20000 in
theorem gX7_copy_X5_moveItems : GoodIn wsX7_copy (wsV RX7 232 RX5 yX5_moveItems wsX5_moveItems) := goodIn_app (goodIn_of _ (by decide +kernel)) ggX7_copy_X5_moveItems
theorem dX7_copy_0 : decode cX7_copy 0 = .ok (.iload_n 1, 1) := by decide +kernel
theorem dX7_copy_1 : decode cX7_copy 1 = .ok (.invokestatic 132, 3) := by decide +kernel
theorem dX7_copy_4 : decode cX7_copy 4 = .ok (.ifCond .eq 10, 3) := by decide +kernel
theorem dX7_copy_7 : decode cX7_copy 7 = .ok (.iload_n 3, 1) := by decide +kernel
theorem dX7_copy_8 : decode cX7_copy 8 = .ok (.invokestatic 132, 3) := by decide +kernel
theorem dX7_copy_11 : decode cX7_copy 11 = .ok (.ifCond .ne 6, 3) := by decide +kernel
theorem dX7_copy_14 : decode cX7_copy 14 = .ok (.bipush (-2), 2) := by decide +kernel
theorem dX7_copy_16 : decode cX7_copy 16 = .ok (.ireturn, 1) := by decide +kernel
theorem dX7_copy_17 : decode cX7_copy 17 = .ok (.aload_n 0, 1) := by decide +kernel
theorem dX7_copy_18 : decode cX7_copy 18 = .ok (.getfield 53, 3) := by decide +kernel
theorem dX7_copy_21 : decode cX7_copy 21 = .ok (.iload_n 1, 1) := by decide +kernel
theorem dX7_copy_22 : decode cX7_copy 22 = .ok (.invokevirtual 135, 3) := by decide +kernel
theorem dX7_copy_25 : decode cX7_copy 25 = .ok (.ifCond .ne 14, 3) := by decide +kernel
theorem dX7_copy_28 : decode cX7_copy 28 = .ok (.aload_n 0, 1) := by decide +kernel
theorem dX7_copy_29 : decode cX7_copy 29 = .ok (.getfield 53, 3) := by decide +kernel
theorem dX7_copy_32 : decode cX7_copy 32 = .ok (.iload_n 3, 1) := by decide +kernel
theorem dX7_copy_33 : decode cX7_copy 33 = .ok (.invokevirtual 135, 3) := by decide +kernel
theorem dX7_copy_36 : decode cX7_copy 36 = .ok (.ifCond .eq 9, 3) := by decide +kernel
theorem dX7_copy_39 : decode cX7_copy 39 = .ok (.aload_n 0, 1) := by decide +kernel
theorem dX7_copy_40 : decode cX7_copy 40 = .ok (.iconst 1, 1) := by decide +kernel
theorem dX7_copy_41 : decode cX7_copy 41 = .ok (.invokevirtual 138, 3) := by decide +kernel
theorem dX7_copy_44 : decode cX7_copy 44 = .ok (.ireturn, 1) := by decide +kernel
theorem dX7_copy_45 : decode cX7_copy 45 = .ok (.aload_n 0, 1) := by decide +kernel
theorem dX7_copy_46 : decode cX7_copy 46 = .ok (.getfield 53, 3) := by decide +kernel
theorem dX7_copy_49 : decode cX7_copy 49 = .ok (.getfield 229, 3) := by decide +kernel
theorem dX7_copy_52 : decode cX7_copy 52 = .ok (.iload_n 1, 1) := by decide +kernel
theorem dX7_copy_53 : decode cX7_copy 53 = .ok (.invokevirtual 90, 3) := by decide +kernel
theorem dX7_copy_56 : decode cX7_copy 56 = .ok (.aload_n 0, 1) := by decide +kernel
theorem dX7_copy_57 : decode cX7_copy 57 = .ok (.getfield 53, 3) := by decide +kernel
theorem dX7_copy_60 : decode cX7_copy 60 = .ok (.getfield 229, 3) := by decide +kernel
theorem dX7_copy_63 : decode cX7_copy 63 = .ok (.iload_n 3, 1) := by decide +kernel
theorem dX7_copy_64 : decode cX7_copy 64 = .ok (.invokevirtual 90, 3) := by decide +kernel
theorem dX7_copy_67 : decode cX7_copy 67 = .ok (.if_icmp .eq 9, 3) := by decide +kernel
theorem dX7_copy_70 : decode cX7_copy 70 = .ok (.aload_n 0, 1) := by decide +kernel
theorem dX7_copy_71 : decode cX7_copy 71 = .ok (.iconst 4, 1) := by decide +kernel
theorem dX7_copy_72 : decode cX7_copy 72 = .ok (.invokevirtual 138, 3) := by decide +kernel
theorem dX7_copy_75 : decode cX7_copy 75 = .ok (.ireturn, 1) := by decide +kernel
theorem dX7_copy_76 : decode cX7_copy 76 = .ok (.aload_n 0, 1) := by decide +kernel
theorem dX7_copy_77 : decode cX7_copy 77 = .ok (.getfield 53, 3) := by decide +kernel
theorem dX7_copy_80 : decode cX7_copy 80 = .ok (.iload_n 1, 1) := by decide +kernel
theorem dX7_copy_81 : decode cX7_copy 81 = .ok (.iload_n 2, 1) := by decide +kernel
theorem dX7_copy_82 : decode cX7_copy 82 = .ok (.iload 5, 2) := by decide +kernel
theorem dX7_copy_84 : decode cX7_copy 84 = .ok (.invokevirtual 141, 3) := by decide +kernel
theorem dX7_copy_87 : decode cX7_copy 87 = .ok (.ifCond .eq 18, 3) := by decide +kernel
theorem dX7_copy_90 : decode cX7_copy 90 = .ok (.aload_n 0, 1) := by decide +kernel
theorem dX7_copy_91 : decode cX7_copy 91 = .ok (.getfield 53, 3) := by decide +kernel
theorem dX7_copy_94 : decode cX7_copy 94 = .ok (.iload_n 3, 1) := by decide +kernel
theorem dX7_copy_95 : decode cX7_copy 95 = .ok (.iload 4, 2) := by decide +kernel
theorem dX7_copy_97 : decode cX7_copy 97 = .ok (.iload 5, 2) := by decide +kernel
theorem dX7_copy_99 : decode cX7_copy 99 = .ok (.invokevirtual 141, 3) := by decide +kernel
theorem dX7_copy_102 : decode cX7_copy 102 = .ok (.ifCond .ne 9, 3) := by decide +kernel
theorem dX7_copy_105 : decode cX7_copy 105 = .ok (.aload_n 0, 1) := by decide +kernel
theorem dX7_copy_106 : decode cX7_copy 106 = .ok (.iconst 2, 1) := by decide +kernel
theorem dX7_copy_107 : decode cX7_copy 107 = .ok (.invokevirtual 138, 3) := by decide +kernel
theorem dX7_copy_110 : decode cX7_copy 110 = .ok (.ireturn, 1) := by decide +kernel
theorem dX7_copy_111 : decode cX7_copy 111 = .ok (.aload_n 0, 1) := by decide +kernel
theorem dX7_copy_112 : decode cX7_copy 112 = .ok (.getfield 53, 3) := by decide +kernel
theorem dX7_copy_115 : decode cX7_copy 115 = .ok (.iload_n 1, 1) := by decide +kernel
theorem dX7_copy_116 : decode cX7_copy 116 = .ok (.iload_n 2, 1) := by decide +kernel
theorem dX7_copy_117 : decode cX7_copy 117 = .ok (.iload_n 3, 1) := by decide +kernel
theorem dX7_copy_118 : decode cX7_copy 118 = .ok (.iload 4, 2) := by decide +kernel
theorem dX7_copy_120 : decode cX7_copy 120 = .ok (.iload 5, 2) := by decide +kernel
theorem dX7_copy_122 : decode cX7_copy 122 = .ok (.invokevirtual 232, 3) := by decide +kernel
theorem dX7_copy_125 : decode cX7_copy 125 = .ok (.iconst 1, 1) := by decide +kernel
theorem dX7_copy_126 : decode cX7_copy 126 = .ok (.ireturn, 1) := by decide +kernel
set_option maxRecDepth 20000 in
theorem ggX7_list_X7_isSheet : GoodIn wsX7_list wsX7_isSheet := goodIn_r _ [6, 7, 8, 5, 9] (by decide +kernel) (by decide +kernel)
set_option maxRecDepth 20000 in
theorem gX7_list_X7_isSheet : GoodIn wsX7_list (va_wsS RX7 132 yX7_isSheet wsX7_isSheet) := goodIn_app (goodIn_of _ (by decide +kernel)) ggX7_list_X7_isSheet
set_option maxRecDepth 20000 in
theorem ggX7_list_X7_isOwnerOrAny : GoodIn wsX7_list wsX7_isOwnerOrAny := goodIn_r _ [12, 13, 14, 5, 15, 7, 8, 9] (by decide +kernel) (by decide +kernel)
set_option maxRecDepth 20000 in
theorem gX7_list_X7_isOwnerOrAny : GoodIn wsX7_list (va_wsS RX7 119 yX7_isOwnerOrAny wsX7_isOwnerOrAny) := goodIn_app (goodIn_of _ (by decide +kernel)) ggX7_list_X7_isOwnerOrAny
set_option maxRecDepth 20000 in
theorem ggX7_list_X7_isPlace : GoodIn wsX7_list wsX7_isPlace := goodIn_r _ [18, 7, 8, 5, 9] (by decide +kernel) (by decide +kernel)
set_option maxRecDepth 20000 in
theorem gX7_list_X7_isPlace : GoodIn wsX7_list (va_wsS RX7 125 yX7_isPlace wsX7_isPlace) := goodIn_app (goodIn_of _ (by decide +kernel)) ggX7_list_X7_isPlace
set_option maxRecDepth 20000 in
theorem ggX7_list_X5_isLost : GoodIn wsX7_list wsX5_isLost := goodIn_r _ [23, 24, 25, 26, 27, 28, 29, 30, 65, 66, 67, 75] (by decide +kernel) (by decide +kernel)
set_option maxRecDepth 20000 in
theorem gX7_list_X5_isLost : GoodIn wsX7_list (wsV RX7 135 RX5 yX5_isLost wsX5_isLost) := goodIn_app (goodIn_of _ (by decide +kernel)) ggX7_list_X5_isLost
set_option maxRecDepth 20000 in
theorem ggX7_list_X7_find : GoodIn wsX7_list wsX7_find := goodIn_r _ [34, 35, 58, 59, 60, 61, 62, 63, 64] (by decide +kernel) (by decide +kernel)
set_option maxRecDepth 20000 in
theorem gX7_list_X7_find : GoodIn wsX7_list (wsV RX7 138 RX7 yX7_find wsX7_find) := goodIn_app (goodIn_of _ (by decide +kernel)) ggX7_list_X7_find
set_option maxRecDepth 20000 in
theorem ggX7_list_X4_read : GoodIn wsX7_list wsX4_read := goodIn_r _ [29, 30, 75] (by decide +kernel) (by decide +kernel)
set_option maxRecDepth 20000 in
theorem gX7_list_X4_read : GoodIn wsX7_list (wsV RX7 90 RX4 yX4_read wsX4_read) := goodIn_app (goodIn_of _ (by decide +kernel)) ggX7_list_X4_read
set_option maxRecDepth 20000 in
theorem ggX7_list_X2_fits : GoodIn wsX7_list wsX2_fits := goodIn_r _ [41, 42, 43, 44, 45, 26, 27, 28, 29, 30, 68, 69, 70, 71, 72, 73, 74, 75] (by decide +kernel) (by decide +kernel)
set_option maxRecDepth 20000 in
theorem gX7_list_X2_fits : GoodIn wsX7_list (wsV RX7 236 RX2 yX2_fits wsX2_fits) := goodIn_app (goodIn_of _ (by decide +kernel)) ggX7_list_X2_fits
set_option maxRecDepth 20000 in
theorem ggX7_list_X5_setItem : GoodIn wsX7_list wsX5_setItem := goodIn_r _ [49, 50, 24, 25, 26, 27, 28, 29, 30, 51, 52, 22, 53, 54, 55, 56, 57, 65, 66, 67, 75] (by decide +kernel) (by decide +kernel)
set_option maxRecDepth 20000 in
theorem gX7_list_X5_setItem : GoodIn wsX7_list (wsV RX7 225 RX5 yX5_setItem wsX5_setItem) := goodIn_app (goodIn_of _ (by decide +kernel)) ggX7_list_X5_setItem
theorem dX7_list_0 : decode cX7_list 0 = .ok (.iload_n 1, 1) := by decide +kernel
theorem dX7_list_1 : decode cX7_list 1 = .ok (.invokestatic 132, 3) := by decide +kernel
theorem dX7_list_4 : decode cX7_list 4 = .ok (.ifCond .eq 17, 3) := by decide +kernel
theorem dX7_list_7 : decode cX7_list 7 = .ok (.iload_n 2, 1) := by decide +kernel
theorem dX7_list_8 : decode cX7_list 8 = .ok (.invokestatic 119, 3) := by decide +kernel
theorem dX7_list_11 : decode cX7_list 11 = .ok (.ifCond .eq 10, 3) := by decide +kernel
theorem dX7_list_14 : decode cX7_list 14 = .ok (.iload_n 3, 1) := by decide +kernel
theorem dX7_list_15 : decode cX7_list 15 = .ok (.invokestatic 125, 3) := by decide +kernel
theorem dX7_list_18 : decode cX7_list 18 = .ok (.ifCond .ne 6, 3) := by decide +kernel
theorem dX7_list_21 : decode cX7_list 21 = .ok (.bipush (-2), 2) := by decide +kernel
theorem dX7_list_23 : decode cX7_list 23 = .ok (.ireturn, 1) := by decide +kernel
theorem dX7_list_24 : decode cX7_list 24 = .ok (.aload_n 0, 1) := by decide +kernel
theorem dX7_list_25 : decode cX7_list 25 = .ok (.getfield 53, 3) := by decide +kernel
theorem dX7_list_28 : decode cX7_list 28 = .ok (.iload_n 1, 1) := by decide +kernel
theorem dX7_list_29 : decode cX7_list 29 = .ok (.invokevirtual 135, 3) := by decide +kernel
theorem dX7_list_32 : decode cX7_list 32 = .ok (.ifCond .eq 9, 3) := by decide +kernel
theorem dX7_list_35 : decode cX7_list 35 = .ok (.aload_n 0, 1) := by decide +kernel
theorem dX7_list_36 : decode cX7_list 36 = .ok (.iconst 1, 1) := by decide +kernel
theorem dX7_list_37 : decode cX7_list 37 = .ok (.invokevirtual 138, 3) := by decide +kernel
theorem dX7_list_40 : decode cX7_list 40 = .ok (.ireturn, 1) := by decide +kernel
theorem dX7_list_41 : decode cX7_list 41 = .ok (.aload_n 0, 1) := by decide +kernel
theorem dX7_list_42 : decode cX7_list 42 = .ok (.getfield 53, 3) := by decide +kernel
theorem dX7_list_45 : decode cX7_list 45 = .ok (.getfield 221, 3) := by decide +kernel
theorem dX7_list_48 : decode cX7_list 48 = .ok (.iload_n 1, 1) := by decide +kernel
theorem dX7_list_49 : decode cX7_list 49 = .ok (.invokevirtual 90, 3) := by decide +kernel
theorem dX7_list_52 : decode cX7_list 52 = .ok (.istore 4, 2) := by decide +kernel
theorem dX7_list_54 : decode cX7_list 54 = .ok (.iconst 0, 1) := by decide +kernel
theorem dX7_list_55 : decode cX7_list 55 = .ok (.istore 5, 2) := by decide +kernel
theorem dX7_list_57 : decode cX7_list 57 = .ok (.iconst 0, 1) := by decide +kernel
theorem dX7_list_58 : decode cX7_list 58 = .ok (.istore 6, 2) := by decide +kernel
theorem dX7_list_60 : decode cX7_list 60 = .ok (.iload 6, 2) := by decide +kernel
theorem dX7_list_62 : decode cX7_list 62 = .ok (.aload_n 0, 1) := by decide +kernel
theorem dX7_list_63 : decode cX7_list 63 = .ok (.getfield 19, 3) := by decide +kernel
theorem dX7_list_66 : decode cX7_list 66 = .ok (.getfield 79, 3) := by decide +kernel
theorem dX7_list_69 : decode cX7_list 69 = .ok (.if_icmp .ge 46, 3) := by decide +kernel
theorem dX7_list_72 : decode cX7_list 72 = .ok (.iload 5, 2) := by decide +kernel
theorem dX7_list_74 : decode cX7_list 74 = .ok (.iload 4, 2) := by decide +kernel
theorem dX7_list_76 : decode cX7_list 76 = .ok (.if_icmp .ge 39, 3) := by decide +kernel
theorem dX7_list_79 : decode cX7_list 79 = .ok (.aload_n 0, 1) := by decide +kernel
theorem dX7_list_80 : decode cX7_list 80 = .ok (.getfield 19, 3) := by decide +kernel
theorem dX7_list_83 : decode cX7_list 83 = .ok (.iload 6, 2) := by decide +kernel
theorem dX7_list_85 : decode cX7_list 85 = .ok (.iload_n 2, 1) := by decide +kernel
theorem dX7_list_86 : decode cX7_list 86 = .ok (.iconst (-1), 1) := by decide +kernel
theorem dX7_list_87 : decode cX7_list 87 = .ok (.iload_n 3, 1) := by decide +kernel
theorem dX7_list_88 : decode cX7_list 88 = .ok (.invokevirtual 236, 3) := by decide +kernel
theorem dX7_list_91 : decode cX7_list 91 = .ok (.ifCond .eq 18, 3) := by decide +kernel
theorem dX7_list_94 : decode cX7_list 94 = .ok (.aload_n 0, 1) := by decide +kernel
theorem dX7_list_95 : decode cX7_list 95 = .ok (.getfield 53, 3) := by decide +kernel
theorem dX7_list_98 : decode cX7_list 98 = .ok (.iload_n 1, 1) := by decide +kernel
theorem dX7_list_99 : decode cX7_list 99 = .ok (.iload 5, 2) := by decide +kernel
theorem dX7_list_101 : decode cX7_list 101 = .ok (.iload 6, 2) := by decide +kernel
theorem dX7_list_103 : decode cX7_list 103 = .ok (.invokevirtual 225, 3) := by decide +kernel
theorem dX7_list_106 : decode cX7_list 106 = .ok (.iinc 5 1, 3) := by decide +kernel
theorem dX7_list_109 : decode cX7_list 109 = .ok (.iinc 6 1, 3) := by decide +kernel
theorem dX7_list_112 : decode cX7_list 112 = .ok (.goto (-52), 3) := by decide +kernel
theorem dX7_list_115 : decode cX7_list 115 = .ok (.iload 5, 2) := by decide +kernel
theorem dX7_list_117 : decode cX7_list 117 = .ok (.ireturn, 1) := by decide +kernel
theorem dX7_count_0 : decode cX7_count 0 = .ok (.iload_n 1, 1) := by decide +kernel
theorem dX7_count_1 : decode cX7_count 1 = .ok (.tableswitch 108 0 7 #[47, 55, 63, 71, 79, 87, 95, 100], 47) := by decide +kernel
theorem dX7_count_48 : decode cX7_count 48 = .ok (.aload_n 0, 1) := by decide +kernel
theorem dX7_count_49 : decode cX7_count 49 = .ok (.getfield 12, 3) := by decide +kernel
theorem dX7_count_52 : decode cX7_count 52 = .ok (.getfield 65, 3) := by decide +kernel
theorem dX7_count_55 : decode cX7_count 55 = .ok (.ireturn, 1) := by decide +kernel
theorem dX7_count_56 : decode cX7_count 56 = .ok (.aload_n 0, 1) := by decide +kernel
theorem dX7_count_57 : decode cX7_count 57 = .ok (.getfield 19, 3) := by decide +kernel
theorem dX7_count_60 : decode cX7_count 60 = .ok (.getfield 79, 3) := by decide +kernel
theorem dX7_count_63 : decode cX7_count 63 = .ok (.ireturn, 1) := by decide +kernel
theorem dX7_count_64 : decode cX7_count 64 = .ok (.aload_n 0, 1) := by decide +kernel
theorem dX7_count_65 : decode cX7_count 65 = .ok (.getfield 28, 3) := by decide +kernel
theorem dX7_count_68 : decode cX7_count 68 = .ok (.getfield 147, 3) := by decide +kernel
theorem dX7_count_71 : decode cX7_count 71 = .ok (.ireturn, 1) := by decide +kernel
theorem dX7_count_72 : decode cX7_count 72 = .ok (.aload_n 0, 1) := by decide +kernel
theorem dX7_count_73 : decode cX7_count 73 = .ok (.getfield 46, 3) := by decide +kernel
theorem dX7_count_76 : decode cX7_count 76 = .ok (.getfield 190, 3) := by decide +kernel
theorem dX7_count_79 : decode cX7_count 79 = .ok (.ireturn, 1) := by decide +kernel
theorem dX7_count_80 : decode cX7_count 80 = .ok (.aload_n 0, 1) := by decide +kernel
theorem dX7_count_81 : decode cX7_count 81 = .ok (.getfield 46, 3) := by decide +kernel
theorem dX7_count_84 : decode cX7_count 84 = .ok (.getfield 193, 3) := by decide +kernel
theorem dX7_count_87 : decode cX7_count 87 = .ok (.ireturn, 1) := by decide +kernel
theorem dX7_count_88 : decode cX7_count 88 = .ok (.aload_n 0, 1) := by decide +kernel
theorem dX7_count_89 : decode cX7_count 89 = .ok (.getfield 46, 3) := by decide +kernel
theorem dX7_count_92 : decode cX7_count 92 = .ok (.getfield 196, 3) := by decide +kernel
theorem dX7_count_95 : decode cX7_count 95 = .ok (.ireturn, 1) := by decide +kernel
theorem dX7_count_96 : decode cX7_count 96 = .ok (.aload_n 0, 1) := by decide +kernel
theorem dX7_count_97 : decode cX7_count 97 = .ok (.getfield 57, 3) := by decide +kernel
theorem dX7_count_100 : decode cX7_count 100 = .ok (.ireturn, 1) := by decide +kernel
theorem dX7_count_101 : decode cX7_count 101 = .ok (.aload_n 0, 1) := by decide +kernel
theorem dX7_count_102 : decode cX7_count 102 = .ok (.getfield 46, 3) := by decide +kernel
theorem dX7_count_105 : decode cX7_count 105 = .ok (.getfield 240, 3) := by decide +kernel
theorem dX7_count_108 : decode cX7_count 108 = .ok (.ireturn, 1) := by decide +kernel
theorem dX7_count_109 : decode cX7_count 109 = .ok (.bipush (-2), 2) := by decide +kernel
theorem dX7_count_111 : decode cX7_count 111 = .ok (.ireturn, 1) := by decide +kernel
set_option maxRecDepth 20000 in
theorem ggX7_digest_X7_count : GoodIn wsX7_digest wsX7_count := goodIn_r _ [9, 10, 3, 4, 11, 12, 42, 43, 44, 45, 46, 47, 48, 61, 62, 63, 64, 65, 66, 49, 50, 51, 52, 53, 54, 55, 56, 57, 58, 59, 60, 67, 68, 69, 70, 71, 72, 73, 74, 75, 76, 77, 78, 79, 80, 81, 82] (by decide +kernel) (by decide +kernel)
set_option maxRecDepth 20000 in
theorem gX7_digest_X7_count : GoodIn wsX7_digest (wsV RX7 246 RX7 yX7_count wsX7_count) := goodIn_app (goodIn_of _ (by decide +kernel)) ggX7_digest_X7_count
set_option maxRecDepth 20000 in
theorem ggX7_digest_X7_about : GoodIn wsX7_digest wsX7_about := goodIn_r _ [16, 3, 17, 18, 19, 8, 20, 21, 22, 23, 24, 25, 26, 27, 28, 29, 42, 43, 44, 45, 46, 47, 48, 49, 50, 51, 52, 53, 54, 55, 83] (by decide +kernel) (by decide +kernel)
set_option maxRecDepth 20000 in
theorem gX7_digest_X7_about : GoodIn wsX7_digest (wsV RX7 249 RX7 yX7_about wsX7_about) := goodIn_app (goodIn_of _ (by decide +kernel)) ggX7_digest_X7_about
set_option maxRecDepth 20000 in
theorem ggX7_digest_X7_at : GoodIn wsX7_digest wsX7_at := goodIn_r _ [33, 4, 34, 35, 36, 8, 37, 21, 22, 23, 24, 25, 26, 27, 28, 29, 42, 43, 44, 45, 46, 47, 48, 56, 57, 58, 59, 60, 83] (by decide +kernel) (by decide +kernel)
set_option maxRecDepth 20000 in
theorem gX7_digest_X7_at : GoodIn wsX7_digest (wsV RX7 252 RX7 yX7_at wsX7_at) := goodIn_app (goodIn_of _ (by decide +kernel)) ggX7_digest_X7_at
set_option maxRecDepth 20000 in
theorem ggX7_digest_X7_washed : GoodIn wsX7_digest wsX7_washed := goodIn_r _ [41, 11, 21, 22, 8, 23, 24, 25, 26, 27, 28, 29, 42, 43, 44, 45, 46, 47, 48, 67, 68, 69, 70, 71, 72, 73, 74, 75, 76, 77, 78, 79, 80, 81, 82, 83] (by decide +kernel) (by decide +kernel)
set_option maxRecDepth 20000 in
theorem gX7_digest_X7_washed : GoodIn wsX7_digest (wsV RX7 255 RX7 yX7_washed wsX7_washed) := goodIn_app (goodIn_of _ (by decide +kernel)) ggX7_digest_X7_washed
theorem dX7_digest_0 : decode cX7_digest 0 = .ok (.ldc2_w 242, 3) := by decide +kernel
theorem dX7_digest_3 : decode cX7_digest 3 = .ok (.lstore_n 1, 1) := by decide +kernel
theorem dX7_digest_4 : decode cX7_digest 4 = .ok (.iconst 0, 1) := by decide +kernel
theorem dX7_digest_5 : decode cX7_digest 5 = .ok (.istore_n 3, 1) := by decide +kernel
theorem dX7_digest_6 : decode cX7_digest 6 = .ok (.iload_n 3, 1) := by decide +kernel
theorem dX7_digest_7 : decode cX7_digest 7 = .ok (.iconst 5, 1) := by decide +kernel
theorem dX7_digest_8 : decode cX7_digest 8 = .ok (.if_icmp .gt 22, 3) := by decide +kernel
theorem dX7_digest_11 : decode cX7_digest 11 = .ok (.ldc2_w 244, 3) := by decide +kernel
theorem dX7_digest_14 : decode cX7_digest 14 = .ok (.lload_n 1, 1) := by decide +kernel
theorem dX7_digest_15 : decode cX7_digest 15 = .ok (.lmul, 1) := by decide +kernel
theorem dX7_digest_16 : decode cX7_digest 16 = .ok (.aload_n 0, 1) := by decide +kernel
theorem dX7_digest_17 : decode cX7_digest 17 = .ok (.iload_n 3, 1) := by decide +kernel
theorem dX7_digest_18 : decode cX7_digest 18 = .ok (.invokevirtual 246, 3) := by decide +kernel
theorem dX7_digest_21 : decode cX7_digest 21 = .ok (.i2l, 1) := by decide +kernel
theorem dX7_digest_22 : decode cX7_digest 22 = .ok (.ladd, 1) := by decide +kernel
theorem dX7_digest_23 : decode cX7_digest 23 = .ok (.lstore_n 1, 1) := by decide +kernel
theorem dX7_digest_24 : decode cX7_digest 24 = .ok (.iinc 3 1, 3) := by decide +kernel
theorem dX7_digest_27 : decode cX7_digest 27 = .ok (.goto (-21), 3) := by decide +kernel
theorem dX7_digest_30 : decode cX7_digest 30 = .ok (.ldc2_w 244, 3) := by decide +kernel
theorem dX7_digest_33 : decode cX7_digest 33 = .ok (.lload_n 1, 1) := by decide +kernel
theorem dX7_digest_34 : decode cX7_digest 34 = .ok (.lmul, 1) := by decide +kernel
theorem dX7_digest_35 : decode cX7_digest 35 = .ok (.aload_n 0, 1) := by decide +kernel
theorem dX7_digest_36 : decode cX7_digest 36 = .ok (.bipush 7, 2) := by decide +kernel
theorem dX7_digest_38 : decode cX7_digest 38 = .ok (.invokevirtual 246, 3) := by decide +kernel
theorem dX7_digest_41 : decode cX7_digest 41 = .ok (.i2l, 1) := by decide +kernel
theorem dX7_digest_42 : decode cX7_digest 42 = .ok (.ladd, 1) := by decide +kernel
theorem dX7_digest_43 : decode cX7_digest 43 = .ok (.lstore_n 1, 1) := by decide +kernel
theorem dX7_digest_44 : decode cX7_digest 44 = .ok (.iconst 0, 1) := by decide +kernel
theorem dX7_digest_45 : decode cX7_digest 45 = .ok (.istore_n 3, 1) := by decide +kernel
theorem dX7_digest_46 : decode cX7_digest 46 = .ok (.iload_n 3, 1) := by decide +kernel
theorem dX7_digest_47 : decode cX7_digest 47 = .ok (.aload_n 0, 1) := by decide +kernel
theorem dX7_digest_48 : decode cX7_digest 48 = .ok (.getfield 19, 3) := by decide +kernel
theorem dX7_digest_51 : decode cX7_digest 51 = .ok (.getfield 79, 3) := by decide +kernel
theorem dX7_digest_54 : decode cX7_digest 54 = .ok (.if_icmp .ge 39, 3) := by decide +kernel
theorem dX7_digest_57 : decode cX7_digest 57 = .ok (.iconst 2, 1) := by decide +kernel
theorem dX7_digest_58 : decode cX7_digest 58 = .ok (.istore 4, 2) := by decide +kernel
theorem dX7_digest_60 : decode cX7_digest 60 = .ok (.iload 4, 2) := by decide +kernel
theorem dX7_digest_62 : decode cX7_digest 62 = .ok (.iconst 5, 1) := by decide +kernel
theorem dX7_digest_63 : decode cX7_digest 63 = .ok (.if_icmp .gt 24, 3) := by decide +kernel
theorem dX7_digest_66 : decode cX7_digest 66 = .ok (.ldc2_w 244, 3) := by decide +kernel
theorem dX7_digest_69 : decode cX7_digest 69 = .ok (.lload_n 1, 1) := by decide +kernel
theorem dX7_digest_70 : decode cX7_digest 70 = .ok (.lmul, 1) := by decide +kernel
theorem dX7_digest_71 : decode cX7_digest 71 = .ok (.aload_n 0, 1) := by decide +kernel
theorem dX7_digest_72 : decode cX7_digest 72 = .ok (.iload_n 3, 1) := by decide +kernel
theorem dX7_digest_73 : decode cX7_digest 73 = .ok (.iload 4, 2) := by decide +kernel
theorem dX7_digest_75 : decode cX7_digest 75 = .ok (.invokevirtual 249, 3) := by decide +kernel
theorem dX7_digest_78 : decode cX7_digest 78 = .ok (.i2l, 1) := by decide +kernel
theorem dX7_digest_79 : decode cX7_digest 79 = .ok (.ladd, 1) := by decide +kernel
theorem dX7_digest_80 : decode cX7_digest 80 = .ok (.lstore_n 1, 1) := by decide +kernel
theorem dX7_digest_81 : decode cX7_digest 81 = .ok (.iinc 4 1, 3) := by decide +kernel
theorem dX7_digest_84 : decode cX7_digest 84 = .ok (.goto (-24), 3) := by decide +kernel
theorem dX7_digest_87 : decode cX7_digest 87 = .ok (.iinc 3 1, 3) := by decide +kernel
theorem dX7_digest_90 : decode cX7_digest 90 = .ok (.goto (-44), 3) := by decide +kernel
theorem dX7_digest_93 : decode cX7_digest 93 = .ok (.iconst 0, 1) := by decide +kernel
theorem dX7_digest_94 : decode cX7_digest 94 = .ok (.istore_n 3, 1) := by decide +kernel
theorem dX7_digest_95 : decode cX7_digest 95 = .ok (.iload_n 3, 1) := by decide +kernel
theorem dX7_digest_96 : decode cX7_digest 96 = .ok (.aload_n 0, 1) := by decide +kernel
theorem dX7_digest_97 : decode cX7_digest 97 = .ok (.getfield 28, 3) := by decide +kernel
theorem dX7_digest_100 : decode cX7_digest 100 = .ok (.getfield 147, 3) := by decide +kernel
theorem dX7_digest_103 : decode cX7_digest 103 = .ok (.if_icmp .ge 22, 3) := by decide +kernel
theorem dX7_digest_106 : decode cX7_digest 106 = .ok (.ldc2_w 244, 3) := by decide +kernel
theorem dX7_digest_109 : decode cX7_digest 109 = .ok (.lload_n 1, 1) := by decide +kernel
theorem dX7_digest_110 : decode cX7_digest 110 = .ok (.lmul, 1) := by decide +kernel
theorem dX7_digest_111 : decode cX7_digest 111 = .ok (.aload_n 0, 1) := by decide +kernel
theorem dX7_digest_112 : decode cX7_digest 112 = .ok (.iload_n 3, 1) := by decide +kernel
theorem dX7_digest_113 : decode cX7_digest 113 = .ok (.invokevirtual 252, 3) := by decide +kernel
theorem dX7_digest_116 : decode cX7_digest 116 = .ok (.i2l, 1) := by decide +kernel
theorem dX7_digest_117 : decode cX7_digest 117 = .ok (.ladd, 1) := by decide +kernel
theorem dX7_digest_118 : decode cX7_digest 118 = .ok (.lstore_n 1, 1) := by decide +kernel
theorem dX7_digest_119 : decode cX7_digest 119 = .ok (.iinc 3 1, 3) := by decide +kernel
theorem dX7_digest_122 : decode cX7_digest 122 = .ok (.goto (-27), 3) := by decide +kernel
theorem dX7_digest_125 : decode cX7_digest 125 = .ok (.iconst 0, 1) := by decide +kernel
theorem dX7_digest_126 : decode cX7_digest 126 = .ok (.istore_n 3, 1) := by decide +kernel
theorem dX7_digest_127 : decode cX7_digest 127 = .ok (.iload_n 3, 1) := by decide +kernel
theorem dX7_digest_128 : decode cX7_digest 128 = .ok (.bipush 7, 2) := by decide +kernel
theorem dX7_digest_130 : decode cX7_digest 130 = .ok (.if_icmp .ge 22, 3) := by decide +kernel
theorem dX7_digest_133 : decode cX7_digest 133 = .ok (.ldc2_w 244, 3) := by decide +kernel
theorem dX7_digest_136 : decode cX7_digest 136 = .ok (.lload_n 1, 1) := by decide +kernel
theorem dX7_digest_137 : decode cX7_digest 137 = .ok (.lmul, 1) := by decide +kernel
theorem dX7_digest_138 : decode cX7_digest 138 = .ok (.aload_n 0, 1) := by decide +kernel
theorem dX7_digest_139 : decode cX7_digest 139 = .ok (.iload_n 3, 1) := by decide +kernel
theorem dX7_digest_140 : decode cX7_digest 140 = .ok (.invokevirtual 255, 3) := by decide +kernel
theorem dX7_digest_143 : decode cX7_digest 143 = .ok (.i2l, 1) := by decide +kernel
theorem dX7_digest_144 : decode cX7_digest 144 = .ok (.ladd, 1) := by decide +kernel
theorem dX7_digest_145 : decode cX7_digest 145 = .ok (.lstore_n 1, 1) := by decide +kernel
theorem dX7_digest_146 : decode cX7_digest 146 = .ok (.iinc 3 1, 3) := by decide +kernel
theorem dX7_digest_149 : decode cX7_digest 149 = .ok (.goto (-22), 3) := by decide +kernel
theorem dX7_digest_152 : decode cX7_digest 152 = .ok (.lload_n 1, 1) := by decide +kernel
theorem dX7_digest_153 : decode cX7_digest 153 = .ok (.lreturn, 1) := by decide +kernel
theorem dX7_within_0 : decode cX7_within 0 = .ok (.iload_n 0, 1) := by decide +kernel
theorem dX7_within_1 : decode cX7_within 1 = .ok (.iload_n 1, 1) := by decide +kernel
theorem dX7_within_2 : decode cX7_within 2 = .ok (.if_icmp .lt 12, 3) := by decide +kernel
theorem dX7_within_5 : decode cX7_within 5 = .ok (.iload_n 0, 1) := by decide +kernel
theorem dX7_within_6 : decode cX7_within 6 = .ok (.iload_n 2, 1) := by decide +kernel
theorem dX7_within_7 : decode cX7_within 7 = .ok (.if_icmp .gt 7, 3) := by decide +kernel
theorem dX7_within_10 : decode cX7_within 10 = .ok (.iconst 1, 1) := by decide +kernel
theorem dX7_within_11 : decode cX7_within 11 = .ok (.goto 4, 3) := by decide +kernel
theorem dX7_within_14 : decode cX7_within 14 = .ok (.iconst 0, 1) := by decide +kernel
theorem dX7_within_15 : decode cX7_within 15 = .ok (.ireturn, 1) := by decide +kernel
set_option maxRecDepth 20000 in
theorem ggX7_isKind_X7_within : GoodIn wsX7_isKind wsX7_within := goodIn_r _ [5] (by decide +kernel) (by decide +kernel)
set_option maxRecDepth 20000 in
theorem gX7_isKind_X7_within : GoodIn wsX7_isKind (va_wsS RX7 61 yX7_within wsX7_within) := goodIn_app (goodIn_of _ (by decide +kernel)) ggX7_isKind_X7_within
theorem dX7_isKind_0 : decode cX7_isKind 0 = .ok (.iload_n 1, 1) := by decide +kernel
theorem dX7_isKind_1 : decode cX7_isKind 1 = .ok (.iconst 0, 1) := by decide +kernel
theorem dX7_isKind_2 : decode cX7_isKind 2 = .ok (.aload_n 0, 1) := by decide +kernel
theorem dX7_isKind_3 : decode cX7_isKind 3 = .ok (.getfield 12, 3) := by decide +kernel
theorem dX7_isKind_6 : decode cX7_isKind 6 = .ok (.getfield 65, 3) := by decide +kernel
theorem dX7_isKind_9 : decode cX7_isKind 9 = .ok (.iconst 1, 1) := by decide +kernel
theorem dX7_isKind_10 : decode cX7_isKind 10 = .ok (.isub, 1) := by decide +kernel
theorem dX7_isKind_11 : decode cX7_isKind 11 = .ok (.invokestatic 61, 3) := by decide +kernel
theorem dX7_isKind_14 : decode cX7_isKind 14 = .ok (.ireturn, 1) := by decide +kernel
set_option maxRecDepth 20000 in
theorem ggX7_isKindOrAny_X7_isKind : GoodIn wsX7_isKindOrAny wsX7_isKind := goodIn_r _ [5, 6, 7, 8, 4, 9, 10, 11, 12, 13, 14, 15, 16, 17, 18, 19, 20, 21, 22] (by decide +kernel) (by decide +kernel)
set_option maxRecDepth 20000 in
theorem gX7_isKindOrAny_X7_isKind : GoodIn wsX7_isKindOrAny (wsV RX7 72 RX7 yX7_isKind wsX7_isKind) := goodIn_app (goodIn_of _ (by decide +kernel)) ggX7_isKindOrAny_X7_isKind
theorem dX7_isKindOrAny_0 : decode cX7_isKindOrAny 0 = .ok (.iload_n 1, 1) := by decide +kernel
theorem dX7_isKindOrAny_1 : decode cX7_isKindOrAny 1 = .ok (.iconst (-1), 1) := by decide +kernel
theorem dX7_isKindOrAny_2 : decode cX7_isKindOrAny 2 = .ok (.if_icmp .eq 11, 3) := by decide +kernel
theorem dX7_isKindOrAny_5 : decode cX7_isKindOrAny 5 = .ok (.aload_n 0, 1) := by decide +kernel
theorem dX7_isKindOrAny_6 : decode cX7_isKindOrAny 6 = .ok (.iload_n 1, 1) := by decide +kernel
theorem dX7_isKindOrAny_7 : decode cX7_isKindOrAny 7 = .ok (.invokevirtual 72, 3) := by decide +kernel
theorem dX7_isKindOrAny_10 : decode cX7_isKindOrAny 10 = .ok (.ifCond .eq 7, 3) := by decide +kernel
theorem dX7_isKindOrAny_13 : decode cX7_isKindOrAny 13 = .ok (.iconst 1, 1) := by decide +kernel
theorem dX7_isKindOrAny_14 : decode cX7_isKindOrAny 14 = .ok (.goto 4, 3) := by decide +kernel
theorem dX7_isKindOrAny_17 : decode cX7_isKindOrAny 17 = .ok (.iconst 0, 1) := by decide +kernel
theorem dX7_isKindOrAny_18 : decode cX7_isKindOrAny 18 = .ok (.ireturn, 1) := by decide +kernel
set_option maxRecDepth 20000 in
theorem ggX7_isPiece_X7_within : GoodIn wsX7_isPiece wsX7_within := goodIn_r _ [5] (by decide +kernel) (by decide +kernel)
set_option maxRecDepth 20000 in
theorem gX7_isPiece_X7_within : GoodIn wsX7_isPiece (va_wsS RX7 61 yX7_within wsX7_within) := goodIn_app (goodIn_of _ (by decide +kernel)) ggX7_isPiece_X7_within
theorem dX7_isPiece_0 : decode cX7_isPiece 0 = .ok (.iload_n 1, 1) := by decide +kernel
theorem dX7_isPiece_1 : decode cX7_isPiece 1 = .ok (.iconst 0, 1) := by decide +kernel
theorem dX7_isPiece_2 : decode cX7_isPiece 2 = .ok (.aload_n 0, 1) := by decide +kernel
theorem dX7_isPiece_3 : decode cX7_isPiece 3 = .ok (.getfield 19, 3) := by decide +kernel
theorem dX7_isPiece_6 : decode cX7_isPiece 6 = .ok (.getfield 79, 3) := by decide +kernel
theorem dX7_isPiece_9 : decode cX7_isPiece 9 = .ok (.iconst 1, 1) := by decide +kernel
theorem dX7_isPiece_10 : decode cX7_isPiece 10 = .ok (.isub, 1) := by decide +kernel
theorem dX7_isPiece_11 : decode cX7_isPiece 11 = .ok (.invokestatic 61, 3) := by decide +kernel
theorem dX7_isPiece_14 : decode cX7_isPiece 14 = .ok (.ireturn, 1) := by decide +kernel
set_option maxRecDepth 20000 in
theorem ggX7_isOrderPlace_X7_within : GoodIn wsX7_isOrderPlace wsX7_within := goodIn_r _ [5] (by decide +kernel) (by decide +kernel)
set_option maxRecDepth 20000 in
theorem gX7_isOrderPlace_X7_within : GoodIn wsX7_isOrderPlace (va_wsS RX7 61 yX7_within wsX7_within) := goodIn_app (goodIn_of _ (by decide +kernel)) ggX7_isOrderPlace_X7_within
theorem dX7_isOrderPlace_0 : decode cX7_isOrderPlace 0 = .ok (.iload_n 1, 1) := by decide +kernel
theorem dX7_isOrderPlace_1 : decode cX7_isOrderPlace 1 = .ok (.iconst 0, 1) := by decide +kernel
theorem dX7_isOrderPlace_2 : decode cX7_isOrderPlace 2 = .ok (.aload_n 0, 1) := by decide +kernel
theorem dX7_isOrderPlace_3 : decode cX7_isOrderPlace 3 = .ok (.getfield 28, 3) := by decide +kernel
theorem dX7_isOrderPlace_6 : decode cX7_isOrderPlace 6 = .ok (.getfield 147, 3) := by decide +kernel
theorem dX7_isOrderPlace_9 : decode cX7_isOrderPlace 9 = .ok (.iconst 1, 1) := by decide +kernel
theorem dX7_isOrderPlace_10 : decode cX7_isOrderPlace 10 = .ok (.isub, 1) := by decide +kernel
theorem dX7_isOrderPlace_11 : decode cX7_isOrderPlace 11 = .ok (.invokestatic 61, 3) := by decide +kernel
theorem dX7_isOrderPlace_14 : decode cX7_isOrderPlace 14 = .ok (.ireturn, 1) := by decide +kernel
set_option maxRecDepth 20000 in
theorem ggX7_isOwner_X7_within : GoodIn wsX7_isOwner wsX7_within := goodIn_r _ [4] (by decide +kernel) (by decide +kernel)
set_option maxRecDepth 20000 in
theorem gX7_isOwner_X7_within : GoodIn wsX7_isOwner (va_wsS RX7 61 yX7_within wsX7_within) := goodIn_app (goodIn_of _ (by decide +kernel)) ggX7_isOwner_X7_within
theorem dX7_isOwner_0 : decode cX7_isOwner 0 = .ok (.iload_n 0, 1) := by decide +kernel
theorem dX7_isOwner_1 : decode cX7_isOwner 1 = .ok (.iconst 0, 1) := by decide +kernel
theorem dX7_isOwner_2 : decode cX7_isOwner 2 = .ok (.iconst 5, 1) := by decide +kernel
theorem dX7_isOwner_3 : decode cX7_isOwner 3 = .ok (.invokestatic 61, 3) := by decide +kernel
theorem dX7_isOwner_6 : decode cX7_isOwner 6 = .ok (.ireturn, 1) := by decide +kernel
set_option maxRecDepth 20000 in
theorem ggX7_isOwnerOrAny_X7_isOwner : GoodIn wsX7_isOwnerOrAny wsX7_isOwner := goodIn_r _ [4, 5, 6, 3, 7] (by decide +kernel) (by decide +kernel)
set_option maxRecDepth 20000 in
theorem gX7_isOwnerOrAny_X7_isOwner : GoodIn wsX7_isOwnerOrAny (va_wsS RX7 76 yX7_isOwner wsX7_isOwner) := goodIn_app (goodIn_of _ (by decide +kernel)) ggX7_isOwnerOrAny_X7_isOwner
theorem dX7_isOwnerOrAny_0 : decode cX7_isOwnerOrAny 0 = .ok (.iload_n 0, 1) := by decide +kernel
theorem dX7_isOwnerOrAny_1 : decode cX7_isOwnerOrAny 1 = .ok (.iconst (-1), 1) := by decide +kernel
theorem dX7_isOwnerOrAny_2 : decode cX7_isOwnerOrAny 2 = .ok (.if_icmp .eq 10, 3) := by decide +kernel
theorem dX7_isOwnerOrAny_5 : decode cX7_isOwnerOrAny 5 = .ok (.iload_n 0, 1) := by decide +kernel
theorem dX7_isOwnerOrAny_6 : decode cX7_isOwnerOrAny 6 = .ok (.invokestatic 76, 3) := by decide +kernel
theorem dX7_isOwnerOrAny_9 : decode cX7_isOwnerOrAny 9 = .ok (.ifCond .eq 7, 3) := by decide +kernel
theorem dX7_isOwnerOrAny_12 : decode cX7_isOwnerOrAny 12 = .ok (.iconst 1, 1) := by decide +kernel
theorem dX7_isOwnerOrAny_13 : decode cX7_isOwnerOrAny 13 = .ok (.goto 4, 3) := by decide +kernel
theorem dX7_isOwnerOrAny_16 : decode cX7_isOwnerOrAny 16 = .ok (.iconst 0, 1) := by decide +kernel
theorem dX7_isOwnerOrAny_17 : decode cX7_isOwnerOrAny 17 = .ok (.ireturn, 1) := by decide +kernel
set_option maxRecDepth 20000 in
theorem ggX7_isPlace_X7_within : GoodIn wsX7_isPlace wsX7_within := goodIn_r _ [4] (by decide +kernel) (by decide +kernel)
set_option maxRecDepth 20000 in
theorem gX7_isPlace_X7_within : GoodIn wsX7_isPlace (va_wsS RX7 61 yX7_within wsX7_within) := goodIn_app (goodIn_of _ (by decide +kernel)) ggX7_isPlace_X7_within
theorem dX7_isPlace_0 : decode cX7_isPlace 0 = .ok (.iload_n 0, 1) := by decide +kernel
theorem dX7_isPlace_1 : decode cX7_isPlace 1 = .ok (.iconst 0, 1) := by decide +kernel
theorem dX7_isPlace_2 : decode cX7_isPlace 2 = .ok (.iconst 4, 1) := by decide +kernel
theorem dX7_isPlace_3 : decode cX7_isPlace 3 = .ok (.invokestatic 61, 3) := by decide +kernel
theorem dX7_isPlace_6 : decode cX7_isPlace 6 = .ok (.ireturn, 1) := by decide +kernel
set_option maxRecDepth 20000 in
theorem ggX7_isSheet_X7_within : GoodIn wsX7_isSheet wsX7_within := goodIn_r _ [4] (by decide +kernel) (by decide +kernel)
set_option maxRecDepth 20000 in
theorem gX7_isSheet_X7_within : GoodIn wsX7_isSheet (va_wsS RX7 61 yX7_within wsX7_within) := goodIn_app (goodIn_of _ (by decide +kernel)) ggX7_isSheet_X7_within
theorem dX7_isSheet_0 : decode cX7_isSheet 0 = .ok (.iload_n 0, 1) := by decide +kernel
theorem dX7_isSheet_1 : decode cX7_isSheet 1 = .ok (.iconst 0, 1) := by decide +kernel
theorem dX7_isSheet_2 : decode cX7_isSheet 2 = .ok (.iconst 3, 1) := by decide +kernel
theorem dX7_isSheet_3 : decode cX7_isSheet 3 = .ok (.invokestatic 61, 3) := by decide +kernel
theorem dX7_isSheet_6 : decode cX7_isSheet 6 = .ok (.ireturn, 1) := by decide +kernel
set_option maxRecDepth 20000 in
theorem ggX7_isForm_X7_within : GoodIn wsX7_isForm wsX7_within := goodIn_r _ [4] (by decide +kernel) (by decide +kernel)
set_option maxRecDepth 20000 in
theorem gX7_isForm_X7_within : GoodIn wsX7_isForm (va_wsS RX7 61 yX7_within wsX7_within) := goodIn_app (goodIn_of _ (by decide +kernel)) ggX7_isForm_X7_within
theorem dX7_isForm_0 : decode cX7_isForm 0 = .ok (.iload_n 0, 1) := by decide +kernel
theorem dX7_isForm_1 : decode cX7_isForm 1 = .ok (.iconst 0, 1) := by decide +kernel
theorem dX7_isForm_2 : decode cX7_isForm 2 = .ok (.iconst 2, 1) := by decide +kernel
theorem dX7_isForm_3 : decode cX7_isForm 3 = .ok (.invokestatic 61, 3) := by decide +kernel
theorem dX7_isForm_6 : decode cX7_isForm 6 = .ok (.ireturn, 1) := by decide +kernel
theorem dX7_find_0 : decode cX7_find 0 = .ok (.aload_n 0, 1) := by decide +kernel
theorem dX7_find_1 : decode cX7_find 1 = .ok (.iload_n 1, 1) := by decide +kernel
theorem dX7_find_2 : decode cX7_find 2 = .ok (.putfield 57, 3) := by decide +kernel
theorem dX7_find_5 : decode cX7_find 5 = .ok (.bipush (-10), 2) := by decide +kernel
theorem dX7_find_7 : decode cX7_find 7 = .ok (.iload_n 1, 1) := by decide +kernel
theorem dX7_find_8 : decode cX7_find 8 = .ok (.isub, 1) := by decide +kernel
theorem dX7_find_9 : decode cX7_find 9 = .ok (.ireturn, 1) := by decide +kernel
set_option maxRecDepth 20000 in
theorem ggX7_soilFrom_X7_isPiece : GoodIn wsX7_soilFrom wsX7_isPiece := goodIn_r _ [6, 1, 7, 8, 5, 9, 20, 21, 22, 23, 24, 25, 26, 27, 28, 29, 30, 31, 32, 33] (by decide +kernel) (by decide +kernel)
set_option maxRecDepth 20000 in
theorem gX7_soilFrom_X7_isPiece : GoodIn wsX7_soilFrom (wsV RX7 83 RX7 yX7_isPiece wsX7_isPiece) := goodIn_app (goodIn_of _ (by decide +kernel)) ggX7_soilFrom_X7_isPiece
set_option maxRecDepth 20000 in
theorem ggX7_soilFrom_X4_read : GoodIn wsX7_soilFrom wsX4_read := goodIn_r _ [14, 15, 34] (by decide +kernel) (by decide +kernel)
set_option maxRecDepth 20000 in
theorem gX7_soilFrom_X4_read : GoodIn wsX7_soilFrom (wsV RX7 90 RX4 yX4_read wsX4_read) := goodIn_app (goodIn_of _ (by decide +kernel)) ggX7_soilFrom_X4_read
set_option maxRecDepth 20000 in
theorem ggX7_soilFrom_X4_write : GoodIn wsX7_soilFrom wsX4_write := goodIn_r _ [19, 15, 34] (by decide +kernel) (by decide +kernel)
set_option maxRecDepth 20000 in
theorem gX7_soilFrom_X4_write : GoodIn wsX7_soilFrom (wsV RX7 111 RX4 yX4_write wsX4_write) := goodIn_app (goodIn_of _ (by decide +kernel)) ggX7_soilFrom_X4_write
theorem dX7_soilFrom_0 : decode cX7_soilFrom 0 = .ok (.aload_n 0, 1) := by decide +kernel
theorem dX7_soilFrom_1 : decode cX7_soilFrom 1 = .ok (.iload_n 1, 1) := by decide +kernel
theorem dX7_soilFrom_2 : decode cX7_soilFrom 2 = .ok (.invokevirtual 83, 3) := by decide +kernel
theorem dX7_soilFrom_5 : decode cX7_soilFrom 5 = .ok (.ifCond .ne 6, 3) := by decide +kernel
theorem dX7_soilFrom_8 : decode cX7_soilFrom 8 = .ok (.bipush (-2), 2) := by decide +kernel
theorem dX7_soilFrom_10 : decode cX7_soilFrom 10 = .ok (.ireturn, 1) := by decide +kernel
theorem dX7_soilFrom_11 : decode cX7_soilFrom 11 = .ok (.aload_n 0, 1) := by decide +kernel
theorem dX7_soilFrom_12 : decode cX7_soilFrom 12 = .ok (.getfield 19, 3) := by decide +kernel
theorem dX7_soilFrom_15 : decode cX7_soilFrom 15 = .ok (.getfield 102, 3) := by decide +kernel
theorem dX7_soilFrom_18 : decode cX7_soilFrom 18 = .ok (.iload_n 1, 1) := by decide +kernel
theorem dX7_soilFrom_19 : decode cX7_soilFrom 19 = .ok (.invokevirtual 90, 3) := by decide +kernel
theorem dX7_soilFrom_22 : decode cX7_soilFrom 22 = .ok (.iload_n 2, 1) := by decide +kernel
theorem dX7_soilFrom_23 : decode cX7_soilFrom 23 = .ok (.if_icmp .eq 6, 3) := by decide +kernel
theorem dX7_soilFrom_26 : decode cX7_soilFrom 26 = .ok (.bipush (-4), 2) := by decide +kernel
theorem dX7_soilFrom_28 : decode cX7_soilFrom 28 = .ok (.ireturn, 1) := by decide +kernel
theorem dX7_soilFrom_29 : decode cX7_soilFrom 29 = .ok (.aload_n 0, 1) := by decide +kernel
theorem dX7_soilFrom_30 : decode cX7_soilFrom 30 = .ok (.getfield 19, 3) := by decide +kernel
theorem dX7_soilFrom_33 : decode cX7_soilFrom 33 = .ok (.getfield 102, 3) := by decide +kernel
theorem dX7_soilFrom_36 : decode cX7_soilFrom 36 = .ok (.iload_n 1, 1) := by decide +kernel
theorem dX7_soilFrom_37 : decode cX7_soilFrom 37 = .ok (.iconst 1, 1) := by decide +kernel
theorem dX7_soilFrom_38 : decode cX7_soilFrom 38 = .ok (.invokevirtual 111, 3) := by decide +kernel
theorem dX7_soilFrom_41 : decode cX7_soilFrom 41 = .ok (.iconst 1, 1) := by decide +kernel
theorem dX7_soilFrom_42 : decode cX7_soilFrom 42 = .ok (.ireturn, 1) := by decide +kernel
end
section
theorem dX8_init_0 : decode cX8_init 0 = .ok (.aload_n 0, 1) := by decide +kernel
theorem dX8_init_1 : decode cX8_init 1 = .ok (.invokespecial 1, 3) := by decide +kernel
theorem dX8_init_4 : decode cX8_init 4 = .ok (.aload_n 0, 1) := by decide +kernel
theorem dX8_init_5 : decode cX8_init 5 = .ok (.bipush 8, 2) := by decide +kernel
theorem dX8_init_7 : decode cX8_init 7 = .ok (.newarray .int, 2) := by decide +kernel
theorem dX8_init_9 : decode cX8_init 9 = .ok (.putfield 7, 3) := by decide +kernel
theorem dX8_init_12 : decode cX8_init 12 = .ok (.aload_n 0, 1) := by decide +kernel
theorem dX8_init_13 : decode cX8_init 13 = .ok (.bipush 8, 2) := by decide +kernel
theorem dX8_init_15 : decode cX8_init 15 = .ok (.newarray .int, 2) := by decide +kernel
theorem dX8_init_17 : decode cX8_init 17 = .ok (.putfield 13, 3) := by decide +kernel
theorem dX8_init_20 : decode cX8_init 20 = .ok (.aload_n 0, 1) := by decide +kernel
theorem dX8_init_21 : decode cX8_init 21 = .ok (.bipush 8, 2) := by decide +kernel
theorem dX8_init_23 : decode cX8_init 23 = .ok (.newarray .boolean, 2) := by decide +kernel
theorem dX8_init_25 : decode cX8_init 25 = .ok (.putfield 16, 3) := by decide +kernel
theorem dX8_init_28 : decode cX8_init 28 = .ok (.aload_n 0, 1) := by decide +kernel
theorem dX8_init_29 : decode cX8_init 29 = .ok (.bipush 8, 2) := by decide +kernel
theorem dX8_init_31 : decode cX8_init 31 = .ok (.newarray .int, 2) := by decide +kernel
theorem dX8_init_33 : decode cX8_init 33 = .ok (.putfield 20, 3) := by decide +kernel
theorem dX8_init_36 : decode cX8_init 36 = .ok (.aload_n 0, 1) := by decide +kernel
theorem dX8_init_37 : decode cX8_init 37 = .ok (.bipush 8, 2) := by decide +kernel
theorem dX8_init_39 : decode cX8_init 39 = .ok (.newarray .int, 2) := by decide +kernel
theorem dX8_init_41 : decode cX8_init 41 = .ok (.putfield 23, 3) := by decide +kernel
theorem dX8_init_44 : decode cX8_init 44 = .ok (.aload_n 0, 1) := by decide +kernel
theorem dX8_init_45 : decode cX8_init 45 = .ok (.bipush 100, 2) := by decide +kernel
theorem dX8_init_47 : decode cX8_init 47 = .ok (.newarray .int, 2) := by decide +kernel
theorem dX8_init_49 : decode cX8_init 49 = .ok (.putfield 26, 3) := by decide +kernel
theorem dX8_init_52 : decode cX8_init 52 = .ok (.aload_n 0, 1) := by decide +kernel
theorem dX8_init_53 : decode cX8_init 53 = .ok (.bipush 100, 2) := by decide +kernel
theorem dX8_init_55 : decode cX8_init 55 = .ok (.newarray .int, 2) := by decide +kernel
theorem dX8_init_57 : decode cX8_init 57 = .ok (.putfield 29, 3) := by decide +kernel
theorem dX8_init_60 : decode cX8_init 60 = .ok (.aload_n 0, 1) := by decide +kernel
theorem dX8_init_61 : decode cX8_init 61 = .ok (.bipush 100, 2) := by decide +kernel
theorem dX8_init_63 : decode cX8_init 63 = .ok (.newarray .boolean, 2) := by decide +kernel
theorem dX8_init_65 : decode cX8_init 65 = .ok (.putfield 32, 3) := by decide +kernel
theorem dX8_init_68 : decode cX8_init 68 = .ok (.aload_n 0, 1) := by decide +kernel
theorem dX8_init_69 : decode cX8_init 69 = .ok (.bipush 100, 2) := by decide +kernel
theorem dX8_init_71 : decode cX8_init 71 = .ok (.newarray .int, 2) := by decide +kernel
theorem dX8_init_73 : decode cX8_init 73 = .ok (.putfield 35, 3) := by decide +kernel
theorem dX8_init_76 : decode cX8_init 76 = .ok (.aload_n 0, 1) := by decide +kernel
theorem dX8_init_77 : decode cX8_init 77 = .ok (.bipush 100, 2) := by decide +kernel
theorem dX8_init_79 : decode cX8_init 79 = .ok (.newarray .int, 2) := by decide +kernel
theorem dX8_init_81 : decode cX8_init 81 = .ok (.putfield 38, 3) := by decide +kernel
theorem dX8_init_84 : decode cX8_init 84 = .ok (.aload_n 0, 1) := by decide +kernel
theorem dX8_init_85 : decode cX8_init 85 = .ok (.bipush 100, 2) := by decide +kernel
theorem dX8_init_87 : decode cX8_init 87 = .ok (.newarray .int, 2) := by decide +kernel
theorem dX8_init_89 : decode cX8_init 89 = .ok (.putfield 41, 3) := by decide +kernel
theorem dX8_init_92 : decode cX8_init 92 = .ok (.aload_n 0, 1) := by decide +kernel
theorem dX8_init_93 : decode cX8_init 93 = .ok (.bipush 12, 2) := by decide +kernel
theorem dX8_init_95 : decode cX8_init 95 = .ok (.newarray .int, 2) := by decide +kernel
theorem dX8_init_97 : decode cX8_init 97 = .ok (.putfield 44, 3) := by decide +kernel
theorem dX8_init_100 : decode cX8_init 100 = .ok (.aload_n 0, 1) := by decide +kernel
theorem dX8_init_101 : decode cX8_init 101 = .ok (.bipush 12, 2) := by decide +kernel
theorem dX8_init_103 : decode cX8_init 103 = .ok (.newarray .int, 2) := by decide +kernel
theorem dX8_init_105 : decode cX8_init 105 = .ok (.putfield 47, 3) := by decide +kernel
theorem dX8_init_108 : decode cX8_init 108 = .ok (.aload_n 0, 1) := by decide +kernel
theorem dX8_init_109 : decode cX8_init 109 = .ok (.sipush 240, 3) := by decide +kernel
theorem dX8_init_112 : decode cX8_init 112 = .ok (.newarray .int, 2) := by decide +kernel
theorem dX8_init_114 : decode cX8_init 114 = .ok (.putfield 50, 3) := by decide +kernel
theorem dX8_init_117 : decode cX8_init 117 = .ok (.aload_n 0, 1) := by decide +kernel
theorem dX8_init_118 : decode cX8_init 118 = .ok (.bipush 12, 2) := by decide +kernel
theorem dX8_init_120 : decode cX8_init 120 = .ok (.newarray .int, 2) := by decide +kernel
theorem dX8_init_122 : decode cX8_init 122 = .ok (.putfield 53, 3) := by decide +kernel
theorem dX8_init_125 : decode cX8_init 125 = .ok (.aload_n 0, 1) := by decide +kernel
theorem dX8_init_126 : decode cX8_init 126 = .ok (.iconst 4, 1) := by decide +kernel
theorem dX8_init_127 : decode cX8_init 127 = .ok (.putfield 56, 3) := by decide +kernel
theorem dX8_init_130 : decode cX8_init 130 = .ok (.aload_n 0, 1) := by decide +kernel
theorem dX8_init_131 : decode cX8_init 131 = .ok (.iconst 2, 1) := by decide +kernel
theorem dX8_init_132 : decode cX8_init 132 = .ok (.putfield 60, 3) := by decide +kernel
theorem dX8_init_135 : decode cX8_init 135 = .ok (.aload_n 0, 1) := by decide +kernel
theorem dX8_init_136 : decode cX8_init 136 = .ok (.iconst 1, 1) := by decide +kernel
theorem dX8_init_137 : decode cX8_init 137 = .ok (.putfield 63, 3) := by decide +kernel
theorem dX8_init_140 : decode cX8_init 140 = .ok (.aload_n 0, 1) := by decide +kernel
theorem dX8_init_141 : decode cX8_init 141 = .ok (.sipush 3072, 3) := by decide +kernel
theorem dX8_init_144 : decode cX8_init 144 = .ok (.newarray .int, 2) := by decide +kernel
theorem dX8_init_146 : decode cX8_init 146 = .ok (.putfield 66, 3) := by decide +kernel
theorem dX8_init_149 : decode cX8_init 149 = .ok (.aload_n 0, 1) := by decide +kernel
theorem dX8_init_150 : decode cX8_init 150 = .ok (.bipush 100, 2) := by decide +kernel
theorem dX8_init_152 : decode cX8_init 152 = .ok (.newarray .int, 2) := by decide +kernel
theorem dX8_init_154 : decode cX8_init 154 = .ok (.putfield 69, 3) := by decide +kernel
theorem dX8_init_157 : decode cX8_init 157 = .ok (.aload_n 0, 1) := by decide +kernel
theorem dX8_init_158 : decode cX8_init 158 = .ok (.bipush 10, 2) := by decide +kernel
theorem dX8_init_160 : decode cX8_init 160 = .ok (.newarray .int, 2) := by decide +kernel
theorem dX8_init_162 : decode cX8_init 162 = .ok (.putfield 72, 3) := by decide +kernel
theorem dX8_init_165 : decode cX8_init 165 = .ok (.aload_n 0, 1) := by decide +kernel
theorem dX8_init_166 : decode cX8_init 166 = .ok (.iconst 4, 1) := by decide +kernel
theorem dX8_init_167 : decode cX8_init 167 = .ok (.newarray .int, 2) := by decide +kernel
theorem dX8_init_169 : decode cX8_init 169 = .ok (.putfield 75, 3) := by decide +kernel
theorem dX8_init_172 : decode cX8_init 172 = .ok (.aload_n 0, 1) := by decide +kernel
theorem dX8_init_173 : decode cX8_init 173 = .ok (.iconst 3, 1) := by decide +kernel
theorem dX8_init_174 : decode cX8_init 174 = .ok (.newarray .int, 2) := by decide +kernel
theorem dX8_init_176 : decode cX8_init 176 = .ok (.putfield 78, 3) := by decide +kernel
theorem dX8_init_179 : decode cX8_init 179 = .ok (.aload_n 0, 1) := by decide +kernel
theorem dX8_init_180 : decode cX8_init 180 = .ok (.bipush 7, 2) := by decide +kernel
theorem dX8_init_182 : decode cX8_init 182 = .ok (.newarray .int, 2) := by decide +kernel
theorem dX8_init_184 : decode cX8_init 184 = .ok (.putfield 81, 3) := by decide +kernel
theorem dX8_init_187 : decode cX8_init 187 = .ok (.aload_n 0, 1) := by decide +kernel
theorem dX8_init_188 : decode cX8_init 188 = .ok (.bipush 84, 2) := by decide +kernel
theorem dX8_init_190 : decode cX8_init 190 = .ok (.newarray .int, 2) := by decide +kernel
theorem dX8_init_192 : decode cX8_init 192 = .ok (.putfield 84, 3) := by decide +kernel
theorem dX8_init_195 : decode cX8_init 195 = .ok (.aload_n 0, 1) := by decide +kernel
theorem dX8_init_196 : decode cX8_init 196 = .ok (.bipush 12, 2) := by decide +kernel
theorem dX8_init_198 : decode cX8_init 198 = .ok (.newarray .int, 2) := by decide +kernel
theorem dX8_init_200 : decode cX8_init 200 = .ok (.putfield 87, 3) := by decide +kernel
theorem dX8_init_203 : decode cX8_init 203 = .ok (.aload_n 0, 1) := by decide +kernel
theorem dX8_init_204 : decode cX8_init 204 = .ok (.iconst 4, 1) := by decide +kernel
theorem dX8_init_205 : decode cX8_init 205 = .ok (.newarray .boolean, 2) := by decide +kernel
theorem dX8_init_207 : decode cX8_init 207 = .ok (.putfield 90, 3) := by decide +kernel
theorem dX8_init_210 : decode cX8_init 210 = .ok (.aload_n 0, 1) := by decide +kernel
theorem dX8_init_211 : decode cX8_init 211 = .ok (.iconst 4, 1) := by decide +kernel
theorem dX8_init_212 : decode cX8_init 212 = .ok (.newarray .int, 2) := by decide +kernel
theorem dX8_init_214 : decode cX8_init 214 = .ok (.putfield 93, 3) := by decide +kernel
theorem dX8_init_217 : decode cX8_init 217 = .ok (.aload_n 0, 1) := by decide +kernel
theorem dX8_init_218 : decode cX8_init 218 = .ok (.iconst 4, 1) := by decide +kernel
theorem dX8_init_219 : decode cX8_init 219 = .ok (.newarray .int, 2) := by decide +kernel
theorem dX8_init_221 : decode cX8_init 221 = .ok (.putfield 96, 3) := by decide +kernel
theorem dX8_init_224 : decode cX8_init 224 = .ok (.aload_n 0, 1) := by decide +kernel
theorem dX8_init_225 : decode cX8_init 225 = .ok (.sipush 240, 3) := by decide +kernel
theorem dX8_init_228 : decode cX8_init 228 = .ok (.newarray .int, 2) := by decide +kernel
theorem dX8_init_230 : decode cX8_init 230 = .ok (.putfield 99, 3) := by decide +kernel
theorem dX8_init_233 : decode cX8_init 233 = .ok (.aload_n 0, 1) := by decide +kernel
theorem dX8_init_234 : decode cX8_init 234 = .ok (.bipush 60, 2) := by decide +kernel
theorem dX8_init_236 : decode cX8_init 236 = .ok (.newarray .int, 2) := by decide +kernel
theorem dX8_init_238 : decode cX8_init 238 = .ok (.putfield 102, 3) := by decide +kernel
theorem dX8_init_241 : decode cX8_init 241 = .ok (.return_, 1) := by decide +kernel
theorem dX8_in_0 : decode cX8_in 0 = .ok (.iload_n 0, 1) := by decide +kernel
theorem dX8_in_1 : decode cX8_in 1 = .ok (.iload_n 1, 1) := by decide +kernel
theorem dX8_in_2 : decode cX8_in 2 = .ok (.if_icmp .lt 12, 3) := by decide +kernel
theorem dX8_in_5 : decode cX8_in 5 = .ok (.iload_n 0, 1) := by decide +kernel
theorem dX8_in_6 : decode cX8_in 6 = .ok (.iload_n 2, 1) := by decide +kernel
theorem dX8_in_7 : decode cX8_in 7 = .ok (.if_icmp .gt 7, 3) := by decide +kernel
theorem dX8_in_10 : decode cX8_in 10 = .ok (.iconst 1, 1) := by decide +kernel
theorem dX8_in_11 : decode cX8_in 11 = .ok (.goto 4, 3) := by decide +kernel
theorem dX8_in_14 : decode cX8_in 14 = .ok (.iconst 0, 1) := by decide +kernel
theorem dX8_in_15 : decode cX8_in 15 = .ok (.ireturn, 1) := by decide +kernel
set_option maxRecDepth 20000 in
theorem ggX8_isKind_X8_in : GoodIn wsX8_isKind wsX8_in := goodIn_r _ [5] (by decide +kernel) (by decide +kernel)
set_option maxRecDepth 20000 in
theorem gX8_isKind_X8_in : GoodIn wsX8_isKind (va_wsS RX8 108 yX8_in wsX8_in) := goodIn_app (goodIn_of _ (by decide +kernel)) ggX8_isKind_X8_in
theorem dX8_isKind_0 : decode cX8_isKind 0 = .ok (.iload_n 1, 1) := by decide +kernel
theorem dX8_isKind_1 : decode cX8_isKind 1 = .ok (.iconst 0, 1) := by decide +kernel
theorem dX8_isKind_2 : decode cX8_isKind 2 = .ok (.aload_n 0, 1) := by decide +kernel
theorem dX8_isKind_3 : decode cX8_isKind 3 = .ok (.getfield 105, 3) := by decide +kernel
theorem dX8_isKind_6 : decode cX8_isKind 6 = .ok (.iconst 1, 1) := by decide +kernel
theorem dX8_isKind_7 : decode cX8_isKind 7 = .ok (.isub, 1) := by decide +kernel
theorem dX8_isKind_8 : decode cX8_isKind 8 = .ok (.invokestatic 108, 3) := by decide +kernel
theorem dX8_isKind_11 : decode cX8_isKind 11 = .ok (.ireturn, 1) := by decide +kernel
set_option maxRecDepth 20000 in
theorem ggX8_isPiece_X8_in : GoodIn wsX8_isPiece wsX8_in := goodIn_r _ [5] (by decide +kernel) (by decide +kernel)
set_option maxRecDepth 20000 in
theorem gX8_isPiece_X8_in : GoodIn wsX8_isPiece (va_wsS RX8 108 yX8_in wsX8_in) := goodIn_app (goodIn_of _ (by decide +kernel)) ggX8_isPiece_X8_in
theorem dX8_isPiece_0 : decode cX8_isPiece 0 = .ok (.iload_n 1, 1) := by decide +kernel
theorem dX8_isPiece_1 : decode cX8_isPiece 1 = .ok (.iconst 0, 1) := by decide +kernel
theorem dX8_isPiece_2 : decode cX8_isPiece 2 = .ok (.aload_n 0, 1) := by decide +kernel
theorem dX8_isPiece_3 : decode cX8_isPiece 3 = .ok (.getfield 112, 3) := by decide +kernel
theorem dX8_isPiece_6 : decode cX8_isPiece 6 = .ok (.iconst 1, 1) := by decide +kernel
theorem dX8_isPiece_7 : decode cX8_isPiece 7 = .ok (.isub, 1) := by decide +kernel
theorem dX8_isPiece_8 : decode cX8_isPiece 8 = .ok (.invokestatic 108, 3) := by decide +kernel
theorem dX8_isPiece_11 : decode cX8_isPiece 11 = .ok (.ireturn, 1) := by decide +kernel
set_option maxRecDepth 20000 in
theorem ggX8_kind_X8_in : GoodIn wsX8_kind wsX8_in := goodIn_r _ [10] (by decide +kernel) (by decide +kernel)
set_option maxRecDepth 20000 in
theorem gX8_kind_X8_in : GoodIn wsX8_kind (va_wsS RX8 108 yX8_in wsX8_in) := goodIn_app (goodIn_of _ (by decide +kernel)) ggX8_kind_X8_in
theorem dX8_kind_0 : decode cX8_kind 0 = .ok (.iload_n 1, 1) := by decide +kernel
theorem dX8_kind_1 : decode cX8_kind 1 = .ok (.iconst 0, 1) := by decide +kernel
theorem dX8_kind_2 : decode cX8_kind 2 = .ok (.iconst 3, 1) := by decide +kernel
theorem dX8_kind_3 : decode cX8_kind 3 = .ok (.invokestatic 108, 3) := by decide +kernel
theorem dX8_kind_6 : decode cX8_kind 6 = .ok (.ifCond .eq 34, 3) := by decide +kernel
theorem dX8_kind_9 : decode cX8_kind 9 = .ok (.iload_n 2, 1) := by decide +kernel
theorem dX8_kind_10 : decode cX8_kind 10 = .ok (.iconst 0, 1) := by decide +kernel
theorem dX8_kind_11 : decode cX8_kind 11 = .ok (.iconst 2, 1) := by decide +kernel
theorem dX8_kind_12 : decode cX8_kind 12 = .ok (.invokestatic 108, 3) := by decide +kernel
theorem dX8_kind_15 : decode cX8_kind 15 = .ok (.ifCond .eq 25, 3) := by decide +kernel
theorem dX8_kind_18 : decode cX8_kind 18 = .ok (.iload 4, 2) := by decide +kernel
theorem dX8_kind_20 : decode cX8_kind 20 = .ok (.iconst 0, 1) := by decide +kernel
theorem dX8_kind_21 : decode cX8_kind 21 = .ok (.bipush 9, 2) := by decide +kernel
theorem dX8_kind_23 : decode cX8_kind 23 = .ok (.invokestatic 108, 3) := by decide +kernel
theorem dX8_kind_26 : decode cX8_kind 26 = .ok (.ifCond .eq 14, 3) := by decide +kernel
theorem dX8_kind_29 : decode cX8_kind 29 = .ok (.iload 5, 2) := by decide +kernel
theorem dX8_kind_31 : decode cX8_kind 31 = .ok (.iconst 0, 1) := by decide +kernel
theorem dX8_kind_32 : decode cX8_kind 32 = .ok (.bipush 9, 2) := by decide +kernel
theorem dX8_kind_34 : decode cX8_kind 34 = .ok (.invokestatic 108, 3) := by decide +kernel
theorem dX8_kind_37 : decode cX8_kind 37 = .ok (.ifCond .ne 6, 3) := by decide +kernel
theorem dX8_kind_40 : decode cX8_kind 40 = .ok (.bipush (-2), 2) := by decide +kernel
theorem dX8_kind_42 : decode cX8_kind 42 = .ok (.ireturn, 1) := by decide +kernel
theorem dX8_kind_43 : decode cX8_kind 43 = .ok (.aload_n 0, 1) := by decide +kernel
theorem dX8_kind_44 : decode cX8_kind 44 = .ok (.getfield 105, 3) := by decide +kernel
theorem dX8_kind_47 : decode cX8_kind 47 = .ok (.bipush 8, 2) := by decide +kernel
theorem dX8_kind_49 : decode cX8_kind 49 = .ok (.if_icmp .ne 6, 3) := by decide +kernel
theorem dX8_kind_52 : decode cX8_kind 52 = .ok (.bipush (-3), 2) := by decide +kernel
theorem dX8_kind_54 : decode cX8_kind 54 = .ok (.ireturn, 1) := by decide +kernel
theorem dX8_kind_55 : decode cX8_kind 55 = .ok (.aload_n 0, 1) := by decide +kernel
theorem dX8_kind_56 : decode cX8_kind 56 = .ok (.getfield 7, 3) := by decide +kernel
theorem dX8_kind_59 : decode cX8_kind 59 = .ok (.aload_n 0, 1) := by decide +kernel
theorem dX8_kind_60 : decode cX8_kind 60 = .ok (.getfield 105, 3) := by decide +kernel
theorem dX8_kind_63 : decode cX8_kind 63 = .ok (.iload_n 1, 1) := by decide +kernel
theorem dX8_kind_64 : decode cX8_kind 64 = .ok (.iastore, 1) := by decide +kernel
theorem dX8_kind_65 : decode cX8_kind 65 = .ok (.aload_n 0, 1) := by decide +kernel
theorem dX8_kind_66 : decode cX8_kind 66 = .ok (.getfield 13, 3) := by decide +kernel
theorem dX8_kind_69 : decode cX8_kind 69 = .ok (.aload_n 0, 1) := by decide +kernel
theorem dX8_kind_70 : decode cX8_kind 70 = .ok (.getfield 105, 3) := by decide +kernel
theorem dX8_kind_73 : decode cX8_kind 73 = .ok (.iload_n 2, 1) := by decide +kernel
theorem dX8_kind_74 : decode cX8_kind 74 = .ok (.iastore, 1) := by decide +kernel
theorem dX8_kind_75 : decode cX8_kind 75 = .ok (.aload_n 0, 1) := by decide +kernel
theorem dX8_kind_76 : decode cX8_kind 76 = .ok (.getfield 16, 3) := by decide +kernel
theorem dX8_kind_79 : decode cX8_kind 79 = .ok (.aload_n 0, 1) := by decide +kernel
theorem dX8_kind_80 : decode cX8_kind 80 = .ok (.getfield 105, 3) := by decide +kernel
theorem dX8_kind_83 : decode cX8_kind 83 = .ok (.iload_n 3, 1) := by decide +kernel
theorem dX8_kind_84 : decode cX8_kind 84 = .ok (.bastore, 1) := by decide +kernel
theorem dX8_kind_85 : decode cX8_kind 85 = .ok (.aload_n 0, 1) := by decide +kernel
theorem dX8_kind_86 : decode cX8_kind 86 = .ok (.getfield 20, 3) := by decide +kernel
theorem dX8_kind_89 : decode cX8_kind 89 = .ok (.aload_n 0, 1) := by decide +kernel
theorem dX8_kind_90 : decode cX8_kind 90 = .ok (.getfield 105, 3) := by decide +kernel
theorem dX8_kind_93 : decode cX8_kind 93 = .ok (.iload 4, 2) := by decide +kernel
theorem dX8_kind_95 : decode cX8_kind 95 = .ok (.iastore, 1) := by decide +kernel
theorem dX8_kind_96 : decode cX8_kind 96 = .ok (.aload_n 0, 1) := by decide +kernel
theorem dX8_kind_97 : decode cX8_kind 97 = .ok (.getfield 23, 3) := by decide +kernel
theorem dX8_kind_100 : decode cX8_kind 100 = .ok (.aload_n 0, 1) := by decide +kernel
theorem dX8_kind_101 : decode cX8_kind 101 = .ok (.getfield 105, 3) := by decide +kernel
theorem dX8_kind_104 : decode cX8_kind 104 = .ok (.iload 5, 2) := by decide +kernel
theorem dX8_kind_106 : decode cX8_kind 106 = .ok (.iastore, 1) := by decide +kernel
theorem dX8_kind_107 : decode cX8_kind 107 = .ok (.aload_n 0, 1) := by decide +kernel
theorem dX8_kind_108 : decode cX8_kind 108 = .ok (.dup, 1) := by decide +kernel
theorem dX8_kind_109 : decode cX8_kind 109 = .ok (.getfield 105, 3) := by decide +kernel
theorem dX8_kind_112 : decode cX8_kind 112 = .ok (.iconst 1, 1) := by decide +kernel
theorem dX8_kind_113 : decode cX8_kind 113 = .ok (.iadd, 1) := by decide +kernel
theorem dX8_kind_114 : decode cX8_kind 114 = .ok (.putfield 105, 3) := by decide +kernel
theorem dX8_kind_117 : decode cX8_kind 117 = .ok (.aload_n 0, 1) := by decide +kernel
theorem dX8_kind_118 : decode cX8_kind 118 = .ok (.getfield 105, 3) := by decide +kernel
theorem dX8_kind_121 : decode cX8_kind 121 = .ok (.iconst 1, 1) := by decide +kernel
theorem dX8_kind_122 : decode cX8_kind 122 = .ok (.isub, 1) := by decide +kernel
theorem dX8_kind_123 : decode cX8_kind 123 = .ok (.ireturn, 1) := by decide +kernel
set_option maxRecDepth 20000 in
theorem ggX8_piece_X8_isKind : GoodIn wsX8_piece wsX8_isKind := goodIn_r _ [11, 12, 13, 14, 10, 15, 16, 17, 18, 19, 20, 21, 22, 23, 24, 25, 26, 27, 28, 29, 30, 31, 32, 33, 34, 35, 36, 37, 38, 39, 40, 41, 42, 43, 44, 45, 46, 47, 48, 49, 50, 51, 52] (by decide +kernel) (by decide +kernel)
set_option maxRecDepth 20000 in
theorem gX8_piece_X8_isKind : GoodIn wsX8_piece (wsV RX8 115 RX8 yX8_isKind wsX8_isKind) := goodIn_app (goodIn_of _ (by decide +kernel)) ggX8_piece_X8_isKind
set_option maxRecDepth 20000 in
theorem ggX8_piece_X8_in : GoodIn wsX8_piece wsX8_in := goodIn_r _ [15] (by decide +kernel) (by decide +kernel)
set_option maxRecDepth 20000 in
theorem gX8_piece_X8_in : GoodIn wsX8_piece (va_wsS RX8 108 yX8_in wsX8_in) := goodIn_app (goodIn_of _ (by decide +kernel)) ggX8_piece_X8_in
theorem dX8_piece_0 : decode cX8_piece 0 = .ok (.aload_n 0, 1) := by decide +kernel
theorem dX8_piece_1 : decode cX8_piece 1 = .ok (.iload_n 1, 1) := by decide +kernel
theorem dX8_piece_2 : decode cX8_piece 2 = .ok (.invokevirtual 115, 3) := by decide +kernel
theorem dX8_piece_5 : decode cX8_piece 5 = .ok (.ifCond .eq 12, 3) := by decide +kernel
theorem dX8_piece_8 : decode cX8_piece 8 = .ok (.iload_n 2, 1) := by decide +kernel
theorem dX8_piece_9 : decode cX8_piece 9 = .ok (.iconst 0, 1) := by decide +kernel
theorem dX8_piece_10 : decode cX8_piece 10 = .ok (.iconst 5, 1) := by decide +kernel
theorem dX8_piece_11 : decode cX8_piece 11 = .ok (.invokestatic 108, 3) := by decide +kernel
theorem dX8_piece_14 : decode cX8_piece 14 = .ok (.ifCond .ne 6, 3) := by decide +kernel
theorem dX8_piece_17 : decode cX8_piece 17 = .ok (.bipush (-2), 2) := by decide +kernel
theorem dX8_piece_19 : decode cX8_piece 19 = .ok (.ireturn, 1) := by decide +kernel
theorem dX8_piece_20 : decode cX8_piece 20 = .ok (.aload_n 0, 1) := by decide +kernel
theorem dX8_piece_21 : decode cX8_piece 21 = .ok (.getfield 112, 3) := by decide +kernel
theorem dX8_piece_24 : decode cX8_piece 24 = .ok (.bipush 100, 2) := by decide +kernel
theorem dX8_piece_26 : decode cX8_piece 26 = .ok (.if_icmp .ne 6, 3) := by decide +kernel
theorem dX8_piece_29 : decode cX8_piece 29 = .ok (.bipush (-3), 2) := by decide +kernel
theorem dX8_piece_31 : decode cX8_piece 31 = .ok (.ireturn, 1) := by decide +kernel
theorem dX8_piece_32 : decode cX8_piece 32 = .ok (.aload_n 0, 1) := by decide +kernel
theorem dX8_piece_33 : decode cX8_piece 33 = .ok (.getfield 26, 3) := by decide +kernel
theorem dX8_piece_36 : decode cX8_piece 36 = .ok (.aload_n 0, 1) := by decide +kernel
theorem dX8_piece_37 : decode cX8_piece 37 = .ok (.getfield 112, 3) := by decide +kernel
theorem dX8_piece_40 : decode cX8_piece 40 = .ok (.iload_n 1, 1) := by decide +kernel
theorem dX8_piece_41 : decode cX8_piece 41 = .ok (.iastore, 1) := by decide +kernel
theorem dX8_piece_42 : decode cX8_piece 42 = .ok (.aload_n 0, 1) := by decide +kernel
theorem dX8_piece_43 : decode cX8_piece 43 = .ok (.getfield 29, 3) := by decide +kernel
theorem dX8_piece_46 : decode cX8_piece 46 = .ok (.aload_n 0, 1) := by decide +kernel
theorem dX8_piece_47 : decode cX8_piece 47 = .ok (.getfield 112, 3) := by decide +kernel
theorem dX8_piece_50 : decode cX8_piece 50 = .ok (.iload_n 2, 1) := by decide +kernel
theorem dX8_piece_51 : decode cX8_piece 51 = .ok (.iastore, 1) := by decide +kernel
theorem dX8_piece_52 : decode cX8_piece 52 = .ok (.aload_n 0, 1) := by decide +kernel
theorem dX8_piece_53 : decode cX8_piece 53 = .ok (.getfield 32, 3) := by decide +kernel
theorem dX8_piece_56 : decode cX8_piece 56 = .ok (.aload_n 0, 1) := by decide +kernel
theorem dX8_piece_57 : decode cX8_piece 57 = .ok (.getfield 112, 3) := by decide +kernel
theorem dX8_piece_60 : decode cX8_piece 60 = .ok (.iload_n 3, 1) := by decide +kernel
theorem dX8_piece_61 : decode cX8_piece 61 = .ok (.bastore, 1) := by decide +kernel
theorem dX8_piece_62 : decode cX8_piece 62 = .ok (.aload_n 0, 1) := by decide +kernel
theorem dX8_piece_63 : decode cX8_piece 63 = .ok (.getfield 35, 3) := by decide +kernel
theorem dX8_piece_66 : decode cX8_piece 66 = .ok (.aload_n 0, 1) := by decide +kernel
theorem dX8_piece_67 : decode cX8_piece 67 = .ok (.getfield 112, 3) := by decide +kernel
theorem dX8_piece_70 : decode cX8_piece 70 = .ok (.iconst 0, 1) := by decide +kernel
theorem dX8_piece_71 : decode cX8_piece 71 = .ok (.iastore, 1) := by decide +kernel
theorem dX8_piece_72 : decode cX8_piece 72 = .ok (.aload_n 0, 1) := by decide +kernel
theorem dX8_piece_73 : decode cX8_piece 73 = .ok (.getfield 41, 3) := by decide +kernel
theorem dX8_piece_76 : decode cX8_piece 76 = .ok (.aload_n 0, 1) := by decide +kernel
theorem dX8_piece_77 : decode cX8_piece 77 = .ok (.getfield 112, 3) := by decide +kernel
theorem dX8_piece_80 : decode cX8_piece 80 = .ok (.iconst (-1), 1) := by decide +kernel
theorem dX8_piece_81 : decode cX8_piece 81 = .ok (.iastore, 1) := by decide +kernel
theorem dX8_piece_82 : decode cX8_piece 82 = .ok (.aload_n 0, 1) := by decide +kernel
theorem dX8_piece_83 : decode cX8_piece 83 = .ok (.dup, 1) := by decide +kernel
theorem dX8_piece_84 : decode cX8_piece 84 = .ok (.getfield 112, 3) := by decide +kernel
theorem dX8_piece_87 : decode cX8_piece 87 = .ok (.iconst 1, 1) := by decide +kernel
theorem dX8_piece_88 : decode cX8_piece 88 = .ok (.iadd, 1) := by decide +kernel
theorem dX8_piece_89 : decode cX8_piece 89 = .ok (.putfield 112, 3) := by decide +kernel
theorem dX8_piece_92 : decode cX8_piece 92 = .ok (.aload_n 0, 1) := by decide +kernel
theorem dX8_piece_93 : decode cX8_piece 93 = .ok (.getfield 112, 3) := by decide +kernel
theorem dX8_piece_96 : decode cX8_piece 96 = .ok (.iconst 1, 1) := by decide +kernel
theorem dX8_piece_97 : decode cX8_piece 97 = .ok (.isub, 1) := by decide +kernel
theorem dX8_piece_98 : decode cX8_piece 98 = .ok (.ireturn, 1) := by decide +kernel
set_option maxRecDepth 20000 in
theorem ggX8_about_X8_isPiece : GoodIn wsX8_about wsX8_isPiece := goodIn_r _ [11, 12, 13, 14, 10, 15, 16, 17, 18, 19, 20, 21, 22, 23, 24, 25, 26, 27, 28, 29, 30, 31, 32, 33, 34, 35, 36, 37, 38, 39, 40, 41, 42, 43, 44, 45, 46, 47, 48, 49, 50, 51, 52] (by decide +kernel) (by decide +kernel)
set_option maxRecDepth 20000 in
theorem gX8_about_X8_isPiece : GoodIn wsX8_about (wsV RX8 119 RX8 yX8_isPiece wsX8_isPiece) := goodIn_app (goodIn_of _ (by decide +kernel)) ggX8_about_X8_isPiece
theorem dX8_about_0 : decode cX8_about 0 = .ok (.aload_n 0, 1) := by decide +kernel
theorem dX8_about_1 : decode cX8_about 1 = .ok (.iload_n 1, 1) := by decide +kernel
theorem dX8_about_2 : decode cX8_about 2 = .ok (.invokevirtual 119, 3) := by decide +kernel
theorem dX8_about_5 : decode cX8_about 5 = .ok (.ifCond .ne 6, 3) := by decide +kernel
theorem dX8_about_8 : decode cX8_about 8 = .ok (.bipush (-2), 2) := by decide +kernel
theorem dX8_about_10 : decode cX8_about 10 = .ok (.ireturn, 1) := by decide +kernel
theorem dX8_about_11 : decode cX8_about 11 = .ok (.iload_n 2, 1) := by decide +kernel
theorem dX8_about_12 : decode cX8_about 12 = .ok (.tableswitch 90 0 5 #[40, 47, 54, 69, 76, 83], 40) := by decide +kernel
theorem dX8_about_52 : decode cX8_about 52 = .ok (.aload_n 0, 1) := by decide +kernel
theorem dX8_about_53 : decode cX8_about 53 = .ok (.getfield 26, 3) := by decide +kernel
theorem dX8_about_56 : decode cX8_about 56 = .ok (.iload_n 1, 1) := by decide +kernel
theorem dX8_about_57 : decode cX8_about 57 = .ok (.iaload, 1) := by decide +kernel
theorem dX8_about_58 : decode cX8_about 58 = .ok (.ireturn, 1) := by decide +kernel
theorem dX8_about_59 : decode cX8_about 59 = .ok (.aload_n 0, 1) := by decide +kernel
theorem dX8_about_60 : decode cX8_about 60 = .ok (.getfield 29, 3) := by decide +kernel
theorem dX8_about_63 : decode cX8_about 63 = .ok (.iload_n 1, 1) := by decide +kernel
theorem dX8_about_64 : decode cX8_about 64 = .ok (.iaload, 1) := by decide +kernel
theorem dX8_about_65 : decode cX8_about 65 = .ok (.ireturn, 1) := by decide +kernel
theorem dX8_about_66 : decode cX8_about 66 = .ok (.aload_n 0, 1) := by decide +kernel
theorem dX8_about_67 : decode cX8_about 67 = .ok (.getfield 32, 3) := by decide +kernel
theorem dX8_about_70 : decode cX8_about 70 = .ok (.iload_n 1, 1) := by decide +kernel
theorem dX8_about_71 : decode cX8_about 71 = .ok (.baload, 1) := by decide +kernel
theorem dX8_about_72 : decode cX8_about 72 = .ok (.ifCond .eq 7, 3) := by decide +kernel
theorem dX8_about_75 : decode cX8_about 75 = .ok (.iconst 1, 1) := by decide +kernel
theorem dX8_about_76 : decode cX8_about 76 = .ok (.goto 4, 3) := by decide +kernel
theorem dX8_about_79 : decode cX8_about 79 = .ok (.iconst 0, 1) := by decide +kernel
theorem dX8_about_80 : decode cX8_about 80 = .ok (.ireturn, 1) := by decide +kernel
theorem dX8_about_81 : decode cX8_about 81 = .ok (.aload_n 0, 1) := by decide +kernel
theorem dX8_about_82 : decode cX8_about 82 = .ok (.getfield 35, 3) := by decide +kernel
theorem dX8_about_85 : decode cX8_about 85 = .ok (.iload_n 1, 1) := by decide +kernel
theorem dX8_about_86 : decode cX8_about 86 = .ok (.iaload, 1) := by decide +kernel
theorem dX8_about_87 : decode cX8_about 87 = .ok (.ireturn, 1) := by decide +kernel
theorem dX8_about_88 : decode cX8_about 88 = .ok (.aload_n 0, 1) := by decide +kernel
theorem dX8_about_89 : decode cX8_about 89 = .ok (.getfield 38, 3) := by decide +kernel
theorem dX8_about_92 : decode cX8_about 92 = .ok (.iload_n 1, 1) := by decide +kernel
theorem dX8_about_93 : decode cX8_about 93 = .ok (.iaload, 1) := by decide +kernel
theorem dX8_about_94 : decode cX8_about 94 = .ok (.ireturn, 1) := by decide +kernel
theorem dX8_about_95 : decode cX8_about 95 = .ok (.aload_n 0, 1) := by decide +kernel
theorem dX8_about_96 : decode cX8_about 96 = .ok (.getfield 41, 3) := by decide +kernel
theorem dX8_about_99 : decode cX8_about 99 = .ok (.iload_n 1, 1) := by decide +kernel
theorem dX8_about_100 : decode cX8_about 100 = .ok (.iaload, 1) := by decide +kernel
theorem dX8_about_101 : decode cX8_about 101 = .ok (.ireturn, 1) := by decide +kernel
theorem dX8_about_102 : decode cX8_about 102 = .ok (.bipush (-2), 2) := by decide +kernel
theorem dX8_about_104 : decode cX8_about 104 = .ok (.ireturn, 1) := by decide +kernel
set_option maxRecDepth 20000 in
theorem ggX8_chip_X8_isPiece : GoodIn wsX8_chip wsX8_isPiece := goodIn_r _ [6, 7, 8, 9, 5, 10, 11, 12, 13, 14, 15, 16, 17, 18, 19, 20, 21, 22, 23, 24, 25, 26, 27, 28, 29, 30, 31, 32, 33, 34, 35, 36, 37, 38, 39, 40, 41, 42, 43, 44, 45, 46, 47] (by decide +kernel) (by decide +kernel)
set_option maxRecDepth 20000 in
theorem gX8_chip_X8_isPiece : GoodIn wsX8_chip (wsV RX8 119 RX8 yX8_isPiece wsX8_isPiece) := goodIn_app (goodIn_of _ (by decide +kernel)) ggX8_chip_X8_isPiece
theorem dX8_chip_0 : decode cX8_chip 0 = .ok (.aload_n 0, 1) := by decide +kernel
theorem dX8_chip_1 : decode cX8_chip 1 = .ok (.iload_n 1, 1) := by decide +kernel
theorem dX8_chip_2 : decode cX8_chip 2 = .ok (.invokevirtual 119, 3) := by decide +kernel
theorem dX8_chip_5 : decode cX8_chip 5 = .ok (.ifCond .ne 6, 3) := by decide +kernel
theorem dX8_chip_8 : decode cX8_chip 8 = .ok (.bipush (-2), 2) := by decide +kernel
theorem dX8_chip_10 : decode cX8_chip 10 = .ok (.ireturn, 1) := by decide +kernel
theorem dX8_chip_11 : decode cX8_chip 11 = .ok (.aload_n 0, 1) := by decide +kernel
theorem dX8_chip_12 : decode cX8_chip 12 = .ok (.getfield 32, 3) := by decide +kernel
theorem dX8_chip_15 : decode cX8_chip 15 = .ok (.iload_n 1, 1) := by decide +kernel
theorem dX8_chip_16 : decode cX8_chip 16 = .ok (.iload_n 2, 1) := by decide +kernel
theorem dX8_chip_17 : decode cX8_chip 17 = .ok (.bastore, 1) := by decide +kernel
theorem dX8_chip_18 : decode cX8_chip 18 = .ok (.iconst 1, 1) := by decide +kernel
theorem dX8_chip_19 : decode cX8_chip 19 = .ok (.ireturn, 1) := by decide +kernel
set_option maxRecDepth 20000 in
theorem ggX8_lost_X8_isPiece : GoodIn wsX8_lost wsX8_isPiece := goodIn_r _ [6, 7, 8, 9, 5, 10, 11, 12, 13, 14, 15, 16, 17, 18, 19, 20, 21, 22, 23, 24, 25, 26, 27, 28, 29, 30, 31, 32, 33, 34, 35, 36, 37, 38, 39, 40, 41, 42, 43, 44, 45, 46, 47] (by decide +kernel) (by decide +kernel)
set_option maxRecDepth 20000 in
theorem gX8_lost_X8_isPiece : GoodIn wsX8_lost (wsV RX8 119 RX8 yX8_isPiece wsX8_isPiece) := goodIn_app (goodIn_of _ (by decide +kernel)) ggX8_lost_X8_isPiece
theorem dX8_lost_0 : decode cX8_lost 0 = .ok (.aload_n 0, 1) := by decide +kernel
theorem dX8_lost_1 : decode cX8_lost 1 = .ok (.iload_n 1, 1) := by decide +kernel
theorem dX8_lost_2 : decode cX8_lost 2 = .ok (.invokevirtual 119, 3) := by decide +kernel
theorem dX8_lost_5 : decode cX8_lost 5 = .ok (.ifCond .ne 6, 3) := by decide +kernel
theorem dX8_lost_8 : decode cX8_lost 8 = .ok (.bipush (-2), 2) := by decide +kernel
theorem dX8_lost_10 : decode cX8_lost 10 = .ok (.ireturn, 1) := by decide +kernel
theorem dX8_lost_11 : decode cX8_lost 11 = .ok (.aload_n 0, 1) := by decide +kernel
theorem dX8_lost_12 : decode cX8_lost 12 = .ok (.getfield 35, 3) := by decide +kernel
theorem dX8_lost_15 : decode cX8_lost 15 = .ok (.iload_n 1, 1) := by decide +kernel
theorem dX8_lost_16 : decode cX8_lost 16 = .ok (.iaload, 1) := by decide +kernel
theorem dX8_lost_17 : decode cX8_lost 17 = .ok (.iconst 2, 1) := by decide +kernel
theorem dX8_lost_18 : decode cX8_lost 18 = .ok (.if_icmp .ne 6, 3) := by decide +kernel
theorem dX8_lost_21 : decode cX8_lost 21 = .ok (.bipush (-4), 2) := by decide +kernel
theorem dX8_lost_23 : decode cX8_lost 23 = .ok (.ireturn, 1) := by decide +kernel
theorem dX8_lost_24 : decode cX8_lost 24 = .ok (.aload_n 0, 1) := by decide +kernel
theorem dX8_lost_25 : decode cX8_lost 25 = .ok (.getfield 35, 3) := by decide +kernel
theorem dX8_lost_28 : decode cX8_lost 28 = .ok (.iload_n 1, 1) := by decide +kernel
theorem dX8_lost_29 : decode cX8_lost 29 = .ok (.aload_n 0, 1) := by decide +kernel
theorem dX8_lost_30 : decode cX8_lost 30 = .ok (.getfield 35, 3) := by decide +kernel
theorem dX8_lost_33 : decode cX8_lost 33 = .ok (.iload_n 1, 1) := by decide +kernel
theorem dX8_lost_34 : decode cX8_lost 34 = .ok (.iaload, 1) := by decide +kernel
theorem dX8_lost_35 : decode cX8_lost 35 = .ok (.iconst 4, 1) := by decide +kernel
theorem dX8_lost_36 : decode cX8_lost 36 = .ok (.if_icmp .ne 7, 3) := by decide +kernel
theorem dX8_lost_39 : decode cX8_lost 39 = .ok (.iconst 0, 1) := by decide +kernel
theorem dX8_lost_40 : decode cX8_lost 40 = .ok (.goto 4, 3) := by decide +kernel
theorem dX8_lost_43 : decode cX8_lost 43 = .ok (.iconst 4, 1) := by decide +kernel
theorem dX8_lost_44 : decode cX8_lost 44 = .ok (.iastore, 1) := by decide +kernel
theorem dX8_lost_45 : decode cX8_lost 45 = .ok (.aload_n 0, 1) := by decide +kernel
theorem dX8_lost_46 : decode cX8_lost 46 = .ok (.getfield 35, 3) := by decide +kernel
theorem dX8_lost_49 : decode cX8_lost 49 = .ok (.iload_n 1, 1) := by decide +kernel
theorem dX8_lost_50 : decode cX8_lost 50 = .ok (.iaload, 1) := by decide +kernel
theorem dX8_lost_51 : decode cX8_lost 51 = .ok (.ireturn, 1) := by decide +kernel
set_option maxRecDepth 20000 in
theorem ggX8_again_X8_isPiece : GoodIn wsX8_again wsX8_isPiece := goodIn_r _ [6, 7, 8, 9, 5, 10, 11, 12, 13, 14, 15, 16, 17, 18, 19, 20, 21, 22, 23, 24, 25, 26, 27, 28, 29, 30, 31, 32, 33, 34, 35, 36, 37, 38, 39, 40, 41, 42, 43, 44, 45, 46, 47] (by decide +kernel) (by decide +kernel)
set_option maxRecDepth 20000 in
theorem gX8_again_X8_isPiece : GoodIn wsX8_again (wsV RX8 119 RX8 yX8_isPiece wsX8_isPiece) := goodIn_app (goodIn_of _ (by decide +kernel)) ggX8_again_X8_isPiece
theorem dX8_again_0 : decode cX8_again 0 = .ok (.aload_n 0, 1) := by decide +kernel
theorem dX8_again_1 : decode cX8_again 1 = .ok (.iload_n 1, 1) := by decide +kernel
theorem dX8_again_2 : decode cX8_again 2 = .ok (.invokevirtual 119, 3) := by decide +kernel
theorem dX8_again_5 : decode cX8_again 5 = .ok (.ifCond .ne 6, 3) := by decide +kernel
theorem dX8_again_8 : decode cX8_again 8 = .ok (.bipush (-2), 2) := by decide +kernel
theorem dX8_again_10 : decode cX8_again 10 = .ok (.ireturn, 1) := by decide +kernel
theorem dX8_again_11 : decode cX8_again 11 = .ok (.aload_n 0, 1) := by decide +kernel
theorem dX8_again_12 : decode cX8_again 12 = .ok (.getfield 35, 3) := by decide +kernel
theorem dX8_again_15 : decode cX8_again 15 = .ok (.iload_n 1, 1) := by decide +kernel
theorem dX8_again_16 : decode cX8_again 16 = .ok (.iaload, 1) := by decide +kernel
theorem dX8_again_17 : decode cX8_again 17 = .ok (.iconst 3, 1) := by decide +kernel
theorem dX8_again_18 : decode cX8_again 18 = .ok (.if_icmp .eq 6, 3) := by decide +kernel
theorem dX8_again_21 : decode cX8_again 21 = .ok (.bipush (-4), 2) := by decide +kernel
theorem dX8_again_23 : decode cX8_again 23 = .ok (.ireturn, 1) := by decide +kernel
theorem dX8_again_24 : decode cX8_again 24 = .ok (.aload_n 0, 1) := by decide +kernel
theorem dX8_again_25 : decode cX8_again 25 = .ok (.getfield 35, 3) := by decide +kernel
theorem dX8_again_28 : decode cX8_again 28 = .ok (.iload_n 1, 1) := by decide +kernel
theorem dX8_again_29 : decode cX8_again 29 = .ok (.iconst 1, 1) := by decide +kernel
theorem dX8_again_30 : decode cX8_again 30 = .ok (.iastore, 1) := by decide +kernel
theorem dX8_again_31 : decode cX8_again 31 = .ok (.iconst 1, 1) := by decide +kernel
theorem dX8_again_32 : decode cX8_again 32 = .ok (.ireturn, 1) := by decide +kernel
theorem dX8_is_0 : decode cX8_is 0 = .ok (.aload_n 0, 1) := by decide +kernel
theorem dX8_is_1 : decode cX8_is 1 = .ok (.getfield 35, 3) := by decide +kernel
theorem dX8_is_4 : decode cX8_is 4 = .ok (.iload_n 1, 1) := by decide +kernel
theorem dX8_is_5 : decode cX8_is 5 = .ok (.iaload, 1) := by decide +kernel
theorem dX8_is_6 : decode cX8_is 6 = .ok (.iload 4, 2) := by decide +kernel
theorem dX8_is_8 : decode cX8_is 8 = .ok (.if_icmp .ne 35, 3) := by decide +kernel
theorem dX8_is_11 : decode cX8_is 11 = .ok (.iload_n 2, 1) := by decide +kernel
theorem dX8_is_12 : decode cX8_is 12 = .ok (.ifCond .lt 13, 3) := by decide +kernel
theorem dX8_is_15 : decode cX8_is 15 = .ok (.aload_n 0, 1) := by decide +kernel
theorem dX8_is_16 : decode cX8_is 16 = .ok (.getfield 29, 3) := by decide +kernel
theorem dX8_is_19 : decode cX8_is 19 = .ok (.iload_n 1, 1) := by decide +kernel
theorem dX8_is_20 : decode cX8_is 20 = .ok (.iaload, 1) := by decide +kernel
theorem dX8_is_21 : decode cX8_is 21 = .ok (.iload_n 2, 1) := by decide +kernel
theorem dX8_is_22 : decode cX8_is 22 = .ok (.if_icmp .ne 21, 3) := by decide +kernel
theorem dX8_is_25 : decode cX8_is 25 = .ok (.iload_n 3, 1) := by decide +kernel
theorem dX8_is_26 : decode cX8_is 26 = .ok (.ifCond .lt 13, 3) := by decide +kernel
theorem dX8_is_29 : decode cX8_is 29 = .ok (.aload_n 0, 1) := by decide +kernel
theorem dX8_is_30 : decode cX8_is 30 = .ok (.getfield 26, 3) := by decide +kernel
theorem dX8_is_33 : decode cX8_is 33 = .ok (.iload_n 1, 1) := by decide +kernel
theorem dX8_is_34 : decode cX8_is 34 = .ok (.iaload, 1) := by decide +kernel
theorem dX8_is_35 : decode cX8_is 35 = .ok (.iload_n 3, 1) := by decide +kernel
theorem dX8_is_36 : decode cX8_is 36 = .ok (.if_icmp .ne 7, 3) := by decide +kernel
theorem dX8_is_39 : decode cX8_is 39 = .ok (.iconst 1, 1) := by decide +kernel
theorem dX8_is_40 : decode cX8_is 40 = .ok (.goto 4, 3) := by decide +kernel
theorem dX8_is_43 : decode cX8_is 43 = .ok (.iconst 0, 1) := by decide +kernel
theorem dX8_is_44 : decode cX8_is 44 = .ok (.ireturn, 1) := by decide +kernel
set_option maxRecDepth 20000 in
theorem ggX8_pieces_X8_in : GoodIn wsX8_pieces wsX8_in := goodIn_r _ [5] (by decide +kernel) (by decide +kernel)
set_option maxRecDepth 20000 in
theorem gX8_pieces_X8_in : GoodIn wsX8_pieces (va_wsS RX8 108 yX8_in wsX8_in) := goodIn_app (goodIn_of _ (by decide +kernel)) ggX8_pieces_X8_in
set_option maxRecDepth 20000 in
theorem ggX8_pieces_X8_isKind : GoodIn wsX8_pieces wsX8_isKind := goodIn_r _ [9, 10, 2, 3, 4, 5, 18, 19, 20, 21, 22, 23, 24, 25, 26, 27, 28, 29, 30, 31, 32, 33, 34, 35, 36, 37, 38, 39, 40, 41, 42, 43, 44, 45, 46, 47, 48, 49, 50, 51, 52, 53, 54] (by decide +kernel) (by decide +kernel)
set_option maxRecDepth 20000 in
theorem gX8_pieces_X8_isKind : GoodIn wsX8_pieces (wsV RX8 115 RX8 yX8_isKind wsX8_isKind) := goodIn_app (goodIn_of _ (by decide +kernel)) ggX8_pieces_X8_isKind
set_option maxRecDepth 20000 in
theorem ggX8_pieces_X8_is : GoodIn wsX8_pieces wsX8_is := goodIn_r _ [14, 15, 16, 17, 18, 19, 20, 21, 22, 23, 24, 25, 26, 27, 28, 29, 30, 31, 32, 33, 34, 35, 36, 37, 38, 39, 40, 41, 42, 43, 44, 45, 46, 47, 48, 49, 50, 51, 52, 53, 54] (by decide +kernel) (by decide +kernel)
set_option maxRecDepth 20000 in
theorem gX8_pieces_X8_is : GoodIn wsX8_pieces (wsV RX8 122 RX8 yX8_is wsX8_is) := goodIn_app (goodIn_of _ (by decide +kernel)) ggX8_pieces_X8_is
theorem dX8_pieces_0 : decode cX8_pieces 0 = .ok (.iload_n 1, 1) := by decide +kernel
theorem dX8_pieces_1 : decode cX8_pieces 1 = .ok (.iconst (-1), 1) := by decide +kernel
theorem dX8_pieces_2 : decode cX8_pieces 2 = .ok (.iconst 5, 1) := by decide +kernel
theorem dX8_pieces_3 : decode cX8_pieces 3 = .ok (.invokestatic 108, 3) := by decide +kernel
theorem dX8_pieces_6 : decode cX8_pieces 6 = .ok (.ifCond .eq 25, 3) := by decide +kernel
theorem dX8_pieces_9 : decode cX8_pieces 9 = .ok (.iload_n 2, 1) := by decide +kernel
theorem dX8_pieces_10 : decode cX8_pieces 10 = .ok (.iconst (-1), 1) := by decide +kernel
theorem dX8_pieces_11 : decode cX8_pieces 11 = .ok (.if_icmp .eq 11, 3) := by decide +kernel
theorem dX8_pieces_14 : decode cX8_pieces 14 = .ok (.aload_n 0, 1) := by decide +kernel
theorem dX8_pieces_15 : decode cX8_pieces 15 = .ok (.iload_n 2, 1) := by decide +kernel
theorem dX8_pieces_16 : decode cX8_pieces 16 = .ok (.invokevirtual 115, 3) := by decide +kernel
theorem dX8_pieces_19 : decode cX8_pieces 19 = .ok (.ifCond .eq 12, 3) := by decide +kernel
theorem dX8_pieces_22 : decode cX8_pieces 22 = .ok (.iload_n 3, 1) := by decide +kernel
theorem dX8_pieces_23 : decode cX8_pieces 23 = .ok (.iconst 0, 1) := by decide +kernel
theorem dX8_pieces_24 : decode cX8_pieces 24 = .ok (.iconst 4, 1) := by decide +kernel
theorem dX8_pieces_25 : decode cX8_pieces 25 = .ok (.invokestatic 108, 3) := by decide +kernel
theorem dX8_pieces_28 : decode cX8_pieces 28 = .ok (.ifCond .ne 6, 3) := by decide +kernel
theorem dX8_pieces_31 : decode cX8_pieces 31 = .ok (.bipush (-2), 2) := by decide +kernel
theorem dX8_pieces_33 : decode cX8_pieces 33 = .ok (.ireturn, 1) := by decide +kernel
theorem dX8_pieces_34 : decode cX8_pieces 34 = .ok (.iconst 0, 1) := by decide +kernel
theorem dX8_pieces_35 : decode cX8_pieces 35 = .ok (.istore 4, 2) := by decide +kernel
theorem dX8_pieces_37 : decode cX8_pieces 37 = .ok (.iconst 0, 1) := by decide +kernel
theorem dX8_pieces_38 : decode cX8_pieces 38 = .ok (.istore 5, 2) := by decide +kernel
theorem dX8_pieces_40 : decode cX8_pieces 40 = .ok (.iload 5, 2) := by decide +kernel
theorem dX8_pieces_42 : decode cX8_pieces 42 = .ok (.aload_n 0, 1) := by decide +kernel
theorem dX8_pieces_43 : decode cX8_pieces 43 = .ok (.getfield 112, 3) := by decide +kernel
theorem dX8_pieces_46 : decode cX8_pieces 46 = .ok (.if_icmp .ge 31, 3) := by decide +kernel
theorem dX8_pieces_49 : decode cX8_pieces 49 = .ok (.iload 4, 2) := by decide +kernel
theorem dX8_pieces_51 : decode cX8_pieces 51 = .ok (.aload_n 0, 1) := by decide +kernel
theorem dX8_pieces_52 : decode cX8_pieces 52 = .ok (.iload 5, 2) := by decide +kernel
theorem dX8_pieces_54 : decode cX8_pieces 54 = .ok (.iload_n 1, 1) := by decide +kernel
theorem dX8_pieces_55 : decode cX8_pieces 55 = .ok (.iload_n 2, 1) := by decide +kernel
theorem dX8_pieces_56 : decode cX8_pieces 56 = .ok (.iload_n 3, 1) := by decide +kernel
theorem dX8_pieces_57 : decode cX8_pieces 57 = .ok (.invokevirtual 122, 3) := by decide +kernel
theorem dX8_pieces_60 : decode cX8_pieces 60 = .ok (.ifCond .eq 7, 3) := by decide +kernel
theorem dX8_pieces_63 : decode cX8_pieces 63 = .ok (.iconst 1, 1) := by decide +kernel
theorem dX8_pieces_64 : decode cX8_pieces 64 = .ok (.goto 4, 3) := by decide +kernel
theorem dX8_pieces_67 : decode cX8_pieces 67 = .ok (.iconst 0, 1) := by decide +kernel
theorem dX8_pieces_68 : decode cX8_pieces 68 = .ok (.iadd, 1) := by decide +kernel
theorem dX8_pieces_69 : decode cX8_pieces 69 = .ok (.istore 4, 2) := by decide +kernel
theorem dX8_pieces_71 : decode cX8_pieces 71 = .ok (.iinc 5 1, 3) := by decide +kernel
theorem dX8_pieces_74 : decode cX8_pieces 74 = .ok (.goto (-34), 3) := by decide +kernel
theorem dX8_pieces_77 : decode cX8_pieces 77 = .ok (.iload 4, 2) := by decide +kernel
theorem dX8_pieces_79 : decode cX8_pieces 79 = .ok (.ireturn, 1) := by decide +kernel
set_option maxRecDepth 20000 in
theorem ggX8_scan_X8_isSheet : GoodIn wsX8_scan wsX8_isSheet := goodIn_r _ [9, 10, 11, 8, 12] (by decide +kernel) (by decide +kernel)
set_option maxRecDepth 20000 in
theorem gX8_scan_X8_isSheet : GoodIn wsX8_scan (va_wsS RX8 126 yX8_isSheet wsX8_isSheet) := goodIn_app (goodIn_of _ (by decide +kernel)) ggX8_scan_X8_isSheet
set_option maxRecDepth 20000 in
theorem ggX8_scan_X8_in : GoodIn wsX8_scan wsX8_in := goodIn_r _ [12] (by decide +kernel) (by decide +kernel)
set_option maxRecDepth 20000 in
theorem gX8_scan_X8_in : GoodIn wsX8_scan (va_wsS RX8 108 yX8_in wsX8_in) := goodIn_app (goodIn_of _ (by decide +kernel)) ggX8_scan_X8_in
set_option maxRecDepth 20000 in
theorem ggX8_scan_X8_meets : GoodIn wsX8_scan wsX8_meets := goodIn_r _ [16, 17, 23, 24, 25, 26, 27, 28, 29, 30, 31, 32, 33, 34, 35, 36, 37, 38, 39, 40, 41, 42, 43, 44, 45, 46, 47, 48, 49, 50, 51, 52, 53, 54, 55, 56, 57, 58, 59] (by decide +kernel) (by decide +kernel)
set_option maxRecDepth 20000 in
theorem gX8_scan_X8_meets : GoodIn wsX8_scan (wsV RX8 129 RX8 yX8_meets wsX8_meets) := goodIn_app (goodIn_of _ (by decide +kernel)) ggX8_scan_X8_meets
set_option maxRecDepth 20000 in
theorem ggX8_scan_X8_isPiece : GoodIn wsX8_scan wsX8_isPiece := goodIn_r _ [21, 22, 10, 11, 8, 12, 23, 24, 25, 26, 27, 28, 29, 30, 31, 32, 33, 34, 35, 36, 37, 38, 39, 40, 41, 42, 43, 44, 45, 46, 47, 48, 49, 50, 51, 52, 53, 54, 55, 56, 57, 58, 59] (by decide +kernel) (by decide +kernel)
set_option maxRecDepth 20000 in
theorem gX8_scan_X8_isPiece : GoodIn wsX8_scan (wsV RX8 119 RX8 yX8_isPiece wsX8_isPiece) := goodIn_app (goodIn_of _ (by decide +kernel)) ggX8_scan_X8_isPiece
theorem dX8_scan_0 : decode cX8_scan 0 = .ok (.iload_n 1, 1) := by decide +kernel
theorem dX8_scan_1 : decode cX8_scan 1 = .ok (.invokestatic 126, 3) := by decide +kernel
theorem dX8_scan_4 : decode cX8_scan 4 = .ok (.ifCond .eq 13, 3) := by decide +kernel
theorem dX8_scan_7 : decode cX8_scan 7 = .ok (.iload_n 2, 1) := by decide +kernel
theorem dX8_scan_8 : decode cX8_scan 8 = .ok (.iconst 0, 1) := by decide +kernel
theorem dX8_scan_9 : decode cX8_scan 9 = .ok (.bipush 60, 2) := by decide +kernel
theorem dX8_scan_11 : decode cX8_scan 11 = .ok (.invokestatic 108, 3) := by decide +kernel
theorem dX8_scan_14 : decode cX8_scan 14 = .ok (.ifCond .ne 6, 3) := by decide +kernel
theorem dX8_scan_17 : decode cX8_scan 17 = .ok (.bipush (-2), 2) := by decide +kernel
theorem dX8_scan_19 : decode cX8_scan 19 = .ok (.ireturn, 1) := by decide +kernel
theorem dX8_scan_20 : decode cX8_scan 20 = .ok (.aload_n 0, 1) := by decide +kernel
theorem dX8_scan_21 : decode cX8_scan 21 = .ok (.getfield 90, 3) := by decide +kernel
theorem dX8_scan_24 : decode cX8_scan 24 = .ok (.iload_n 1, 1) := by decide +kernel
theorem dX8_scan_25 : decode cX8_scan 25 = .ok (.baload, 1) := by decide +kernel
theorem dX8_scan_26 : decode cX8_scan 26 = .ok (.ifCond .ne 9, 3) := by decide +kernel
theorem dX8_scan_29 : decode cX8_scan 29 = .ok (.aload_n 0, 1) := by decide +kernel
theorem dX8_scan_30 : decode cX8_scan 30 = .ok (.iconst 1, 1) := by decide +kernel
theorem dX8_scan_31 : decode cX8_scan 31 = .ok (.invokevirtual 129, 3) := by decide +kernel
theorem dX8_scan_34 : decode cX8_scan 34 = .ok (.ireturn, 1) := by decide +kernel
theorem dX8_scan_35 : decode cX8_scan 35 = .ok (.iload_n 2, 1) := by decide +kernel
theorem dX8_scan_36 : decode cX8_scan 36 = .ok (.aload_n 0, 1) := by decide +kernel
theorem dX8_scan_37 : decode cX8_scan 37 = .ok (.getfield 96, 3) := by decide +kernel
theorem dX8_scan_40 : decode cX8_scan 40 = .ok (.iload_n 1, 1) := by decide +kernel
theorem dX8_scan_41 : decode cX8_scan 41 = .ok (.iaload, 1) := by decide +kernel
theorem dX8_scan_42 : decode cX8_scan 42 = .ok (.if_icmp .le 9, 3) := by decide +kernel
theorem dX8_scan_45 : decode cX8_scan 45 = .ok (.aload_n 0, 1) := by decide +kernel
theorem dX8_scan_46 : decode cX8_scan 46 = .ok (.iconst 2, 1) := by decide +kernel
theorem dX8_scan_47 : decode cX8_scan 47 = .ok (.invokevirtual 129, 3) := by decide +kernel
theorem dX8_scan_50 : decode cX8_scan 50 = .ok (.ireturn, 1) := by decide +kernel
theorem dX8_scan_51 : decode cX8_scan 51 = .ok (.iconst 0, 1) := by decide +kernel
theorem dX8_scan_52 : decode cX8_scan 52 = .ok (.istore_n 3, 1) := by decide +kernel
theorem dX8_scan_53 : decode cX8_scan 53 = .ok (.iconst 0, 1) := by decide +kernel
theorem dX8_scan_54 : decode cX8_scan 54 = .ok (.istore 4, 2) := by decide +kernel
theorem dX8_scan_56 : decode cX8_scan 56 = .ok (.iload 4, 2) := by decide +kernel
theorem dX8_scan_58 : decode cX8_scan 58 = .ok (.iload_n 2, 1) := by decide +kernel
theorem dX8_scan_59 : decode cX8_scan 59 = .ok (.if_icmp .ge 63, 3) := by decide +kernel
theorem dX8_scan_62 : decode cX8_scan 62 = .ok (.aload_n 0, 1) := by decide +kernel
theorem dX8_scan_63 : decode cX8_scan 63 = .ok (.getfield 99, 3) := by decide +kernel
theorem dX8_scan_66 : decode cX8_scan 66 = .ok (.bipush 60, 2) := by decide +kernel
theorem dX8_scan_68 : decode cX8_scan 68 = .ok (.iload_n 1, 1) := by decide +kernel
theorem dX8_scan_69 : decode cX8_scan 69 = .ok (.imul, 1) := by decide +kernel
theorem dX8_scan_70 : decode cX8_scan 70 = .ok (.iload 4, 2) := by decide +kernel
theorem dX8_scan_72 : decode cX8_scan 72 = .ok (.iadd, 1) := by decide +kernel
theorem dX8_scan_73 : decode cX8_scan 73 = .ok (.iaload, 1) := by decide +kernel
theorem dX8_scan_74 : decode cX8_scan 74 = .ok (.istore 5, 2) := by decide +kernel
theorem dX8_scan_76 : decode cX8_scan 76 = .ok (.aload_n 0, 1) := by decide +kernel
theorem dX8_scan_77 : decode cX8_scan 77 = .ok (.iload 5, 2) := by decide +kernel
theorem dX8_scan_79 : decode cX8_scan 79 = .ok (.invokevirtual 119, 3) := by decide +kernel
theorem dX8_scan_82 : decode cX8_scan 82 = .ok (.ifCond .eq 34, 3) := by decide +kernel
theorem dX8_scan_85 : decode cX8_scan 85 = .ok (.aload_n 0, 1) := by decide +kernel
theorem dX8_scan_86 : decode cX8_scan 86 = .ok (.getfield 35, 3) := by decide +kernel
theorem dX8_scan_89 : decode cX8_scan 89 = .ok (.iload 5, 2) := by decide +kernel
theorem dX8_scan_91 : decode cX8_scan 91 = .ok (.iaload, 1) := by decide +kernel
theorem dX8_scan_92 : decode cX8_scan 92 = .ok (.ifCond .ne 24, 3) := by decide +kernel
theorem dX8_scan_95 : decode cX8_scan 95 = .ok (.aload_n 0, 1) := by decide +kernel
theorem dX8_scan_96 : decode cX8_scan 96 = .ok (.getfield 32, 3) := by decide +kernel
theorem dX8_scan_99 : decode cX8_scan 99 = .ok (.iload 5, 2) := by decide +kernel
theorem dX8_scan_101 : decode cX8_scan 101 = .ok (.baload, 1) := by decide +kernel
theorem dX8_scan_102 : decode cX8_scan 102 = .ok (.ifCond .eq 14, 3) := by decide +kernel
theorem dX8_scan_105 : decode cX8_scan 105 = .ok (.aload_n 0, 1) := by decide +kernel
theorem dX8_scan_106 : decode cX8_scan 106 = .ok (.getfield 35, 3) := by decide +kernel
theorem dX8_scan_109 : decode cX8_scan 109 = .ok (.iload 5, 2) := by decide +kernel
theorem dX8_scan_111 : decode cX8_scan 111 = .ok (.iconst 1, 1) := by decide +kernel
theorem dX8_scan_112 : decode cX8_scan 112 = .ok (.iastore, 1) := by decide +kernel
theorem dX8_scan_113 : decode cX8_scan 113 = .ok (.iinc 3 1, 3) := by decide +kernel
theorem dX8_scan_116 : decode cX8_scan 116 = .ok (.iinc 4 1, 3) := by decide +kernel
theorem dX8_scan_119 : decode cX8_scan 119 = .ok (.goto (-63), 3) := by decide +kernel
theorem dX8_scan_122 : decode cX8_scan 122 = .ok (.iload_n 3, 1) := by decide +kernel
theorem dX8_scan_123 : decode cX8_scan 123 = .ok (.ireturn, 1) := by decide +kernel
set_option maxRecDepth 20000 in
theorem ggX8_hand_X8_isPiece : GoodIn wsX8_hand wsX8_isPiece := goodIn_r _ [6, 7, 8, 9, 5, 10, 11, 12, 13, 14, 15, 16, 17, 18, 19, 20, 21, 22, 23, 24, 25, 26, 27, 28, 29, 30, 31, 32, 33, 34, 35, 36, 37, 38, 39, 40, 41, 42, 43, 44, 45, 46, 47] (by decide +kernel) (by decide +kernel)
set_option maxRecDepth 20000 in
theorem gX8_hand_X8_isPiece : GoodIn wsX8_hand (wsV RX8 119 RX8 yX8_isPiece wsX8_isPiece) := goodIn_app (goodIn_of _ (by decide +kernel)) ggX8_hand_X8_isPiece
theorem dX8_hand_0 : decode cX8_hand 0 = .ok (.aload_n 0, 1) := by decide +kernel
theorem dX8_hand_1 : decode cX8_hand 1 = .ok (.iload_n 1, 1) := by decide +kernel
theorem dX8_hand_2 : decode cX8_hand 2 = .ok (.invokevirtual 119, 3) := by decide +kernel
theorem dX8_hand_5 : decode cX8_hand 5 = .ok (.ifCond .ne 6, 3) := by decide +kernel
theorem dX8_hand_8 : decode cX8_hand 8 = .ok (.bipush (-2), 2) := by decide +kernel
theorem dX8_hand_10 : decode cX8_hand 10 = .ok (.ireturn, 1) := by decide +kernel
theorem dX8_hand_11 : decode cX8_hand 11 = .ok (.aload_n 0, 1) := by decide +kernel
theorem dX8_hand_12 : decode cX8_hand 12 = .ok (.getfield 35, 3) := by decide +kernel
theorem dX8_hand_15 : decode cX8_hand 15 = .ok (.iload_n 1, 1) := by decide +kernel
theorem dX8_hand_16 : decode cX8_hand 16 = .ok (.iaload, 1) := by decide +kernel
theorem dX8_hand_17 : decode cX8_hand 17 = .ok (.ifCond .eq 6, 3) := by decide +kernel
theorem dX8_hand_20 : decode cX8_hand 20 = .ok (.bipush (-4), 2) := by decide +kernel
theorem dX8_hand_22 : decode cX8_hand 22 = .ok (.ireturn, 1) := by decide +kernel
theorem dX8_hand_23 : decode cX8_hand 23 = .ok (.aload_n 0, 1) := by decide +kernel
theorem dX8_hand_24 : decode cX8_hand 24 = .ok (.getfield 35, 3) := by decide +kernel
theorem dX8_hand_27 : decode cX8_hand 27 = .ok (.iload_n 1, 1) := by decide +kernel
theorem dX8_hand_28 : decode cX8_hand 28 = .ok (.iconst 1, 1) := by decide +kernel
theorem dX8_hand_29 : decode cX8_hand 29 = .ok (.iastore, 1) := by decide +kernel
theorem dX8_hand_30 : decode cX8_hand 30 = .ok (.iconst 1, 1) := by decide +kernel
theorem dX8_hand_31 : decode cX8_hand 31 = .ok (.ireturn, 1) := by decide +kernel
set_option maxRecDepth 20000 in
theorem ggX8_batch_X8_isKind : GoodIn wsX8_batch wsX8_isKind := goodIn_r _ [13, 14, 15, 16, 12, 17, 24, 25, 26, 27, 28, 29, 30, 31, 32, 33, 34, 35, 36, 37, 38, 39, 40, 41, 42, 43, 44, 45, 46, 47, 48, 49, 50, 51, 52, 53, 54, 55, 56, 57, 58, 59, 60] (by decide +kernel) (by decide +kernel)
set_option maxRecDepth 20000 in
theorem gX8_batch_X8_isKind : GoodIn wsX8_batch (wsV RX8 115 RX8 yX8_isKind wsX8_isKind) := goodIn_app (goodIn_of _ (by decide +kernel)) ggX8_batch_X8_isKind
set_option maxRecDepth 20000 in
theorem ggX8_batch_X8_in : GoodIn wsX8_batch wsX8_in := goodIn_r _ [17] (by decide +kernel) (by decide +kernel)
set_option maxRecDepth 20000 in
theorem gX8_batch_X8_in : GoodIn wsX8_batch (va_wsS RX8 108 yX8_in wsX8_in) := goodIn_app (goodIn_of _ (by decide +kernel)) ggX8_batch_X8_in
set_option maxRecDepth 20000 in
theorem ggX8_batch_X8_is : GoodIn wsX8_batch wsX8_is := goodIn_r _ [21, 4, 22, 23, 24, 25, 26, 27, 28, 29, 30, 31, 32, 33, 34, 35, 36, 37, 38, 39, 40, 41, 42, 43, 44, 45, 46, 47, 48, 49, 50, 51, 52, 53, 54, 55, 56, 57, 58, 59, 60] (by decide +kernel) (by decide +kernel)
set_option maxRecDepth 20000 in
theorem gX8_batch_X8_is : GoodIn wsX8_batch (wsV RX8 122 RX8 yX8_is wsX8_is) := goodIn_app (goodIn_of _ (by decide +kernel)) ggX8_batch_X8_is
theorem dX8_batch_0 : decode cX8_batch 0 = .ok (.aload_n 0, 1) := by decide +kernel
theorem dX8_batch_1 : decode cX8_batch 1 = .ok (.iload_n 1, 1) := by decide +kernel
theorem dX8_batch_2 : decode cX8_batch 2 = .ok (.invokevirtual 115, 3) := by decide +kernel
theorem dX8_batch_5 : decode cX8_batch 5 = .ok (.ifCond .eq 22, 3) := by decide +kernel
theorem dX8_batch_8 : decode cX8_batch 8 = .ok (.iload_n 2, 1) := by decide +kernel
theorem dX8_batch_9 : decode cX8_batch 9 = .ok (.iconst (-1), 1) := by decide +kernel
theorem dX8_batch_10 : decode cX8_batch 10 = .ok (.iconst 5, 1) := by decide +kernel
theorem dX8_batch_11 : decode cX8_batch 11 = .ok (.invokestatic 108, 3) := by decide +kernel
theorem dX8_batch_14 : decode cX8_batch 14 = .ok (.ifCond .eq 13, 3) := by decide +kernel
theorem dX8_batch_17 : decode cX8_batch 17 = .ok (.iload_n 3, 1) := by decide +kernel
theorem dX8_batch_18 : decode cX8_batch 18 = .ok (.iconst 1, 1) := by decide +kernel
theorem dX8_batch_19 : decode cX8_batch 19 = .ok (.bipush 20, 2) := by decide +kernel
theorem dX8_batch_21 : decode cX8_batch 21 = .ok (.invokestatic 108, 3) := by decide +kernel
theorem dX8_batch_24 : decode cX8_batch 24 = .ok (.ifCond .ne 6, 3) := by decide +kernel
theorem dX8_batch_27 : decode cX8_batch 27 = .ok (.bipush (-2), 2) := by decide +kernel
theorem dX8_batch_29 : decode cX8_batch 29 = .ok (.ireturn, 1) := by decide +kernel
theorem dX8_batch_30 : decode cX8_batch 30 = .ok (.aload_n 0, 1) := by decide +kernel
theorem dX8_batch_31 : decode cX8_batch 31 = .ok (.getfield 133, 3) := by decide +kernel
theorem dX8_batch_34 : decode cX8_batch 34 = .ok (.bipush 12, 2) := by decide +kernel
theorem dX8_batch_36 : decode cX8_batch 36 = .ok (.if_icmp .ne 6, 3) := by decide +kernel
theorem dX8_batch_39 : decode cX8_batch 39 = .ok (.bipush (-3), 2) := by decide +kernel
theorem dX8_batch_41 : decode cX8_batch 41 = .ok (.ireturn, 1) := by decide +kernel
theorem dX8_batch_42 : decode cX8_batch 42 = .ok (.iconst 0, 1) := by decide +kernel
theorem dX8_batch_43 : decode cX8_batch 43 = .ok (.istore 4, 2) := by decide +kernel
theorem dX8_batch_45 : decode cX8_batch 45 = .ok (.iconst 0, 1) := by decide +kernel
theorem dX8_batch_46 : decode cX8_batch 46 = .ok (.istore 5, 2) := by decide +kernel
theorem dX8_batch_48 : decode cX8_batch 48 = .ok (.iload 5, 2) := by decide +kernel
theorem dX8_batch_50 : decode cX8_batch 50 = .ok (.aload_n 0, 1) := by decide +kernel
theorem dX8_batch_51 : decode cX8_batch 51 = .ok (.getfield 112, 3) := by decide +kernel
theorem dX8_batch_54 : decode cX8_batch 54 = .ok (.if_icmp .ge 66, 3) := by decide +kernel
theorem dX8_batch_57 : decode cX8_batch 57 = .ok (.iload 4, 2) := by decide +kernel
theorem dX8_batch_59 : decode cX8_batch 59 = .ok (.iload_n 3, 1) := by decide +kernel
theorem dX8_batch_60 : decode cX8_batch 60 = .ok (.if_icmp .ge 60, 3) := by decide +kernel
theorem dX8_batch_63 : decode cX8_batch 63 = .ok (.aload_n 0, 1) := by decide +kernel
theorem dX8_batch_64 : decode cX8_batch 64 = .ok (.iload 5, 2) := by decide +kernel
theorem dX8_batch_66 : decode cX8_batch 66 = .ok (.iload_n 2, 1) := by decide +kernel
theorem dX8_batch_67 : decode cX8_batch 67 = .ok (.iload_n 1, 1) := by decide +kernel
theorem dX8_batch_68 : decode cX8_batch 68 = .ok (.iconst 1, 1) := by decide +kernel
theorem dX8_batch_69 : decode cX8_batch 69 = .ok (.invokevirtual 122, 3) := by decide +kernel
theorem dX8_batch_72 : decode cX8_batch 72 = .ok (.ifCond .eq 42, 3) := by decide +kernel
theorem dX8_batch_75 : decode cX8_batch 75 = .ok (.aload_n 0, 1) := by decide +kernel
theorem dX8_batch_76 : decode cX8_batch 76 = .ok (.getfield 50, 3) := by decide +kernel
theorem dX8_batch_79 : decode cX8_batch 79 = .ok (.bipush 20, 2) := by decide +kernel
theorem dX8_batch_81 : decode cX8_batch 81 = .ok (.aload_n 0, 1) := by decide +kernel
theorem dX8_batch_82 : decode cX8_batch 82 = .ok (.getfield 133, 3) := by decide +kernel
theorem dX8_batch_85 : decode cX8_batch 85 = .ok (.imul, 1) := by decide +kernel
theorem dX8_batch_86 : decode cX8_batch 86 = .ok (.iload 4, 2) := by decide +kernel
theorem dX8_batch_88 : decode cX8_batch 88 = .ok (.iadd, 1) := by decide +kernel
theorem dX8_batch_89 : decode cX8_batch 89 = .ok (.iload 5, 2) := by decide +kernel
theorem dX8_batch_91 : decode cX8_batch 91 = .ok (.iastore, 1) := by decide +kernel
theorem dX8_batch_92 : decode cX8_batch 92 = .ok (.aload_n 0, 1) := by decide +kernel
theorem dX8_batch_93 : decode cX8_batch 93 = .ok (.getfield 35, 3) := by decide +kernel
theorem dX8_batch_96 : decode cX8_batch 96 = .ok (.iload 5, 2) := by decide +kernel
theorem dX8_batch_98 : decode cX8_batch 98 = .ok (.iconst 2, 1) := by decide +kernel
theorem dX8_batch_99 : decode cX8_batch 99 = .ok (.iastore, 1) := by decide +kernel
theorem dX8_batch_100 : decode cX8_batch 100 = .ok (.aload_n 0, 1) := by decide +kernel
theorem dX8_batch_101 : decode cX8_batch 101 = .ok (.getfield 41, 3) := by decide +kernel
theorem dX8_batch_104 : decode cX8_batch 104 = .ok (.iload 5, 2) := by decide +kernel
theorem dX8_batch_106 : decode cX8_batch 106 = .ok (.aload_n 0, 1) := by decide +kernel
theorem dX8_batch_107 : decode cX8_batch 107 = .ok (.getfield 133, 3) := by decide +kernel
theorem dX8_batch_110 : decode cX8_batch 110 = .ok (.iastore, 1) := by decide +kernel
theorem dX8_batch_111 : decode cX8_batch 111 = .ok (.iinc 4 1, 3) := by decide +kernel
theorem dX8_batch_114 : decode cX8_batch 114 = .ok (.iinc 5 1, 3) := by decide +kernel
theorem dX8_batch_117 : decode cX8_batch 117 = .ok (.goto (-69), 3) := by decide +kernel
theorem dX8_batch_120 : decode cX8_batch 120 = .ok (.iload 4, 2) := by decide +kernel
theorem dX8_batch_122 : decode cX8_batch 122 = .ok (.ifCond .ne 6, 3) := by decide +kernel
theorem dX8_batch_125 : decode cX8_batch 125 = .ok (.bipush (-4), 2) := by decide +kernel
theorem dX8_batch_127 : decode cX8_batch 127 = .ok (.ireturn, 1) := by decide +kernel
theorem dX8_batch_128 : decode cX8_batch 128 = .ok (.aload_n 0, 1) := by decide +kernel
theorem dX8_batch_129 : decode cX8_batch 129 = .ok (.getfield 44, 3) := by decide +kernel
theorem dX8_batch_132 : decode cX8_batch 132 = .ok (.aload_n 0, 1) := by decide +kernel
theorem dX8_batch_133 : decode cX8_batch 133 = .ok (.getfield 133, 3) := by decide +kernel
theorem dX8_batch_136 : decode cX8_batch 136 = .ok (.iload_n 1, 1) := by decide +kernel
theorem dX8_batch_137 : decode cX8_batch 137 = .ok (.iastore, 1) := by decide +kernel
theorem dX8_batch_138 : decode cX8_batch 138 = .ok (.aload_n 0, 1) := by decide +kernel
theorem dX8_batch_139 : decode cX8_batch 139 = .ok (.getfield 47, 3) := by decide +kernel
theorem dX8_batch_142 : decode cX8_batch 142 = .ok (.aload_n 0, 1) := by decide +kernel
theorem dX8_batch_143 : decode cX8_batch 143 = .ok (.getfield 133, 3) := by decide +kernel
theorem dX8_batch_146 : decode cX8_batch 146 = .ok (.iload 4, 2) := by decide +kernel
theorem dX8_batch_148 : decode cX8_batch 148 = .ok (.iastore, 1) := by decide +kernel
theorem dX8_batch_149 : decode cX8_batch 149 = .ok (.aload_n 0, 1) := by decide +kernel
theorem dX8_batch_150 : decode cX8_batch 150 = .ok (.getfield 53, 3) := by decide +kernel
theorem dX8_batch_153 : decode cX8_batch 153 = .ok (.aload_n 0, 1) := by decide +kernel
theorem dX8_batch_154 : decode cX8_batch 154 = .ok (.getfield 133, 3) := by decide +kernel
theorem dX8_batch_157 : decode cX8_batch 157 = .ok (.aload_n 0, 1) := by decide +kernel
theorem dX8_batch_158 : decode cX8_batch 158 = .ok (.getfield 133, 3) := by decide +kernel
theorem dX8_batch_161 : decode cX8_batch 161 = .ok (.iastore, 1) := by decide +kernel
theorem dX8_batch_162 : decode cX8_batch 162 = .ok (.aload_n 0, 1) := by decide +kernel
theorem dX8_batch_163 : decode cX8_batch 163 = .ok (.dup, 1) := by decide +kernel
theorem dX8_batch_164 : decode cX8_batch 164 = .ok (.getfield 133, 3) := by decide +kernel
theorem dX8_batch_167 : decode cX8_batch 167 = .ok (.iconst 1, 1) := by decide +kernel
theorem dX8_batch_168 : decode cX8_batch 168 = .ok (.iadd, 1) := by decide +kernel
theorem dX8_batch_169 : decode cX8_batch 169 = .ok (.putfield 133, 3) := by decide +kernel
theorem dX8_batch_172 : decode cX8_batch 172 = .ok (.iload 4, 2) := by decide +kernel
theorem dX8_batch_174 : decode cX8_batch 174 = .ok (.ireturn, 1) := by decide +kernel
set_option maxRecDepth 20000 in
theorem ggX8_at_X8_in : GoodIn wsX8_at wsX8_in := goodIn_r _ [6] (by decide +kernel) (by decide +kernel)
set_option maxRecDepth 20000 in
theorem gX8_at_X8_in : GoodIn wsX8_at (va_wsS RX8 108 yX8_in wsX8_in) := goodIn_app (goodIn_of _ (by decide +kernel)) ggX8_at_X8_in
theorem dX8_at_0 : decode cX8_at 0 = .ok (.iload_n 1, 1) := by decide +kernel
theorem dX8_at_1 : decode cX8_at 1 = .ok (.iconst 0, 1) := by decide +kernel
theorem dX8_at_2 : decode cX8_at 2 = .ok (.aload_n 0, 1) := by decide +kernel
theorem dX8_at_3 : decode cX8_at 3 = .ok (.getfield 133, 3) := by decide +kernel
theorem dX8_at_6 : decode cX8_at 6 = .ok (.iconst 1, 1) := by decide +kernel
theorem dX8_at_7 : decode cX8_at 7 = .ok (.isub, 1) := by decide +kernel
theorem dX8_at_8 : decode cX8_at 8 = .ok (.invokestatic 108, 3) := by decide +kernel
theorem dX8_at_11 : decode cX8_at 11 = .ok (.ifCond .eq 12, 3) := by decide +kernel
theorem dX8_at_14 : decode cX8_at 14 = .ok (.aload_n 0, 1) := by decide +kernel
theorem dX8_at_15 : decode cX8_at 15 = .ok (.getfield 53, 3) := by decide +kernel
theorem dX8_at_18 : decode cX8_at 18 = .ok (.iload_n 1, 1) := by decide +kernel
theorem dX8_at_19 : decode cX8_at 19 = .ok (.iaload, 1) := by decide +kernel
theorem dX8_at_20 : decode cX8_at 20 = .ok (.goto 4, 3) := by decide +kernel
theorem dX8_at_23 : decode cX8_at 23 = .ok (.iconst (-1), 1) := by decide +kernel
theorem dX8_at_24 : decode cX8_at 24 = .ok (.ireturn, 1) := by decide +kernel
theorem dX8_placeIn_0 : decode cX8_placeIn 0 = .ok (.iconst 0, 1) := by decide +kernel
theorem dX8_placeIn_1 : decode cX8_placeIn 1 = .ok (.istore_n 2, 1) := by decide +kernel
theorem dX8_placeIn_2 : decode cX8_placeIn 2 = .ok (.aload_n 0, 1) := by decide +kernel
theorem dX8_placeIn_3 : decode cX8_placeIn 3 = .ok (.getfield 53, 3) := by decide +kernel
theorem dX8_placeIn_6 : decode cX8_placeIn 6 = .ok (.iload_n 2, 1) := by decide +kernel
theorem dX8_placeIn_7 : decode cX8_placeIn 7 = .ok (.iaload, 1) := by decide +kernel
theorem dX8_placeIn_8 : decode cX8_placeIn 8 = .ok (.iload_n 1, 1) := by decide +kernel
theorem dX8_placeIn_9 : decode cX8_placeIn 9 = .ok (.if_icmp .eq 9, 3) := by decide +kernel
theorem dX8_placeIn_12 : decode cX8_placeIn 12 = .ok (.iinc 2 1, 3) := by decide +kernel
theorem dX8_placeIn_15 : decode cX8_placeIn 15 = .ok (.goto (-13), 3) := by decide +kernel
theorem dX8_placeIn_18 : decode cX8_placeIn 18 = .ok (.iload_n 2, 1) := by decide +kernel
theorem dX8_placeIn_19 : decode cX8_placeIn 19 = .ok (.ireturn, 1) := by decide +kernel
set_option maxRecDepth 20000 in
theorem ggX8_of_X8_in : GoodIn wsX8_of wsX8_in := goodIn_r _ [8] (by decide +kernel) (by decide +kernel)
set_option maxRecDepth 20000 in
theorem gX8_of_X8_in : GoodIn wsX8_of (va_wsS RX8 108 yX8_in wsX8_in) := goodIn_app (goodIn_of _ (by decide +kernel)) ggX8_of_X8_in
set_option maxRecDepth 20000 in
theorem ggX8_of_X8_placeIn : GoodIn wsX8_of wsX8_placeIn := goodIn_r _ [12, 13, 14, 15, 16, 17, 18, 19, 20, 21, 22, 23, 24, 25, 26, 27, 28, 29, 30, 31, 32, 33, 34, 35, 36, 37, 38, 39, 40, 41, 42, 43, 44, 45, 46, 47, 48, 49, 50] (by decide +kernel) (by decide +kernel)
set_option maxRecDepth 20000 in
theorem gX8_of_X8_placeIn : GoodIn wsX8_of (wsV RX8 136 RX8 yX8_placeIn wsX8_placeIn) := goodIn_app (goodIn_of _ (by decide +kernel)) ggX8_of_X8_placeIn
theorem dX8_of_0 : decode cX8_of 0 = .ok (.iload_n 1, 1) := by decide +kernel
theorem dX8_of_1 : decode cX8_of 1 = .ok (.iconst 0, 1) := by decide +kernel
theorem dX8_of_2 : decode cX8_of 2 = .ok (.aload_n 0, 1) := by decide +kernel
theorem dX8_of_3 : decode cX8_of 3 = .ok (.getfield 133, 3) := by decide +kernel
theorem dX8_of_6 : decode cX8_of 6 = .ok (.iconst 1, 1) := by decide +kernel
theorem dX8_of_7 : decode cX8_of 7 = .ok (.isub, 1) := by decide +kernel
theorem dX8_of_8 : decode cX8_of 8 = .ok (.invokestatic 108, 3) := by decide +kernel
theorem dX8_of_11 : decode cX8_of 11 = .ok (.ifCond .ne 6, 3) := by decide +kernel
theorem dX8_of_14 : decode cX8_of 14 = .ok (.bipush (-2), 2) := by decide +kernel
theorem dX8_of_16 : decode cX8_of 16 = .ok (.ireturn, 1) := by decide +kernel
theorem dX8_of_17 : decode cX8_of 17 = .ok (.iload_n 2, 1) := by decide +kernel
theorem dX8_of_18 : decode cX8_of 18 = .ok (.tableswitch 46 0 2 #[26, 33, 40], 26) := by decide +kernel
theorem dX8_of_44 : decode cX8_of 44 = .ok (.aload_n 0, 1) := by decide +kernel
theorem dX8_of_45 : decode cX8_of 45 = .ok (.getfield 44, 3) := by decide +kernel
theorem dX8_of_48 : decode cX8_of 48 = .ok (.iload_n 1, 1) := by decide +kernel
theorem dX8_of_49 : decode cX8_of 49 = .ok (.iaload, 1) := by decide +kernel
theorem dX8_of_50 : decode cX8_of 50 = .ok (.ireturn, 1) := by decide +kernel
theorem dX8_of_51 : decode cX8_of 51 = .ok (.aload_n 0, 1) := by decide +kernel
theorem dX8_of_52 : decode cX8_of 52 = .ok (.getfield 47, 3) := by decide +kernel
theorem dX8_of_55 : decode cX8_of 55 = .ok (.iload_n 1, 1) := by decide +kernel
theorem dX8_of_56 : decode cX8_of 56 = .ok (.iaload, 1) := by decide +kernel
theorem dX8_of_57 : decode cX8_of 57 = .ok (.ireturn, 1) := by decide +kernel
theorem dX8_of_58 : decode cX8_of 58 = .ok (.aload_n 0, 1) := by decide +kernel
theorem dX8_of_59 : decode cX8_of 59 = .ok (.iload_n 1, 1) := by decide +kernel
theorem dX8_of_60 : decode cX8_of 60 = .ok (.invokevirtual 136, 3) := by decide +kernel
theorem dX8_of_63 : decode cX8_of 63 = .ok (.ireturn, 1) := by decide +kernel
theorem dX8_of_64 : decode cX8_of 64 = .ok (.iload_n 2, 1) := by decide +kernel
theorem dX8_of_65 : decode cX8_of 65 = .ok (.bipush 10, 2) := by decide +kernel
theorem dX8_of_67 : decode cX8_of 67 = .ok (.bipush 9, 2) := by decide +kernel
theorem dX8_of_69 : decode cX8_of 69 = .ok (.aload_n 0, 1) := by decide +kernel
theorem dX8_of_70 : decode cX8_of 70 = .ok (.getfield 47, 3) := by decide +kernel
theorem dX8_of_73 : decode cX8_of 73 = .ok (.iload_n 1, 1) := by decide +kernel
theorem dX8_of_74 : decode cX8_of 74 = .ok (.iaload, 1) := by decide +kernel
theorem dX8_of_75 : decode cX8_of 75 = .ok (.iadd, 1) := by decide +kernel
theorem dX8_of_76 : decode cX8_of 76 = .ok (.invokestatic 108, 3) := by decide +kernel
theorem dX8_of_79 : decode cX8_of 79 = .ok (.ifCond .eq 20, 3) := by decide +kernel
theorem dX8_of_82 : decode cX8_of 82 = .ok (.aload_n 0, 1) := by decide +kernel
theorem dX8_of_83 : decode cX8_of 83 = .ok (.getfield 50, 3) := by decide +kernel
theorem dX8_of_86 : decode cX8_of 86 = .ok (.bipush 20, 2) := by decide +kernel
theorem dX8_of_88 : decode cX8_of 88 = .ok (.iload_n 1, 1) := by decide +kernel
theorem dX8_of_89 : decode cX8_of 89 = .ok (.imul, 1) := by decide +kernel
theorem dX8_of_90 : decode cX8_of 90 = .ok (.iload_n 2, 1) := by decide +kernel
theorem dX8_of_91 : decode cX8_of 91 = .ok (.iadd, 1) := by decide +kernel
theorem dX8_of_92 : decode cX8_of 92 = .ok (.bipush 10, 2) := by decide +kernel
theorem dX8_of_94 : decode cX8_of 94 = .ok (.isub, 1) := by decide +kernel
theorem dX8_of_95 : decode cX8_of 95 = .ok (.iaload, 1) := by decide +kernel
theorem dX8_of_96 : decode cX8_of 96 = .ok (.goto 5, 3) := by decide +kernel
theorem dX8_of_99 : decode cX8_of 99 = .ok (.bipush (-2), 2) := by decide +kernel
theorem dX8_of_101 : decode cX8_of 101 = .ok (.ireturn, 1) := by decide +kernel
set_option maxRecDepth 20000 in
theorem ggX8_swap_X8_in : GoodIn wsX8_swap wsX8_in := goodIn_r _ [6] (by decide +kernel) (by decide +kernel)
set_option maxRecDepth 20000 in
theorem gX8_swap_X8_in : GoodIn wsX8_swap (va_wsS RX8 108 yX8_in wsX8_in) := goodIn_app (goodIn_of _ (by decide +kernel)) ggX8_swap_X8_in
theorem dX8_swap_0 : decode cX8_swap 0 = .ok (.iload_n 1, 1) := by decide +kernel
theorem dX8_swap_1 : decode cX8_swap 1 = .ok (.iconst 0, 1) := by decide +kernel
theorem dX8_swap_2 : decode cX8_swap 2 = .ok (.aload_n 0, 1) := by decide +kernel
theorem dX8_swap_3 : decode cX8_swap 3 = .ok (.getfield 133, 3) := by decide +kernel
theorem dX8_swap_6 : decode cX8_swap 6 = .ok (.iconst 1, 1) := by decide +kernel
theorem dX8_swap_7 : decode cX8_swap 7 = .ok (.isub, 1) := by decide +kernel
theorem dX8_swap_8 : decode cX8_swap 8 = .ok (.invokestatic 108, 3) := by decide +kernel
theorem dX8_swap_11 : decode cX8_swap 11 = .ok (.ifCond .eq 17, 3) := by decide +kernel
theorem dX8_swap_14 : decode cX8_swap 14 = .ok (.iload_n 2, 1) := by decide +kernel
theorem dX8_swap_15 : decode cX8_swap 15 = .ok (.iconst 0, 1) := by decide +kernel
theorem dX8_swap_16 : decode cX8_swap 16 = .ok (.aload_n 0, 1) := by decide +kernel
theorem dX8_swap_17 : decode cX8_swap 17 = .ok (.getfield 133, 3) := by decide +kernel
theorem dX8_swap_20 : decode cX8_swap 20 = .ok (.iconst 1, 1) := by decide +kernel
theorem dX8_swap_21 : decode cX8_swap 21 = .ok (.isub, 1) := by decide +kernel
theorem dX8_swap_22 : decode cX8_swap 22 = .ok (.invokestatic 108, 3) := by decide +kernel
theorem dX8_swap_25 : decode cX8_swap 25 = .ok (.ifCond .ne 6, 3) := by decide +kernel
theorem dX8_swap_28 : decode cX8_swap 28 = .ok (.bipush (-2), 2) := by decide +kernel
theorem dX8_swap_30 : decode cX8_swap 30 = .ok (.ireturn, 1) := by decide +kernel
theorem dX8_swap_31 : decode cX8_swap 31 = .ok (.aload_n 0, 1) := by decide +kernel
theorem dX8_swap_32 : decode cX8_swap 32 = .ok (.getfield 53, 3) := by decide +kernel
theorem dX8_swap_35 : decode cX8_swap 35 = .ok (.iload_n 1, 1) := by decide +kernel
theorem dX8_swap_36 : decode cX8_swap 36 = .ok (.iaload, 1) := by decide +kernel
theorem dX8_swap_37 : decode cX8_swap 37 = .ok (.istore_n 3, 1) := by decide +kernel
theorem dX8_swap_38 : decode cX8_swap 38 = .ok (.aload_n 0, 1) := by decide +kernel
theorem dX8_swap_39 : decode cX8_swap 39 = .ok (.getfield 53, 3) := by decide +kernel
theorem dX8_swap_42 : decode cX8_swap 42 = .ok (.iload_n 1, 1) := by decide +kernel
theorem dX8_swap_43 : decode cX8_swap 43 = .ok (.aload_n 0, 1) := by decide +kernel
theorem dX8_swap_44 : decode cX8_swap 44 = .ok (.getfield 53, 3) := by decide +kernel
theorem dX8_swap_47 : decode cX8_swap 47 = .ok (.iload_n 2, 1) := by decide +kernel
theorem dX8_swap_48 : decode cX8_swap 48 = .ok (.iaload, 1) := by decide +kernel
theorem dX8_swap_49 : decode cX8_swap 49 = .ok (.iastore, 1) := by decide +kernel
theorem dX8_swap_50 : decode cX8_swap 50 = .ok (.aload_n 0, 1) := by decide +kernel
theorem dX8_swap_51 : decode cX8_swap 51 = .ok (.getfield 53, 3) := by decide +kernel
theorem dX8_swap_54 : decode cX8_swap 54 = .ok (.iload_n 2, 1) := by decide +kernel
theorem dX8_swap_55 : decode cX8_swap 55 = .ok (.iload_n 3, 1) := by decide +kernel
theorem dX8_swap_56 : decode cX8_swap 56 = .ok (.iastore, 1) := by decide +kernel
theorem dX8_swap_57 : decode cX8_swap 57 = .ok (.iconst 1, 1) := by decide +kernel
theorem dX8_swap_58 : decode cX8_swap 58 = .ok (.ireturn, 1) := by decide +kernel
theorem dX8_undo_0 : decode cX8_undo 0 = .ok (.aload_n 0, 1) := by decide +kernel
theorem dX8_undo_1 : decode cX8_undo 1 = .ok (.getfield 133, 3) := by decide +kernel
theorem dX8_undo_4 : decode cX8_undo 4 = .ok (.ifCond .ne 6, 3) := by decide +kernel
theorem dX8_undo_7 : decode cX8_undo 7 = .ok (.bipush (-4), 2) := by decide +kernel
theorem dX8_undo_9 : decode cX8_undo 9 = .ok (.ireturn, 1) := by decide +kernel
theorem dX8_undo_10 : decode cX8_undo 10 = .ok (.aload_n 0, 1) := by decide +kernel
theorem dX8_undo_11 : decode cX8_undo 11 = .ok (.getfield 53, 3) := by decide +kernel
theorem dX8_undo_14 : decode cX8_undo 14 = .ok (.aload_n 0, 1) := by decide +kernel
theorem dX8_undo_15 : decode cX8_undo 15 = .ok (.getfield 133, 3) := by decide +kernel
theorem dX8_undo_18 : decode cX8_undo 18 = .ok (.iconst 1, 1) := by decide +kernel
theorem dX8_undo_19 : decode cX8_undo 19 = .ok (.isub, 1) := by decide +kernel
theorem dX8_undo_20 : decode cX8_undo 20 = .ok (.iaload, 1) := by decide +kernel
theorem dX8_undo_21 : decode cX8_undo 21 = .ok (.istore_n 1, 1) := by decide +kernel
theorem dX8_undo_22 : decode cX8_undo 22 = .ok (.iconst 0, 1) := by decide +kernel
theorem dX8_undo_23 : decode cX8_undo 23 = .ok (.istore_n 2, 1) := by decide +kernel
theorem dX8_undo_24 : decode cX8_undo 24 = .ok (.iload_n 2, 1) := by decide +kernel
theorem dX8_undo_25 : decode cX8_undo 25 = .ok (.aload_n 0, 1) := by decide +kernel
theorem dX8_undo_26 : decode cX8_undo 26 = .ok (.getfield 47, 3) := by decide +kernel
theorem dX8_undo_29 : decode cX8_undo 29 = .ok (.iload_n 1, 1) := by decide +kernel
theorem dX8_undo_30 : decode cX8_undo 30 = .ok (.iaload, 1) := by decide +kernel
theorem dX8_undo_31 : decode cX8_undo 31 = .ok (.if_icmp .ge 35, 3) := by decide +kernel
theorem dX8_undo_34 : decode cX8_undo 34 = .ok (.aload_n 0, 1) := by decide +kernel
theorem dX8_undo_35 : decode cX8_undo 35 = .ok (.getfield 50, 3) := by decide +kernel
theorem dX8_undo_38 : decode cX8_undo 38 = .ok (.bipush 20, 2) := by decide +kernel
theorem dX8_undo_40 : decode cX8_undo 40 = .ok (.iload_n 1, 1) := by decide +kernel
theorem dX8_undo_41 : decode cX8_undo 41 = .ok (.imul, 1) := by decide +kernel
theorem dX8_undo_42 : decode cX8_undo 42 = .ok (.iload_n 2, 1) := by decide +kernel
theorem dX8_undo_43 : decode cX8_undo 43 = .ok (.iadd, 1) := by decide +kernel
theorem dX8_undo_44 : decode cX8_undo 44 = .ok (.iaload, 1) := by decide +kernel
theorem dX8_undo_45 : decode cX8_undo 45 = .ok (.istore_n 3, 1) := by decide +kernel
theorem dX8_undo_46 : decode cX8_undo 46 = .ok (.aload_n 0, 1) := by decide +kernel
theorem dX8_undo_47 : decode cX8_undo 47 = .ok (.getfield 35, 3) := by decide +kernel
theorem dX8_undo_50 : decode cX8_undo 50 = .ok (.iload_n 3, 1) := by decide +kernel
theorem dX8_undo_51 : decode cX8_undo 51 = .ok (.iconst 1, 1) := by decide +kernel
theorem dX8_undo_52 : decode cX8_undo 52 = .ok (.iastore, 1) := by decide +kernel
theorem dX8_undo_53 : decode cX8_undo 53 = .ok (.aload_n 0, 1) := by decide +kernel
theorem dX8_undo_54 : decode cX8_undo 54 = .ok (.getfield 41, 3) := by decide +kernel
theorem dX8_undo_57 : decode cX8_undo 57 = .ok (.iload_n 3, 1) := by decide +kernel
theorem dX8_undo_58 : decode cX8_undo 58 = .ok (.iconst (-1), 1) := by decide +kernel
theorem dX8_undo_59 : decode cX8_undo 59 = .ok (.iastore, 1) := by decide +kernel
theorem dX8_undo_60 : decode cX8_undo 60 = .ok (.iinc 2 1, 3) := by decide +kernel
theorem dX8_undo_63 : decode cX8_undo 63 = .ok (.goto (-39), 3) := by decide +kernel
theorem dX8_undo_66 : decode cX8_undo 66 = .ok (.aload_n 0, 1) := by decide +kernel
theorem dX8_undo_67 : decode cX8_undo 67 = .ok (.dup, 1) := by decide +kernel
theorem dX8_undo_68 : decode cX8_undo 68 = .ok (.getfield 133, 3) := by decide +kernel
theorem dX8_undo_71 : decode cX8_undo 71 = .ok (.iconst 1, 1) := by decide +kernel
theorem dX8_undo_72 : decode cX8_undo 72 = .ok (.isub, 1) := by decide +kernel
theorem dX8_undo_73 : decode cX8_undo 73 = .ok (.putfield 133, 3) := by decide +kernel
theorem dX8_undo_76 : decode cX8_undo 76 = .ok (.iconst 0, 1) := by decide +kernel
theorem dX8_undo_77 : decode cX8_undo 77 = .ok (.istore_n 2, 1) := by decide +kernel
theorem dX8_undo_78 : decode cX8_undo 78 = .ok (.iload_n 2, 1) := by decide +kernel
theorem dX8_undo_79 : decode cX8_undo 79 = .ok (.aload_n 0, 1) := by decide +kernel
theorem dX8_undo_80 : decode cX8_undo 80 = .ok (.getfield 133, 3) := by decide +kernel
theorem dX8_undo_83 : decode cX8_undo 83 = .ok (.if_icmp .ge 33, 3) := by decide +kernel
theorem dX8_undo_86 : decode cX8_undo 86 = .ok (.aload_n 0, 1) := by decide +kernel
theorem dX8_undo_87 : decode cX8_undo 87 = .ok (.getfield 53, 3) := by decide +kernel
theorem dX8_undo_90 : decode cX8_undo 90 = .ok (.iload_n 2, 1) := by decide +kernel
theorem dX8_undo_91 : decode cX8_undo 91 = .ok (.dup2, 1) := by decide +kernel
theorem dX8_undo_92 : decode cX8_undo 92 = .ok (.iaload, 1) := by decide +kernel
theorem dX8_undo_93 : decode cX8_undo 93 = .ok (.aload_n 0, 1) := by decide +kernel
theorem dX8_undo_94 : decode cX8_undo 94 = .ok (.getfield 53, 3) := by decide +kernel
theorem dX8_undo_97 : decode cX8_undo 97 = .ok (.iload_n 2, 1) := by decide +kernel
theorem dX8_undo_98 : decode cX8_undo 98 = .ok (.iaload, 1) := by decide +kernel
theorem dX8_undo_99 : decode cX8_undo 99 = .ok (.iload_n 1, 1) := by decide +kernel
theorem dX8_undo_100 : decode cX8_undo 100 = .ok (.if_icmp .le 7, 3) := by decide +kernel
theorem dX8_undo_103 : decode cX8_undo 103 = .ok (.iconst 1, 1) := by decide +kernel
theorem dX8_undo_104 : decode cX8_undo 104 = .ok (.goto 4, 3) := by decide +kernel
theorem dX8_undo_107 : decode cX8_undo 107 = .ok (.iconst 0, 1) := by decide +kernel
theorem dX8_undo_108 : decode cX8_undo 108 = .ok (.isub, 1) := by decide +kernel
theorem dX8_undo_109 : decode cX8_undo 109 = .ok (.iastore, 1) := by decide +kernel
theorem dX8_undo_110 : decode cX8_undo 110 = .ok (.iinc 2 1, 3) := by decide +kernel
theorem dX8_undo_113 : decode cX8_undo 113 = .ok (.goto (-35), 3) := by decide +kernel
theorem dX8_undo_116 : decode cX8_undo 116 = .ok (.iload_n 1, 1) := by decide +kernel
theorem dX8_undo_117 : decode cX8_undo 117 = .ok (.istore_n 2, 1) := by decide +kernel
theorem dX8_undo_118 : decode cX8_undo 118 = .ok (.iload_n 2, 1) := by decide +kernel
theorem dX8_undo_119 : decode cX8_undo 119 = .ok (.aload_n 0, 1) := by decide +kernel
theorem dX8_undo_120 : decode cX8_undo 120 = .ok (.getfield 133, 3) := by decide +kernel
theorem dX8_undo_123 : decode cX8_undo 123 = .ok (.if_icmp .ge 97, 3) := by decide +kernel
theorem dX8_undo_126 : decode cX8_undo 126 = .ok (.aload_n 0, 1) := by decide +kernel
theorem dX8_undo_127 : decode cX8_undo 127 = .ok (.getfield 44, 3) := by decide +kernel
theorem dX8_undo_130 : decode cX8_undo 130 = .ok (.iload_n 2, 1) := by decide +kernel
theorem dX8_undo_131 : decode cX8_undo 131 = .ok (.aload_n 0, 1) := by decide +kernel
theorem dX8_undo_132 : decode cX8_undo 132 = .ok (.getfield 44, 3) := by decide +kernel
theorem dX8_undo_135 : decode cX8_undo 135 = .ok (.iload_n 2, 1) := by decide +kernel
theorem dX8_undo_136 : decode cX8_undo 136 = .ok (.iconst 1, 1) := by decide +kernel
theorem dX8_undo_137 : decode cX8_undo 137 = .ok (.iadd, 1) := by decide +kernel
theorem dX8_undo_138 : decode cX8_undo 138 = .ok (.iaload, 1) := by decide +kernel
theorem dX8_undo_139 : decode cX8_undo 139 = .ok (.iastore, 1) := by decide +kernel
theorem dX8_undo_140 : decode cX8_undo 140 = .ok (.aload_n 0, 1) := by decide +kernel
theorem dX8_undo_141 : decode cX8_undo 141 = .ok (.getfield 47, 3) := by decide +kernel
theorem dX8_undo_144 : decode cX8_undo 144 = .ok (.iload_n 2, 1) := by decide +kernel
theorem dX8_undo_145 : decode cX8_undo 145 = .ok (.aload_n 0, 1) := by decide +kernel
theorem dX8_undo_146 : decode cX8_undo 146 = .ok (.getfield 47, 3) := by decide +kernel
theorem dX8_undo_149 : decode cX8_undo 149 = .ok (.iload_n 2, 1) := by decide +kernel
theorem dX8_undo_150 : decode cX8_undo 150 = .ok (.iconst 1, 1) := by decide +kernel
theorem dX8_undo_151 : decode cX8_undo 151 = .ok (.iadd, 1) := by decide +kernel
theorem dX8_undo_152 : decode cX8_undo 152 = .ok (.iaload, 1) := by decide +kernel
theorem dX8_undo_153 : decode cX8_undo 153 = .ok (.iastore, 1) := by decide +kernel
theorem dX8_undo_154 : decode cX8_undo 154 = .ok (.iconst 0, 1) := by decide +kernel
theorem dX8_undo_155 : decode cX8_undo 155 = .ok (.istore_n 3, 1) := by decide +kernel
theorem dX8_undo_156 : decode cX8_undo 156 = .ok (.iload_n 3, 1) := by decide +kernel
theorem dX8_undo_157 : decode cX8_undo 157 = .ok (.aload_n 0, 1) := by decide +kernel
theorem dX8_undo_158 : decode cX8_undo 158 = .ok (.getfield 47, 3) := by decide +kernel
theorem dX8_undo_161 : decode cX8_undo 161 = .ok (.iload_n 2, 1) := by decide +kernel
theorem dX8_undo_162 : decode cX8_undo 162 = .ok (.iaload, 1) := by decide +kernel
theorem dX8_undo_163 : decode cX8_undo 163 = .ok (.if_icmp .ge 51, 3) := by decide +kernel
theorem dX8_undo_166 : decode cX8_undo 166 = .ok (.aload_n 0, 1) := by decide +kernel
theorem dX8_undo_167 : decode cX8_undo 167 = .ok (.getfield 50, 3) := by decide +kernel
theorem dX8_undo_170 : decode cX8_undo 170 = .ok (.bipush 20, 2) := by decide +kernel
theorem dX8_undo_172 : decode cX8_undo 172 = .ok (.iload_n 2, 1) := by decide +kernel
theorem dX8_undo_173 : decode cX8_undo 173 = .ok (.imul, 1) := by decide +kernel
theorem dX8_undo_174 : decode cX8_undo 174 = .ok (.iload_n 3, 1) := by decide +kernel
theorem dX8_undo_175 : decode cX8_undo 175 = .ok (.iadd, 1) := by decide +kernel
theorem dX8_undo_176 : decode cX8_undo 176 = .ok (.aload_n 0, 1) := by decide +kernel
theorem dX8_undo_177 : decode cX8_undo 177 = .ok (.getfield 50, 3) := by decide +kernel
theorem dX8_undo_180 : decode cX8_undo 180 = .ok (.bipush 20, 2) := by decide +kernel
theorem dX8_undo_182 : decode cX8_undo 182 = .ok (.iload_n 2, 1) := by decide +kernel
theorem dX8_undo_183 : decode cX8_undo 183 = .ok (.imul, 1) := by decide +kernel
theorem dX8_undo_184 : decode cX8_undo 184 = .ok (.bipush 20, 2) := by decide +kernel
theorem dX8_undo_186 : decode cX8_undo 186 = .ok (.iadd, 1) := by decide +kernel
theorem dX8_undo_187 : decode cX8_undo 187 = .ok (.iload_n 3, 1) := by decide +kernel
theorem dX8_undo_188 : decode cX8_undo 188 = .ok (.iadd, 1) := by decide +kernel
theorem dX8_undo_189 : decode cX8_undo 189 = .ok (.iaload, 1) := by decide +kernel
theorem dX8_undo_190 : decode cX8_undo 190 = .ok (.iastore, 1) := by decide +kernel
theorem dX8_undo_191 : decode cX8_undo 191 = .ok (.aload_n 0, 1) := by decide +kernel
theorem dX8_undo_192 : decode cX8_undo 192 = .ok (.getfield 41, 3) := by decide +kernel
theorem dX8_undo_195 : decode cX8_undo 195 = .ok (.aload_n 0, 1) := by decide +kernel
theorem dX8_undo_196 : decode cX8_undo 196 = .ok (.getfield 50, 3) := by decide +kernel
theorem dX8_undo_199 : decode cX8_undo 199 = .ok (.bipush 20, 2) := by decide +kernel
theorem dX8_undo_201 : decode cX8_undo 201 = .ok (.iload_n 2, 1) := by decide +kernel
theorem dX8_undo_202 : decode cX8_undo 202 = .ok (.imul, 1) := by decide +kernel
theorem dX8_undo_203 : decode cX8_undo 203 = .ok (.iload_n 3, 1) := by decide +kernel
theorem dX8_undo_204 : decode cX8_undo 204 = .ok (.iadd, 1) := by decide +kernel
theorem dX8_undo_205 : decode cX8_undo 205 = .ok (.iaload, 1) := by decide +kernel
theorem dX8_undo_206 : decode cX8_undo 206 = .ok (.iload_n 2, 1) := by decide +kernel
theorem dX8_undo_207 : decode cX8_undo 207 = .ok (.iastore, 1) := by decide +kernel
theorem dX8_undo_208 : decode cX8_undo 208 = .ok (.iinc 3 1, 3) := by decide +kernel
theorem dX8_undo_211 : decode cX8_undo 211 = .ok (.goto (-55), 3) := by decide +kernel
theorem dX8_undo_214 : decode cX8_undo 214 = .ok (.iinc 2 1, 3) := by decide +kernel
theorem dX8_undo_217 : decode cX8_undo 217 = .ok (.goto (-99), 3) := by decide +kernel
theorem dX8_undo_220 : decode cX8_undo 220 = .ok (.aload_n 0, 1) := by decide +kernel
theorem dX8_undo_221 : decode cX8_undo 221 = .ok (.getfield 133, 3) := by decide +kernel
theorem dX8_undo_224 : decode cX8_undo 224 = .ok (.ireturn, 1) := by decide +kernel
theorem dX8_emptiesOf_0 : decode cX8_emptiesOf 0 = .ok (.aload_n 0, 1) := by decide +kernel
theorem dX8_emptiesOf_1 : decode cX8_emptiesOf 1 = .ok (.getfield 13, 3) := by decide +kernel
theorem dX8_emptiesOf_4 : decode cX8_emptiesOf 4 = .ok (.iload_n 2, 1) := by decide +kernel
theorem dX8_emptiesOf_5 : decode cX8_emptiesOf 5 = .ok (.iaload, 1) := by decide +kernel
theorem dX8_emptiesOf_6 : decode cX8_emptiesOf 6 = .ok (.aload_n 0, 1) := by decide +kernel
theorem dX8_emptiesOf_7 : decode cX8_emptiesOf 7 = .ok (.getfield 13, 3) := by decide +kernel
theorem dX8_emptiesOf_10 : decode cX8_emptiesOf 10 = .ok (.iload_n 1, 1) := by decide +kernel
theorem dX8_emptiesOf_11 : decode cX8_emptiesOf 11 = .ok (.iaload, 1) := by decide +kernel
theorem dX8_emptiesOf_12 : decode cX8_emptiesOf 12 = .ok (.if_icmp .ge 19, 3) := by decide +kernel
theorem dX8_emptiesOf_15 : decode cX8_emptiesOf 15 = .ok (.aload_n 0, 1) := by decide +kernel
theorem dX8_emptiesOf_16 : decode cX8_emptiesOf 16 = .ok (.getfield 13, 3) := by decide +kernel
theorem dX8_emptiesOf_19 : decode cX8_emptiesOf 19 = .ok (.iload_n 1, 1) := by decide +kernel
theorem dX8_emptiesOf_20 : decode cX8_emptiesOf 20 = .ok (.iaload, 1) := by decide +kernel
theorem dX8_emptiesOf_21 : decode cX8_emptiesOf 21 = .ok (.aload_n 0, 1) := by decide +kernel
theorem dX8_emptiesOf_22 : decode cX8_emptiesOf 22 = .ok (.getfield 13, 3) := by decide +kernel
theorem dX8_emptiesOf_25 : decode cX8_emptiesOf 25 = .ok (.iload_n 2, 1) := by decide +kernel
theorem dX8_emptiesOf_26 : decode cX8_emptiesOf 26 = .ok (.iaload, 1) := by decide +kernel
theorem dX8_emptiesOf_27 : decode cX8_emptiesOf 27 = .ok (.isub, 1) := by decide +kernel
theorem dX8_emptiesOf_28 : decode cX8_emptiesOf 28 = .ok (.goto 4, 3) := by decide +kernel
theorem dX8_emptiesOf_31 : decode cX8_emptiesOf 31 = .ok (.iconst 0, 1) := by decide +kernel
theorem dX8_emptiesOf_32 : decode cX8_emptiesOf 32 = .ok (.istore_n 3, 1) := by decide +kernel
theorem dX8_emptiesOf_33 : decode cX8_emptiesOf 33 = .ok (.aload_n 0, 1) := by decide +kernel
theorem dX8_emptiesOf_34 : decode cX8_emptiesOf 34 = .ok (.getfield 7, 3) := by decide +kernel
theorem dX8_emptiesOf_37 : decode cX8_emptiesOf 37 = .ok (.iload_n 1, 1) := by decide +kernel
theorem dX8_emptiesOf_38 : decode cX8_emptiesOf 38 = .ok (.iaload, 1) := by decide +kernel
theorem dX8_emptiesOf_39 : decode cX8_emptiesOf 39 = .ok (.aload_n 0, 1) := by decide +kernel
theorem dX8_emptiesOf_40 : decode cX8_emptiesOf 40 = .ok (.getfield 7, 3) := by decide +kernel
theorem dX8_emptiesOf_43 : decode cX8_emptiesOf 43 = .ok (.iload_n 2, 1) := by decide +kernel
theorem dX8_emptiesOf_44 : decode cX8_emptiesOf 44 = .ok (.iaload, 1) := by decide +kernel
theorem dX8_emptiesOf_45 : decode cX8_emptiesOf 45 = .ok (.isub, 1) := by decide +kernel
theorem dX8_emptiesOf_46 : decode cX8_emptiesOf 46 = .ok (.istore 4, 2) := by decide +kernel
theorem dX8_emptiesOf_48 : decode cX8_emptiesOf 48 = .ok (.iload_n 3, 1) := by decide +kernel
theorem dX8_emptiesOf_49 : decode cX8_emptiesOf 49 = .ok (.iload 4, 2) := by decide +kernel
theorem dX8_emptiesOf_51 : decode cX8_emptiesOf 51 = .ok (.iconst 1, 1) := by decide +kernel
theorem dX8_emptiesOf_52 : decode cX8_emptiesOf 52 = .ok (.if_icmp .gt 9, 3) := by decide +kernel
theorem dX8_emptiesOf_55 : decode cX8_emptiesOf 55 = .ok (.iload 4, 2) := by decide +kernel
theorem dX8_emptiesOf_57 : decode cX8_emptiesOf 57 = .ok (.iconst (-1), 1) := by decide +kernel
theorem dX8_emptiesOf_58 : decode cX8_emptiesOf 58 = .ok (.if_icmp .ge 7, 3) := by decide +kernel
theorem dX8_emptiesOf_61 : decode cX8_emptiesOf 61 = .ok (.iconst 1, 1) := by decide +kernel
theorem dX8_emptiesOf_62 : decode cX8_emptiesOf 62 = .ok (.goto 4, 3) := by decide +kernel
theorem dX8_emptiesOf_65 : decode cX8_emptiesOf 65 = .ok (.iconst 0, 1) := by decide +kernel
theorem dX8_emptiesOf_66 : decode cX8_emptiesOf 66 = .ok (.iadd, 1) := by decide +kernel
theorem dX8_emptiesOf_67 : decode cX8_emptiesOf 67 = .ok (.istore_n 3, 1) := by decide +kernel
theorem dX8_emptiesOf_68 : decode cX8_emptiesOf 68 = .ok (.iload_n 3, 1) := by decide +kernel
theorem dX8_emptiesOf_69 : decode cX8_emptiesOf 69 = .ok (.aload_n 0, 1) := by decide +kernel
theorem dX8_emptiesOf_70 : decode cX8_emptiesOf 70 = .ok (.getfield 16, 3) := by decide +kernel
theorem dX8_emptiesOf_73 : decode cX8_emptiesOf 73 = .ok (.iload_n 1, 1) := by decide +kernel
theorem dX8_emptiesOf_74 : decode cX8_emptiesOf 74 = .ok (.baload, 1) := by decide +kernel
theorem dX8_emptiesOf_75 : decode cX8_emptiesOf 75 = .ok (.ifCond .eq 16, 3) := by decide +kernel
theorem dX8_emptiesOf_78 : decode cX8_emptiesOf 78 = .ok (.aload_n 0, 1) := by decide +kernel
theorem dX8_emptiesOf_79 : decode cX8_emptiesOf 79 = .ok (.getfield 16, 3) := by decide +kernel
theorem dX8_emptiesOf_82 : decode cX8_emptiesOf 82 = .ok (.iload_n 2, 1) := by decide +kernel
theorem dX8_emptiesOf_83 : decode cX8_emptiesOf 83 = .ok (.baload, 1) := by decide +kernel
theorem dX8_emptiesOf_84 : decode cX8_emptiesOf 84 = .ok (.ifCond .ne 7, 3) := by decide +kernel
theorem dX8_emptiesOf_87 : decode cX8_emptiesOf 87 = .ok (.iconst 2, 1) := by decide +kernel
theorem dX8_emptiesOf_88 : decode cX8_emptiesOf 88 = .ok (.goto 4, 3) := by decide +kernel
theorem dX8_emptiesOf_91 : decode cX8_emptiesOf 91 = .ok (.iconst 0, 1) := by decide +kernel
theorem dX8_emptiesOf_92 : decode cX8_emptiesOf 92 = .ok (.iadd, 1) := by decide +kernel
theorem dX8_emptiesOf_93 : decode cX8_emptiesOf 93 = .ok (.ireturn, 1) := by decide +kernel
set_option maxRecDepth 20000 in
theorem ggX8_between_X8_isKind : GoodIn wsX8_between wsX8_isKind := goodIn_r _ [5, 6, 7, 8, 4, 9, 17, 18, 19, 20, 21, 22, 23, 24, 25, 26, 27, 28, 29, 30, 31, 32, 33, 34, 35, 36, 37, 38, 39, 40, 41, 42, 43, 44, 45, 46, 47, 48, 49, 50, 51, 52, 53] (by decide +kernel) (by decide +kernel)
set_option maxRecDepth 20000 in
theorem gX8_between_X8_isKind : GoodIn wsX8_between (wsV RX8 115 RX8 yX8_isKind wsX8_isKind) := goodIn_app (goodIn_of _ (by decide +kernel)) ggX8_between_X8_isKind
set_option maxRecDepth 20000 in
theorem ggX8_between_X8_emptiesOf : GoodIn wsX8_between wsX8_emptiesOf := goodIn_r _ [13, 14, 15, 16, 17, 18, 19, 20, 21, 22, 23, 24, 25, 26, 27, 28, 29, 30, 31, 32, 33, 34, 35, 36, 37, 38, 39, 40, 41, 42, 43, 44, 45, 46, 47, 48, 49, 50, 51, 52, 53] (by decide +kernel) (by decide +kernel)
set_option maxRecDepth 20000 in
theorem gX8_between_X8_emptiesOf : GoodIn wsX8_between (wsV RX8 139 RX8 yX8_emptiesOf wsX8_emptiesOf) := goodIn_app (goodIn_of _ (by decide +kernel)) ggX8_between_X8_emptiesOf
theorem dX8_between_0 : decode cX8_between 0 = .ok (.aload_n 0, 1) := by decide +kernel
theorem dX8_between_1 : decode cX8_between 1 = .ok (.iload_n 1, 1) := by decide +kernel
theorem dX8_between_2 : decode cX8_between 2 = .ok (.invokevirtual 115, 3) := by decide +kernel
theorem dX8_between_5 : decode cX8_between 5 = .ok (.ifCond .eq 20, 3) := by decide +kernel
theorem dX8_between_8 : decode cX8_between 8 = .ok (.aload_n 0, 1) := by decide +kernel
theorem dX8_between_9 : decode cX8_between 9 = .ok (.iload_n 2, 1) := by decide +kernel
theorem dX8_between_10 : decode cX8_between 10 = .ok (.invokevirtual 115, 3) := by decide +kernel
theorem dX8_between_13 : decode cX8_between 13 = .ok (.ifCond .eq 12, 3) := by decide +kernel
theorem dX8_between_16 : decode cX8_between 16 = .ok (.aload_n 0, 1) := by decide +kernel
theorem dX8_between_17 : decode cX8_between 17 = .ok (.iload_n 1, 1) := by decide +kernel
theorem dX8_between_18 : decode cX8_between 18 = .ok (.iload_n 2, 1) := by decide +kernel
theorem dX8_between_19 : decode cX8_between 19 = .ok (.invokevirtual 139, 3) := by decide +kernel
theorem dX8_between_22 : decode cX8_between 22 = .ok (.goto 5, 3) := by decide +kernel
theorem dX8_between_25 : decode cX8_between 25 = .ok (.bipush (-2), 2) := by decide +kernel
theorem dX8_between_27 : decode cX8_between 27 = .ok (.ireturn, 1) := by decide +kernel
set_option maxRecDepth 20000 in
theorem ggX8_betweenBatches_X8_emptiesOf : GoodIn wsX8_betweenBatches wsX8_emptiesOf := goodIn_r _ [6, 7, 8, 9, 10, 11, 12, 13, 14, 15, 16, 17, 18, 19, 20, 21, 22, 23, 24, 25, 26, 27, 28, 29, 30, 31, 32, 33, 34, 35, 36, 37, 38, 39, 40, 41, 42, 43, 44, 45, 46] (by decide +kernel) (by decide +kernel)
set_option maxRecDepth 20000 in
theorem gX8_betweenBatches_X8_emptiesOf : GoodIn wsX8_betweenBatches (wsV RX8 139 RX8 yX8_emptiesOf wsX8_emptiesOf) := goodIn_app (goodIn_of _ (by decide +kernel)) ggX8_betweenBatches_X8_emptiesOf
theorem dX8_betweenBatches_0 : decode cX8_betweenBatches 0 = .ok (.aload_n 0, 1) := by decide +kernel
theorem dX8_betweenBatches_1 : decode cX8_betweenBatches 1 = .ok (.aload_n 0, 1) := by decide +kernel
theorem dX8_betweenBatches_2 : decode cX8_betweenBatches 2 = .ok (.getfield 44, 3) := by decide +kernel
theorem dX8_betweenBatches_5 : decode cX8_betweenBatches 5 = .ok (.iload_n 1, 1) := by decide +kernel
theorem dX8_betweenBatches_6 : decode cX8_betweenBatches 6 = .ok (.iaload, 1) := by decide +kernel
theorem dX8_betweenBatches_7 : decode cX8_betweenBatches 7 = .ok (.aload_n 0, 1) := by decide +kernel
theorem dX8_betweenBatches_8 : decode cX8_betweenBatches 8 = .ok (.getfield 44, 3) := by decide +kernel
theorem dX8_betweenBatches_11 : decode cX8_betweenBatches 11 = .ok (.iload_n 2, 1) := by decide +kernel
theorem dX8_betweenBatches_12 : decode cX8_betweenBatches 12 = .ok (.iaload, 1) := by decide +kernel
theorem dX8_betweenBatches_13 : decode cX8_betweenBatches 13 = .ok (.invokevirtual 139, 3) := by decide +kernel
theorem dX8_betweenBatches_16 : decode cX8_betweenBatches 16 = .ok (.ireturn, 1) := by decide +kernel
set_option maxRecDepth 20000 in
theorem ggX8_empties_X8_betweenBatches : GoodIn wsX8_empties wsX8_betweenBatches := goodIn_r _ [7, 8, 9, 10, 11, 6, 12, 13, 14, 15, 16, 17, 18, 19, 20, 21, 22, 23, 24, 25, 26, 27, 28, 29, 30, 31, 32, 33, 34, 35, 36, 37, 38, 39, 40, 41, 42, 43, 44, 45, 46, 47, 48, 49, 50, 51, 52] (by decide +kernel) (by decide +kernel)
set_option maxRecDepth 20000 in
theorem gX8_empties_X8_betweenBatches : GoodIn wsX8_empties (wsV RX8 143 RX8 yX8_betweenBatches wsX8_betweenBatches) := goodIn_app (goodIn_of _ (by decide +kernel)) ggX8_empties_X8_betweenBatches
theorem dX8_empties_0 : decode cX8_empties 0 = .ok (.iconst 0, 1) := by decide +kernel
theorem dX8_empties_1 : decode cX8_empties 1 = .ok (.istore_n 1, 1) := by decide +kernel
theorem dX8_empties_2 : decode cX8_empties 2 = .ok (.iconst 1, 1) := by decide +kernel
theorem dX8_empties_3 : decode cX8_empties 3 = .ok (.istore_n 2, 1) := by decide +kernel
theorem dX8_empties_4 : decode cX8_empties 4 = .ok (.iload_n 2, 1) := by decide +kernel
theorem dX8_empties_5 : decode cX8_empties 5 = .ok (.aload_n 0, 1) := by decide +kernel
theorem dX8_empties_6 : decode cX8_empties 6 = .ok (.getfield 133, 3) := by decide +kernel
theorem dX8_empties_9 : decode cX8_empties 9 = .ok (.if_icmp .ge 30, 3) := by decide +kernel
theorem dX8_empties_12 : decode cX8_empties 12 = .ok (.iload_n 1, 1) := by decide +kernel
theorem dX8_empties_13 : decode cX8_empties 13 = .ok (.aload_n 0, 1) := by decide +kernel
theorem dX8_empties_14 : decode cX8_empties 14 = .ok (.aload_n 0, 1) := by decide +kernel
theorem dX8_empties_15 : decode cX8_empties 15 = .ok (.getfield 53, 3) := by decide +kernel
theorem dX8_empties_18 : decode cX8_empties 18 = .ok (.iload_n 2, 1) := by decide +kernel
theorem dX8_empties_19 : decode cX8_empties 19 = .ok (.iconst 1, 1) := by decide +kernel
theorem dX8_empties_20 : decode cX8_empties 20 = .ok (.isub, 1) := by decide +kernel
theorem dX8_empties_21 : decode cX8_empties 21 = .ok (.iaload, 1) := by decide +kernel
theorem dX8_empties_22 : decode cX8_empties 22 = .ok (.aload_n 0, 1) := by decide +kernel
theorem dX8_empties_23 : decode cX8_empties 23 = .ok (.getfield 53, 3) := by decide +kernel
theorem dX8_empties_26 : decode cX8_empties 26 = .ok (.iload_n 2, 1) := by decide +kernel
theorem dX8_empties_27 : decode cX8_empties 27 = .ok (.iaload, 1) := by decide +kernel
theorem dX8_empties_28 : decode cX8_empties 28 = .ok (.invokevirtual 143, 3) := by decide +kernel
theorem dX8_empties_31 : decode cX8_empties 31 = .ok (.iadd, 1) := by decide +kernel
theorem dX8_empties_32 : decode cX8_empties 32 = .ok (.istore_n 1, 1) := by decide +kernel
theorem dX8_empties_33 : decode cX8_empties 33 = .ok (.iinc 2 1, 3) := by decide +kernel
theorem dX8_empties_36 : decode cX8_empties 36 = .ok (.goto (-32), 3) := by decide +kernel
theorem dX8_empties_39 : decode cX8_empties 39 = .ok (.iload_n 1, 1) := by decide +kernel
theorem dX8_empties_40 : decode cX8_empties 40 = .ok (.ireturn, 1) := by decide +kernel
set_option maxRecDepth 20000 in
theorem ggX8_plan_X8_betweenBatches : GoodIn wsX8_plan wsX8_betweenBatches := goodIn_r _ [9, 10, 11, 12, 13, 8, 14, 15, 16, 17, 18, 19, 20, 21, 22, 23, 24, 25, 26, 27, 28, 29, 30, 31, 32, 33, 34, 35, 36, 37, 38, 39, 40, 41, 42, 43, 44, 45, 46, 47, 48, 49, 50, 51, 52, 53, 54] (by decide +kernel) (by decide +kernel)
set_option maxRecDepth 20000 in
theorem gX8_plan_X8_betweenBatches : GoodIn wsX8_plan (wsV RX8 143 RX8 yX8_betweenBatches wsX8_betweenBatches) := goodIn_app (goodIn_of _ (by decide +kernel)) ggX8_plan_X8_betweenBatches
theorem dX8_plan_0 : decode cX8_plan 0 = .ok (.aload_n 0, 1) := by decide +kernel
theorem dX8_plan_1 : decode cX8_plan 1 = .ok (.getfield 133, 3) := by decide +kernel
theorem dX8_plan_4 : decode cX8_plan 4 = .ok (.bipush 8, 2) := by decide +kernel
theorem dX8_plan_6 : decode cX8_plan 6 = .ok (.if_icmp .le 6, 3) := by decide +kernel
theorem dX8_plan_9 : decode cX8_plan 9 = .ok (.bipush (-4), 2) := by decide +kernel
theorem dX8_plan_11 : decode cX8_plan 11 = .ok (.ireturn, 1) := by decide +kernel
theorem dX8_plan_12 : decode cX8_plan 12 = .ok (.aload_n 0, 1) := by decide +kernel
theorem dX8_plan_13 : decode cX8_plan 13 = .ok (.getfield 133, 3) := by decide +kernel
theorem dX8_plan_16 : decode cX8_plan 16 = .ok (.ifCond .ne 5, 3) := by decide +kernel
theorem dX8_plan_19 : decode cX8_plan 19 = .ok (.iconst 0, 1) := by decide +kernel
theorem dX8_plan_20 : decode cX8_plan 20 = .ok (.ireturn, 1) := by decide +kernel
theorem dX8_plan_21 : decode cX8_plan 21 = .ok (.iconst 1, 1) := by decide +kernel
theorem dX8_plan_22 : decode cX8_plan 22 = .ok (.aload_n 0, 1) := by decide +kernel
theorem dX8_plan_23 : decode cX8_plan 23 = .ok (.getfield 133, 3) := by decide +kernel
theorem dX8_plan_26 : decode cX8_plan 26 = .ok (.ishl, 1) := by decide +kernel
theorem dX8_plan_27 : decode cX8_plan 27 = .ok (.iconst 1, 1) := by decide +kernel
theorem dX8_plan_28 : decode cX8_plan 28 = .ok (.isub, 1) := by decide +kernel
theorem dX8_plan_29 : decode cX8_plan 29 = .ok (.istore_n 1, 1) := by decide +kernel
theorem dX8_plan_30 : decode cX8_plan 30 = .ok (.iconst 1, 1) := by decide +kernel
theorem dX8_plan_31 : decode cX8_plan 31 = .ok (.istore_n 2, 1) := by decide +kernel
theorem dX8_plan_32 : decode cX8_plan 32 = .ok (.iload_n 2, 1) := by decide +kernel
theorem dX8_plan_33 : decode cX8_plan 33 = .ok (.iload_n 1, 1) := by decide +kernel
theorem dX8_plan_34 : decode cX8_plan 34 = .ok (.if_icmp .gt 160, 3) := by decide +kernel
theorem dX8_plan_37 : decode cX8_plan 37 = .ok (.iconst 0, 1) := by decide +kernel
theorem dX8_plan_38 : decode cX8_plan 38 = .ok (.istore_n 3, 1) := by decide +kernel
theorem dX8_plan_39 : decode cX8_plan 39 = .ok (.iload_n 3, 1) := by decide +kernel
theorem dX8_plan_40 : decode cX8_plan 40 = .ok (.aload_n 0, 1) := by decide +kernel
theorem dX8_plan_41 : decode cX8_plan 41 = .ok (.getfield 133, 3) := by decide +kernel
theorem dX8_plan_44 : decode cX8_plan 44 = .ok (.if_icmp .ge 144, 3) := by decide +kernel
theorem dX8_plan_47 : decode cX8_plan 47 = .ok (.iload_n 2, 1) := by decide +kernel
theorem dX8_plan_48 : decode cX8_plan 48 = .ok (.iconst 1, 1) := by decide +kernel
theorem dX8_plan_49 : decode cX8_plan 49 = .ok (.iload_n 3, 1) := by decide +kernel
theorem dX8_plan_50 : decode cX8_plan 50 = .ok (.ishl, 1) := by decide +kernel
theorem dX8_plan_51 : decode cX8_plan 51 = .ok (.iconst (-1), 1) := by decide +kernel
theorem dX8_plan_52 : decode cX8_plan 52 = .ok (.ixor, 1) := by decide +kernel
theorem dX8_plan_53 : decode cX8_plan 53 = .ok (.iand, 1) := by decide +kernel
theorem dX8_plan_54 : decode cX8_plan 54 = .ok (.istore 4, 2) := by decide +kernel
theorem dX8_plan_56 : decode cX8_plan 56 = .ok (.aload_n 0, 1) := by decide +kernel
theorem dX8_plan_57 : decode cX8_plan 57 = .ok (.getfield 66, 3) := by decide +kernel
theorem dX8_plan_60 : decode cX8_plan 60 = .ok (.bipush 12, 2) := by decide +kernel
theorem dX8_plan_62 : decode cX8_plan 62 = .ok (.iload_n 2, 1) := by decide +kernel
theorem dX8_plan_63 : decode cX8_plan 63 = .ok (.imul, 1) := by decide +kernel
theorem dX8_plan_64 : decode cX8_plan 64 = .ok (.iload_n 3, 1) := by decide +kernel
theorem dX8_plan_65 : decode cX8_plan 65 = .ok (.iadd, 1) := by decide +kernel
theorem dX8_plan_66 : decode cX8_plan 66 = .ok (.iload 4, 2) := by decide +kernel
theorem dX8_plan_68 : decode cX8_plan 68 = .ok (.ifCond .ne 7, 3) := by decide +kernel
theorem dX8_plan_71 : decode cX8_plan 71 = .ok (.iconst 0, 1) := by decide +kernel
theorem dX8_plan_72 : decode cX8_plan 72 = .ok (.goto 5, 3) := by decide +kernel
theorem dX8_plan_75 : decode cX8_plan 75 = .ok (.ldc 146, 2) := by decide +kernel
theorem dX8_plan_77 : decode cX8_plan 77 = .ok (.iastore, 1) := by decide +kernel
theorem dX8_plan_78 : decode cX8_plan 78 = .ok (.iconst 0, 1) := by decide +kernel
theorem dX8_plan_79 : decode cX8_plan 79 = .ok (.istore 5, 2) := by decide +kernel
theorem dX8_plan_81 : decode cX8_plan 81 = .ok (.iload 5, 2) := by decide +kernel
theorem dX8_plan_83 : decode cX8_plan 83 = .ok (.aload_n 0, 1) := by decide +kernel
theorem dX8_plan_84 : decode cX8_plan 84 = .ok (.getfield 133, 3) := by decide +kernel
theorem dX8_plan_87 : decode cX8_plan 87 = .ok (.if_icmp .ge 95, 3) := by decide +kernel
theorem dX8_plan_90 : decode cX8_plan 90 = .ok (.iload_n 2, 1) := by decide +kernel
theorem dX8_plan_91 : decode cX8_plan 91 = .ok (.iload_n 3, 1) := by decide +kernel
theorem dX8_plan_92 : decode cX8_plan 92 = .ok (.ishr, 1) := by decide +kernel
theorem dX8_plan_93 : decode cX8_plan 93 = .ok (.iconst 1, 1) := by decide +kernel
theorem dX8_plan_94 : decode cX8_plan 94 = .ok (.iand, 1) := by decide +kernel
theorem dX8_plan_95 : decode cX8_plan 95 = .ok (.iconst 1, 1) := by decide +kernel
theorem dX8_plan_96 : decode cX8_plan 96 = .ok (.if_icmp .ne 86, 3) := by decide +kernel
theorem dX8_plan_99 : decode cX8_plan 99 = .ok (.iload 4, 2) := by decide +kernel
theorem dX8_plan_101 : decode cX8_plan 101 = .ok (.iload 5, 2) := by decide +kernel
theorem dX8_plan_103 : decode cX8_plan 103 = .ok (.ishr, 1) := by decide +kernel
theorem dX8_plan_104 : decode cX8_plan 104 = .ok (.iconst 1, 1) := by decide +kernel
theorem dX8_plan_105 : decode cX8_plan 105 = .ok (.iand, 1) := by decide +kernel
theorem dX8_plan_106 : decode cX8_plan 106 = .ok (.iconst 1, 1) := by decide +kernel
theorem dX8_plan_107 : decode cX8_plan 107 = .ok (.if_icmp .ne 69, 3) := by decide +kernel
theorem dX8_plan_110 : decode cX8_plan 110 = .ok (.aload_n 0, 1) := by decide +kernel
theorem dX8_plan_111 : decode cX8_plan 111 = .ok (.iload_n 3, 1) := by decide +kernel
theorem dX8_plan_112 : decode cX8_plan 112 = .ok (.iload 5, 2) := by decide +kernel
theorem dX8_plan_114 : decode cX8_plan 114 = .ok (.invokevirtual 143, 3) := by decide +kernel
theorem dX8_plan_117 : decode cX8_plan 117 = .ok (.aload_n 0, 1) := by decide +kernel
theorem dX8_plan_118 : decode cX8_plan 118 = .ok (.getfield 66, 3) := by decide +kernel
theorem dX8_plan_121 : decode cX8_plan 121 = .ok (.bipush 12, 2) := by decide +kernel
theorem dX8_plan_123 : decode cX8_plan 123 = .ok (.iload 4, 2) := by decide +kernel
theorem dX8_plan_125 : decode cX8_plan 125 = .ok (.imul, 1) := by decide +kernel
theorem dX8_plan_126 : decode cX8_plan 126 = .ok (.iload 5, 2) := by decide +kernel
theorem dX8_plan_128 : decode cX8_plan 128 = .ok (.iadd, 1) := by decide +kernel
theorem dX8_plan_129 : decode cX8_plan 129 = .ok (.iaload, 1) := by decide +kernel
theorem dX8_plan_130 : decode cX8_plan 130 = .ok (.iadd, 1) := by decide +kernel
theorem dX8_plan_131 : decode cX8_plan 131 = .ok (.istore 6, 2) := by decide +kernel
theorem dX8_plan_133 : decode cX8_plan 133 = .ok (.aload_n 0, 1) := by decide +kernel
theorem dX8_plan_134 : decode cX8_plan 134 = .ok (.getfield 66, 3) := by decide +kernel
theorem dX8_plan_137 : decode cX8_plan 137 = .ok (.bipush 12, 2) := by decide +kernel
theorem dX8_plan_139 : decode cX8_plan 139 = .ok (.iload_n 2, 1) := by decide +kernel
theorem dX8_plan_140 : decode cX8_plan 140 = .ok (.imul, 1) := by decide +kernel
theorem dX8_plan_141 : decode cX8_plan 141 = .ok (.iload_n 3, 1) := by decide +kernel
theorem dX8_plan_142 : decode cX8_plan 142 = .ok (.iadd, 1) := by decide +kernel
theorem dX8_plan_143 : decode cX8_plan 143 = .ok (.iload 6, 2) := by decide +kernel
theorem dX8_plan_145 : decode cX8_plan 145 = .ok (.aload_n 0, 1) := by decide +kernel
theorem dX8_plan_146 : decode cX8_plan 146 = .ok (.getfield 66, 3) := by decide +kernel
theorem dX8_plan_149 : decode cX8_plan 149 = .ok (.bipush 12, 2) := by decide +kernel
theorem dX8_plan_151 : decode cX8_plan 151 = .ok (.iload_n 2, 1) := by decide +kernel
theorem dX8_plan_152 : decode cX8_plan 152 = .ok (.imul, 1) := by decide +kernel
theorem dX8_plan_153 : decode cX8_plan 153 = .ok (.iload_n 3, 1) := by decide +kernel
theorem dX8_plan_154 : decode cX8_plan 154 = .ok (.iadd, 1) := by decide +kernel
theorem dX8_plan_155 : decode cX8_plan 155 = .ok (.iaload, 1) := by decide +kernel
theorem dX8_plan_156 : decode cX8_plan 156 = .ok (.if_icmp .ge 8, 3) := by decide +kernel
theorem dX8_plan_159 : decode cX8_plan 159 = .ok (.iload 6, 2) := by decide +kernel
theorem dX8_plan_161 : decode cX8_plan 161 = .ok (.goto 14, 3) := by decide +kernel
theorem dX8_plan_164 : decode cX8_plan 164 = .ok (.aload_n 0, 1) := by decide +kernel
theorem dX8_plan_165 : decode cX8_plan 165 = .ok (.getfield 66, 3) := by decide +kernel
theorem dX8_plan_168 : decode cX8_plan 168 = .ok (.bipush 12, 2) := by decide +kernel
theorem dX8_plan_170 : decode cX8_plan 170 = .ok (.iload_n 2, 1) := by decide +kernel
theorem dX8_plan_171 : decode cX8_plan 171 = .ok (.imul, 1) := by decide +kernel
theorem dX8_plan_172 : decode cX8_plan 172 = .ok (.iload_n 3, 1) := by decide +kernel
theorem dX8_plan_173 : decode cX8_plan 173 = .ok (.iadd, 1) := by decide +kernel
theorem dX8_plan_174 : decode cX8_plan 174 = .ok (.iaload, 1) := by decide +kernel
theorem dX8_plan_175 : decode cX8_plan 175 = .ok (.iastore, 1) := by decide +kernel
theorem dX8_plan_176 : decode cX8_plan 176 = .ok (.iinc 5 1, 3) := by decide +kernel
theorem dX8_plan_179 : decode cX8_plan 179 = .ok (.goto (-98), 3) := by decide +kernel
theorem dX8_plan_182 : decode cX8_plan 182 = .ok (.iinc 3 1, 3) := by decide +kernel
theorem dX8_plan_185 : decode cX8_plan 185 = .ok (.goto (-146), 3) := by decide +kernel
theorem dX8_plan_188 : decode cX8_plan 188 = .ok (.iinc 2 1, 3) := by decide +kernel
theorem dX8_plan_191 : decode cX8_plan 191 = .ok (.goto (-159), 3) := by decide +kernel
theorem dX8_plan_194 : decode cX8_plan 194 = .ok (.iconst 0, 1) := by decide +kernel
theorem dX8_plan_195 : decode cX8_plan 195 = .ok (.istore_n 2, 1) := by decide +kernel
theorem dX8_plan_196 : decode cX8_plan 196 = .ok (.iconst 1, 1) := by decide +kernel
theorem dX8_plan_197 : decode cX8_plan 197 = .ok (.istore_n 3, 1) := by decide +kernel
theorem dX8_plan_198 : decode cX8_plan 198 = .ok (.iload_n 3, 1) := by decide +kernel
theorem dX8_plan_199 : decode cX8_plan 199 = .ok (.aload_n 0, 1) := by decide +kernel
theorem dX8_plan_200 : decode cX8_plan 200 = .ok (.getfield 133, 3) := by decide +kernel
theorem dX8_plan_203 : decode cX8_plan 203 = .ok (.if_icmp .ge 40, 3) := by decide +kernel
theorem dX8_plan_206 : decode cX8_plan 206 = .ok (.aload_n 0, 1) := by decide +kernel
theorem dX8_plan_207 : decode cX8_plan 207 = .ok (.getfield 66, 3) := by decide +kernel
theorem dX8_plan_210 : decode cX8_plan 210 = .ok (.bipush 12, 2) := by decide +kernel
theorem dX8_plan_212 : decode cX8_plan 212 = .ok (.iload_n 1, 1) := by decide +kernel
theorem dX8_plan_213 : decode cX8_plan 213 = .ok (.imul, 1) := by decide +kernel
theorem dX8_plan_214 : decode cX8_plan 214 = .ok (.iload_n 3, 1) := by decide +kernel
theorem dX8_plan_215 : decode cX8_plan 215 = .ok (.iadd, 1) := by decide +kernel
theorem dX8_plan_216 : decode cX8_plan 216 = .ok (.iaload, 1) := by decide +kernel
theorem dX8_plan_217 : decode cX8_plan 217 = .ok (.aload_n 0, 1) := by decide +kernel
theorem dX8_plan_218 : decode cX8_plan 218 = .ok (.getfield 66, 3) := by decide +kernel
theorem dX8_plan_221 : decode cX8_plan 221 = .ok (.bipush 12, 2) := by decide +kernel
theorem dX8_plan_223 : decode cX8_plan 223 = .ok (.iload_n 1, 1) := by decide +kernel
theorem dX8_plan_224 : decode cX8_plan 224 = .ok (.imul, 1) := by decide +kernel
theorem dX8_plan_225 : decode cX8_plan 225 = .ok (.iload_n 2, 1) := by decide +kernel
theorem dX8_plan_226 : decode cX8_plan 226 = .ok (.iadd, 1) := by decide +kernel
theorem dX8_plan_227 : decode cX8_plan 227 = .ok (.iaload, 1) := by decide +kernel
theorem dX8_plan_228 : decode cX8_plan 228 = .ok (.if_icmp .ge 7, 3) := by decide +kernel
theorem dX8_plan_231 : decode cX8_plan 231 = .ok (.iload_n 3, 1) := by decide +kernel
theorem dX8_plan_232 : decode cX8_plan 232 = .ok (.goto 4, 3) := by decide +kernel
theorem dX8_plan_235 : decode cX8_plan 235 = .ok (.iload_n 2, 1) := by decide +kernel
theorem dX8_plan_236 : decode cX8_plan 236 = .ok (.istore_n 2, 1) := by decide +kernel
theorem dX8_plan_237 : decode cX8_plan 237 = .ok (.iinc 3 1, 3) := by decide +kernel
theorem dX8_plan_240 : decode cX8_plan 240 = .ok (.goto (-42), 3) := by decide +kernel
theorem dX8_plan_243 : decode cX8_plan 243 = .ok (.aload_n 0, 1) := by decide +kernel
theorem dX8_plan_244 : decode cX8_plan 244 = .ok (.getfield 66, 3) := by decide +kernel
theorem dX8_plan_247 : decode cX8_plan 247 = .ok (.bipush 12, 2) := by decide +kernel
theorem dX8_plan_249 : decode cX8_plan 249 = .ok (.iload_n 1, 1) := by decide +kernel
theorem dX8_plan_250 : decode cX8_plan 250 = .ok (.imul, 1) := by decide +kernel
theorem dX8_plan_251 : decode cX8_plan 251 = .ok (.iload_n 2, 1) := by decide +kernel
theorem dX8_plan_252 : decode cX8_plan 252 = .ok (.iadd, 1) := by decide +kernel
theorem dX8_plan_253 : decode cX8_plan 253 = .ok (.iaload, 1) := by decide +kernel
theorem dX8_plan_254 : decode cX8_plan 254 = .ok (.istore_n 3, 1) := by decide +kernel
theorem dX8_plan_255 : decode cX8_plan 255 = .ok (.iload_n 1, 1) := by decide +kernel
theorem dX8_plan_256 : decode cX8_plan 256 = .ok (.istore 4, 2) := by decide +kernel
theorem dX8_plan_258 : decode cX8_plan 258 = .ok (.iload_n 2, 1) := by decide +kernel
theorem dX8_plan_259 : decode cX8_plan 259 = .ok (.istore 5, 2) := by decide +kernel
theorem dX8_plan_261 : decode cX8_plan 261 = .ok (.aload_n 0, 1) := by decide +kernel
theorem dX8_plan_262 : decode cX8_plan 262 = .ok (.getfield 53, 3) := by decide +kernel
theorem dX8_plan_265 : decode cX8_plan 265 = .ok (.iconst 0, 1) := by decide +kernel
theorem dX8_plan_266 : decode cX8_plan 266 = .ok (.iload 5, 2) := by decide +kernel
theorem dX8_plan_268 : decode cX8_plan 268 = .ok (.iastore, 1) := by decide +kernel
theorem dX8_plan_269 : decode cX8_plan 269 = .ok (.iconst 1, 1) := by decide +kernel
theorem dX8_plan_270 : decode cX8_plan 270 = .ok (.istore 6, 2) := by decide +kernel
theorem dX8_plan_272 : decode cX8_plan 272 = .ok (.iload 6, 2) := by decide +kernel
theorem dX8_plan_274 : decode cX8_plan 274 = .ok (.aload_n 0, 1) := by decide +kernel
theorem dX8_plan_275 : decode cX8_plan 275 = .ok (.getfield 133, 3) := by decide +kernel
theorem dX8_plan_278 : decode cX8_plan 278 = .ok (.if_icmp .ge 94, 3) := by decide +kernel
theorem dX8_plan_281 : decode cX8_plan 281 = .ok (.iload 4, 2) := by decide +kernel
theorem dX8_plan_283 : decode cX8_plan 283 = .ok (.iconst 1, 1) := by decide +kernel
theorem dX8_plan_284 : decode cX8_plan 284 = .ok (.iload 5, 2) := by decide +kernel
theorem dX8_plan_286 : decode cX8_plan 286 = .ok (.ishl, 1) := by decide +kernel
theorem dX8_plan_287 : decode cX8_plan 287 = .ok (.iconst (-1), 1) := by decide +kernel
theorem dX8_plan_288 : decode cX8_plan 288 = .ok (.ixor, 1) := by decide +kernel
theorem dX8_plan_289 : decode cX8_plan 289 = .ok (.iand, 1) := by decide +kernel
theorem dX8_plan_290 : decode cX8_plan 290 = .ok (.istore 7, 2) := by decide +kernel
theorem dX8_plan_292 : decode cX8_plan 292 = .ok (.iconst 0, 1) := by decide +kernel
theorem dX8_plan_293 : decode cX8_plan 293 = .ok (.istore 8, 2) := by decide +kernel
theorem dX8_plan_295 : decode cX8_plan 295 = .ok (.iload 7, 2) := by decide +kernel
theorem dX8_plan_297 : decode cX8_plan 297 = .ok (.iload 8, 2) := by decide +kernel
theorem dX8_plan_299 : decode cX8_plan 299 = .ok (.ishr, 1) := by decide +kernel
theorem dX8_plan_300 : decode cX8_plan 300 = .ok (.iconst 1, 1) := by decide +kernel
theorem dX8_plan_301 : decode cX8_plan 301 = .ok (.iand, 1) := by decide +kernel
theorem dX8_plan_302 : decode cX8_plan 302 = .ok (.ifCond .eq 41, 3) := by decide +kernel
theorem dX8_plan_305 : decode cX8_plan 305 = .ok (.aload_n 0, 1) := by decide +kernel
theorem dX8_plan_306 : decode cX8_plan 306 = .ok (.iload 5, 2) := by decide +kernel
theorem dX8_plan_308 : decode cX8_plan 308 = .ok (.iload 8, 2) := by decide +kernel
theorem dX8_plan_310 : decode cX8_plan 310 = .ok (.invokevirtual 143, 3) := by decide +kernel
theorem dX8_plan_313 : decode cX8_plan 313 = .ok (.aload_n 0, 1) := by decide +kernel
theorem dX8_plan_314 : decode cX8_plan 314 = .ok (.getfield 66, 3) := by decide +kernel
theorem dX8_plan_317 : decode cX8_plan 317 = .ok (.bipush 12, 2) := by decide +kernel
theorem dX8_plan_319 : decode cX8_plan 319 = .ok (.iload 7, 2) := by decide +kernel
theorem dX8_plan_321 : decode cX8_plan 321 = .ok (.imul, 1) := by decide +kernel
theorem dX8_plan_322 : decode cX8_plan 322 = .ok (.iload 8, 2) := by decide +kernel
theorem dX8_plan_324 : decode cX8_plan 324 = .ok (.iadd, 1) := by decide +kernel
theorem dX8_plan_325 : decode cX8_plan 325 = .ok (.iaload, 1) := by decide +kernel
theorem dX8_plan_326 : decode cX8_plan 326 = .ok (.iadd, 1) := by decide +kernel
theorem dX8_plan_327 : decode cX8_plan 327 = .ok (.aload_n 0, 1) := by decide +kernel
theorem dX8_plan_328 : decode cX8_plan 328 = .ok (.getfield 66, 3) := by decide +kernel
theorem dX8_plan_331 : decode cX8_plan 331 = .ok (.bipush 12, 2) := by decide +kernel
theorem dX8_plan_333 : decode cX8_plan 333 = .ok (.iload 4, 2) := by decide +kernel
theorem dX8_plan_335 : decode cX8_plan 335 = .ok (.imul, 1) := by decide +kernel
theorem dX8_plan_336 : decode cX8_plan 336 = .ok (.iload 5, 2) := by decide +kernel
theorem dX8_plan_338 : decode cX8_plan 338 = .ok (.iadd, 1) := by decide +kernel
theorem dX8_plan_339 : decode cX8_plan 339 = .ok (.iaload, 1) := by decide +kernel
theorem dX8_plan_340 : decode cX8_plan 340 = .ok (.if_icmp .eq 9, 3) := by decide +kernel
theorem dX8_plan_343 : decode cX8_plan 343 = .ok (.iinc 8 1, 3) := by decide +kernel
theorem dX8_plan_346 : decode cX8_plan 346 = .ok (.goto (-51), 3) := by decide +kernel
theorem dX8_plan_349 : decode cX8_plan 349 = .ok (.iload 7, 2) := by decide +kernel
theorem dX8_plan_351 : decode cX8_plan 351 = .ok (.istore 4, 2) := by decide +kernel
theorem dX8_plan_353 : decode cX8_plan 353 = .ok (.iload 8, 2) := by decide +kernel
theorem dX8_plan_355 : decode cX8_plan 355 = .ok (.istore 5, 2) := by decide +kernel
theorem dX8_plan_357 : decode cX8_plan 357 = .ok (.aload_n 0, 1) := by decide +kernel
theorem dX8_plan_358 : decode cX8_plan 358 = .ok (.getfield 53, 3) := by decide +kernel
theorem dX8_plan_361 : decode cX8_plan 361 = .ok (.iload 6, 2) := by decide +kernel
theorem dX8_plan_363 : decode cX8_plan 363 = .ok (.iload 5, 2) := by decide +kernel
theorem dX8_plan_365 : decode cX8_plan 365 = .ok (.iastore, 1) := by decide +kernel
theorem dX8_plan_366 : decode cX8_plan 366 = .ok (.iinc 6 1, 3) := by decide +kernel
theorem dX8_plan_369 : decode cX8_plan 369 = .ok (.goto (-97), 3) := by decide +kernel
theorem dX8_plan_372 : decode cX8_plan 372 = .ok (.iload_n 3, 1) := by decide +kernel
theorem dX8_plan_373 : decode cX8_plan 373 = .ok (.ireturn, 1) := by decide +kernel
set_option maxRecDepth 20000 in
theorem ggX8_greedy_X8_betweenBatches : GoodIn wsX8_greedy wsX8_betweenBatches := goodIn_r _ [7, 8, 9, 10, 11, 6, 12, 13, 14, 15, 20, 21, 22, 23, 24, 25, 26, 27, 28, 29, 30, 31, 32, 33, 34, 35, 36, 37, 38, 39, 40, 41, 42, 43, 44, 45, 46, 47, 48, 49, 50, 51, 52, 53, 54, 55, 56] (by decide +kernel) (by decide +kernel)
set_option maxRecDepth 20000 in
theorem gX8_greedy_X8_betweenBatches : GoodIn wsX8_greedy (wsV RX8 143 RX8 yX8_betweenBatches wsX8_betweenBatches) := goodIn_app (goodIn_of _ (by decide +kernel)) ggX8_greedy_X8_betweenBatches
set_option maxRecDepth 20000 in
theorem ggX8_greedy_X8_empties : GoodIn wsX8_greedy wsX8_empties := goodIn_r _ [19, 1, 2, 3, 4, 5, 6, 7, 8, 9, 10, 11, 12, 13, 14, 15, 20, 21, 22, 23, 24, 25, 26, 27, 28, 29, 30, 31, 32, 33, 34, 35, 36, 37, 38, 39, 40, 41, 42, 43, 44, 45, 46, 47, 48, 49, 50, 51, 52, 53, 54, 55, 56] (by decide +kernel) (by decide +kernel)
set_option maxRecDepth 20000 in
theorem gX8_greedy_X8_empties : GoodIn wsX8_greedy (wsV RX8 147 RX8 yX8_empties wsX8_empties) := goodIn_app (goodIn_of _ (by decide +kernel)) ggX8_greedy_X8_empties
theorem dX8_greedy_0 : decode cX8_greedy 0 = .ok (.iconst 0, 1) := by decide +kernel
theorem dX8_greedy_1 : decode cX8_greedy 1 = .ok (.istore_n 1, 1) := by decide +kernel
theorem dX8_greedy_2 : decode cX8_greedy 2 = .ok (.iconst 1, 1) := by decide +kernel
theorem dX8_greedy_3 : decode cX8_greedy 3 = .ok (.istore_n 2, 1) := by decide +kernel
theorem dX8_greedy_4 : decode cX8_greedy 4 = .ok (.iload_n 2, 1) := by decide +kernel
theorem dX8_greedy_5 : decode cX8_greedy 5 = .ok (.aload_n 0, 1) := by decide +kernel
theorem dX8_greedy_6 : decode cX8_greedy 6 = .ok (.getfield 133, 3) := by decide +kernel
theorem dX8_greedy_9 : decode cX8_greedy 9 = .ok (.if_icmp .ge 20, 3) := by decide +kernel
theorem dX8_greedy_12 : decode cX8_greedy 12 = .ok (.iload_n 1, 1) := by decide +kernel
theorem dX8_greedy_13 : decode cX8_greedy 13 = .ok (.iconst 1, 1) := by decide +kernel
theorem dX8_greedy_14 : decode cX8_greedy 14 = .ok (.aload_n 0, 1) := by decide +kernel
theorem dX8_greedy_15 : decode cX8_greedy 15 = .ok (.getfield 53, 3) := by decide +kernel
theorem dX8_greedy_18 : decode cX8_greedy 18 = .ok (.iload_n 2, 1) := by decide +kernel
theorem dX8_greedy_19 : decode cX8_greedy 19 = .ok (.iaload, 1) := by decide +kernel
theorem dX8_greedy_20 : decode cX8_greedy 20 = .ok (.ishl, 1) := by decide +kernel
theorem dX8_greedy_21 : decode cX8_greedy 21 = .ok (.ior, 1) := by decide +kernel
theorem dX8_greedy_22 : decode cX8_greedy 22 = .ok (.istore_n 1, 1) := by decide +kernel
theorem dX8_greedy_23 : decode cX8_greedy 23 = .ok (.iinc 2 1, 3) := by decide +kernel
theorem dX8_greedy_26 : decode cX8_greedy 26 = .ok (.goto (-22), 3) := by decide +kernel
theorem dX8_greedy_29 : decode cX8_greedy 29 = .ok (.iconst 1, 1) := by decide +kernel
theorem dX8_greedy_30 : decode cX8_greedy 30 = .ok (.istore_n 2, 1) := by decide +kernel
theorem dX8_greedy_31 : decode cX8_greedy 31 = .ok (.iload_n 2, 1) := by decide +kernel
theorem dX8_greedy_32 : decode cX8_greedy 32 = .ok (.aload_n 0, 1) := by decide +kernel
theorem dX8_greedy_33 : decode cX8_greedy 33 = .ok (.getfield 133, 3) := by decide +kernel
theorem dX8_greedy_36 : decode cX8_greedy 36 = .ok (.if_icmp .ge 92, 3) := by decide +kernel
theorem dX8_greedy_39 : decode cX8_greedy 39 = .ok (.iconst (-1), 1) := by decide +kernel
theorem dX8_greedy_40 : decode cX8_greedy 40 = .ok (.istore_n 3, 1) := by decide +kernel
theorem dX8_greedy_41 : decode cX8_greedy 41 = .ok (.iconst 0, 1) := by decide +kernel
theorem dX8_greedy_42 : decode cX8_greedy 42 = .ok (.istore 4, 2) := by decide +kernel
theorem dX8_greedy_44 : decode cX8_greedy 44 = .ok (.iload 4, 2) := by decide +kernel
theorem dX8_greedy_46 : decode cX8_greedy 46 = .ok (.aload_n 0, 1) := by decide +kernel
theorem dX8_greedy_47 : decode cX8_greedy 47 = .ok (.getfield 133, 3) := by decide +kernel
theorem dX8_greedy_50 : decode cX8_greedy 50 = .ok (.if_icmp .ge 57, 3) := by decide +kernel
theorem dX8_greedy_53 : decode cX8_greedy 53 = .ok (.iload_n 1, 1) := by decide +kernel
theorem dX8_greedy_54 : decode cX8_greedy 54 = .ok (.iload 4, 2) := by decide +kernel
theorem dX8_greedy_56 : decode cX8_greedy 56 = .ok (.ishr, 1) := by decide +kernel
theorem dX8_greedy_57 : decode cX8_greedy 57 = .ok (.iconst 1, 1) := by decide +kernel
theorem dX8_greedy_58 : decode cX8_greedy 58 = .ok (.iand, 1) := by decide +kernel
theorem dX8_greedy_59 : decode cX8_greedy 59 = .ok (.iconst 1, 1) := by decide +kernel
theorem dX8_greedy_60 : decode cX8_greedy 60 = .ok (.if_icmp .ne 41, 3) := by decide +kernel
theorem dX8_greedy_63 : decode cX8_greedy 63 = .ok (.iload_n 3, 1) := by decide +kernel
theorem dX8_greedy_64 : decode cX8_greedy 64 = .ok (.iconst (-1), 1) := by decide +kernel
theorem dX8_greedy_65 : decode cX8_greedy 65 = .ok (.if_icmp .eq 33, 3) := by decide +kernel
theorem dX8_greedy_68 : decode cX8_greedy 68 = .ok (.aload_n 0, 1) := by decide +kernel
theorem dX8_greedy_69 : decode cX8_greedy 69 = .ok (.aload_n 0, 1) := by decide +kernel
theorem dX8_greedy_70 : decode cX8_greedy 70 = .ok (.getfield 53, 3) := by decide +kernel
theorem dX8_greedy_73 : decode cX8_greedy 73 = .ok (.iload_n 2, 1) := by decide +kernel
theorem dX8_greedy_74 : decode cX8_greedy 74 = .ok (.iconst 1, 1) := by decide +kernel
theorem dX8_greedy_75 : decode cX8_greedy 75 = .ok (.isub, 1) := by decide +kernel
theorem dX8_greedy_76 : decode cX8_greedy 76 = .ok (.iaload, 1) := by decide +kernel
theorem dX8_greedy_77 : decode cX8_greedy 77 = .ok (.iload 4, 2) := by decide +kernel
theorem dX8_greedy_79 : decode cX8_greedy 79 = .ok (.invokevirtual 143, 3) := by decide +kernel
theorem dX8_greedy_82 : decode cX8_greedy 82 = .ok (.aload_n 0, 1) := by decide +kernel
theorem dX8_greedy_83 : decode cX8_greedy 83 = .ok (.aload_n 0, 1) := by decide +kernel
theorem dX8_greedy_84 : decode cX8_greedy 84 = .ok (.getfield 53, 3) := by decide +kernel
theorem dX8_greedy_87 : decode cX8_greedy 87 = .ok (.iload_n 2, 1) := by decide +kernel
theorem dX8_greedy_88 : decode cX8_greedy 88 = .ok (.iconst 1, 1) := by decide +kernel
theorem dX8_greedy_89 : decode cX8_greedy 89 = .ok (.isub, 1) := by decide +kernel
theorem dX8_greedy_90 : decode cX8_greedy 90 = .ok (.iaload, 1) := by decide +kernel
theorem dX8_greedy_91 : decode cX8_greedy 91 = .ok (.iload_n 3, 1) := by decide +kernel
theorem dX8_greedy_92 : decode cX8_greedy 92 = .ok (.invokevirtual 143, 3) := by decide +kernel
theorem dX8_greedy_95 : decode cX8_greedy 95 = .ok (.if_icmp .ge 6, 3) := by decide +kernel
theorem dX8_greedy_98 : decode cX8_greedy 98 = .ok (.iload 4, 2) := by decide +kernel
theorem dX8_greedy_100 : decode cX8_greedy 100 = .ok (.istore_n 3, 1) := by decide +kernel
theorem dX8_greedy_101 : decode cX8_greedy 101 = .ok (.iinc 4 1, 3) := by decide +kernel
theorem dX8_greedy_104 : decode cX8_greedy 104 = .ok (.goto (-60), 3) := by decide +kernel
theorem dX8_greedy_107 : decode cX8_greedy 107 = .ok (.aload_n 0, 1) := by decide +kernel
theorem dX8_greedy_108 : decode cX8_greedy 108 = .ok (.getfield 53, 3) := by decide +kernel
theorem dX8_greedy_111 : decode cX8_greedy 111 = .ok (.iload_n 2, 1) := by decide +kernel
theorem dX8_greedy_112 : decode cX8_greedy 112 = .ok (.iload_n 3, 1) := by decide +kernel
theorem dX8_greedy_113 : decode cX8_greedy 113 = .ok (.iastore, 1) := by decide +kernel
theorem dX8_greedy_114 : decode cX8_greedy 114 = .ok (.iload_n 1, 1) := by decide +kernel
theorem dX8_greedy_115 : decode cX8_greedy 115 = .ok (.iconst 1, 1) := by decide +kernel
theorem dX8_greedy_116 : decode cX8_greedy 116 = .ok (.iload_n 3, 1) := by decide +kernel
theorem dX8_greedy_117 : decode cX8_greedy 117 = .ok (.ishl, 1) := by decide +kernel
theorem dX8_greedy_118 : decode cX8_greedy 118 = .ok (.iconst (-1), 1) := by decide +kernel
theorem dX8_greedy_119 : decode cX8_greedy 119 = .ok (.ixor, 1) := by decide +kernel
theorem dX8_greedy_120 : decode cX8_greedy 120 = .ok (.iand, 1) := by decide +kernel
theorem dX8_greedy_121 : decode cX8_greedy 121 = .ok (.istore_n 1, 1) := by decide +kernel
theorem dX8_greedy_122 : decode cX8_greedy 122 = .ok (.iinc 2 1, 3) := by decide +kernel
theorem dX8_greedy_125 : decode cX8_greedy 125 = .ok (.goto (-94), 3) := by decide +kernel
theorem dX8_greedy_128 : decode cX8_greedy 128 = .ok (.aload_n 0, 1) := by decide +kernel
theorem dX8_greedy_129 : decode cX8_greedy 129 = .ok (.invokevirtual 147, 3) := by decide +kernel
theorem dX8_greedy_132 : decode cX8_greedy 132 = .ok (.ireturn, 1) := by decide +kernel
set_option maxRecDepth 20000 in
theorem ggX8_tunnel_X8_in : GoodIn wsX8_tunnel wsX8_in := goodIn_r _ [7] (by decide +kernel) (by decide +kernel)
set_option maxRecDepth 20000 in
theorem gX8_tunnel_X8_in : GoodIn wsX8_tunnel (va_wsS RX8 108 yX8_in wsX8_in) := goodIn_app (goodIn_of _ (by decide +kernel)) ggX8_tunnel_X8_in
theorem dX8_tunnel_0 : decode cX8_tunnel 0 = .ok (.iload_n 1, 1) := by decide +kernel
theorem dX8_tunnel_1 : decode cX8_tunnel 1 = .ok (.iconst 2, 1) := by decide +kernel
theorem dX8_tunnel_2 : decode cX8_tunnel 2 = .ok (.bipush 10, 2) := by decide +kernel
theorem dX8_tunnel_4 : decode cX8_tunnel 4 = .ok (.invokestatic 108, 3) := by decide +kernel
theorem dX8_tunnel_7 : decode cX8_tunnel 7 = .ok (.ifCond .eq 21, 3) := by decide +kernel
theorem dX8_tunnel_10 : decode cX8_tunnel 10 = .ok (.iload_n 2, 1) := by decide +kernel
theorem dX8_tunnel_11 : decode cX8_tunnel 11 = .ok (.iconst 1, 1) := by decide +kernel
theorem dX8_tunnel_12 : decode cX8_tunnel 12 = .ok (.iconst 4, 1) := by decide +kernel
theorem dX8_tunnel_13 : decode cX8_tunnel 13 = .ok (.invokestatic 108, 3) := by decide +kernel
theorem dX8_tunnel_16 : decode cX8_tunnel 16 = .ok (.ifCond .eq 12, 3) := by decide +kernel
theorem dX8_tunnel_19 : decode cX8_tunnel 19 = .ok (.iload_n 3, 1) := by decide +kernel
theorem dX8_tunnel_20 : decode cX8_tunnel 20 = .ok (.iconst 1, 1) := by decide +kernel
theorem dX8_tunnel_21 : decode cX8_tunnel 21 = .ok (.iconst 3, 1) := by decide +kernel
theorem dX8_tunnel_22 : decode cX8_tunnel 22 = .ok (.invokestatic 108, 3) := by decide +kernel
theorem dX8_tunnel_25 : decode cX8_tunnel 25 = .ok (.ifCond .ne 6, 3) := by decide +kernel
theorem dX8_tunnel_28 : decode cX8_tunnel 28 = .ok (.bipush (-2), 2) := by decide +kernel
theorem dX8_tunnel_30 : decode cX8_tunnel 30 = .ok (.ireturn, 1) := by decide +kernel
theorem dX8_tunnel_31 : decode cX8_tunnel 31 = .ok (.aload_n 0, 1) := by decide +kernel
theorem dX8_tunnel_32 : decode cX8_tunnel 32 = .ok (.iload_n 1, 1) := by decide +kernel
theorem dX8_tunnel_33 : decode cX8_tunnel 33 = .ok (.putfield 56, 3) := by decide +kernel
theorem dX8_tunnel_36 : decode cX8_tunnel 36 = .ok (.aload_n 0, 1) := by decide +kernel
theorem dX8_tunnel_37 : decode cX8_tunnel 37 = .ok (.iload_n 2, 1) := by decide +kernel
theorem dX8_tunnel_38 : decode cX8_tunnel 38 = .ok (.putfield 60, 3) := by decide +kernel
theorem dX8_tunnel_41 : decode cX8_tunnel 41 = .ok (.aload_n 0, 1) := by decide +kernel
theorem dX8_tunnel_42 : decode cX8_tunnel 42 = .ok (.iload_n 3, 1) := by decide +kernel
theorem dX8_tunnel_43 : decode cX8_tunnel 43 = .ok (.putfield 63, 3) := by decide +kernel
theorem dX8_tunnel_46 : decode cX8_tunnel 46 = .ok (.iconst 1, 1) := by decide +kernel
theorem dX8_tunnel_47 : decode cX8_tunnel 47 = .ok (.ireturn, 1) := by decide +kernel
theorem dX8_dryerAt_0 : decode cX8_dryerAt 0 = .ok (.iconst 0, 1) := by decide +kernel
theorem dX8_dryerAt_1 : decode cX8_dryerAt 1 = .ok (.istore_n 2, 1) := by decide +kernel
theorem dX8_dryerAt_2 : decode cX8_dryerAt 2 = .ok (.iload_n 2, 1) := by decide +kernel
theorem dX8_dryerAt_3 : decode cX8_dryerAt 3 = .ok (.aload_n 0, 1) := by decide +kernel
theorem dX8_dryerAt_4 : decode cX8_dryerAt 4 = .ok (.getfield 60, 3) := by decide +kernel
theorem dX8_dryerAt_7 : decode cX8_dryerAt 7 = .ok (.if_icmp .ge 21, 3) := by decide +kernel
theorem dX8_dryerAt_10 : decode cX8_dryerAt 10 = .ok (.aload_n 0, 1) := by decide +kernel
theorem dX8_dryerAt_11 : decode cX8_dryerAt 11 = .ok (.getfield 75, 3) := by decide +kernel
theorem dX8_dryerAt_14 : decode cX8_dryerAt 14 = .ok (.iload_n 2, 1) := by decide +kernel
theorem dX8_dryerAt_15 : decode cX8_dryerAt 15 = .ok (.iaload, 1) := by decide +kernel
theorem dX8_dryerAt_16 : decode cX8_dryerAt 16 = .ok (.iload_n 1, 1) := by decide +kernel
theorem dX8_dryerAt_17 : decode cX8_dryerAt 17 = .ok (.if_icmp .gt 5, 3) := by decide +kernel
theorem dX8_dryerAt_20 : decode cX8_dryerAt 20 = .ok (.iload_n 2, 1) := by decide +kernel
theorem dX8_dryerAt_21 : decode cX8_dryerAt 21 = .ok (.ireturn, 1) := by decide +kernel
theorem dX8_dryerAt_22 : decode cX8_dryerAt 22 = .ok (.iinc 2 1, 3) := by decide +kernel
theorem dX8_dryerAt_25 : decode cX8_dryerAt 25 = .ok (.goto (-23), 3) := by decide +kernel
theorem dX8_dryerAt_28 : decode cX8_dryerAt 28 = .ok (.iconst (-1), 1) := by decide +kernel
theorem dX8_dryerAt_29 : decode cX8_dryerAt 29 = .ok (.ireturn, 1) := by decide +kernel
theorem dX8_kindAt_0 : decode cX8_kindAt 0 = .ok (.aload_n 0, 1) := by decide +kernel
theorem dX8_kindAt_1 : decode cX8_kindAt 1 = .ok (.getfield 44, 3) := by decide +kernel
theorem dX8_kindAt_4 : decode cX8_kindAt 4 = .ok (.aload_n 0, 1) := by decide +kernel
theorem dX8_kindAt_5 : decode cX8_kindAt 5 = .ok (.getfield 53, 3) := by decide +kernel
theorem dX8_kindAt_8 : decode cX8_kindAt 8 = .ok (.iload_n 1, 1) := by decide +kernel
theorem dX8_kindAt_9 : decode cX8_kindAt 9 = .ok (.iaload, 1) := by decide +kernel
theorem dX8_kindAt_10 : decode cX8_kindAt 10 = .ok (.iaload, 1) := by decide +kernel
theorem dX8_kindAt_11 : decode cX8_kindAt 11 = .ok (.ireturn, 1) := by decide +kernel
set_option maxRecDepth 20000 in
theorem ggX8_waterNow_X8_kindAt : GoodIn wsX8_waterNow wsX8_kindAt := goodIn_r _ [10, 11, 5, 12, 13, 14, 15, 16, 17, 18, 19, 20, 21, 22, 23, 24, 25, 26, 27, 28, 29, 30, 31, 32, 33, 34, 35, 36, 37, 38, 39, 40, 41, 42, 43, 44, 45, 46, 47, 48] (by decide +kernel) (by decide +kernel)
set_option maxRecDepth 20000 in
theorem gX8_waterNow_X8_kindAt : GoodIn wsX8_waterNow (wsV RX8 151 RX8 yX8_kindAt wsX8_kindAt) := goodIn_app (goodIn_of _ (by decide +kernel)) ggX8_waterNow_X8_kindAt
theorem dX8_waterNow_0 : decode cX8_waterNow 0 = .ok (.iconst 0, 1) := by decide +kernel
theorem dX8_waterNow_1 : decode cX8_waterNow 1 = .ok (.istore_n 1, 1) := by decide +kernel
theorem dX8_waterNow_2 : decode cX8_waterNow 2 = .ok (.iconst 0, 1) := by decide +kernel
theorem dX8_waterNow_3 : decode cX8_waterNow 3 = .ok (.istore_n 2, 1) := by decide +kernel
theorem dX8_waterNow_4 : decode cX8_waterNow 4 = .ok (.iload_n 2, 1) := by decide +kernel
theorem dX8_waterNow_5 : decode cX8_waterNow 5 = .ok (.aload_n 0, 1) := by decide +kernel
theorem dX8_waterNow_6 : decode cX8_waterNow 6 = .ok (.getfield 56, 3) := by decide +kernel
theorem dX8_waterNow_9 : decode cX8_waterNow 9 = .ok (.if_icmp .ge 112, 3) := by decide +kernel
theorem dX8_waterNow_12 : decode cX8_waterNow 12 = .ok (.aload_n 0, 1) := by decide +kernel
theorem dX8_waterNow_13 : decode cX8_waterNow 13 = .ok (.getfield 72, 3) := by decide +kernel
theorem dX8_waterNow_16 : decode cX8_waterNow 16 = .ok (.iload_n 2, 1) := by decide +kernel
theorem dX8_waterNow_17 : decode cX8_waterNow 17 = .ok (.iaload, 1) := by decide +kernel
theorem dX8_waterNow_18 : decode cX8_waterNow 18 = .ok (.iconst (-1), 1) := by decide +kernel
theorem dX8_waterNow_19 : decode cX8_waterNow 19 = .ok (.if_icmp .eq 96, 3) := by decide +kernel
theorem dX8_waterNow_22 : decode cX8_waterNow 22 = .ok (.iload_n 2, 1) := by decide +kernel
theorem dX8_waterNow_23 : decode cX8_waterNow 23 = .ok (.iconst 1, 1) := by decide +kernel
theorem dX8_waterNow_24 : decode cX8_waterNow 24 = .ok (.iadd, 1) := by decide +kernel
theorem dX8_waterNow_25 : decode cX8_waterNow 25 = .ok (.aload_n 0, 1) := by decide +kernel
theorem dX8_waterNow_26 : decode cX8_waterNow 26 = .ok (.getfield 56, 3) := by decide +kernel
theorem dX8_waterNow_29 : decode cX8_waterNow 29 = .ok (.if_icmp .ge 54, 3) := by decide +kernel
theorem dX8_waterNow_32 : decode cX8_waterNow 32 = .ok (.aload_n 0, 1) := by decide +kernel
theorem dX8_waterNow_33 : decode cX8_waterNow 33 = .ok (.getfield 72, 3) := by decide +kernel
theorem dX8_waterNow_36 : decode cX8_waterNow 36 = .ok (.iload_n 2, 1) := by decide +kernel
theorem dX8_waterNow_37 : decode cX8_waterNow 37 = .ok (.iconst 1, 1) := by decide +kernel
theorem dX8_waterNow_38 : decode cX8_waterNow 38 = .ok (.iadd, 1) := by decide +kernel
theorem dX8_waterNow_39 : decode cX8_waterNow 39 = .ok (.iaload, 1) := by decide +kernel
theorem dX8_waterNow_40 : decode cX8_waterNow 40 = .ok (.iconst (-1), 1) := by decide +kernel
theorem dX8_waterNow_41 : decode cX8_waterNow 41 = .ok (.if_icmp .eq 42, 3) := by decide +kernel
theorem dX8_waterNow_44 : decode cX8_waterNow 44 = .ok (.aload_n 0, 1) := by decide +kernel
theorem dX8_waterNow_45 : decode cX8_waterNow 45 = .ok (.getfield 13, 3) := by decide +kernel
theorem dX8_waterNow_48 : decode cX8_waterNow 48 = .ok (.aload_n 0, 1) := by decide +kernel
theorem dX8_waterNow_49 : decode cX8_waterNow 49 = .ok (.aload_n 0, 1) := by decide +kernel
theorem dX8_waterNow_50 : decode cX8_waterNow 50 = .ok (.getfield 72, 3) := by decide +kernel
theorem dX8_waterNow_53 : decode cX8_waterNow 53 = .ok (.iload_n 2, 1) := by decide +kernel
theorem dX8_waterNow_54 : decode cX8_waterNow 54 = .ok (.iconst 1, 1) := by decide +kernel
theorem dX8_waterNow_55 : decode cX8_waterNow 55 = .ok (.iadd, 1) := by decide +kernel
theorem dX8_waterNow_56 : decode cX8_waterNow 56 = .ok (.iaload, 1) := by decide +kernel
theorem dX8_waterNow_57 : decode cX8_waterNow 57 = .ok (.invokevirtual 151, 3) := by decide +kernel
theorem dX8_waterNow_60 : decode cX8_waterNow 60 = .ok (.iaload, 1) := by decide +kernel
theorem dX8_waterNow_61 : decode cX8_waterNow 61 = .ok (.aload_n 0, 1) := by decide +kernel
theorem dX8_waterNow_62 : decode cX8_waterNow 62 = .ok (.getfield 13, 3) := by decide +kernel
theorem dX8_waterNow_65 : decode cX8_waterNow 65 = .ok (.aload_n 0, 1) := by decide +kernel
theorem dX8_waterNow_66 : decode cX8_waterNow 66 = .ok (.aload_n 0, 1) := by decide +kernel
theorem dX8_waterNow_67 : decode cX8_waterNow 67 = .ok (.getfield 72, 3) := by decide +kernel
theorem dX8_waterNow_70 : decode cX8_waterNow 70 = .ok (.iload_n 2, 1) := by decide +kernel
theorem dX8_waterNow_71 : decode cX8_waterNow 71 = .ok (.iaload, 1) := by decide +kernel
theorem dX8_waterNow_72 : decode cX8_waterNow 72 = .ok (.invokevirtual 151, 3) := by decide +kernel
theorem dX8_waterNow_75 : decode cX8_waterNow 75 = .ok (.iaload, 1) := by decide +kernel
theorem dX8_waterNow_76 : decode cX8_waterNow 76 = .ok (.if_icmp .gt 7, 3) := by decide +kernel
theorem dX8_waterNow_79 : decode cX8_waterNow 79 = .ok (.iconst 1, 1) := by decide +kernel
theorem dX8_waterNow_80 : decode cX8_waterNow 80 = .ok (.goto 4, 3) := by decide +kernel
theorem dX8_waterNow_83 : decode cX8_waterNow 83 = .ok (.iconst 0, 1) := by decide +kernel
theorem dX8_waterNow_84 : decode cX8_waterNow 84 = .ok (.istore_n 3, 1) := by decide +kernel
theorem dX8_waterNow_85 : decode cX8_waterNow 85 = .ok (.iload_n 1, 1) := by decide +kernel
theorem dX8_waterNow_86 : decode cX8_waterNow 86 = .ok (.iload_n 3, 1) := by decide +kernel
theorem dX8_waterNow_87 : decode cX8_waterNow 87 = .ok (.ifCond .eq 7, 3) := by decide +kernel
theorem dX8_waterNow_90 : decode cX8_waterNow 90 = .ok (.iconst 0, 1) := by decide +kernel
theorem dX8_waterNow_91 : decode cX8_waterNow 91 = .ok (.goto 22, 3) := by decide +kernel
theorem dX8_waterNow_94 : decode cX8_waterNow 94 = .ok (.bipush 10, 2) := by decide +kernel
theorem dX8_waterNow_96 : decode cX8_waterNow 96 = .ok (.aload_n 0, 1) := by decide +kernel
theorem dX8_waterNow_97 : decode cX8_waterNow 97 = .ok (.getfield 47, 3) := by decide +kernel
theorem dX8_waterNow_100 : decode cX8_waterNow 100 = .ok (.aload_n 0, 1) := by decide +kernel
theorem dX8_waterNow_101 : decode cX8_waterNow 101 = .ok (.getfield 53, 3) := by decide +kernel
theorem dX8_waterNow_104 : decode cX8_waterNow 104 = .ok (.aload_n 0, 1) := by decide +kernel
theorem dX8_waterNow_105 : decode cX8_waterNow 105 = .ok (.getfield 72, 3) := by decide +kernel
theorem dX8_waterNow_108 : decode cX8_waterNow 108 = .ok (.iload_n 2, 1) := by decide +kernel
theorem dX8_waterNow_109 : decode cX8_waterNow 109 = .ok (.iaload, 1) := by decide +kernel
theorem dX8_waterNow_110 : decode cX8_waterNow 110 = .ok (.iaload, 1) := by decide +kernel
theorem dX8_waterNow_111 : decode cX8_waterNow 111 = .ok (.iaload, 1) := by decide +kernel
theorem dX8_waterNow_112 : decode cX8_waterNow 112 = .ok (.imul, 1) := by decide +kernel
theorem dX8_waterNow_113 : decode cX8_waterNow 113 = .ok (.iadd, 1) := by decide +kernel
theorem dX8_waterNow_114 : decode cX8_waterNow 114 = .ok (.istore_n 1, 1) := by decide +kernel
theorem dX8_waterNow_115 : decode cX8_waterNow 115 = .ok (.iinc 2 1, 3) := by decide +kernel
theorem dX8_waterNow_118 : decode cX8_waterNow 118 = .ok (.goto (-114), 3) := by decide +kernel
theorem dX8_waterNow_121 : decode cX8_waterNow 121 = .ok (.iload_n 1, 1) := by decide +kernel
theorem dX8_waterNow_122 : decode cX8_waterNow 122 = .ok (.ireturn, 1) := by decide +kernel
set_option maxRecDepth 20000 in
theorem ggX8_goesOut_X8_kindAt : GoodIn wsX8_goesOut wsX8_kindAt := goodIn_r _ [9, 10, 11, 17, 18, 19, 20, 21, 22, 23, 24, 25, 26, 27, 28, 29, 30, 31, 32, 33, 34, 35, 36, 37, 38, 39, 40, 41, 42, 43, 44, 45, 46, 47, 48, 49, 50, 51, 52, 53] (by decide +kernel) (by decide +kernel)
set_option maxRecDepth 20000 in
theorem gX8_goesOut_X8_kindAt : GoodIn wsX8_goesOut (wsV RX8 151 RX8 yX8_kindAt wsX8_kindAt) := goodIn_app (goodIn_of _ (by decide +kernel)) ggX8_goesOut_X8_kindAt
set_option maxRecDepth 20000 in
theorem ggX8_goesOut_X8_dryerAt : GoodIn wsX8_goesOut wsX8_dryerAt := goodIn_r _ [15, 16, 3, 17, 18, 19, 20, 21, 22, 23, 24, 25, 26, 27, 28, 29, 30, 31, 32, 33, 34, 35, 36, 37, 38, 39, 40, 41, 42, 43, 44, 45, 46, 47, 48, 49, 50, 51, 52, 53] (by decide +kernel) (by decide +kernel)
set_option maxRecDepth 20000 in
theorem gX8_goesOut_X8_dryerAt : GoodIn wsX8_goesOut (wsV RX8 154 RX8 yX8_dryerAt wsX8_dryerAt) := goodIn_app (goodIn_of _ (by decide +kernel)) ggX8_goesOut_X8_dryerAt
theorem dX8_goesOut_0 : decode cX8_goesOut 0 = .ok (.aload_n 0, 1) := by decide +kernel
theorem dX8_goesOut_1 : decode cX8_goesOut 1 = .ok (.getfield 20, 3) := by decide +kernel
theorem dX8_goesOut_4 : decode cX8_goesOut 4 = .ok (.aload_n 0, 1) := by decide +kernel
theorem dX8_goesOut_5 : decode cX8_goesOut 5 = .ok (.iload_n 1, 1) := by decide +kernel
theorem dX8_goesOut_6 : decode cX8_goesOut 6 = .ok (.invokevirtual 151, 3) := by decide +kernel
theorem dX8_goesOut_9 : decode cX8_goesOut 9 = .ok (.iaload, 1) := by decide +kernel
theorem dX8_goesOut_10 : decode cX8_goesOut 10 = .ok (.istore 4, 2) := by decide +kernel
theorem dX8_goesOut_12 : decode cX8_goesOut 12 = .ok (.aload_n 0, 1) := by decide +kernel
theorem dX8_goesOut_13 : decode cX8_goesOut 13 = .ok (.getfield 84, 3) := by decide +kernel
theorem dX8_goesOut_16 : decode cX8_goesOut 16 = .ok (.bipush 7, 2) := by decide +kernel
theorem dX8_goesOut_18 : decode cX8_goesOut 18 = .ok (.iload_n 1, 1) := by decide +kernel
theorem dX8_goesOut_19 : decode cX8_goesOut 19 = .ok (.imul, 1) := by decide +kernel
theorem dX8_goesOut_20 : decode cX8_goesOut 20 = .ok (.iconst 2, 1) := by decide +kernel
theorem dX8_goesOut_21 : decode cX8_goesOut 21 = .ok (.iadd, 1) := by decide +kernel
theorem dX8_goesOut_22 : decode cX8_goesOut 22 = .ok (.iload_n 2, 1) := by decide +kernel
theorem dX8_goesOut_23 : decode cX8_goesOut 23 = .ok (.iastore, 1) := by decide +kernel
theorem dX8_goesOut_24 : decode cX8_goesOut 24 = .ok (.aload_n 0, 1) := by decide +kernel
theorem dX8_goesOut_25 : decode cX8_goesOut 25 = .ok (.getfield 84, 3) := by decide +kernel
theorem dX8_goesOut_28 : decode cX8_goesOut 28 = .ok (.bipush 7, 2) := by decide +kernel
theorem dX8_goesOut_30 : decode cX8_goesOut 30 = .ok (.iload_n 1, 1) := by decide +kernel
theorem dX8_goesOut_31 : decode cX8_goesOut 31 = .ok (.imul, 1) := by decide +kernel
theorem dX8_goesOut_32 : decode cX8_goesOut 32 = .ok (.iconst 3, 1) := by decide +kernel
theorem dX8_goesOut_33 : decode cX8_goesOut 33 = .ok (.iadd, 1) := by decide +kernel
theorem dX8_goesOut_34 : decode cX8_goesOut 34 = .ok (.iconst (-1), 1) := by decide +kernel
theorem dX8_goesOut_35 : decode cX8_goesOut 35 = .ok (.iastore, 1) := by decide +kernel
theorem dX8_goesOut_36 : decode cX8_goesOut 36 = .ok (.aload_n 0, 1) := by decide +kernel
theorem dX8_goesOut_37 : decode cX8_goesOut 37 = .ok (.getfield 84, 3) := by decide +kernel
theorem dX8_goesOut_40 : decode cX8_goesOut 40 = .ok (.bipush 7, 2) := by decide +kernel
theorem dX8_goesOut_42 : decode cX8_goesOut 42 = .ok (.iload_n 1, 1) := by decide +kernel
theorem dX8_goesOut_43 : decode cX8_goesOut 43 = .ok (.imul, 1) := by decide +kernel
theorem dX8_goesOut_44 : decode cX8_goesOut 44 = .ok (.iconst 4, 1) := by decide +kernel
theorem dX8_goesOut_45 : decode cX8_goesOut 45 = .ok (.iadd, 1) := by decide +kernel
theorem dX8_goesOut_46 : decode cX8_goesOut 46 = .ok (.iload_n 2, 1) := by decide +kernel
theorem dX8_goesOut_47 : decode cX8_goesOut 47 = .ok (.iastore, 1) := by decide +kernel
theorem dX8_goesOut_48 : decode cX8_goesOut 48 = .ok (.iload 4, 2) := by decide +kernel
theorem dX8_goesOut_50 : decode cX8_goesOut 50 = .ok (.ifCond .le 49, 3) := by decide +kernel
theorem dX8_goesOut_53 : decode cX8_goesOut 53 = .ok (.aload_n 0, 1) := by decide +kernel
theorem dX8_goesOut_54 : decode cX8_goesOut 54 = .ok (.iload_n 2, 1) := by decide +kernel
theorem dX8_goesOut_55 : decode cX8_goesOut 55 = .ok (.invokevirtual 154, 3) := by decide +kernel
theorem dX8_goesOut_58 : decode cX8_goesOut 58 = .ok (.istore 5, 2) := by decide +kernel
theorem dX8_goesOut_60 : decode cX8_goesOut 60 = .ok (.aload_n 0, 1) := by decide +kernel
theorem dX8_goesOut_61 : decode cX8_goesOut 61 = .ok (.getfield 75, 3) := by decide +kernel
theorem dX8_goesOut_64 : decode cX8_goesOut 64 = .ok (.iload 5, 2) := by decide +kernel
theorem dX8_goesOut_66 : decode cX8_goesOut 66 = .ok (.iload_n 2, 1) := by decide +kernel
theorem dX8_goesOut_67 : decode cX8_goesOut 67 = .ok (.iload 4, 2) := by decide +kernel
theorem dX8_goesOut_69 : decode cX8_goesOut 69 = .ok (.iadd, 1) := by decide +kernel
theorem dX8_goesOut_70 : decode cX8_goesOut 70 = .ok (.iastore, 1) := by decide +kernel
theorem dX8_goesOut_71 : decode cX8_goesOut 71 = .ok (.aload_n 0, 1) := by decide +kernel
theorem dX8_goesOut_72 : decode cX8_goesOut 72 = .ok (.getfield 84, 3) := by decide +kernel
theorem dX8_goesOut_75 : decode cX8_goesOut 75 = .ok (.bipush 7, 2) := by decide +kernel
theorem dX8_goesOut_77 : decode cX8_goesOut 77 = .ok (.iload_n 1, 1) := by decide +kernel
theorem dX8_goesOut_78 : decode cX8_goesOut 78 = .ok (.imul, 1) := by decide +kernel
theorem dX8_goesOut_79 : decode cX8_goesOut 79 = .ok (.iconst 3, 1) := by decide +kernel
theorem dX8_goesOut_80 : decode cX8_goesOut 80 = .ok (.iadd, 1) := by decide +kernel
theorem dX8_goesOut_81 : decode cX8_goesOut 81 = .ok (.iload 5, 2) := by decide +kernel
theorem dX8_goesOut_83 : decode cX8_goesOut 83 = .ok (.iastore, 1) := by decide +kernel
theorem dX8_goesOut_84 : decode cX8_goesOut 84 = .ok (.aload_n 0, 1) := by decide +kernel
theorem dX8_goesOut_85 : decode cX8_goesOut 85 = .ok (.getfield 84, 3) := by decide +kernel
theorem dX8_goesOut_88 : decode cX8_goesOut 88 = .ok (.bipush 7, 2) := by decide +kernel
theorem dX8_goesOut_90 : decode cX8_goesOut 90 = .ok (.iload_n 1, 1) := by decide +kernel
theorem dX8_goesOut_91 : decode cX8_goesOut 91 = .ok (.imul, 1) := by decide +kernel
theorem dX8_goesOut_92 : decode cX8_goesOut 92 = .ok (.iconst 4, 1) := by decide +kernel
theorem dX8_goesOut_93 : decode cX8_goesOut 93 = .ok (.iadd, 1) := by decide +kernel
theorem dX8_goesOut_94 : decode cX8_goesOut 94 = .ok (.iload_n 2, 1) := by decide +kernel
theorem dX8_goesOut_95 : decode cX8_goesOut 95 = .ok (.iload 4, 2) := by decide +kernel
theorem dX8_goesOut_97 : decode cX8_goesOut 97 = .ok (.iadd, 1) := by decide +kernel
theorem dX8_goesOut_98 : decode cX8_goesOut 98 = .ok (.iastore, 1) := by decide +kernel
theorem dX8_goesOut_99 : decode cX8_goesOut 99 = .ok (.aload_n 0, 1) := by decide +kernel
theorem dX8_goesOut_100 : decode cX8_goesOut 100 = .ok (.getfield 87, 3) := by decide +kernel
theorem dX8_goesOut_103 : decode cX8_goesOut 103 = .ok (.iload_n 3, 1) := by decide +kernel
theorem dX8_goesOut_104 : decode cX8_goesOut 104 = .ok (.iload_n 1, 1) := by decide +kernel
theorem dX8_goesOut_105 : decode cX8_goesOut 105 = .ok (.iastore, 1) := by decide +kernel
theorem dX8_goesOut_106 : decode cX8_goesOut 106 = .ok (.return_, 1) := by decide +kernel
set_option maxRecDepth 20000 in
theorem ggX8_irons_X8_kindAt : GoodIn wsX8_irons wsX8_kindAt := goodIn_r _ [11, 12, 13, 14, 15, 16, 17, 18, 19, 20, 21, 22, 23, 24, 25, 26, 27, 28, 29, 30, 31, 32, 33, 34, 35, 36, 37, 38, 39, 40, 41, 42, 43, 44, 45, 46, 47, 48, 49, 50] (by decide +kernel) (by decide +kernel)
set_option maxRecDepth 20000 in
theorem gX8_irons_X8_kindAt : GoodIn wsX8_irons (wsV RX8 151 RX8 yX8_kindAt wsX8_kindAt) := goodIn_app (goodIn_of _ (by decide +kernel)) ggX8_irons_X8_kindAt
theorem dX8_irons_0 : decode cX8_irons 0 = .ok (.iconst 0, 1) := by decide +kernel
theorem dX8_irons_1 : decode cX8_irons 1 = .ok (.istore_n 1, 1) := by decide +kernel
theorem dX8_irons_2 : decode cX8_irons 2 = .ok (.iload_n 1, 1) := by decide +kernel
theorem dX8_irons_3 : decode cX8_irons 3 = .ok (.aload_n 0, 1) := by decide +kernel
theorem dX8_irons_4 : decode cX8_irons 4 = .ok (.getfield 63, 3) := by decide +kernel
theorem dX8_irons_7 : decode cX8_irons 7 = .ok (.if_icmp .ge 16, 3) := by decide +kernel
theorem dX8_irons_10 : decode cX8_irons 10 = .ok (.aload_n 0, 1) := by decide +kernel
theorem dX8_irons_11 : decode cX8_irons 11 = .ok (.getfield 78, 3) := by decide +kernel
theorem dX8_irons_14 : decode cX8_irons 14 = .ok (.iload_n 1, 1) := by decide +kernel
theorem dX8_irons_15 : decode cX8_irons 15 = .ok (.iconst 0, 1) := by decide +kernel
theorem dX8_irons_16 : decode cX8_irons 16 = .ok (.iastore, 1) := by decide +kernel
theorem dX8_irons_17 : decode cX8_irons 17 = .ok (.iinc 1 1, 3) := by decide +kernel
theorem dX8_irons_20 : decode cX8_irons 20 = .ok (.goto (-18), 3) := by decide +kernel
theorem dX8_irons_23 : decode cX8_irons 23 = .ok (.iconst 1, 1) := by decide +kernel
theorem dX8_irons_24 : decode cX8_irons 24 = .ok (.istore_n 1, 1) := by decide +kernel
theorem dX8_irons_25 : decode cX8_irons 25 = .ok (.iload_n 1, 1) := by decide +kernel
theorem dX8_irons_26 : decode cX8_irons 26 = .ok (.aload_n 0, 1) := by decide +kernel
theorem dX8_irons_27 : decode cX8_irons 27 = .ok (.getfield 157, 3) := by decide +kernel
theorem dX8_irons_30 : decode cX8_irons 30 = .ok (.if_icmp .ge 81, 3) := by decide +kernel
theorem dX8_irons_33 : decode cX8_irons 33 = .ok (.aload_n 0, 1) := by decide +kernel
theorem dX8_irons_34 : decode cX8_irons 34 = .ok (.getfield 87, 3) := by decide +kernel
theorem dX8_irons_37 : decode cX8_irons 37 = .ok (.iload_n 1, 1) := by decide +kernel
theorem dX8_irons_38 : decode cX8_irons 38 = .ok (.iaload, 1) := by decide +kernel
theorem dX8_irons_39 : decode cX8_irons 39 = .ok (.istore_n 2, 1) := by decide +kernel
theorem dX8_irons_40 : decode cX8_irons 40 = .ok (.iload_n 1, 1) := by decide +kernel
theorem dX8_irons_41 : decode cX8_irons 41 = .ok (.istore_n 3, 1) := by decide +kernel
theorem dX8_irons_42 : decode cX8_irons 42 = .ok (.iload_n 3, 1) := by decide +kernel
theorem dX8_irons_43 : decode cX8_irons 43 = .ok (.ifCond .le 55, 3) := by decide +kernel
theorem dX8_irons_46 : decode cX8_irons 46 = .ok (.aload_n 0, 1) := by decide +kernel
theorem dX8_irons_47 : decode cX8_irons 47 = .ok (.getfield 84, 3) := by decide +kernel
theorem dX8_irons_50 : decode cX8_irons 50 = .ok (.bipush 7, 2) := by decide +kernel
theorem dX8_irons_52 : decode cX8_irons 52 = .ok (.aload_n 0, 1) := by decide +kernel
theorem dX8_irons_53 : decode cX8_irons 53 = .ok (.getfield 87, 3) := by decide +kernel
theorem dX8_irons_56 : decode cX8_irons 56 = .ok (.iload_n 3, 1) := by decide +kernel
theorem dX8_irons_57 : decode cX8_irons 57 = .ok (.iconst 1, 1) := by decide +kernel
theorem dX8_irons_58 : decode cX8_irons 58 = .ok (.isub, 1) := by decide +kernel
theorem dX8_irons_59 : decode cX8_irons 59 = .ok (.iaload, 1) := by decide +kernel
theorem dX8_irons_60 : decode cX8_irons 60 = .ok (.imul, 1) := by decide +kernel
theorem dX8_irons_61 : decode cX8_irons 61 = .ok (.iconst 4, 1) := by decide +kernel
theorem dX8_irons_62 : decode cX8_irons 62 = .ok (.iadd, 1) := by decide +kernel
theorem dX8_irons_63 : decode cX8_irons 63 = .ok (.iaload, 1) := by decide +kernel
theorem dX8_irons_64 : decode cX8_irons 64 = .ok (.aload_n 0, 1) := by decide +kernel
theorem dX8_irons_65 : decode cX8_irons 65 = .ok (.getfield 84, 3) := by decide +kernel
theorem dX8_irons_68 : decode cX8_irons 68 = .ok (.bipush 7, 2) := by decide +kernel
theorem dX8_irons_70 : decode cX8_irons 70 = .ok (.iload_n 2, 1) := by decide +kernel
theorem dX8_irons_71 : decode cX8_irons 71 = .ok (.imul, 1) := by decide +kernel
theorem dX8_irons_72 : decode cX8_irons 72 = .ok (.iconst 4, 1) := by decide +kernel
theorem dX8_irons_73 : decode cX8_irons 73 = .ok (.iadd, 1) := by decide +kernel
theorem dX8_irons_74 : decode cX8_irons 74 = .ok (.iaload, 1) := by decide +kernel
theorem dX8_irons_75 : decode cX8_irons 75 = .ok (.if_icmp .le 23, 3) := by decide +kernel
theorem dX8_irons_78 : decode cX8_irons 78 = .ok (.aload_n 0, 1) := by decide +kernel
theorem dX8_irons_79 : decode cX8_irons 79 = .ok (.getfield 87, 3) := by decide +kernel
theorem dX8_irons_82 : decode cX8_irons 82 = .ok (.iload_n 3, 1) := by decide +kernel
theorem dX8_irons_83 : decode cX8_irons 83 = .ok (.aload_n 0, 1) := by decide +kernel
theorem dX8_irons_84 : decode cX8_irons 84 = .ok (.getfield 87, 3) := by decide +kernel
theorem dX8_irons_87 : decode cX8_irons 87 = .ok (.iload_n 3, 1) := by decide +kernel
theorem dX8_irons_88 : decode cX8_irons 88 = .ok (.iconst 1, 1) := by decide +kernel
theorem dX8_irons_89 : decode cX8_irons 89 = .ok (.isub, 1) := by decide +kernel
theorem dX8_irons_90 : decode cX8_irons 90 = .ok (.iaload, 1) := by decide +kernel
theorem dX8_irons_91 : decode cX8_irons 91 = .ok (.iastore, 1) := by decide +kernel
theorem dX8_irons_92 : decode cX8_irons 92 = .ok (.iinc 3 (-1), 3) := by decide +kernel
theorem dX8_irons_95 : decode cX8_irons 95 = .ok (.goto (-53), 3) := by decide +kernel
theorem dX8_irons_98 : decode cX8_irons 98 = .ok (.aload_n 0, 1) := by decide +kernel
theorem dX8_irons_99 : decode cX8_irons 99 = .ok (.getfield 87, 3) := by decide +kernel
theorem dX8_irons_102 : decode cX8_irons 102 = .ok (.iload_n 3, 1) := by decide +kernel
theorem dX8_irons_103 : decode cX8_irons 103 = .ok (.iload_n 2, 1) := by decide +kernel
theorem dX8_irons_104 : decode cX8_irons 104 = .ok (.iastore, 1) := by decide +kernel
theorem dX8_irons_105 : decode cX8_irons 105 = .ok (.iinc 1 1, 3) := by decide +kernel
theorem dX8_irons_108 : decode cX8_irons 108 = .ok (.goto (-83), 3) := by decide +kernel
theorem dX8_irons_111 : decode cX8_irons 111 = .ok (.iconst 0, 1) := by decide +kernel
theorem dX8_irons_112 : decode cX8_irons 112 = .ok (.istore_n 1, 1) := by decide +kernel
theorem dX8_irons_113 : decode cX8_irons 113 = .ok (.iload_n 1, 1) := by decide +kernel
theorem dX8_irons_114 : decode cX8_irons 114 = .ok (.aload_n 0, 1) := by decide +kernel
theorem dX8_irons_115 : decode cX8_irons 115 = .ok (.getfield 157, 3) := by decide +kernel
theorem dX8_irons_118 : decode cX8_irons 118 = .ok (.if_icmp .ge 184, 3) := by decide +kernel
theorem dX8_irons_121 : decode cX8_irons 121 = .ok (.bipush 7, 2) := by decide +kernel
theorem dX8_irons_123 : decode cX8_irons 123 = .ok (.aload_n 0, 1) := by decide +kernel
theorem dX8_irons_124 : decode cX8_irons 124 = .ok (.getfield 87, 3) := by decide +kernel
theorem dX8_irons_127 : decode cX8_irons 127 = .ok (.iload_n 1, 1) := by decide +kernel
theorem dX8_irons_128 : decode cX8_irons 128 = .ok (.iaload, 1) := by decide +kernel
theorem dX8_irons_129 : decode cX8_irons 129 = .ok (.imul, 1) := by decide +kernel
theorem dX8_irons_130 : decode cX8_irons 130 = .ok (.istore_n 2, 1) := by decide +kernel
theorem dX8_irons_131 : decode cX8_irons 131 = .ok (.aload_n 0, 1) := by decide +kernel
theorem dX8_irons_132 : decode cX8_irons 132 = .ok (.getfield 23, 3) := by decide +kernel
theorem dX8_irons_135 : decode cX8_irons 135 = .ok (.aload_n 0, 1) := by decide +kernel
theorem dX8_irons_136 : decode cX8_irons 136 = .ok (.aload_n 0, 1) := by decide +kernel
theorem dX8_irons_137 : decode cX8_irons 137 = .ok (.getfield 87, 3) := by decide +kernel
theorem dX8_irons_140 : decode cX8_irons 140 = .ok (.iload_n 1, 1) := by decide +kernel
theorem dX8_irons_141 : decode cX8_irons 141 = .ok (.iaload, 1) := by decide +kernel
theorem dX8_irons_142 : decode cX8_irons 142 = .ok (.invokevirtual 151, 3) := by decide +kernel
theorem dX8_irons_145 : decode cX8_irons 145 = .ok (.iaload, 1) := by decide +kernel
theorem dX8_irons_146 : decode cX8_irons 146 = .ok (.istore_n 3, 1) := by decide +kernel
theorem dX8_irons_147 : decode cX8_irons 147 = .ok (.aload_n 0, 1) := by decide +kernel
theorem dX8_irons_148 : decode cX8_irons 148 = .ok (.getfield 84, 3) := by decide +kernel
theorem dX8_irons_151 : decode cX8_irons 151 = .ok (.iload_n 2, 1) := by decide +kernel
theorem dX8_irons_152 : decode cX8_irons 152 = .ok (.iconst 5, 1) := by decide +kernel
theorem dX8_irons_153 : decode cX8_irons 153 = .ok (.iadd, 1) := by decide +kernel
theorem dX8_irons_154 : decode cX8_irons 154 = .ok (.iconst (-1), 1) := by decide +kernel
theorem dX8_irons_155 : decode cX8_irons 155 = .ok (.iastore, 1) := by decide +kernel
theorem dX8_irons_156 : decode cX8_irons 156 = .ok (.aload_n 0, 1) := by decide +kernel
theorem dX8_irons_157 : decode cX8_irons 157 = .ok (.getfield 84, 3) := by decide +kernel
theorem dX8_irons_160 : decode cX8_irons 160 = .ok (.iload_n 2, 1) := by decide +kernel
theorem dX8_irons_161 : decode cX8_irons 161 = .ok (.bipush 6, 2) := by decide +kernel
theorem dX8_irons_163 : decode cX8_irons 163 = .ok (.iadd, 1) := by decide +kernel
theorem dX8_irons_164 : decode cX8_irons 164 = .ok (.aload_n 0, 1) := by decide +kernel
theorem dX8_irons_165 : decode cX8_irons 165 = .ok (.getfield 84, 3) := by decide +kernel
theorem dX8_irons_168 : decode cX8_irons 168 = .ok (.iload_n 2, 1) := by decide +kernel
theorem dX8_irons_169 : decode cX8_irons 169 = .ok (.iconst 4, 1) := by decide +kernel
theorem dX8_irons_170 : decode cX8_irons 170 = .ok (.iadd, 1) := by decide +kernel
theorem dX8_irons_171 : decode cX8_irons 171 = .ok (.iaload, 1) := by decide +kernel
theorem dX8_irons_172 : decode cX8_irons 172 = .ok (.iastore, 1) := by decide +kernel
theorem dX8_irons_173 : decode cX8_irons 173 = .ok (.iload_n 3, 1) := by decide +kernel
theorem dX8_irons_174 : decode cX8_irons 174 = .ok (.ifCond .le 122, 3) := by decide +kernel
theorem dX8_irons_177 : decode cX8_irons 177 = .ok (.iconst 0, 1) := by decide +kernel
theorem dX8_irons_178 : decode cX8_irons 178 = .ok (.istore 4, 2) := by decide +kernel
theorem dX8_irons_180 : decode cX8_irons 180 = .ok (.iconst 1, 1) := by decide +kernel
theorem dX8_irons_181 : decode cX8_irons 181 = .ok (.istore 5, 2) := by decide +kernel
theorem dX8_irons_183 : decode cX8_irons 183 = .ok (.iload 5, 2) := by decide +kernel
theorem dX8_irons_185 : decode cX8_irons 185 = .ok (.aload_n 0, 1) := by decide +kernel
theorem dX8_irons_186 : decode cX8_irons 186 = .ok (.getfield 63, 3) := by decide +kernel
theorem dX8_irons_189 : decode cX8_irons 189 = .ok (.if_icmp .ge 35, 3) := by decide +kernel
theorem dX8_irons_192 : decode cX8_irons 192 = .ok (.aload_n 0, 1) := by decide +kernel
theorem dX8_irons_193 : decode cX8_irons 193 = .ok (.getfield 78, 3) := by decide +kernel
theorem dX8_irons_196 : decode cX8_irons 196 = .ok (.iload 5, 2) := by decide +kernel
theorem dX8_irons_198 : decode cX8_irons 198 = .ok (.iaload, 1) := by decide +kernel
theorem dX8_irons_199 : decode cX8_irons 199 = .ok (.aload_n 0, 1) := by decide +kernel
theorem dX8_irons_200 : decode cX8_irons 200 = .ok (.getfield 78, 3) := by decide +kernel
theorem dX8_irons_203 : decode cX8_irons 203 = .ok (.iload 4, 2) := by decide +kernel
theorem dX8_irons_205 : decode cX8_irons 205 = .ok (.iaload, 1) := by decide +kernel
theorem dX8_irons_206 : decode cX8_irons 206 = .ok (.if_icmp .ge 8, 3) := by decide +kernel
theorem dX8_irons_209 : decode cX8_irons 209 = .ok (.iload 5, 2) := by decide +kernel
theorem dX8_irons_211 : decode cX8_irons 211 = .ok (.goto 5, 3) := by decide +kernel
theorem dX8_irons_214 : decode cX8_irons 214 = .ok (.iload 4, 2) := by decide +kernel
theorem dX8_irons_216 : decode cX8_irons 216 = .ok (.istore 4, 2) := by decide +kernel
theorem dX8_irons_218 : decode cX8_irons 218 = .ok (.iinc 5 1, 3) := by decide +kernel
theorem dX8_irons_221 : decode cX8_irons 221 = .ok (.goto (-38), 3) := by decide +kernel
theorem dX8_irons_224 : decode cX8_irons 224 = .ok (.aload_n 0, 1) := by decide +kernel
theorem dX8_irons_225 : decode cX8_irons 225 = .ok (.getfield 78, 3) := by decide +kernel
theorem dX8_irons_228 : decode cX8_irons 228 = .ok (.iload 4, 2) := by decide +kernel
theorem dX8_irons_230 : decode cX8_irons 230 = .ok (.iaload, 1) := by decide +kernel
theorem dX8_irons_231 : decode cX8_irons 231 = .ok (.aload_n 0, 1) := by decide +kernel
theorem dX8_irons_232 : decode cX8_irons 232 = .ok (.getfield 84, 3) := by decide +kernel
theorem dX8_irons_235 : decode cX8_irons 235 = .ok (.iload_n 2, 1) := by decide +kernel
theorem dX8_irons_236 : decode cX8_irons 236 = .ok (.iconst 4, 1) := by decide +kernel
theorem dX8_irons_237 : decode cX8_irons 237 = .ok (.iadd, 1) := by decide +kernel
theorem dX8_irons_238 : decode cX8_irons 238 = .ok (.iaload, 1) := by decide +kernel
theorem dX8_irons_239 : decode cX8_irons 239 = .ok (.if_icmp .le 13, 3) := by decide +kernel
theorem dX8_irons_242 : decode cX8_irons 242 = .ok (.aload_n 0, 1) := by decide +kernel
theorem dX8_irons_243 : decode cX8_irons 243 = .ok (.getfield 78, 3) := by decide +kernel
theorem dX8_irons_246 : decode cX8_irons 246 = .ok (.iload 4, 2) := by decide +kernel
theorem dX8_irons_248 : decode cX8_irons 248 = .ok (.iaload, 1) := by decide +kernel
theorem dX8_irons_249 : decode cX8_irons 249 = .ok (.goto 11, 3) := by decide +kernel
theorem dX8_irons_252 : decode cX8_irons 252 = .ok (.aload_n 0, 1) := by decide +kernel
theorem dX8_irons_253 : decode cX8_irons 253 = .ok (.getfield 84, 3) := by decide +kernel
theorem dX8_irons_256 : decode cX8_irons 256 = .ok (.iload_n 2, 1) := by decide +kernel
theorem dX8_irons_257 : decode cX8_irons 257 = .ok (.iconst 4, 1) := by decide +kernel
theorem dX8_irons_258 : decode cX8_irons 258 = .ok (.iadd, 1) := by decide +kernel
theorem dX8_irons_259 : decode cX8_irons 259 = .ok (.iaload, 1) := by decide +kernel
theorem dX8_irons_260 : decode cX8_irons 260 = .ok (.istore 5, 2) := by decide +kernel
theorem dX8_irons_262 : decode cX8_irons 262 = .ok (.aload_n 0, 1) := by decide +kernel
theorem dX8_irons_263 : decode cX8_irons 263 = .ok (.getfield 78, 3) := by decide +kernel
theorem dX8_irons_266 : decode cX8_irons 266 = .ok (.iload 4, 2) := by decide +kernel
theorem dX8_irons_268 : decode cX8_irons 268 = .ok (.iload 5, 2) := by decide +kernel
theorem dX8_irons_270 : decode cX8_irons 270 = .ok (.iload_n 3, 1) := by decide +kernel
theorem dX8_irons_271 : decode cX8_irons 271 = .ok (.iadd, 1) := by decide +kernel
theorem dX8_irons_272 : decode cX8_irons 272 = .ok (.iastore, 1) := by decide +kernel
theorem dX8_irons_273 : decode cX8_irons 273 = .ok (.aload_n 0, 1) := by decide +kernel
theorem dX8_irons_274 : decode cX8_irons 274 = .ok (.getfield 84, 3) := by decide +kernel
theorem dX8_irons_277 : decode cX8_irons 277 = .ok (.iload_n 2, 1) := by decide +kernel
theorem dX8_irons_278 : decode cX8_irons 278 = .ok (.iconst 5, 1) := by decide +kernel
theorem dX8_irons_279 : decode cX8_irons 279 = .ok (.iadd, 1) := by decide +kernel
theorem dX8_irons_280 : decode cX8_irons 280 = .ok (.iload 4, 2) := by decide +kernel
theorem dX8_irons_282 : decode cX8_irons 282 = .ok (.iastore, 1) := by decide +kernel
theorem dX8_irons_283 : decode cX8_irons 283 = .ok (.aload_n 0, 1) := by decide +kernel
theorem dX8_irons_284 : decode cX8_irons 284 = .ok (.getfield 84, 3) := by decide +kernel
theorem dX8_irons_287 : decode cX8_irons 287 = .ok (.iload_n 2, 1) := by decide +kernel
theorem dX8_irons_288 : decode cX8_irons 288 = .ok (.bipush 6, 2) := by decide +kernel
theorem dX8_irons_290 : decode cX8_irons 290 = .ok (.iadd, 1) := by decide +kernel
theorem dX8_irons_291 : decode cX8_irons 291 = .ok (.iload 5, 2) := by decide +kernel
theorem dX8_irons_293 : decode cX8_irons 293 = .ok (.iload_n 3, 1) := by decide +kernel
theorem dX8_irons_294 : decode cX8_irons 294 = .ok (.iadd, 1) := by decide +kernel
theorem dX8_irons_295 : decode cX8_irons 295 = .ok (.iastore, 1) := by decide +kernel
theorem dX8_irons_296 : decode cX8_irons 296 = .ok (.iinc 1 1, 3) := by decide +kernel
theorem dX8_irons_299 : decode cX8_irons 299 = .ok (.goto (-186), 3) := by decide +kernel
theorem dX8_irons_302 : decode cX8_irons 302 = .ok (.return_, 1) := by decide +kernel
set_option maxRecDepth 20000 in
theorem ggX8_wash_X8_betweenBatches : GoodIn wsX8_wash wsX8_betweenBatches := goodIn_r _ [21, 22, 23, 24, 25, 20, 26, 27, 28, 29, 59, 60, 61, 62, 63, 64, 65, 66, 67, 68, 69, 70, 71, 72, 73, 74, 75, 76, 77, 78, 79, 80, 81, 82, 83, 84, 85, 86, 87, 88, 89, 90, 91, 92, 93, 94, 95] (by decide +kernel) (by decide +kernel)
set_option maxRecDepth 20000 in
theorem gX8_wash_X8_betweenBatches : GoodIn wsX8_wash (wsV RX8 143 RX8 yX8_betweenBatches wsX8_betweenBatches) := goodIn_app (goodIn_of _ (by decide +kernel)) ggX8_wash_X8_betweenBatches
set_option maxRecDepth 20000 in
theorem ggX8_wash_X8_kindAt : GoodIn wsX8_wash wsX8_kindAt := goodIn_r _ [33, 22, 2, 59, 60, 61, 62, 63, 64, 65, 66, 67, 68, 69, 70, 71, 72, 73, 74, 75, 76, 77, 78, 79, 80, 81, 82, 83, 84, 85, 86, 87, 88, 89, 90, 91, 92, 93, 94, 95] (by decide +kernel) (by decide +kernel)
set_option maxRecDepth 20000 in
theorem gX8_wash_X8_kindAt : GoodIn wsX8_wash (wsV RX8 151 RX8 yX8_kindAt wsX8_kindAt) := goodIn_app (goodIn_of _ (by decide +kernel)) ggX8_wash_X8_kindAt
set_option maxRecDepth 20000 in
theorem ggX8_wash_X8_dryerAt : GoodIn wsX8_wash wsX8_dryerAt := goodIn_r _ [37, 38, 5, 59, 60, 61, 62, 63, 64, 65, 66, 67, 68, 69, 70, 71, 72, 73, 74, 75, 76, 77, 78, 79, 80, 81, 82, 83, 84, 85, 86, 87, 88, 89, 90, 91, 92, 93, 94, 95] (by decide +kernel) (by decide +kernel)
set_option maxRecDepth 20000 in
theorem gX8_wash_X8_dryerAt : GoodIn wsX8_wash (wsV RX8 154 RX8 yX8_dryerAt wsX8_dryerAt) := goodIn_app (goodIn_of _ (by decide +kernel)) ggX8_wash_X8_dryerAt
set_option maxRecDepth 20000 in
theorem ggX8_wash_X8_goesOut : GoodIn wsX8_wash wsX8_goesOut := goodIn_r _ [42, 8, 9, 5, 43, 30, 31, 32, 20, 33, 22, 2, 34, 35, 36, 37, 38, 59, 60, 61, 62, 63, 64, 65, 66, 67, 68, 69, 70, 71, 72, 73, 74, 75, 76, 77, 78, 79, 80, 81, 82, 83, 84, 85, 86, 87, 88, 89, 90, 91, 92, 93, 94, 95] (by decide +kernel) (by decide +kernel)
set_option maxRecDepth 20000 in
theorem gX8_wash_X8_goesOut : GoodIn wsX8_wash (wsV RX8 160 RX8 yX8_goesOut wsX8_goesOut) := goodIn_app (goodIn_of _ (by decide +kernel)) ggX8_wash_X8_goesOut
set_option maxRecDepth 20000 in
theorem ggX8_wash_X8_waterNow : GoodIn wsX8_wash wsX8_waterNow := goodIn_r _ [47, 7, 4, 27, 11, 2, 30, 31, 32, 20, 33, 22, 59, 60, 61, 62, 63, 64, 65, 66, 67, 68, 69, 70, 71, 72, 73, 74, 75, 76, 77, 78, 79, 80, 81, 82, 83, 84, 85, 86, 87, 88, 89, 90, 91, 92, 93, 94, 95] (by decide +kernel) (by decide +kernel)
set_option maxRecDepth 20000 in
theorem gX8_wash_X8_waterNow : GoodIn wsX8_wash (wsV RX8 164 RX8 yX8_waterNow wsX8_waterNow) := goodIn_app (goodIn_of _ (by decide +kernel)) ggX8_wash_X8_waterNow
set_option maxRecDepth 20000 in
theorem ggX8_wash_X8_irons : GoodIn wsX8_wash wsX8_irons := goodIn_r _ [51, 52, 53, 6, 43, 9, 54, 30, 31, 32, 20, 33, 22, 2, 59, 60, 61, 62, 63, 64, 65, 66, 67, 68, 69, 70, 71, 72, 73, 74, 75, 76, 77, 78, 79, 80, 81, 82, 83, 84, 85, 86, 87, 88, 89, 90, 91, 92, 93, 94, 95] (by decide +kernel) (by decide +kernel)
set_option maxRecDepth 20000 in
theorem gX8_wash_X8_irons : GoodIn wsX8_wash (wsV RX8 167 RX8 yX8_irons wsX8_irons) := goodIn_app (goodIn_of _ (by decide +kernel)) ggX8_wash_X8_irons
set_option maxRecDepth 20000 in
theorem ggX8_wash_X8_empties : GoodIn wsX8_wash wsX8_empties := goodIn_r _ [58, 1, 2, 17, 18, 19, 20, 21, 22, 23, 24, 25, 26, 27, 28, 29, 59, 60, 61, 62, 63, 64, 65, 66, 67, 68, 69, 70, 71, 72, 73, 74, 75, 76, 77, 78, 79, 80, 81, 82, 83, 84, 85, 86, 87, 88, 89, 90, 91, 92, 93, 94, 95] (by decide +kernel) (by decide +kernel)
set_option maxRecDepth 20000 in
theorem gX8_wash_X8_empties : GoodIn wsX8_wash (wsV RX8 147 RX8 yX8_empties wsX8_empties) := goodIn_app (goodIn_of _ (by decide +kernel)) ggX8_wash_X8_empties
theorem dX8_wash_0 : decode cX8_wash 0 = .ok (.aload_n 0, 1) := by decide +kernel
theorem dX8_wash_1 : decode cX8_wash 1 = .ok (.getfield 133, 3) := by decide +kernel
theorem dX8_wash_4 : decode cX8_wash 4 = .ok (.ifCond .ne 6, 3) := by decide +kernel
theorem dX8_wash_7 : decode cX8_wash 7 = .ok (.bipush (-4), 2) := by decide +kernel
theorem dX8_wash_9 : decode cX8_wash 9 = .ok (.ireturn, 1) := by decide +kernel
theorem dX8_wash_10 : decode cX8_wash 10 = .ok (.iconst 0, 1) := by decide +kernel
theorem dX8_wash_11 : decode cX8_wash 11 = .ok (.istore_n 1, 1) := by decide +kernel
theorem dX8_wash_12 : decode cX8_wash 12 = .ok (.iconst 0, 1) := by decide +kernel
theorem dX8_wash_13 : decode cX8_wash 13 = .ok (.istore_n 2, 1) := by decide +kernel
theorem dX8_wash_14 : decode cX8_wash 14 = .ok (.iload_n 2, 1) := by decide +kernel
theorem dX8_wash_15 : decode cX8_wash 15 = .ok (.aload_n 0, 1) := by decide +kernel
theorem dX8_wash_16 : decode cX8_wash 16 = .ok (.getfield 133, 3) := by decide +kernel
theorem dX8_wash_19 : decode cX8_wash 19 = .ok (.if_icmp .ge 71, 3) := by decide +kernel
theorem dX8_wash_22 : decode cX8_wash 22 = .ok (.iload_n 2, 1) := by decide +kernel
theorem dX8_wash_23 : decode cX8_wash 23 = .ok (.ifCond .ne 7, 3) := by decide +kernel
theorem dX8_wash_26 : decode cX8_wash 26 = .ok (.iconst 0, 1) := by decide +kernel
theorem dX8_wash_27 : decode cX8_wash 27 = .ok (.goto 21, 3) := by decide +kernel
theorem dX8_wash_30 : decode cX8_wash 30 = .ok (.aload_n 0, 1) := by decide +kernel
theorem dX8_wash_31 : decode cX8_wash 31 = .ok (.aload_n 0, 1) := by decide +kernel
theorem dX8_wash_32 : decode cX8_wash 32 = .ok (.getfield 53, 3) := by decide +kernel
theorem dX8_wash_35 : decode cX8_wash 35 = .ok (.iload_n 2, 1) := by decide +kernel
theorem dX8_wash_36 : decode cX8_wash 36 = .ok (.iconst 1, 1) := by decide +kernel
theorem dX8_wash_37 : decode cX8_wash 37 = .ok (.isub, 1) := by decide +kernel
theorem dX8_wash_38 : decode cX8_wash 38 = .ok (.iaload, 1) := by decide +kernel
theorem dX8_wash_39 : decode cX8_wash 39 = .ok (.aload_n 0, 1) := by decide +kernel
theorem dX8_wash_40 : decode cX8_wash 40 = .ok (.getfield 53, 3) := by decide +kernel
theorem dX8_wash_43 : decode cX8_wash 43 = .ok (.iload_n 2, 1) := by decide +kernel
theorem dX8_wash_44 : decode cX8_wash 44 = .ok (.iaload, 1) := by decide +kernel
theorem dX8_wash_45 : decode cX8_wash 45 = .ok (.invokevirtual 143, 3) := by decide +kernel
theorem dX8_wash_48 : decode cX8_wash 48 = .ok (.istore_n 3, 1) := by decide +kernel
theorem dX8_wash_49 : decode cX8_wash 49 = .ok (.iconst 0, 1) := by decide +kernel
theorem dX8_wash_50 : decode cX8_wash 50 = .ok (.istore 4, 2) := by decide +kernel
theorem dX8_wash_52 : decode cX8_wash 52 = .ok (.iload 4, 2) := by decide +kernel
theorem dX8_wash_54 : decode cX8_wash 54 = .ok (.iload_n 3, 1) := by decide +kernel
theorem dX8_wash_55 : decode cX8_wash 55 = .ok (.if_icmp .ge 19, 3) := by decide +kernel
theorem dX8_wash_58 : decode cX8_wash 58 = .ok (.aload_n 0, 1) := by decide +kernel
theorem dX8_wash_59 : decode cX8_wash 59 = .ok (.getfield 69, 3) := by decide +kernel
theorem dX8_wash_62 : decode cX8_wash 62 = .ok (.iload_n 1, 1) := by decide +kernel
theorem dX8_wash_63 : decode cX8_wash 63 = .ok (.iconst (-1), 1) := by decide +kernel
theorem dX8_wash_64 : decode cX8_wash 64 = .ok (.iastore, 1) := by decide +kernel
theorem dX8_wash_65 : decode cX8_wash 65 = .ok (.iinc 1 1, 3) := by decide +kernel
theorem dX8_wash_68 : decode cX8_wash 68 = .ok (.iinc 4 1, 3) := by decide +kernel
theorem dX8_wash_71 : decode cX8_wash 71 = .ok (.goto (-19), 3) := by decide +kernel
theorem dX8_wash_74 : decode cX8_wash 74 = .ok (.aload_n 0, 1) := by decide +kernel
theorem dX8_wash_75 : decode cX8_wash 75 = .ok (.getfield 69, 3) := by decide +kernel
theorem dX8_wash_78 : decode cX8_wash 78 = .ok (.iload_n 1, 1) := by decide +kernel
theorem dX8_wash_79 : decode cX8_wash 79 = .ok (.iload_n 2, 1) := by decide +kernel
theorem dX8_wash_80 : decode cX8_wash 80 = .ok (.iastore, 1) := by decide +kernel
theorem dX8_wash_81 : decode cX8_wash 81 = .ok (.iinc 1 1, 3) := by decide +kernel
theorem dX8_wash_84 : decode cX8_wash 84 = .ok (.iinc 2 1, 3) := by decide +kernel
theorem dX8_wash_87 : decode cX8_wash 87 = .ok (.goto (-73), 3) := by decide +kernel
theorem dX8_wash_90 : decode cX8_wash 90 = .ok (.iconst 0, 1) := by decide +kernel
theorem dX8_wash_91 : decode cX8_wash 91 = .ok (.istore_n 2, 1) := by decide +kernel
theorem dX8_wash_92 : decode cX8_wash 92 = .ok (.iload_n 2, 1) := by decide +kernel
theorem dX8_wash_93 : decode cX8_wash 93 = .ok (.bipush 10, 2) := by decide +kernel
theorem dX8_wash_95 : decode cX8_wash 95 = .ok (.if_icmp .ge 16, 3) := by decide +kernel
theorem dX8_wash_98 : decode cX8_wash 98 = .ok (.aload_n 0, 1) := by decide +kernel
theorem dX8_wash_99 : decode cX8_wash 99 = .ok (.getfield 72, 3) := by decide +kernel
theorem dX8_wash_102 : decode cX8_wash 102 = .ok (.iload_n 2, 1) := by decide +kernel
theorem dX8_wash_103 : decode cX8_wash 103 = .ok (.iconst (-1), 1) := by decide +kernel
theorem dX8_wash_104 : decode cX8_wash 104 = .ok (.iastore, 1) := by decide +kernel
theorem dX8_wash_105 : decode cX8_wash 105 = .ok (.iinc 2 1, 3) := by decide +kernel
theorem dX8_wash_108 : decode cX8_wash 108 = .ok (.goto (-16), 3) := by decide +kernel
theorem dX8_wash_111 : decode cX8_wash 111 = .ok (.iconst 0, 1) := by decide +kernel
theorem dX8_wash_112 : decode cX8_wash 112 = .ok (.istore_n 2, 1) := by decide +kernel
theorem dX8_wash_113 : decode cX8_wash 113 = .ok (.iload_n 2, 1) := by decide +kernel
theorem dX8_wash_114 : decode cX8_wash 114 = .ok (.iconst 4, 1) := by decide +kernel
theorem dX8_wash_115 : decode cX8_wash 115 = .ok (.if_icmp .ge 16, 3) := by decide +kernel
theorem dX8_wash_118 : decode cX8_wash 118 = .ok (.aload_n 0, 1) := by decide +kernel
theorem dX8_wash_119 : decode cX8_wash 119 = .ok (.getfield 75, 3) := by decide +kernel
theorem dX8_wash_122 : decode cX8_wash 122 = .ok (.iload_n 2, 1) := by decide +kernel
theorem dX8_wash_123 : decode cX8_wash 123 = .ok (.iconst 0, 1) := by decide +kernel
theorem dX8_wash_124 : decode cX8_wash 124 = .ok (.iastore, 1) := by decide +kernel
theorem dX8_wash_125 : decode cX8_wash 125 = .ok (.iinc 2 1, 3) := by decide +kernel
theorem dX8_wash_128 : decode cX8_wash 128 = .ok (.goto (-15), 3) := by decide +kernel
theorem dX8_wash_131 : decode cX8_wash 131 = .ok (.aload_n 0, 1) := by decide +kernel
theorem dX8_wash_132 : decode cX8_wash 132 = .ok (.aload_n 0, 1) := by decide +kernel
theorem dX8_wash_133 : decode cX8_wash 133 = .ok (.getfield 133, 3) := by decide +kernel
theorem dX8_wash_136 : decode cX8_wash 136 = .ok (.putfield 157, 3) := by decide +kernel
theorem dX8_wash_139 : decode cX8_wash 139 = .ok (.iconst 0, 1) := by decide +kernel
theorem dX8_wash_140 : decode cX8_wash 140 = .ok (.istore_n 2, 1) := by decide +kernel
theorem dX8_wash_141 : decode cX8_wash 141 = .ok (.iconst 0, 1) := by decide +kernel
theorem dX8_wash_142 : decode cX8_wash 142 = .ok (.istore_n 3, 1) := by decide +kernel
theorem dX8_wash_143 : decode cX8_wash 143 = .ok (.iconst 0, 1) := by decide +kernel
theorem dX8_wash_144 : decode cX8_wash 144 = .ok (.istore 4, 2) := by decide +kernel
theorem dX8_wash_146 : decode cX8_wash 146 = .ok (.iconst 0, 1) := by decide +kernel
theorem dX8_wash_147 : decode cX8_wash 147 = .ok (.istore 5, 2) := by decide +kernel
theorem dX8_wash_149 : decode cX8_wash 149 = .ok (.iconst 0, 1) := by decide +kernel
theorem dX8_wash_150 : decode cX8_wash 150 = .ok (.istore 6, 2) := by decide +kernel
theorem dX8_wash_152 : decode cX8_wash 152 = .ok (.iconst 0, 1) := by decide +kernel
theorem dX8_wash_153 : decode cX8_wash 153 = .ok (.istore 7, 2) := by decide +kernel
theorem dX8_wash_155 : decode cX8_wash 155 = .ok (.iload 6, 2) := by decide +kernel
theorem dX8_wash_157 : decode cX8_wash 157 = .ok (.aload_n 0, 1) := by decide +kernel
theorem dX8_wash_158 : decode cX8_wash 158 = .ok (.getfield 133, 3) := by decide +kernel
theorem dX8_wash_161 : decode cX8_wash 161 = .ok (.if_icmp .ge 196, 3) := by decide +kernel
theorem dX8_wash_164 : decode cX8_wash 164 = .ok (.iinc 2 1, 3) := by decide +kernel
theorem dX8_wash_167 : decode cX8_wash 167 = .ok (.aload_n 0, 1) := by decide +kernel
theorem dX8_wash_168 : decode cX8_wash 168 = .ok (.getfield 72, 3) := by decide +kernel
theorem dX8_wash_171 : decode cX8_wash 171 = .ok (.aload_n 0, 1) := by decide +kernel
theorem dX8_wash_172 : decode cX8_wash 172 = .ok (.getfield 56, 3) := by decide +kernel
theorem dX8_wash_175 : decode cX8_wash 175 = .ok (.iconst 1, 1) := by decide +kernel
theorem dX8_wash_176 : decode cX8_wash 176 = .ok (.isub, 1) := by decide +kernel
theorem dX8_wash_177 : decode cX8_wash 177 = .ok (.iaload, 1) := by decide +kernel
theorem dX8_wash_178 : decode cX8_wash 178 = .ok (.istore 8, 2) := by decide +kernel
theorem dX8_wash_180 : decode cX8_wash 180 = .ok (.iload 8, 2) := by decide +kernel
theorem dX8_wash_182 : decode cX8_wash 182 = .ok (.iconst (-1), 1) := by decide +kernel
theorem dX8_wash_183 : decode cX8_wash 183 = .ok (.if_icmp .eq 32, 3) := by decide +kernel
theorem dX8_wash_186 : decode cX8_wash 186 = .ok (.aload_n 0, 1) := by decide +kernel
theorem dX8_wash_187 : decode cX8_wash 187 = .ok (.getfield 20, 3) := by decide +kernel
theorem dX8_wash_190 : decode cX8_wash 190 = .ok (.aload_n 0, 1) := by decide +kernel
theorem dX8_wash_191 : decode cX8_wash 191 = .ok (.iload 8, 2) := by decide +kernel
theorem dX8_wash_193 : decode cX8_wash 193 = .ok (.invokevirtual 151, 3) := by decide +kernel
theorem dX8_wash_196 : decode cX8_wash 196 = .ok (.iaload, 1) := by decide +kernel
theorem dX8_wash_197 : decode cX8_wash 197 = .ok (.ifCond .le 18, 3) := by decide +kernel
theorem dX8_wash_200 : decode cX8_wash 200 = .ok (.aload_n 0, 1) := by decide +kernel
theorem dX8_wash_201 : decode cX8_wash 201 = .ok (.iload_n 2, 1) := by decide +kernel
theorem dX8_wash_202 : decode cX8_wash 202 = .ok (.invokevirtual 154, 3) := by decide +kernel
theorem dX8_wash_205 : decode cX8_wash 205 = .ok (.iconst (-1), 1) := by decide +kernel
theorem dX8_wash_206 : decode cX8_wash 206 = .ok (.if_icmp .ne 9, 3) := by decide +kernel
theorem dX8_wash_209 : decode cX8_wash 209 = .ok (.iinc 3 1, 3) := by decide +kernel
theorem dX8_wash_212 : decode cX8_wash 212 = .ok (.goto 142, 3) := by decide +kernel
theorem dX8_wash_215 : decode cX8_wash 215 = .ok (.iload 8, 2) := by decide +kernel
theorem dX8_wash_217 : decode cX8_wash 217 = .ok (.iconst (-1), 1) := by decide +kernel
theorem dX8_wash_218 : decode cX8_wash 218 = .ok (.if_icmp .eq 15, 3) := by decide +kernel
theorem dX8_wash_221 : decode cX8_wash 221 = .ok (.aload_n 0, 1) := by decide +kernel
theorem dX8_wash_222 : decode cX8_wash 222 = .ok (.iload 8, 2) := by decide +kernel
theorem dX8_wash_224 : decode cX8_wash 224 = .ok (.iload_n 2, 1) := by decide +kernel
theorem dX8_wash_225 : decode cX8_wash 225 = .ok (.iload 6, 2) := by decide +kernel
theorem dX8_wash_227 : decode cX8_wash 227 = .ok (.invokevirtual 160, 3) := by decide +kernel
theorem dX8_wash_230 : decode cX8_wash 230 = .ok (.iinc 6 1, 3) := by decide +kernel
theorem dX8_wash_233 : decode cX8_wash 233 = .ok (.aload_n 0, 1) := by decide +kernel
theorem dX8_wash_234 : decode cX8_wash 234 = .ok (.getfield 56, 3) := by decide +kernel
theorem dX8_wash_237 : decode cX8_wash 237 = .ok (.iconst 1, 1) := by decide +kernel
theorem dX8_wash_238 : decode cX8_wash 238 = .ok (.isub, 1) := by decide +kernel
theorem dX8_wash_239 : decode cX8_wash 239 = .ok (.istore 9, 2) := by decide +kernel
theorem dX8_wash_241 : decode cX8_wash 241 = .ok (.iload 9, 2) := by decide +kernel
theorem dX8_wash_243 : decode cX8_wash 243 = .ok (.ifCond .le 25, 3) := by decide +kernel
theorem dX8_wash_246 : decode cX8_wash 246 = .ok (.aload_n 0, 1) := by decide +kernel
theorem dX8_wash_247 : decode cX8_wash 247 = .ok (.getfield 72, 3) := by decide +kernel
theorem dX8_wash_250 : decode cX8_wash 250 = .ok (.iload 9, 2) := by decide +kernel
theorem dX8_wash_252 : decode cX8_wash 252 = .ok (.aload_n 0, 1) := by decide +kernel
theorem dX8_wash_253 : decode cX8_wash 253 = .ok (.getfield 72, 3) := by decide +kernel
theorem dX8_wash_256 : decode cX8_wash 256 = .ok (.iload 9, 2) := by decide +kernel
theorem dX8_wash_258 : decode cX8_wash 258 = .ok (.iconst 1, 1) := by decide +kernel
theorem dX8_wash_259 : decode cX8_wash 259 = .ok (.isub, 1) := by decide +kernel
theorem dX8_wash_260 : decode cX8_wash 260 = .ok (.iaload, 1) := by decide +kernel
theorem dX8_wash_261 : decode cX8_wash 261 = .ok (.iastore, 1) := by decide +kernel
theorem dX8_wash_262 : decode cX8_wash 262 = .ok (.iinc 9 (-1), 3) := by decide +kernel
theorem dX8_wash_265 : decode cX8_wash 265 = .ok (.goto (-24), 3) := by decide +kernel
theorem dX8_wash_268 : decode cX8_wash 268 = .ok (.aload_n 0, 1) := by decide +kernel
theorem dX8_wash_269 : decode cX8_wash 269 = .ok (.getfield 72, 3) := by decide +kernel
theorem dX8_wash_272 : decode cX8_wash 272 = .ok (.iconst 0, 1) := by decide +kernel
theorem dX8_wash_273 : decode cX8_wash 273 = .ok (.iload 5, 2) := by decide +kernel
theorem dX8_wash_275 : decode cX8_wash 275 = .ok (.iload_n 1, 1) := by decide +kernel
theorem dX8_wash_276 : decode cX8_wash 276 = .ok (.if_icmp .ge 13, 3) := by decide +kernel
theorem dX8_wash_279 : decode cX8_wash 279 = .ok (.aload_n 0, 1) := by decide +kernel
theorem dX8_wash_280 : decode cX8_wash 280 = .ok (.getfield 69, 3) := by decide +kernel
theorem dX8_wash_283 : decode cX8_wash 283 = .ok (.iload 5, 2) := by decide +kernel
theorem dX8_wash_285 : decode cX8_wash 285 = .ok (.iaload, 1) := by decide +kernel
theorem dX8_wash_286 : decode cX8_wash 286 = .ok (.goto 4, 3) := by decide +kernel
theorem dX8_wash_289 : decode cX8_wash 289 = .ok (.iconst (-1), 1) := by decide +kernel
theorem dX8_wash_290 : decode cX8_wash 290 = .ok (.iastore, 1) := by decide +kernel
theorem dX8_wash_291 : decode cX8_wash 291 = .ok (.aload_n 0, 1) := by decide +kernel
theorem dX8_wash_292 : decode cX8_wash 292 = .ok (.getfield 72, 3) := by decide +kernel
theorem dX8_wash_295 : decode cX8_wash 295 = .ok (.iconst 0, 1) := by decide +kernel
theorem dX8_wash_296 : decode cX8_wash 296 = .ok (.iaload, 1) := by decide +kernel
theorem dX8_wash_297 : decode cX8_wash 297 = .ok (.iconst (-1), 1) := by decide +kernel
theorem dX8_wash_298 : decode cX8_wash 298 = .ok (.if_icmp .eq 44, 3) := by decide +kernel
theorem dX8_wash_301 : decode cX8_wash 301 = .ok (.aload_n 0, 1) := by decide +kernel
theorem dX8_wash_302 : decode cX8_wash 302 = .ok (.getfield 84, 3) := by decide +kernel
theorem dX8_wash_305 : decode cX8_wash 305 = .ok (.bipush 7, 2) := by decide +kernel
theorem dX8_wash_307 : decode cX8_wash 307 = .ok (.aload_n 0, 1) := by decide +kernel
theorem dX8_wash_308 : decode cX8_wash 308 = .ok (.getfield 72, 3) := by decide +kernel
theorem dX8_wash_311 : decode cX8_wash 311 = .ok (.iconst 0, 1) := by decide +kernel
theorem dX8_wash_312 : decode cX8_wash 312 = .ok (.iaload, 1) := by decide +kernel
theorem dX8_wash_313 : decode cX8_wash 313 = .ok (.imul, 1) := by decide +kernel
theorem dX8_wash_314 : decode cX8_wash 314 = .ok (.iconst 1, 1) := by decide +kernel
theorem dX8_wash_315 : decode cX8_wash 315 = .ok (.iadd, 1) := by decide +kernel
theorem dX8_wash_316 : decode cX8_wash 316 = .ok (.iload_n 2, 1) := by decide +kernel
theorem dX8_wash_317 : decode cX8_wash 317 = .ok (.iastore, 1) := by decide +kernel
theorem dX8_wash_318 : decode cX8_wash 318 = .ok (.aload_n 0, 1) := by decide +kernel
theorem dX8_wash_319 : decode cX8_wash 319 = .ok (.getfield 84, 3) := by decide +kernel
theorem dX8_wash_322 : decode cX8_wash 322 = .ok (.bipush 7, 2) := by decide +kernel
theorem dX8_wash_324 : decode cX8_wash 324 = .ok (.aload_n 0, 1) := by decide +kernel
theorem dX8_wash_325 : decode cX8_wash 325 = .ok (.getfield 72, 3) := by decide +kernel
theorem dX8_wash_328 : decode cX8_wash 328 = .ok (.iconst 0, 1) := by decide +kernel
theorem dX8_wash_329 : decode cX8_wash 329 = .ok (.iaload, 1) := by decide +kernel
theorem dX8_wash_330 : decode cX8_wash 330 = .ok (.imul, 1) := by decide +kernel
theorem dX8_wash_331 : decode cX8_wash 331 = .ok (.aload_n 0, 1) := by decide +kernel
theorem dX8_wash_332 : decode cX8_wash 332 = .ok (.aload_n 0, 1) := by decide +kernel
theorem dX8_wash_333 : decode cX8_wash 333 = .ok (.getfield 72, 3) := by decide +kernel
theorem dX8_wash_336 : decode cX8_wash 336 = .ok (.iconst 0, 1) := by decide +kernel
theorem dX8_wash_337 : decode cX8_wash 337 = .ok (.iaload, 1) := by decide +kernel
theorem dX8_wash_338 : decode cX8_wash 338 = .ok (.invokevirtual 151, 3) := by decide +kernel
theorem dX8_wash_341 : decode cX8_wash 341 = .ok (.iastore, 1) := by decide +kernel
theorem dX8_wash_342 : decode cX8_wash 342 = .ok (.iinc 5 1, 3) := by decide +kernel
theorem dX8_wash_345 : decode cX8_wash 345 = .ok (.iload 4, 2) := by decide +kernel
theorem dX8_wash_347 : decode cX8_wash 347 = .ok (.aload_n 0, 1) := by decide +kernel
theorem dX8_wash_348 : decode cX8_wash 348 = .ok (.invokevirtual 164, 3) := by decide +kernel
theorem dX8_wash_351 : decode cX8_wash 351 = .ok (.iadd, 1) := by decide +kernel
theorem dX8_wash_352 : decode cX8_wash 352 = .ok (.istore 4, 2) := by decide +kernel
theorem dX8_wash_354 : decode cX8_wash 354 = .ok (.goto (-199), 3) := by decide +kernel
theorem dX8_wash_357 : decode cX8_wash 357 = .ok (.aload_n 0, 1) := by decide +kernel
theorem dX8_wash_358 : decode cX8_wash 358 = .ok (.invokevirtual 167, 3) := by decide +kernel
theorem dX8_wash_361 : decode cX8_wash 361 = .ok (.aload_n 0, 1) := by decide +kernel
theorem dX8_wash_362 : decode cX8_wash 362 = .ok (.getfield 81, 3) := by decide +kernel
theorem dX8_wash_365 : decode cX8_wash 365 = .ok (.iconst 4, 1) := by decide +kernel
theorem dX8_wash_366 : decode cX8_wash 366 = .ok (.iconst 0, 1) := by decide +kernel
theorem dX8_wash_367 : decode cX8_wash 367 = .ok (.iastore, 1) := by decide +kernel
theorem dX8_wash_368 : decode cX8_wash 368 = .ok (.iconst 0, 1) := by decide +kernel
theorem dX8_wash_369 : decode cX8_wash 369 = .ok (.istore 8, 2) := by decide +kernel
theorem dX8_wash_371 : decode cX8_wash 371 = .ok (.iload 8, 2) := by decide +kernel
theorem dX8_wash_373 : decode cX8_wash 373 = .ok (.aload_n 0, 1) := by decide +kernel
theorem dX8_wash_374 : decode cX8_wash 374 = .ok (.getfield 133, 3) := by decide +kernel
theorem dX8_wash_377 : decode cX8_wash 377 = .ok (.if_icmp .ge 71, 3) := by decide +kernel
theorem dX8_wash_380 : decode cX8_wash 380 = .ok (.aload_n 0, 1) := by decide +kernel
theorem dX8_wash_381 : decode cX8_wash 381 = .ok (.getfield 81, 3) := by decide +kernel
theorem dX8_wash_384 : decode cX8_wash 384 = .ok (.iconst 4, 1) := by decide +kernel
theorem dX8_wash_385 : decode cX8_wash 385 = .ok (.aload_n 0, 1) := by decide +kernel
theorem dX8_wash_386 : decode cX8_wash 386 = .ok (.getfield 84, 3) := by decide +kernel
theorem dX8_wash_389 : decode cX8_wash 389 = .ok (.bipush 7, 2) := by decide +kernel
theorem dX8_wash_391 : decode cX8_wash 391 = .ok (.iload 8, 2) := by decide +kernel
theorem dX8_wash_393 : decode cX8_wash 393 = .ok (.imul, 1) := by decide +kernel
theorem dX8_wash_394 : decode cX8_wash 394 = .ok (.bipush 6, 2) := by decide +kernel
theorem dX8_wash_396 : decode cX8_wash 396 = .ok (.iadd, 1) := by decide +kernel
theorem dX8_wash_397 : decode cX8_wash 397 = .ok (.iaload, 1) := by decide +kernel
theorem dX8_wash_398 : decode cX8_wash 398 = .ok (.aload_n 0, 1) := by decide +kernel
theorem dX8_wash_399 : decode cX8_wash 399 = .ok (.getfield 81, 3) := by decide +kernel
theorem dX8_wash_402 : decode cX8_wash 402 = .ok (.iconst 4, 1) := by decide +kernel
theorem dX8_wash_403 : decode cX8_wash 403 = .ok (.iaload, 1) := by decide +kernel
theorem dX8_wash_404 : decode cX8_wash 404 = .ok (.if_icmp .le 19, 3) := by decide +kernel
theorem dX8_wash_407 : decode cX8_wash 407 = .ok (.aload_n 0, 1) := by decide +kernel
theorem dX8_wash_408 : decode cX8_wash 408 = .ok (.getfield 84, 3) := by decide +kernel
theorem dX8_wash_411 : decode cX8_wash 411 = .ok (.bipush 7, 2) := by decide +kernel
theorem dX8_wash_413 : decode cX8_wash 413 = .ok (.iload 8, 2) := by decide +kernel
theorem dX8_wash_415 : decode cX8_wash 415 = .ok (.imul, 1) := by decide +kernel
theorem dX8_wash_416 : decode cX8_wash 416 = .ok (.bipush 6, 2) := by decide +kernel
theorem dX8_wash_418 : decode cX8_wash 418 = .ok (.iadd, 1) := by decide +kernel
theorem dX8_wash_419 : decode cX8_wash 419 = .ok (.iaload, 1) := by decide +kernel
theorem dX8_wash_420 : decode cX8_wash 420 = .ok (.goto 9, 3) := by decide +kernel
theorem dX8_wash_423 : decode cX8_wash 423 = .ok (.aload_n 0, 1) := by decide +kernel
theorem dX8_wash_424 : decode cX8_wash 424 = .ok (.getfield 81, 3) := by decide +kernel
theorem dX8_wash_427 : decode cX8_wash 427 = .ok (.iconst 4, 1) := by decide +kernel
theorem dX8_wash_428 : decode cX8_wash 428 = .ok (.iaload, 1) := by decide +kernel
theorem dX8_wash_429 : decode cX8_wash 429 = .ok (.iastore, 1) := by decide +kernel
theorem dX8_wash_430 : decode cX8_wash 430 = .ok (.iload 7, 2) := by decide +kernel
theorem dX8_wash_432 : decode cX8_wash 432 = .ok (.aload_n 0, 1) := by decide +kernel
theorem dX8_wash_433 : decode cX8_wash 433 = .ok (.getfield 47, 3) := by decide +kernel
theorem dX8_wash_436 : decode cX8_wash 436 = .ok (.iload 8, 2) := by decide +kernel
theorem dX8_wash_438 : decode cX8_wash 438 = .ok (.iaload, 1) := by decide +kernel
theorem dX8_wash_439 : decode cX8_wash 439 = .ok (.iadd, 1) := by decide +kernel
theorem dX8_wash_440 : decode cX8_wash 440 = .ok (.istore 7, 2) := by decide +kernel
theorem dX8_wash_442 : decode cX8_wash 442 = .ok (.iinc 8 1, 3) := by decide +kernel
theorem dX8_wash_445 : decode cX8_wash 445 = .ok (.goto (-74), 3) := by decide +kernel
theorem dX8_wash_448 : decode cX8_wash 448 = .ok (.aload_n 0, 1) := by decide +kernel
theorem dX8_wash_449 : decode cX8_wash 449 = .ok (.getfield 81, 3) := by decide +kernel
theorem dX8_wash_452 : decode cX8_wash 452 = .ok (.iconst 0, 1) := by decide +kernel
theorem dX8_wash_453 : decode cX8_wash 453 = .ok (.iload_n 2, 1) := by decide +kernel
theorem dX8_wash_454 : decode cX8_wash 454 = .ok (.iastore, 1) := by decide +kernel
theorem dX8_wash_455 : decode cX8_wash 455 = .ok (.aload_n 0, 1) := by decide +kernel
theorem dX8_wash_456 : decode cX8_wash 456 = .ok (.getfield 81, 3) := by decide +kernel
theorem dX8_wash_459 : decode cX8_wash 459 = .ok (.iconst 1, 1) := by decide +kernel
theorem dX8_wash_460 : decode cX8_wash 460 = .ok (.aload_n 0, 1) := by decide +kernel
theorem dX8_wash_461 : decode cX8_wash 461 = .ok (.invokevirtual 147, 3) := by decide +kernel
theorem dX8_wash_464 : decode cX8_wash 464 = .ok (.iastore, 1) := by decide +kernel
theorem dX8_wash_465 : decode cX8_wash 465 = .ok (.aload_n 0, 1) := by decide +kernel
theorem dX8_wash_466 : decode cX8_wash 466 = .ok (.getfield 81, 3) := by decide +kernel
theorem dX8_wash_469 : decode cX8_wash 469 = .ok (.iconst 2, 1) := by decide +kernel
theorem dX8_wash_470 : decode cX8_wash 470 = .ok (.iload_n 3, 1) := by decide +kernel
theorem dX8_wash_471 : decode cX8_wash 471 = .ok (.iastore, 1) := by decide +kernel
theorem dX8_wash_472 : decode cX8_wash 472 = .ok (.aload_n 0, 1) := by decide +kernel
theorem dX8_wash_473 : decode cX8_wash 473 = .ok (.getfield 81, 3) := by decide +kernel
theorem dX8_wash_476 : decode cX8_wash 476 = .ok (.iconst 3, 1) := by decide +kernel
theorem dX8_wash_477 : decode cX8_wash 477 = .ok (.iload 4, 2) := by decide +kernel
theorem dX8_wash_479 : decode cX8_wash 479 = .ok (.iastore, 1) := by decide +kernel
theorem dX8_wash_480 : decode cX8_wash 480 = .ok (.aload_n 0, 1) := by decide +kernel
theorem dX8_wash_481 : decode cX8_wash 481 = .ok (.getfield 81, 3) := by decide +kernel
theorem dX8_wash_484 : decode cX8_wash 484 = .ok (.iconst 5, 1) := by decide +kernel
theorem dX8_wash_485 : decode cX8_wash 485 = .ok (.aload_n 0, 1) := by decide +kernel
theorem dX8_wash_486 : decode cX8_wash 486 = .ok (.getfield 133, 3) := by decide +kernel
theorem dX8_wash_489 : decode cX8_wash 489 = .ok (.iastore, 1) := by decide +kernel
theorem dX8_wash_490 : decode cX8_wash 490 = .ok (.aload_n 0, 1) := by decide +kernel
theorem dX8_wash_491 : decode cX8_wash 491 = .ok (.getfield 81, 3) := by decide +kernel
theorem dX8_wash_494 : decode cX8_wash 494 = .ok (.bipush 6, 2) := by decide +kernel
theorem dX8_wash_496 : decode cX8_wash 496 = .ok (.iload 7, 2) := by decide +kernel
theorem dX8_wash_498 : decode cX8_wash 498 = .ok (.iastore, 1) := by decide +kernel
theorem dX8_wash_499 : decode cX8_wash 499 = .ok (.iconst 0, 1) := by decide +kernel
theorem dX8_wash_500 : decode cX8_wash 500 = .ok (.istore 8, 2) := by decide +kernel
theorem dX8_wash_502 : decode cX8_wash 502 = .ok (.iload 8, 2) := by decide +kernel
theorem dX8_wash_504 : decode cX8_wash 504 = .ok (.aload_n 0, 1) := by decide +kernel
theorem dX8_wash_505 : decode cX8_wash 505 = .ok (.getfield 112, 3) := by decide +kernel
theorem dX8_wash_508 : decode cX8_wash 508 = .ok (.if_icmp .ge 47, 3) := by decide +kernel
theorem dX8_wash_511 : decode cX8_wash 511 = .ok (.aload_n 0, 1) := by decide +kernel
theorem dX8_wash_512 : decode cX8_wash 512 = .ok (.getfield 35, 3) := by decide +kernel
theorem dX8_wash_515 : decode cX8_wash 515 = .ok (.iload 8, 2) := by decide +kernel
theorem dX8_wash_517 : decode cX8_wash 517 = .ok (.iaload, 1) := by decide +kernel
theorem dX8_wash_518 : decode cX8_wash 518 = .ok (.iconst 2, 1) := by decide +kernel
theorem dX8_wash_519 : decode cX8_wash 519 = .ok (.if_icmp .ne 30, 3) := by decide +kernel
theorem dX8_wash_522 : decode cX8_wash 522 = .ok (.aload_n 0, 1) := by decide +kernel
theorem dX8_wash_523 : decode cX8_wash 523 = .ok (.getfield 35, 3) := by decide +kernel
theorem dX8_wash_526 : decode cX8_wash 526 = .ok (.iload 8, 2) := by decide +kernel
theorem dX8_wash_528 : decode cX8_wash 528 = .ok (.iconst 3, 1) := by decide +kernel
theorem dX8_wash_529 : decode cX8_wash 529 = .ok (.iastore, 1) := by decide +kernel
theorem dX8_wash_530 : decode cX8_wash 530 = .ok (.aload_n 0, 1) := by decide +kernel
theorem dX8_wash_531 : decode cX8_wash 531 = .ok (.getfield 41, 3) := by decide +kernel
theorem dX8_wash_534 : decode cX8_wash 534 = .ok (.iload 8, 2) := by decide +kernel
theorem dX8_wash_536 : decode cX8_wash 536 = .ok (.iconst (-1), 1) := by decide +kernel
theorem dX8_wash_537 : decode cX8_wash 537 = .ok (.iastore, 1) := by decide +kernel
theorem dX8_wash_538 : decode cX8_wash 538 = .ok (.aload_n 0, 1) := by decide +kernel
theorem dX8_wash_539 : decode cX8_wash 539 = .ok (.getfield 38, 3) := by decide +kernel
theorem dX8_wash_542 : decode cX8_wash 542 = .ok (.iload 8, 2) := by decide +kernel
theorem dX8_wash_544 : decode cX8_wash 544 = .ok (.dup2, 1) := by decide +kernel
theorem dX8_wash_545 : decode cX8_wash 545 = .ok (.iaload, 1) := by decide +kernel
theorem dX8_wash_546 : decode cX8_wash 546 = .ok (.iconst 1, 1) := by decide +kernel
theorem dX8_wash_547 : decode cX8_wash 547 = .ok (.iadd, 1) := by decide +kernel
theorem dX8_wash_548 : decode cX8_wash 548 = .ok (.iastore, 1) := by decide +kernel
theorem dX8_wash_549 : decode cX8_wash 549 = .ok (.iinc 8 1, 3) := by decide +kernel
theorem dX8_wash_552 : decode cX8_wash 552 = .ok (.goto (-50), 3) := by decide +kernel
theorem dX8_wash_555 : decode cX8_wash 555 = .ok (.aload_n 0, 1) := by decide +kernel
theorem dX8_wash_556 : decode cX8_wash 556 = .ok (.iconst 0, 1) := by decide +kernel
theorem dX8_wash_557 : decode cX8_wash 557 = .ok (.putfield 133, 3) := by decide +kernel
theorem dX8_wash_560 : decode cX8_wash 560 = .ok (.aload_n 0, 1) := by decide +kernel
theorem dX8_wash_561 : decode cX8_wash 561 = .ok (.dup, 1) := by decide +kernel
theorem dX8_wash_562 : decode cX8_wash 562 = .ok (.getfield 169, 3) := by decide +kernel
theorem dX8_wash_565 : decode cX8_wash 565 = .ok (.iconst 1, 1) := by decide +kernel
theorem dX8_wash_566 : decode cX8_wash 566 = .ok (.iadd, 1) := by decide +kernel
theorem dX8_wash_567 : decode cX8_wash 567 = .ok (.putfield 169, 3) := by decide +kernel
theorem dX8_wash_570 : decode cX8_wash 570 = .ok (.iload_n 2, 1) := by decide +kernel
theorem dX8_wash_571 : decode cX8_wash 571 = .ok (.ireturn, 1) := by decide +kernel
set_option maxRecDepth 20000 in
theorem ggX8_washed_X8_in : GoodIn wsX8_washed wsX8_in := goodIn_r _ [5] (by decide +kernel) (by decide +kernel)
set_option maxRecDepth 20000 in
theorem gX8_washed_X8_in : GoodIn wsX8_washed (va_wsS RX8 108 yX8_in wsX8_in) := goodIn_app (goodIn_of _ (by decide +kernel)) ggX8_washed_X8_in
theorem dX8_washed_0 : decode cX8_washed 0 = .ok (.iload_n 1, 1) := by decide +kernel
theorem dX8_washed_1 : decode cX8_washed 1 = .ok (.iconst 0, 1) := by decide +kernel
theorem dX8_washed_2 : decode cX8_washed 2 = .ok (.bipush 6, 2) := by decide +kernel
theorem dX8_washed_4 : decode cX8_washed 4 = .ok (.invokestatic 108, 3) := by decide +kernel
theorem dX8_washed_7 : decode cX8_washed 7 = .ok (.ifCond .eq 12, 3) := by decide +kernel
theorem dX8_washed_10 : decode cX8_washed 10 = .ok (.aload_n 0, 1) := by decide +kernel
theorem dX8_washed_11 : decode cX8_washed 11 = .ok (.getfield 81, 3) := by decide +kernel
theorem dX8_washed_14 : decode cX8_washed 14 = .ok (.iload_n 1, 1) := by decide +kernel
theorem dX8_washed_15 : decode cX8_washed 15 = .ok (.iaload, 1) := by decide +kernel
theorem dX8_washed_16 : decode cX8_washed 16 = .ok (.goto 5, 3) := by decide +kernel
theorem dX8_washed_19 : decode cX8_washed 19 = .ok (.bipush (-2), 2) := by decide +kernel
theorem dX8_washed_21 : decode cX8_washed 21 = .ok (.ireturn, 1) := by decide +kernel
set_option maxRecDepth 20000 in
theorem ggX8_run_X8_in : GoodIn wsX8_run wsX8_in := goodIn_r _ [6] (by decide +kernel) (by decide +kernel)
set_option maxRecDepth 20000 in
theorem gX8_run_X8_in : GoodIn wsX8_run (va_wsS RX8 108 yX8_in wsX8_in) := goodIn_app (goodIn_of _ (by decide +kernel)) ggX8_run_X8_in
theorem dX8_run_0 : decode cX8_run 0 = .ok (.iload_n 1, 1) := by decide +kernel
theorem dX8_run_1 : decode cX8_run 1 = .ok (.iconst 0, 1) := by decide +kernel
theorem dX8_run_2 : decode cX8_run 2 = .ok (.aload_n 0, 1) := by decide +kernel
theorem dX8_run_3 : decode cX8_run 3 = .ok (.getfield 157, 3) := by decide +kernel
theorem dX8_run_6 : decode cX8_run 6 = .ok (.iconst 1, 1) := by decide +kernel
theorem dX8_run_7 : decode cX8_run 7 = .ok (.isub, 1) := by decide +kernel
theorem dX8_run_8 : decode cX8_run 8 = .ok (.invokestatic 108, 3) := by decide +kernel
theorem dX8_run_11 : decode cX8_run 11 = .ok (.ifCond .eq 27, 3) := by decide +kernel
theorem dX8_run_14 : decode cX8_run 14 = .ok (.iload_n 2, 1) := by decide +kernel
theorem dX8_run_15 : decode cX8_run 15 = .ok (.iconst 0, 1) := by decide +kernel
theorem dX8_run_16 : decode cX8_run 16 = .ok (.bipush 6, 2) := by decide +kernel
theorem dX8_run_18 : decode cX8_run 18 = .ok (.invokestatic 108, 3) := by decide +kernel
theorem dX8_run_21 : decode cX8_run 21 = .ok (.ifCond .eq 17, 3) := by decide +kernel
theorem dX8_run_24 : decode cX8_run 24 = .ok (.aload_n 0, 1) := by decide +kernel
theorem dX8_run_25 : decode cX8_run 25 = .ok (.getfield 84, 3) := by decide +kernel
theorem dX8_run_28 : decode cX8_run 28 = .ok (.bipush 7, 2) := by decide +kernel
theorem dX8_run_30 : decode cX8_run 30 = .ok (.iload_n 1, 1) := by decide +kernel
theorem dX8_run_31 : decode cX8_run 31 = .ok (.imul, 1) := by decide +kernel
theorem dX8_run_32 : decode cX8_run 32 = .ok (.iload_n 2, 1) := by decide +kernel
theorem dX8_run_33 : decode cX8_run 33 = .ok (.iadd, 1) := by decide +kernel
theorem dX8_run_34 : decode cX8_run 34 = .ok (.iaload, 1) := by decide +kernel
theorem dX8_run_35 : decode cX8_run 35 = .ok (.goto 5, 3) := by decide +kernel
theorem dX8_run_38 : decode cX8_run 38 = .ok (.bipush (-2), 2) := by decide +kernel
theorem dX8_run_40 : decode cX8_run 40 = .ok (.ireturn, 1) := by decide +kernel
set_option maxRecDepth 20000 in
theorem ggX8_pack_X8_in : GoodIn wsX8_pack wsX8_in := goodIn_r _ [6] (by decide +kernel) (by decide +kernel)
set_option maxRecDepth 20000 in
theorem gX8_pack_X8_in : GoodIn wsX8_pack (va_wsS RX8 108 yX8_in wsX8_in) := goodIn_app (goodIn_of _ (by decide +kernel)) ggX8_pack_X8_in
set_option maxRecDepth 20000 in
theorem ggX8_pack_X8_isKind : GoodIn wsX8_pack wsX8_isKind := goodIn_r _ [10, 11, 3, 4, 5, 6, 18, 19, 20, 21, 22, 23, 24, 25, 26, 27, 28, 29, 30, 31, 32, 33, 34, 35, 36, 37, 38, 39, 40, 41, 42, 43, 44, 45, 46, 47, 48, 49, 50, 51, 52, 53, 54] (by decide +kernel) (by decide +kernel)
set_option maxRecDepth 20000 in
theorem gX8_pack_X8_isKind : GoodIn wsX8_pack (wsV RX8 115 RX8 yX8_isKind wsX8_isKind) := goodIn_app (goodIn_of _ (by decide +kernel)) ggX8_pack_X8_isKind
set_option maxRecDepth 20000 in
theorem ggX8_pack_X8_is : GoodIn wsX8_pack wsX8_is := goodIn_r _ [15, 2, 16, 17, 18, 19, 20, 21, 22, 23, 24, 25, 26, 27, 28, 29, 30, 31, 32, 33, 34, 35, 36, 37, 38, 39, 40, 41, 42, 43, 44, 45, 46, 47, 48, 49, 50, 51, 52, 53, 54] (by decide +kernel) (by decide +kernel)
set_option maxRecDepth 20000 in
theorem gX8_pack_X8_is : GoodIn wsX8_pack (wsV RX8 122 RX8 yX8_is wsX8_is) := goodIn_app (goodIn_of _ (by decide +kernel)) ggX8_pack_X8_is
theorem dX8_pack_0 : decode cX8_pack 0 = .ok (.iload_n 1, 1) := by decide +kernel
theorem dX8_pack_1 : decode cX8_pack 1 = .ok (.iconst 0, 1) := by decide +kernel
theorem dX8_pack_2 : decode cX8_pack 2 = .ok (.iconst 5, 1) := by decide +kernel
theorem dX8_pack_3 : decode cX8_pack 3 = .ok (.invokestatic 108, 3) := by decide +kernel
theorem dX8_pack_6 : decode cX8_pack 6 = .ok (.ifCond .eq 21, 3) := by decide +kernel
theorem dX8_pack_9 : decode cX8_pack 9 = .ok (.aload_n 0, 1) := by decide +kernel
theorem dX8_pack_10 : decode cX8_pack 10 = .ok (.iload_n 2, 1) := by decide +kernel
theorem dX8_pack_11 : decode cX8_pack 11 = .ok (.invokevirtual 115, 3) := by decide +kernel
theorem dX8_pack_14 : decode cX8_pack 14 = .ok (.ifCond .eq 13, 3) := by decide +kernel
theorem dX8_pack_17 : decode cX8_pack 17 = .ok (.iload_n 3, 1) := by decide +kernel
theorem dX8_pack_18 : decode cX8_pack 18 = .ok (.iconst 1, 1) := by decide +kernel
theorem dX8_pack_19 : decode cX8_pack 19 = .ok (.bipush 40, 2) := by decide +kernel
theorem dX8_pack_21 : decode cX8_pack 21 = .ok (.invokestatic 108, 3) := by decide +kernel
theorem dX8_pack_24 : decode cX8_pack 24 = .ok (.ifCond .ne 6, 3) := by decide +kernel
theorem dX8_pack_27 : decode cX8_pack 27 = .ok (.bipush (-2), 2) := by decide +kernel
theorem dX8_pack_29 : decode cX8_pack 29 = .ok (.ireturn, 1) := by decide +kernel
theorem dX8_pack_30 : decode cX8_pack 30 = .ok (.iconst 0, 1) := by decide +kernel
theorem dX8_pack_31 : decode cX8_pack 31 = .ok (.istore 4, 2) := by decide +kernel
theorem dX8_pack_33 : decode cX8_pack 33 = .ok (.iconst 0, 1) := by decide +kernel
theorem dX8_pack_34 : decode cX8_pack 34 = .ok (.istore 5, 2) := by decide +kernel
theorem dX8_pack_36 : decode cX8_pack 36 = .ok (.iload 5, 2) := by decide +kernel
theorem dX8_pack_38 : decode cX8_pack 38 = .ok (.aload_n 0, 1) := by decide +kernel
theorem dX8_pack_39 : decode cX8_pack 39 = .ok (.getfield 112, 3) := by decide +kernel
theorem dX8_pack_42 : decode cX8_pack 42 = .ok (.if_icmp .ge 31, 3) := by decide +kernel
theorem dX8_pack_45 : decode cX8_pack 45 = .ok (.iload 4, 2) := by decide +kernel
theorem dX8_pack_47 : decode cX8_pack 47 = .ok (.aload_n 0, 1) := by decide +kernel
theorem dX8_pack_48 : decode cX8_pack 48 = .ok (.iload 5, 2) := by decide +kernel
theorem dX8_pack_50 : decode cX8_pack 50 = .ok (.iload_n 1, 1) := by decide +kernel
theorem dX8_pack_51 : decode cX8_pack 51 = .ok (.iload_n 2, 1) := by decide +kernel
theorem dX8_pack_52 : decode cX8_pack 52 = .ok (.iconst 3, 1) := by decide +kernel
theorem dX8_pack_53 : decode cX8_pack 53 = .ok (.invokevirtual 122, 3) := by decide +kernel
theorem dX8_pack_56 : decode cX8_pack 56 = .ok (.ifCond .eq 7, 3) := by decide +kernel
theorem dX8_pack_59 : decode cX8_pack 59 = .ok (.iconst 1, 1) := by decide +kernel
theorem dX8_pack_60 : decode cX8_pack 60 = .ok (.goto 4, 3) := by decide +kernel
theorem dX8_pack_63 : decode cX8_pack 63 = .ok (.iconst 0, 1) := by decide +kernel
theorem dX8_pack_64 : decode cX8_pack 64 = .ok (.iadd, 1) := by decide +kernel
theorem dX8_pack_65 : decode cX8_pack 65 = .ok (.istore 4, 2) := by decide +kernel
theorem dX8_pack_67 : decode cX8_pack 67 = .ok (.iinc 5 1, 3) := by decide +kernel
theorem dX8_pack_70 : decode cX8_pack 70 = .ok (.goto (-34), 3) := by decide +kernel
theorem dX8_pack_73 : decode cX8_pack 73 = .ok (.iload 4, 2) := by decide +kernel
theorem dX8_pack_75 : decode cX8_pack 75 = .ok (.iload_n 3, 1) := by decide +kernel
theorem dX8_pack_76 : decode cX8_pack 76 = .ok (.if_icmp .ge 11, 3) := by decide +kernel
theorem dX8_pack_79 : decode cX8_pack 79 = .ok (.bipush (-100), 2) := by decide +kernel
theorem dX8_pack_81 : decode cX8_pack 81 = .ok (.iload_n 3, 1) := by decide +kernel
theorem dX8_pack_82 : decode cX8_pack 82 = .ok (.iload 4, 2) := by decide +kernel
theorem dX8_pack_84 : decode cX8_pack 84 = .ok (.isub, 1) := by decide +kernel
theorem dX8_pack_85 : decode cX8_pack 85 = .ok (.isub, 1) := by decide +kernel
theorem dX8_pack_86 : decode cX8_pack 86 = .ok (.ireturn, 1) := by decide +kernel
theorem dX8_pack_87 : decode cX8_pack 87 = .ok (.iload_n 3, 1) := by decide +kernel
theorem dX8_pack_88 : decode cX8_pack 88 = .ok (.istore 5, 2) := by decide +kernel
theorem dX8_pack_90 : decode cX8_pack 90 = .ok (.iconst 0, 1) := by decide +kernel
theorem dX8_pack_91 : decode cX8_pack 91 = .ok (.istore 6, 2) := by decide +kernel
theorem dX8_pack_93 : decode cX8_pack 93 = .ok (.iload 6, 2) := by decide +kernel
theorem dX8_pack_95 : decode cX8_pack 95 = .ok (.aload_n 0, 1) := by decide +kernel
theorem dX8_pack_96 : decode cX8_pack 96 = .ok (.getfield 112, 3) := by decide +kernel
theorem dX8_pack_99 : decode cX8_pack 99 = .ok (.if_icmp .ge 37, 3) := by decide +kernel
theorem dX8_pack_102 : decode cX8_pack 102 = .ok (.iload 5, 2) := by decide +kernel
theorem dX8_pack_104 : decode cX8_pack 104 = .ok (.ifCond .le 32, 3) := by decide +kernel
theorem dX8_pack_107 : decode cX8_pack 107 = .ok (.aload_n 0, 1) := by decide +kernel
theorem dX8_pack_108 : decode cX8_pack 108 = .ok (.iload 6, 2) := by decide +kernel
theorem dX8_pack_110 : decode cX8_pack 110 = .ok (.iload_n 1, 1) := by decide +kernel
theorem dX8_pack_111 : decode cX8_pack 111 = .ok (.iload_n 2, 1) := by decide +kernel
theorem dX8_pack_112 : decode cX8_pack 112 = .ok (.iconst 3, 1) := by decide +kernel
theorem dX8_pack_113 : decode cX8_pack 113 = .ok (.invokevirtual 122, 3) := by decide +kernel
theorem dX8_pack_116 : decode cX8_pack 116 = .ok (.ifCond .eq 14, 3) := by decide +kernel
theorem dX8_pack_119 : decode cX8_pack 119 = .ok (.aload_n 0, 1) := by decide +kernel
theorem dX8_pack_120 : decode cX8_pack 120 = .ok (.getfield 35, 3) := by decide +kernel
theorem dX8_pack_123 : decode cX8_pack 123 = .ok (.iload 6, 2) := by decide +kernel
theorem dX8_pack_125 : decode cX8_pack 125 = .ok (.iconst 0, 1) := by decide +kernel
theorem dX8_pack_126 : decode cX8_pack 126 = .ok (.iastore, 1) := by decide +kernel
theorem dX8_pack_127 : decode cX8_pack 127 = .ok (.iinc 5 (-1), 3) := by decide +kernel
theorem dX8_pack_130 : decode cX8_pack 130 = .ok (.iinc 6 1, 3) := by decide +kernel
theorem dX8_pack_133 : decode cX8_pack 133 = .ok (.goto (-40), 3) := by decide +kernel
theorem dX8_pack_136 : decode cX8_pack 136 = .ok (.iload_n 3, 1) := by decide +kernel
theorem dX8_pack_137 : decode cX8_pack 137 = .ok (.ireturn, 1) := by decide +kernel
theorem dX8_meets_0 : decode cX8_meets 0 = .ok (.aload_n 0, 1) := by decide +kernel
theorem dX8_meets_1 : decode cX8_meets 1 = .ok (.iload_n 1, 1) := by decide +kernel
theorem dX8_meets_2 : decode cX8_meets 2 = .ok (.putfield 172, 3) := by decide +kernel
theorem dX8_meets_5 : decode cX8_meets 5 = .ok (.bipush (-10), 2) := by decide +kernel
theorem dX8_meets_7 : decode cX8_meets 7 = .ok (.iload_n 1, 1) := by decide +kernel
theorem dX8_meets_8 : decode cX8_meets 8 = .ok (.isub, 1) := by decide +kernel
theorem dX8_meets_9 : decode cX8_meets 9 = .ok (.ireturn, 1) := by decide +kernel
set_option maxRecDepth 20000 in
theorem ggX8_isSheet_X8_in : GoodIn wsX8_isSheet wsX8_in := goodIn_r _ [4] (by decide +kernel) (by decide +kernel)
set_option maxRecDepth 20000 in
theorem gX8_isSheet_X8_in : GoodIn wsX8_isSheet (va_wsS RX8 108 yX8_in wsX8_in) := goodIn_app (goodIn_of _ (by decide +kernel)) ggX8_isSheet_X8_in
theorem dX8_isSheet_0 : decode cX8_isSheet 0 = .ok (.iload_n 0, 1) := by decide +kernel
theorem dX8_isSheet_1 : decode cX8_isSheet 1 = .ok (.iconst 0, 1) := by decide +kernel
theorem dX8_isSheet_2 : decode cX8_isSheet 2 = .ok (.iconst 3, 1) := by decide +kernel
theorem dX8_isSheet_3 : decode cX8_isSheet 3 = .ok (.invokestatic 108, 3) := by decide +kernel
theorem dX8_isSheet_6 : decode cX8_isSheet 6 = .ok (.ireturn, 1) := by decide +kernel
set_option maxRecDepth 20000 in
theorem ggX8_sheet_X8_isSheet : GoodIn wsX8_sheet wsX8_isSheet := goodIn_r _ [8, 9, 10, 7, 11] (by decide +kernel) (by decide +kernel)
set_option maxRecDepth 20000 in
theorem gX8_sheet_X8_isSheet : GoodIn wsX8_sheet (va_wsS RX8 126 yX8_isSheet wsX8_isSheet) := goodIn_app (goodIn_of _ (by decide +kernel)) ggX8_sheet_X8_isSheet
set_option maxRecDepth 20000 in
theorem ggX8_sheet_X8_in : GoodIn wsX8_sheet wsX8_in := goodIn_r _ [11] (by decide +kernel) (by decide +kernel)
set_option maxRecDepth 20000 in
theorem gX8_sheet_X8_in : GoodIn wsX8_sheet (va_wsS RX8 108 yX8_in wsX8_in) := goodIn_app (goodIn_of _ (by decide +kernel)) ggX8_sheet_X8_in
set_option maxRecDepth 20000 in
theorem ggX8_sheet_X8_meets : GoodIn wsX8_sheet wsX8_meets := goodIn_r _ [15, 16, 17, 18, 19, 20, 21, 22, 23, 24, 25, 26, 27, 28, 29, 30, 31, 32, 33, 34, 35, 36, 37, 38, 39, 40, 41, 42, 43, 44, 45, 46, 47, 48, 49, 50, 51, 52, 53] (by decide +kernel) (by decide +kernel)
set_option maxRecDepth 20000 in
theorem gX8_sheet_X8_meets : GoodIn wsX8_sheet (wsV RX8 129 RX8 yX8_meets wsX8_meets) := goodIn_app (goodIn_of _ (by decide +kernel)) ggX8_sheet_X8_meets
theorem dX8_sheet_0 : decode cX8_sheet 0 = .ok (.iload_n 1, 1) := by decide +kernel
theorem dX8_sheet_1 : decode cX8_sheet 1 = .ok (.invokestatic 126, 3) := by decide +kernel
theorem dX8_sheet_4 : decode cX8_sheet 4 = .ok (.ifCond .eq 18, 3) := by decide +kernel
theorem dX8_sheet_7 : decode cX8_sheet 7 = .ok (.iload_n 2, 1) := by decide +kernel
theorem dX8_sheet_8 : decode cX8_sheet 8 = .ok (.iconst 0, 1) := by decide +kernel
theorem dX8_sheet_9 : decode cX8_sheet 9 = .ok (.iconst 2, 1) := by decide +kernel
theorem dX8_sheet_10 : decode cX8_sheet 10 = .ok (.invokestatic 108, 3) := by decide +kernel
theorem dX8_sheet_13 : decode cX8_sheet 13 = .ok (.ifCond .eq 9, 3) := by decide +kernel
theorem dX8_sheet_16 : decode cX8_sheet 16 = .ok (.iload_n 3, 1) := by decide +kernel
theorem dX8_sheet_17 : decode cX8_sheet 17 = .ok (.bipush 60, 2) := by decide +kernel
theorem dX8_sheet_19 : decode cX8_sheet 19 = .ok (.if_icmp .le 6, 3) := by decide +kernel
theorem dX8_sheet_22 : decode cX8_sheet 22 = .ok (.bipush (-2), 2) := by decide +kernel
theorem dX8_sheet_24 : decode cX8_sheet 24 = .ok (.ireturn, 1) := by decide +kernel
theorem dX8_sheet_25 : decode cX8_sheet 25 = .ok (.iload_n 3, 1) := by decide +kernel
theorem dX8_sheet_26 : decode cX8_sheet 26 = .ok (.ifCond .ge 9, 3) := by decide +kernel
theorem dX8_sheet_29 : decode cX8_sheet 29 = .ok (.aload_n 0, 1) := by decide +kernel
theorem dX8_sheet_30 : decode cX8_sheet 30 = .ok (.iconst 5, 1) := by decide +kernel
theorem dX8_sheet_31 : decode cX8_sheet 31 = .ok (.invokevirtual 129, 3) := by decide +kernel
theorem dX8_sheet_34 : decode cX8_sheet 34 = .ok (.ireturn, 1) := by decide +kernel
theorem dX8_sheet_35 : decode cX8_sheet 35 = .ok (.aload_n 0, 1) := by decide +kernel
theorem dX8_sheet_36 : decode cX8_sheet 36 = .ok (.getfield 90, 3) := by decide +kernel
theorem dX8_sheet_39 : decode cX8_sheet 39 = .ok (.iload_n 1, 1) := by decide +kernel
theorem dX8_sheet_40 : decode cX8_sheet 40 = .ok (.iconst 1, 1) := by decide +kernel
theorem dX8_sheet_41 : decode cX8_sheet 41 = .ok (.bastore, 1) := by decide +kernel
theorem dX8_sheet_42 : decode cX8_sheet 42 = .ok (.aload_n 0, 1) := by decide +kernel
theorem dX8_sheet_43 : decode cX8_sheet 43 = .ok (.getfield 93, 3) := by decide +kernel
theorem dX8_sheet_46 : decode cX8_sheet 46 = .ok (.iload_n 1, 1) := by decide +kernel
theorem dX8_sheet_47 : decode cX8_sheet 47 = .ok (.iload_n 2, 1) := by decide +kernel
theorem dX8_sheet_48 : decode cX8_sheet 48 = .ok (.iastore, 1) := by decide +kernel
theorem dX8_sheet_49 : decode cX8_sheet 49 = .ok (.aload_n 0, 1) := by decide +kernel
theorem dX8_sheet_50 : decode cX8_sheet 50 = .ok (.getfield 96, 3) := by decide +kernel
theorem dX8_sheet_53 : decode cX8_sheet 53 = .ok (.iload_n 1, 1) := by decide +kernel
theorem dX8_sheet_54 : decode cX8_sheet 54 = .ok (.iload_n 3, 1) := by decide +kernel
theorem dX8_sheet_55 : decode cX8_sheet 55 = .ok (.iastore, 1) := by decide +kernel
theorem dX8_sheet_56 : decode cX8_sheet 56 = .ok (.iconst 0, 1) := by decide +kernel
theorem dX8_sheet_57 : decode cX8_sheet 57 = .ok (.istore 4, 2) := by decide +kernel
theorem dX8_sheet_59 : decode cX8_sheet 59 = .ok (.iload 4, 2) := by decide +kernel
theorem dX8_sheet_61 : decode cX8_sheet 61 = .ok (.bipush 60, 2) := by decide +kernel
theorem dX8_sheet_63 : decode cX8_sheet 63 = .ok (.if_icmp .ge 22, 3) := by decide +kernel
theorem dX8_sheet_66 : decode cX8_sheet 66 = .ok (.aload_n 0, 1) := by decide +kernel
theorem dX8_sheet_67 : decode cX8_sheet 67 = .ok (.getfield 99, 3) := by decide +kernel
theorem dX8_sheet_70 : decode cX8_sheet 70 = .ok (.bipush 60, 2) := by decide +kernel
theorem dX8_sheet_72 : decode cX8_sheet 72 = .ok (.iload_n 1, 1) := by decide +kernel
theorem dX8_sheet_73 : decode cX8_sheet 73 = .ok (.imul, 1) := by decide +kernel
theorem dX8_sheet_74 : decode cX8_sheet 74 = .ok (.iload 4, 2) := by decide +kernel
theorem dX8_sheet_76 : decode cX8_sheet 76 = .ok (.iadd, 1) := by decide +kernel
theorem dX8_sheet_77 : decode cX8_sheet 77 = .ok (.iconst 0, 1) := by decide +kernel
theorem dX8_sheet_78 : decode cX8_sheet 78 = .ok (.iastore, 1) := by decide +kernel
theorem dX8_sheet_79 : decode cX8_sheet 79 = .ok (.iinc 4 1, 3) := by decide +kernel
theorem dX8_sheet_82 : decode cX8_sheet 82 = .ok (.goto (-23), 3) := by decide +kernel
theorem dX8_sheet_85 : decode cX8_sheet 85 = .ok (.iload_n 3, 1) := by decide +kernel
theorem dX8_sheet_86 : decode cX8_sheet 86 = .ok (.ireturn, 1) := by decide +kernel
set_option maxRecDepth 20000 in
theorem ggX8_lose_X8_isSheet : GoodIn wsX8_lose wsX8_isSheet := goodIn_r _ [6, 7, 8, 5, 9] (by decide +kernel) (by decide +kernel)
set_option maxRecDepth 20000 in
theorem gX8_lose_X8_isSheet : GoodIn wsX8_lose (va_wsS RX8 126 yX8_isSheet wsX8_isSheet) := goodIn_app (goodIn_of _ (by decide +kernel)) ggX8_lose_X8_isSheet
set_option maxRecDepth 20000 in
theorem ggX8_lose_X8_meets : GoodIn wsX8_lose wsX8_meets := goodIn_r _ [13, 14, 15, 16, 17, 18, 19, 20, 21, 22, 23, 24, 25, 26, 27, 28, 29, 30, 31, 32, 33, 34, 35, 36, 37, 38, 39, 40, 41, 42, 43, 44, 45, 46, 47, 48, 49, 50, 51] (by decide +kernel) (by decide +kernel)
set_option maxRecDepth 20000 in
theorem gX8_lose_X8_meets : GoodIn wsX8_lose (wsV RX8 129 RX8 yX8_meets wsX8_meets) := goodIn_app (goodIn_of _ (by decide +kernel)) ggX8_lose_X8_meets
theorem dX8_lose_0 : decode cX8_lose 0 = .ok (.iload_n 1, 1) := by decide +kernel
theorem dX8_lose_1 : decode cX8_lose 1 = .ok (.invokestatic 126, 3) := by decide +kernel
theorem dX8_lose_4 : decode cX8_lose 4 = .ok (.ifCond .ne 6, 3) := by decide +kernel
theorem dX8_lose_7 : decode cX8_lose 7 = .ok (.bipush (-2), 2) := by decide +kernel
theorem dX8_lose_9 : decode cX8_lose 9 = .ok (.ireturn, 1) := by decide +kernel
theorem dX8_lose_10 : decode cX8_lose 10 = .ok (.aload_n 0, 1) := by decide +kernel
theorem dX8_lose_11 : decode cX8_lose 11 = .ok (.getfield 90, 3) := by decide +kernel
theorem dX8_lose_14 : decode cX8_lose 14 = .ok (.iload_n 1, 1) := by decide +kernel
theorem dX8_lose_15 : decode cX8_lose 15 = .ok (.baload, 1) := by decide +kernel
theorem dX8_lose_16 : decode cX8_lose 16 = .ok (.ifCond .ne 9, 3) := by decide +kernel
theorem dX8_lose_19 : decode cX8_lose 19 = .ok (.aload_n 0, 1) := by decide +kernel
theorem dX8_lose_20 : decode cX8_lose 20 = .ok (.iconst 1, 1) := by decide +kernel
theorem dX8_lose_21 : decode cX8_lose 21 = .ok (.invokevirtual 129, 3) := by decide +kernel
theorem dX8_lose_24 : decode cX8_lose 24 = .ok (.ireturn, 1) := by decide +kernel
theorem dX8_lose_25 : decode cX8_lose 25 = .ok (.aload_n 0, 1) := by decide +kernel
theorem dX8_lose_26 : decode cX8_lose 26 = .ok (.getfield 90, 3) := by decide +kernel
theorem dX8_lose_29 : decode cX8_lose 29 = .ok (.iload_n 1, 1) := by decide +kernel
theorem dX8_lose_30 : decode cX8_lose 30 = .ok (.iconst 0, 1) := by decide +kernel
theorem dX8_lose_31 : decode cX8_lose 31 = .ok (.bastore, 1) := by decide +kernel
theorem dX8_lose_32 : decode cX8_lose 32 = .ok (.aload_n 0, 1) := by decide +kernel
theorem dX8_lose_33 : decode cX8_lose 33 = .ok (.getfield 96, 3) := by decide +kernel
theorem dX8_lose_36 : decode cX8_lose 36 = .ok (.iload_n 1, 1) := by decide +kernel
theorem dX8_lose_37 : decode cX8_lose 37 = .ok (.iaload, 1) := by decide +kernel
theorem dX8_lose_38 : decode cX8_lose 38 = .ok (.ireturn, 1) := by decide +kernel
set_option maxRecDepth 20000 in
theorem ggX8_lacks_X8_in : GoodIn wsX8_lacks wsX8_in := goodIn_r _ [7] (by decide +kernel) (by decide +kernel)
set_option maxRecDepth 20000 in
theorem gX8_lacks_X8_in : GoodIn wsX8_lacks (va_wsS RX8 108 yX8_in wsX8_in) := goodIn_app (goodIn_of _ (by decide +kernel)) ggX8_lacks_X8_in
theorem dX8_lacks_0 : decode cX8_lacks 0 = .ok (.aload_n 0, 1) := by decide +kernel
theorem dX8_lacks_1 : decode cX8_lacks 1 = .ok (.getfield 90, 3) := by decide +kernel
theorem dX8_lacks_4 : decode cX8_lacks 4 = .ok (.iload_n 1, 1) := by decide +kernel
theorem dX8_lacks_5 : decode cX8_lacks 5 = .ok (.baload, 1) := by decide +kernel
theorem dX8_lacks_6 : decode cX8_lacks 6 = .ok (.ifCond .ne 7, 3) := by decide +kernel
theorem dX8_lacks_9 : decode cX8_lacks 9 = .ok (.iconst 1, 1) := by decide +kernel
theorem dX8_lacks_10 : decode cX8_lacks 10 = .ok (.goto 38, 3) := by decide +kernel
theorem dX8_lacks_13 : decode cX8_lacks 13 = .ok (.aload_n 0, 1) := by decide +kernel
theorem dX8_lacks_14 : decode cX8_lacks 14 = .ok (.getfield 93, 3) := by decide +kernel
theorem dX8_lacks_17 : decode cX8_lacks 17 = .ok (.iload_n 1, 1) := by decide +kernel
theorem dX8_lacks_18 : decode cX8_lacks 18 = .ok (.iaload, 1) := by decide +kernel
theorem dX8_lacks_19 : decode cX8_lacks 19 = .ok (.iload_n 2, 1) := by decide +kernel
theorem dX8_lacks_20 : decode cX8_lacks 20 = .ok (.if_icmp .eq 7, 3) := by decide +kernel
theorem dX8_lacks_23 : decode cX8_lacks 23 = .ok (.iconst 3, 1) := by decide +kernel
theorem dX8_lacks_24 : decode cX8_lacks 24 = .ok (.goto 24, 3) := by decide +kernel
theorem dX8_lacks_27 : decode cX8_lacks 27 = .ok (.iload_n 3, 1) := by decide +kernel
theorem dX8_lacks_28 : decode cX8_lacks 28 = .ok (.iconst 0, 1) := by decide +kernel
theorem dX8_lacks_29 : decode cX8_lacks 29 = .ok (.aload_n 0, 1) := by decide +kernel
theorem dX8_lacks_30 : decode cX8_lacks 30 = .ok (.getfield 96, 3) := by decide +kernel
theorem dX8_lacks_33 : decode cX8_lacks 33 = .ok (.iload_n 1, 1) := by decide +kernel
theorem dX8_lacks_34 : decode cX8_lacks 34 = .ok (.iaload, 1) := by decide +kernel
theorem dX8_lacks_35 : decode cX8_lacks 35 = .ok (.iconst 1, 1) := by decide +kernel
theorem dX8_lacks_36 : decode cX8_lacks 36 = .ok (.isub, 1) := by decide +kernel
theorem dX8_lacks_37 : decode cX8_lacks 37 = .ok (.invokestatic 108, 3) := by decide +kernel
theorem dX8_lacks_40 : decode cX8_lacks 40 = .ok (.ifCond .eq 7, 3) := by decide +kernel
theorem dX8_lacks_43 : decode cX8_lacks 43 = .ok (.iconst 0, 1) := by decide +kernel
theorem dX8_lacks_44 : decode cX8_lacks 44 = .ok (.goto 4, 3) := by decide +kernel
theorem dX8_lacks_47 : decode cX8_lacks 47 = .ok (.iconst 2, 1) := by decide +kernel
theorem dX8_lacks_48 : decode cX8_lacks 48 = .ok (.ireturn, 1) := by decide +kernel
theorem dX8_lay_0 : decode cX8_lay 0 = .ok (.aload_n 0, 1) := by decide +kernel
theorem dX8_lay_1 : decode cX8_lay 1 = .ok (.getfield 99, 3) := by decide +kernel
theorem dX8_lay_4 : decode cX8_lay 4 = .ok (.bipush 60, 2) := by decide +kernel
theorem dX8_lay_6 : decode cX8_lay 6 = .ok (.iload_n 1, 1) := by decide +kernel
theorem dX8_lay_7 : decode cX8_lay 7 = .ok (.imul, 1) := by decide +kernel
theorem dX8_lay_8 : decode cX8_lay 8 = .ok (.iload_n 2, 1) := by decide +kernel
theorem dX8_lay_9 : decode cX8_lay 9 = .ok (.iadd, 1) := by decide +kernel
theorem dX8_lay_10 : decode cX8_lay 10 = .ok (.aload_n 0, 1) := by decide +kernel
theorem dX8_lay_11 : decode cX8_lay 11 = .ok (.getfield 93, 3) := by decide +kernel
theorem dX8_lay_14 : decode cX8_lay 14 = .ok (.iload_n 1, 1) := by decide +kernel
theorem dX8_lay_15 : decode cX8_lay 15 = .ok (.iaload, 1) := by decide +kernel
theorem dX8_lay_16 : decode cX8_lay 16 = .ok (.ifCond .ne 8, 3) := by decide +kernel
theorem dX8_lay_19 : decode cX8_lay 19 = .ok (.iload_n 3, 1) := by decide +kernel
theorem dX8_lay_20 : decode cX8_lay 20 = .ok (.i2b, 1) := by decide +kernel
theorem dX8_lay_21 : decode cX8_lay 21 = .ok (.goto 19, 3) := by decide +kernel
theorem dX8_lay_24 : decode cX8_lay 24 = .ok (.aload_n 0, 1) := by decide +kernel
theorem dX8_lay_25 : decode cX8_lay 25 = .ok (.getfield 93, 3) := by decide +kernel
theorem dX8_lay_28 : decode cX8_lay 28 = .ok (.iload_n 1, 1) := by decide +kernel
theorem dX8_lay_29 : decode cX8_lay 29 = .ok (.iaload, 1) := by decide +kernel
theorem dX8_lay_30 : decode cX8_lay 30 = .ok (.iconst 1, 1) := by decide +kernel
theorem dX8_lay_31 : decode cX8_lay 31 = .ok (.if_icmp .ne 8, 3) := by decide +kernel
theorem dX8_lay_34 : decode cX8_lay 34 = .ok (.iload_n 3, 1) := by decide +kernel
theorem dX8_lay_35 : decode cX8_lay 35 = .ok (.i2s, 1) := by decide +kernel
theorem dX8_lay_36 : decode cX8_lay 36 = .ok (.goto 4, 3) := by decide +kernel
theorem dX8_lay_39 : decode cX8_lay 39 = .ok (.iload_n 3, 1) := by decide +kernel
theorem dX8_lay_40 : decode cX8_lay 40 = .ok (.iastore, 1) := by decide +kernel
theorem dX8_lay_41 : decode cX8_lay 41 = .ok (.return_, 1) := by decide +kernel
set_option maxRecDepth 20000 in
theorem ggX8_put_X8_isSheet : GoodIn wsX8_put wsX8_isSheet := goodIn_r _ [4, 5, 6, 3, 7] (by decide +kernel) (by decide +kernel)
set_option maxRecDepth 20000 in
theorem gX8_put_X8_isSheet : GoodIn wsX8_put (va_wsS RX8 126 yX8_isSheet wsX8_isSheet) := goodIn_app (goodIn_of _ (by decide +kernel)) ggX8_put_X8_isSheet
set_option maxRecDepth 20000 in
theorem ggX8_put_X8_in : GoodIn wsX8_put wsX8_in := goodIn_r _ [7] (by decide +kernel) (by decide +kernel)
set_option maxRecDepth 20000 in
theorem gX8_put_X8_in : GoodIn wsX8_put (va_wsS RX8 108 yX8_in wsX8_in) := goodIn_app (goodIn_of _ (by decide +kernel)) ggX8_put_X8_in
set_option maxRecDepth 20000 in
theorem ggX8_put_X8_lacks : GoodIn wsX8_put wsX8_lacks := goodIn_r _ [11, 12, 13, 14, 5, 6, 3, 7, 25, 26, 27, 28, 29, 30, 31, 32, 33, 34, 35, 36, 37, 38, 39, 40, 41, 42, 43, 44, 45, 46, 47, 48, 49, 50, 51, 52, 53, 54, 55, 56, 57, 58, 59, 60, 61] (by decide +kernel) (by decide +kernel)
set_option maxRecDepth 20000 in
theorem gX8_put_X8_lacks : GoodIn wsX8_put (wsV RX8 175 RX8 yX8_lacks wsX8_lacks) := goodIn_app (goodIn_of _ (by decide +kernel)) ggX8_put_X8_lacks
set_option maxRecDepth 20000 in
theorem ggX8_put_X8_meets : GoodIn wsX8_put wsX8_meets := goodIn_r _ [18, 19, 25, 26, 27, 28, 29, 30, 31, 32, 33, 34, 35, 36, 37, 38, 39, 40, 41, 42, 43, 44, 45, 46, 47, 48, 49, 50, 51, 52, 53, 54, 55, 56, 57, 58, 59, 60, 61] (by decide +kernel) (by decide +kernel)
set_option maxRecDepth 20000 in
theorem gX8_put_X8_meets : GoodIn wsX8_put (wsV RX8 129 RX8 yX8_meets wsX8_meets) := goodIn_app (goodIn_of _ (by decide +kernel)) ggX8_put_X8_meets
set_option maxRecDepth 20000 in
theorem ggX8_put_X8_lay : GoodIn wsX8_put wsX8_lay := goodIn_r _ [23, 24, 13, 25, 26, 27, 28, 29, 30, 31, 32, 33, 34, 35, 36, 37, 38, 39, 40, 41, 42, 43, 44, 45, 46, 47, 48, 49, 50, 51, 52, 53, 54, 55, 56, 57, 58, 59, 60, 61] (by decide +kernel) (by decide +kernel)
set_option maxRecDepth 20000 in
theorem gX8_put_X8_lay : GoodIn wsX8_put (wsV RX8 179 RX8 yX8_lay wsX8_lay) := goodIn_app (goodIn_of _ (by decide +kernel)) ggX8_put_X8_lay
theorem dX8_put_0 : decode cX8_put 0 = .ok (.iload_n 1, 1) := by decide +kernel
theorem dX8_put_1 : decode cX8_put 1 = .ok (.invokestatic 126, 3) := by decide +kernel
theorem dX8_put_4 : decode cX8_put 4 = .ok (.ifCond .eq 12, 3) := by decide +kernel
theorem dX8_put_7 : decode cX8_put 7 = .ok (.iload_n 2, 1) := by decide +kernel
theorem dX8_put_8 : decode cX8_put 8 = .ok (.iconst 0, 1) := by decide +kernel
theorem dX8_put_9 : decode cX8_put 9 = .ok (.iconst 2, 1) := by decide +kernel
theorem dX8_put_10 : decode cX8_put 10 = .ok (.invokestatic 108, 3) := by decide +kernel
theorem dX8_put_13 : decode cX8_put 13 = .ok (.ifCond .ne 6, 3) := by decide +kernel
theorem dX8_put_16 : decode cX8_put 16 = .ok (.bipush (-2), 2) := by decide +kernel
theorem dX8_put_18 : decode cX8_put 18 = .ok (.ireturn, 1) := by decide +kernel
theorem dX8_put_19 : decode cX8_put 19 = .ok (.aload_n 0, 1) := by decide +kernel
theorem dX8_put_20 : decode cX8_put 20 = .ok (.iload_n 1, 1) := by decide +kernel
theorem dX8_put_21 : decode cX8_put 21 = .ok (.iload_n 2, 1) := by decide +kernel
theorem dX8_put_22 : decode cX8_put 22 = .ok (.iload_n 3, 1) := by decide +kernel
theorem dX8_put_23 : decode cX8_put 23 = .ok (.invokevirtual 175, 3) := by decide +kernel
theorem dX8_put_26 : decode cX8_put 26 = .ok (.istore 5, 2) := by decide +kernel
theorem dX8_put_28 : decode cX8_put 28 = .ok (.iload 5, 2) := by decide +kernel
theorem dX8_put_30 : decode cX8_put 30 = .ok (.ifCond .le 10, 3) := by decide +kernel
theorem dX8_put_33 : decode cX8_put 33 = .ok (.aload_n 0, 1) := by decide +kernel
theorem dX8_put_34 : decode cX8_put 34 = .ok (.iload 5, 2) := by decide +kernel
theorem dX8_put_36 : decode cX8_put 36 = .ok (.invokevirtual 129, 3) := by decide +kernel
theorem dX8_put_39 : decode cX8_put 39 = .ok (.ireturn, 1) := by decide +kernel
theorem dX8_put_40 : decode cX8_put 40 = .ok (.aload_n 0, 1) := by decide +kernel
theorem dX8_put_41 : decode cX8_put 41 = .ok (.iload_n 1, 1) := by decide +kernel
theorem dX8_put_42 : decode cX8_put 42 = .ok (.iload_n 3, 1) := by decide +kernel
theorem dX8_put_43 : decode cX8_put 43 = .ok (.iload 4, 2) := by decide +kernel
theorem dX8_put_45 : decode cX8_put 45 = .ok (.invokevirtual 179, 3) := by decide +kernel
theorem dX8_put_48 : decode cX8_put 48 = .ok (.iconst 1, 1) := by decide +kernel
theorem dX8_put_49 : decode cX8_put 49 = .ok (.ireturn, 1) := by decide +kernel
set_option maxRecDepth 20000 in
theorem ggX8_get_X8_isSheet : GoodIn wsX8_get wsX8_isSheet := goodIn_r _ [7, 8, 9, 6, 10] (by decide +kernel) (by decide +kernel)
set_option maxRecDepth 20000 in
theorem gX8_get_X8_isSheet : GoodIn wsX8_get (va_wsS RX8 126 yX8_isSheet wsX8_isSheet) := goodIn_app (goodIn_of _ (by decide +kernel)) ggX8_get_X8_isSheet
set_option maxRecDepth 20000 in
theorem ggX8_get_X8_in : GoodIn wsX8_get wsX8_in := goodIn_r _ [10] (by decide +kernel) (by decide +kernel)
set_option maxRecDepth 20000 in
theorem gX8_get_X8_in : GoodIn wsX8_get (va_wsS RX8 108 yX8_in wsX8_in) := goodIn_app (goodIn_of _ (by decide +kernel)) ggX8_get_X8_in
set_option maxRecDepth 20000 in
theorem ggX8_get_X8_lacks : GoodIn wsX8_get wsX8_lacks := goodIn_r _ [14, 15, 16, 17, 8, 9, 6, 10, 18, 19, 20, 21, 22, 23, 24, 25, 26, 27, 28, 29, 30, 31, 32, 33, 34, 35, 36, 37, 38, 39, 40, 41, 42, 43, 44, 45, 46, 47, 48, 49, 50, 51, 52, 53, 54] (by decide +kernel) (by decide +kernel)
set_option maxRecDepth 20000 in
theorem gX8_get_X8_lacks : GoodIn wsX8_get (wsV RX8 175 RX8 yX8_lacks wsX8_lacks) := goodIn_app (goodIn_of _ (by decide +kernel)) ggX8_get_X8_lacks
theorem dX8_get_0 : decode cX8_get 0 = .ok (.iload_n 1, 1) := by decide +kernel
theorem dX8_get_1 : decode cX8_get 1 = .ok (.invokestatic 126, 3) := by decide +kernel
theorem dX8_get_4 : decode cX8_get 4 = .ok (.ifCond .eq 12, 3) := by decide +kernel
theorem dX8_get_7 : decode cX8_get 7 = .ok (.iload_n 2, 1) := by decide +kernel
theorem dX8_get_8 : decode cX8_get 8 = .ok (.iconst 0, 1) := by decide +kernel
theorem dX8_get_9 : decode cX8_get 9 = .ok (.iconst 2, 1) := by decide +kernel
theorem dX8_get_10 : decode cX8_get 10 = .ok (.invokestatic 108, 3) := by decide +kernel
theorem dX8_get_13 : decode cX8_get 13 = .ok (.ifCond .ne 6, 3) := by decide +kernel
theorem dX8_get_16 : decode cX8_get 16 = .ok (.ldc 182, 2) := by decide +kernel
theorem dX8_get_18 : decode cX8_get 18 = .ok (.ireturn, 1) := by decide +kernel
theorem dX8_get_19 : decode cX8_get 19 = .ok (.aload_n 0, 1) := by decide +kernel
theorem dX8_get_20 : decode cX8_get 20 = .ok (.iload_n 1, 1) := by decide +kernel
theorem dX8_get_21 : decode cX8_get 21 = .ok (.iload_n 2, 1) := by decide +kernel
theorem dX8_get_22 : decode cX8_get 22 = .ok (.iload_n 3, 1) := by decide +kernel
theorem dX8_get_23 : decode cX8_get 23 = .ok (.invokevirtual 175, 3) := by decide +kernel
theorem dX8_get_26 : decode cX8_get 26 = .ok (.istore 4, 2) := by decide +kernel
theorem dX8_get_28 : decode cX8_get 28 = .ok (.iload 4, 2) := by decide +kernel
theorem dX8_get_30 : decode cX8_get 30 = .ok (.ifCond .le 12, 3) := by decide +kernel
theorem dX8_get_33 : decode cX8_get 33 = .ok (.aload_n 0, 1) := by decide +kernel
theorem dX8_get_34 : decode cX8_get 34 = .ok (.iload 4, 2) := by decide +kernel
theorem dX8_get_36 : decode cX8_get 36 = .ok (.putfield 172, 3) := by decide +kernel
theorem dX8_get_39 : decode cX8_get 39 = .ok (.ldc 182, 2) := by decide +kernel
theorem dX8_get_41 : decode cX8_get 41 = .ok (.ireturn, 1) := by decide +kernel
theorem dX8_get_42 : decode cX8_get 42 = .ok (.aload_n 0, 1) := by decide +kernel
theorem dX8_get_43 : decode cX8_get 43 = .ok (.getfield 99, 3) := by decide +kernel
theorem dX8_get_46 : decode cX8_get 46 = .ok (.bipush 60, 2) := by decide +kernel
theorem dX8_get_48 : decode cX8_get 48 = .ok (.iload_n 1, 1) := by decide +kernel
theorem dX8_get_49 : decode cX8_get 49 = .ok (.imul, 1) := by decide +kernel
theorem dX8_get_50 : decode cX8_get 50 = .ok (.iload_n 3, 1) := by decide +kernel
theorem dX8_get_51 : decode cX8_get 51 = .ok (.iadd, 1) := by decide +kernel
theorem dX8_get_52 : decode cX8_get 52 = .ok (.iaload, 1) := by decide +kernel
theorem dX8_get_53 : decode cX8_get 53 = .ok (.ireturn, 1) := by decide +kernel
set_option maxRecDepth 20000 in
theorem ggX8_copy_X8_isSheet : GoodIn wsX8_copy wsX8_isSheet := goodIn_r _ [9, 10, 11, 8, 12] (by decide +kernel) (by decide +kernel)
set_option maxRecDepth 20000 in
theorem gX8_copy_X8_isSheet : GoodIn wsX8_copy (va_wsS RX8 126 yX8_isSheet wsX8_isSheet) := goodIn_app (goodIn_of _ (by decide +kernel)) ggX8_copy_X8_isSheet
set_option maxRecDepth 20000 in
theorem ggX8_copy_X8_meets : GoodIn wsX8_copy wsX8_meets := goodIn_r _ [16, 17, 18, 19, 20, 21, 22, 23, 24, 25, 26, 27, 28, 29, 30, 31, 32, 33, 34, 35, 36, 37, 38, 39, 40, 41, 42, 43, 44, 45, 46, 47, 48, 49, 50, 51, 52, 53, 54] (by decide +kernel) (by decide +kernel)
set_option maxRecDepth 20000 in
theorem gX8_copy_X8_meets : GoodIn wsX8_copy (wsV RX8 129 RX8 yX8_meets wsX8_meets) := goodIn_app (goodIn_of _ (by decide +kernel)) ggX8_copy_X8_meets
theorem dX8_copy_0 : decode cX8_copy 0 = .ok (.iload_n 1, 1) := by decide +kernel
theorem dX8_copy_1 : decode cX8_copy 1 = .ok (.invokestatic 126, 3) := by decide +kernel
theorem dX8_copy_4 : decode cX8_copy 4 = .ok (.ifCond .eq 10, 3) := by decide +kernel
theorem dX8_copy_7 : decode cX8_copy 7 = .ok (.iload_n 3, 1) := by decide +kernel
theorem dX8_copy_8 : decode cX8_copy 8 = .ok (.invokestatic 126, 3) := by decide +kernel
theorem dX8_copy_11 : decode cX8_copy 11 = .ok (.ifCond .ne 6, 3) := by decide +kernel
theorem dX8_copy_14 : decode cX8_copy 14 = .ok (.bipush (-2), 2) := by decide +kernel
theorem dX8_copy_16 : decode cX8_copy 16 = .ok (.ireturn, 1) := by decide +kernel
theorem dX8_copy_17 : decode cX8_copy 17 = .ok (.aload_n 0, 1) := by decide +kernel
theorem dX8_copy_18 : decode cX8_copy 18 = .ok (.getfield 90, 3) := by decide +kernel
theorem dX8_copy_21 : decode cX8_copy 21 = .ok (.iload_n 1, 1) := by decide +kernel
theorem dX8_copy_22 : decode cX8_copy 22 = .ok (.baload, 1) := by decide +kernel
theorem dX8_copy_23 : decode cX8_copy 23 = .ok (.ifCond .eq 12, 3) := by decide +kernel
theorem dX8_copy_26 : decode cX8_copy 26 = .ok (.aload_n 0, 1) := by decide +kernel
theorem dX8_copy_27 : decode cX8_copy 27 = .ok (.getfield 90, 3) := by decide +kernel
theorem dX8_copy_30 : decode cX8_copy 30 = .ok (.iload_n 3, 1) := by decide +kernel
theorem dX8_copy_31 : decode cX8_copy 31 = .ok (.baload, 1) := by decide +kernel
theorem dX8_copy_32 : decode cX8_copy 32 = .ok (.ifCond .ne 9, 3) := by decide +kernel
theorem dX8_copy_35 : decode cX8_copy 35 = .ok (.aload_n 0, 1) := by decide +kernel
theorem dX8_copy_36 : decode cX8_copy 36 = .ok (.iconst 1, 1) := by decide +kernel
theorem dX8_copy_37 : decode cX8_copy 37 = .ok (.invokevirtual 129, 3) := by decide +kernel
theorem dX8_copy_40 : decode cX8_copy 40 = .ok (.ireturn, 1) := by decide +kernel
theorem dX8_copy_41 : decode cX8_copy 41 = .ok (.aload_n 0, 1) := by decide +kernel
theorem dX8_copy_42 : decode cX8_copy 42 = .ok (.getfield 93, 3) := by decide +kernel
theorem dX8_copy_45 : decode cX8_copy 45 = .ok (.iload_n 1, 1) := by decide +kernel
theorem dX8_copy_46 : decode cX8_copy 46 = .ok (.iaload, 1) := by decide +kernel
theorem dX8_copy_47 : decode cX8_copy 47 = .ok (.aload_n 0, 1) := by decide +kernel
theorem dX8_copy_48 : decode cX8_copy 48 = .ok (.getfield 93, 3) := by decide +kernel
theorem dX8_copy_51 : decode cX8_copy 51 = .ok (.iload_n 3, 1) := by decide +kernel
theorem dX8_copy_52 : decode cX8_copy 52 = .ok (.iaload, 1) := by decide +kernel
theorem dX8_copy_53 : decode cX8_copy 53 = .ok (.if_icmp .eq 9, 3) := by decide +kernel
theorem dX8_copy_56 : decode cX8_copy 56 = .ok (.aload_n 0, 1) := by decide +kernel
theorem dX8_copy_57 : decode cX8_copy 57 = .ok (.iconst 4, 1) := by decide +kernel
theorem dX8_copy_58 : decode cX8_copy 58 = .ok (.invokevirtual 129, 3) := by decide +kernel
theorem dX8_copy_61 : decode cX8_copy 61 = .ok (.ireturn, 1) := by decide +kernel
theorem dX8_copy_62 : decode cX8_copy 62 = .ok (.iload_n 2, 1) := by decide +kernel
theorem dX8_copy_63 : decode cX8_copy 63 = .ok (.ifCond .lt 48, 3) := by decide +kernel
theorem dX8_copy_66 : decode cX8_copy 66 = .ok (.iload 4, 2) := by decide +kernel
theorem dX8_copy_68 : decode cX8_copy 68 = .ok (.ifCond .lt 43, 3) := by decide +kernel
theorem dX8_copy_71 : decode cX8_copy 71 = .ok (.iload 5, 2) := by decide +kernel
theorem dX8_copy_73 : decode cX8_copy 73 = .ok (.ifCond .lt 38, 3) := by decide +kernel
theorem dX8_copy_76 : decode cX8_copy 76 = .ok (.iload_n 2, 1) := by decide +kernel
theorem dX8_copy_77 : decode cX8_copy 77 = .ok (.i2l, 1) := by decide +kernel
theorem dX8_copy_78 : decode cX8_copy 78 = .ok (.iload 5, 2) := by decide +kernel
theorem dX8_copy_80 : decode cX8_copy 80 = .ok (.i2l, 1) := by decide +kernel
theorem dX8_copy_81 : decode cX8_copy 81 = .ok (.ladd, 1) := by decide +kernel
theorem dX8_copy_82 : decode cX8_copy 82 = .ok (.aload_n 0, 1) := by decide +kernel
theorem dX8_copy_83 : decode cX8_copy 83 = .ok (.getfield 96, 3) := by decide +kernel
theorem dX8_copy_86 : decode cX8_copy 86 = .ok (.iload_n 1, 1) := by decide +kernel
theorem dX8_copy_87 : decode cX8_copy 87 = .ok (.iaload, 1) := by decide +kernel
theorem dX8_copy_88 : decode cX8_copy 88 = .ok (.i2l, 1) := by decide +kernel
theorem dX8_copy_89 : decode cX8_copy 89 = .ok (.lcmp, 1) := by decide +kernel
theorem dX8_copy_90 : decode cX8_copy 90 = .ok (.ifCond .gt 21, 3) := by decide +kernel
theorem dX8_copy_93 : decode cX8_copy 93 = .ok (.iload 4, 2) := by decide +kernel
theorem dX8_copy_95 : decode cX8_copy 95 = .ok (.i2l, 1) := by decide +kernel
theorem dX8_copy_96 : decode cX8_copy 96 = .ok (.iload 5, 2) := by decide +kernel
theorem dX8_copy_98 : decode cX8_copy 98 = .ok (.i2l, 1) := by decide +kernel
theorem dX8_copy_99 : decode cX8_copy 99 = .ok (.ladd, 1) := by decide +kernel
theorem dX8_copy_100 : decode cX8_copy 100 = .ok (.aload_n 0, 1) := by decide +kernel
theorem dX8_copy_101 : decode cX8_copy 101 = .ok (.getfield 96, 3) := by decide +kernel
theorem dX8_copy_104 : decode cX8_copy 104 = .ok (.iload_n 3, 1) := by decide +kernel
theorem dX8_copy_105 : decode cX8_copy 105 = .ok (.iaload, 1) := by decide +kernel
theorem dX8_copy_106 : decode cX8_copy 106 = .ok (.i2l, 1) := by decide +kernel
theorem dX8_copy_107 : decode cX8_copy 107 = .ok (.lcmp, 1) := by decide +kernel
theorem dX8_copy_108 : decode cX8_copy 108 = .ok (.ifCond .le 9, 3) := by decide +kernel
theorem dX8_copy_111 : decode cX8_copy 111 = .ok (.aload_n 0, 1) := by decide +kernel
theorem dX8_copy_112 : decode cX8_copy 112 = .ok (.iconst 2, 1) := by decide +kernel
theorem dX8_copy_113 : decode cX8_copy 113 = .ok (.invokevirtual 129, 3) := by decide +kernel
theorem dX8_copy_116 : decode cX8_copy 116 = .ok (.ireturn, 1) := by decide +kernel
theorem dX8_copy_117 : decode cX8_copy 117 = .ok (.iconst 0, 1) := by decide +kernel
theorem dX8_copy_118 : decode cX8_copy 118 = .ok (.istore 6, 2) := by decide +kernel
theorem dX8_copy_120 : decode cX8_copy 120 = .ok (.iload 6, 2) := by decide +kernel
theorem dX8_copy_122 : decode cX8_copy 122 = .ok (.iload 5, 2) := by decide +kernel
theorem dX8_copy_124 : decode cX8_copy 124 = .ok (.if_icmp .ge 30, 3) := by decide +kernel
theorem dX8_copy_127 : decode cX8_copy 127 = .ok (.aload_n 0, 1) := by decide +kernel
theorem dX8_copy_128 : decode cX8_copy 128 = .ok (.getfield 102, 3) := by decide +kernel
theorem dX8_copy_131 : decode cX8_copy 131 = .ok (.iload 6, 2) := by decide +kernel
theorem dX8_copy_133 : decode cX8_copy 133 = .ok (.aload_n 0, 1) := by decide +kernel
theorem dX8_copy_134 : decode cX8_copy 134 = .ok (.getfield 99, 3) := by decide +kernel
theorem dX8_copy_137 : decode cX8_copy 137 = .ok (.bipush 60, 2) := by decide +kernel
theorem dX8_copy_139 : decode cX8_copy 139 = .ok (.iload_n 1, 1) := by decide +kernel
theorem dX8_copy_140 : decode cX8_copy 140 = .ok (.imul, 1) := by decide +kernel
theorem dX8_copy_141 : decode cX8_copy 141 = .ok (.iload_n 2, 1) := by decide +kernel
theorem dX8_copy_142 : decode cX8_copy 142 = .ok (.iadd, 1) := by decide +kernel
theorem dX8_copy_143 : decode cX8_copy 143 = .ok (.iload 6, 2) := by decide +kernel
theorem dX8_copy_145 : decode cX8_copy 145 = .ok (.iadd, 1) := by decide +kernel
theorem dX8_copy_146 : decode cX8_copy 146 = .ok (.iaload, 1) := by decide +kernel
theorem dX8_copy_147 : decode cX8_copy 147 = .ok (.iastore, 1) := by decide +kernel
theorem dX8_copy_148 : decode cX8_copy 148 = .ok (.iinc 6 1, 3) := by decide +kernel
theorem dX8_copy_151 : decode cX8_copy 151 = .ok (.goto (-31), 3) := by decide +kernel
theorem dX8_copy_154 : decode cX8_copy 154 = .ok (.iconst 0, 1) := by decide +kernel
theorem dX8_copy_155 : decode cX8_copy 155 = .ok (.istore 6, 2) := by decide +kernel
theorem dX8_copy_157 : decode cX8_copy 157 = .ok (.iload 6, 2) := by decide +kernel
theorem dX8_copy_159 : decode cX8_copy 159 = .ok (.iload 5, 2) := by decide +kernel
theorem dX8_copy_161 : decode cX8_copy 161 = .ok (.if_icmp .ge 31, 3) := by decide +kernel
theorem dX8_copy_164 : decode cX8_copy 164 = .ok (.aload_n 0, 1) := by decide +kernel
theorem dX8_copy_165 : decode cX8_copy 165 = .ok (.getfield 99, 3) := by decide +kernel
theorem dX8_copy_168 : decode cX8_copy 168 = .ok (.bipush 60, 2) := by decide +kernel
theorem dX8_copy_170 : decode cX8_copy 170 = .ok (.iload_n 3, 1) := by decide +kernel
theorem dX8_copy_171 : decode cX8_copy 171 = .ok (.imul, 1) := by decide +kernel
theorem dX8_copy_172 : decode cX8_copy 172 = .ok (.iload 4, 2) := by decide +kernel
theorem dX8_copy_174 : decode cX8_copy 174 = .ok (.iadd, 1) := by decide +kernel
theorem dX8_copy_175 : decode cX8_copy 175 = .ok (.iload 6, 2) := by decide +kernel
theorem dX8_copy_177 : decode cX8_copy 177 = .ok (.iadd, 1) := by decide +kernel
theorem dX8_copy_178 : decode cX8_copy 178 = .ok (.aload_n 0, 1) := by decide +kernel
theorem dX8_copy_179 : decode cX8_copy 179 = .ok (.getfield 102, 3) := by decide +kernel
theorem dX8_copy_182 : decode cX8_copy 182 = .ok (.iload 6, 2) := by decide +kernel
theorem dX8_copy_184 : decode cX8_copy 184 = .ok (.iaload, 1) := by decide +kernel
theorem dX8_copy_185 : decode cX8_copy 185 = .ok (.iastore, 1) := by decide +kernel
theorem dX8_copy_186 : decode cX8_copy 186 = .ok (.iinc 6 1, 3) := by decide +kernel
theorem dX8_copy_189 : decode cX8_copy 189 = .ok (.goto (-32), 3) := by decide +kernel
theorem dX8_copy_192 : decode cX8_copy 192 = .ok (.iconst 1, 1) := by decide +kernel
theorem dX8_copy_193 : decode cX8_copy 193 = .ok (.ireturn, 1) := by decide +kernel
set_option maxRecDepth 20000 in
theorem ggX8_list_X8_isSheet : GoodIn wsX8_list wsX8_isSheet := goodIn_r _ [7, 8, 9, 6, 10] (by decide +kernel) (by decide +kernel)
set_option maxRecDepth 20000 in
theorem gX8_list_X8_isSheet : GoodIn wsX8_list (va_wsS RX8 126 yX8_isSheet wsX8_isSheet) := goodIn_app (goodIn_of _ (by decide +kernel)) ggX8_list_X8_isSheet
set_option maxRecDepth 20000 in
theorem ggX8_list_X8_in : GoodIn wsX8_list wsX8_in := goodIn_r _ [10] (by decide +kernel) (by decide +kernel)
set_option maxRecDepth 20000 in
theorem gX8_list_X8_in : GoodIn wsX8_list (va_wsS RX8 108 yX8_in wsX8_in) := goodIn_app (goodIn_of _ (by decide +kernel)) ggX8_list_X8_in
set_option maxRecDepth 20000 in
theorem ggX8_list_X8_meets : GoodIn wsX8_list wsX8_meets := goodIn_r _ [14, 15, 29, 30, 31, 32, 33, 34, 35, 36, 37, 38, 39, 40, 41, 42, 43, 44, 45, 46, 47, 48, 49, 50, 51, 52, 53, 54, 55, 56, 57, 58, 59, 60, 61, 62, 63, 64, 65] (by decide +kernel) (by decide +kernel)
set_option maxRecDepth 20000 in
theorem gX8_list_X8_meets : GoodIn wsX8_list (wsV RX8 129 RX8 yX8_meets wsX8_meets) := goodIn_app (goodIn_of _ (by decide +kernel)) ggX8_list_X8_meets
set_option maxRecDepth 20000 in
theorem ggX8_list_X8_is : GoodIn wsX8_list wsX8_is := goodIn_r _ [19, 20, 21, 22, 29, 30, 31, 32, 33, 34, 35, 36, 37, 38, 39, 40, 41, 42, 43, 44, 45, 46, 47, 48, 49, 50, 51, 52, 53, 54, 55, 56, 57, 58, 59, 60, 61, 62, 63, 64, 65] (by decide +kernel) (by decide +kernel)
set_option maxRecDepth 20000 in
theorem gX8_list_X8_is : GoodIn wsX8_list (wsV RX8 122 RX8 yX8_is wsX8_is) := goodIn_app (goodIn_of _ (by decide +kernel)) ggX8_list_X8_is
set_option maxRecDepth 20000 in
theorem ggX8_list_X8_lay : GoodIn wsX8_list wsX8_lay := goodIn_r _ [26, 27, 28, 29, 30, 31, 32, 33, 34, 35, 36, 37, 38, 39, 40, 41, 42, 43, 44, 45, 46, 47, 48, 49, 50, 51, 52, 53, 54, 55, 56, 57, 58, 59, 60, 61, 62, 63, 64, 65] (by decide +kernel) (by decide +kernel)
set_option maxRecDepth 20000 in
theorem gX8_list_X8_lay : GoodIn wsX8_list (wsV RX8 179 RX8 yX8_lay wsX8_lay) := goodIn_app (goodIn_of _ (by decide +kernel)) ggX8_list_X8_lay
theorem dX8_list_0 : decode cX8_list 0 = .ok (.iload_n 1, 1) := by decide +kernel
theorem dX8_list_1 : decode cX8_list 1 = .ok (.invokestatic 126, 3) := by decide +kernel
theorem dX8_list_4 : decode cX8_list 4 = .ok (.ifCond .eq 21, 3) := by decide +kernel
theorem dX8_list_7 : decode cX8_list 7 = .ok (.iload_n 2, 1) := by decide +kernel
theorem dX8_list_8 : decode cX8_list 8 = .ok (.iconst (-1), 1) := by decide +kernel
theorem dX8_list_9 : decode cX8_list 9 = .ok (.iconst 5, 1) := by decide +kernel
theorem dX8_list_10 : decode cX8_list 10 = .ok (.invokestatic 108, 3) := by decide +kernel
theorem dX8_list_13 : decode cX8_list 13 = .ok (.ifCond .eq 12, 3) := by decide +kernel
theorem dX8_list_16 : decode cX8_list 16 = .ok (.iload_n 3, 1) := by decide +kernel
theorem dX8_list_17 : decode cX8_list 17 = .ok (.iconst 0, 1) := by decide +kernel
theorem dX8_list_18 : decode cX8_list 18 = .ok (.iconst 4, 1) := by decide +kernel
theorem dX8_list_19 : decode cX8_list 19 = .ok (.invokestatic 108, 3) := by decide +kernel
theorem dX8_list_22 : decode cX8_list 22 = .ok (.ifCond .ne 6, 3) := by decide +kernel
theorem dX8_list_25 : decode cX8_list 25 = .ok (.bipush (-2), 2) := by decide +kernel
theorem dX8_list_27 : decode cX8_list 27 = .ok (.ireturn, 1) := by decide +kernel
theorem dX8_list_28 : decode cX8_list 28 = .ok (.aload_n 0, 1) := by decide +kernel
theorem dX8_list_29 : decode cX8_list 29 = .ok (.getfield 90, 3) := by decide +kernel
theorem dX8_list_32 : decode cX8_list 32 = .ok (.iload_n 1, 1) := by decide +kernel
theorem dX8_list_33 : decode cX8_list 33 = .ok (.baload, 1) := by decide +kernel
theorem dX8_list_34 : decode cX8_list 34 = .ok (.ifCond .ne 9, 3) := by decide +kernel
theorem dX8_list_37 : decode cX8_list 37 = .ok (.aload_n 0, 1) := by decide +kernel
theorem dX8_list_38 : decode cX8_list 38 = .ok (.iconst 1, 1) := by decide +kernel
theorem dX8_list_39 : decode cX8_list 39 = .ok (.invokevirtual 129, 3) := by decide +kernel
theorem dX8_list_42 : decode cX8_list 42 = .ok (.ireturn, 1) := by decide +kernel
theorem dX8_list_43 : decode cX8_list 43 = .ok (.iconst 0, 1) := by decide +kernel
theorem dX8_list_44 : decode cX8_list 44 = .ok (.istore 4, 2) := by decide +kernel
theorem dX8_list_46 : decode cX8_list 46 = .ok (.iconst 0, 1) := by decide +kernel
theorem dX8_list_47 : decode cX8_list 47 = .ok (.istore 5, 2) := by decide +kernel
theorem dX8_list_49 : decode cX8_list 49 = .ok (.iload 5, 2) := by decide +kernel
theorem dX8_list_51 : decode cX8_list 51 = .ok (.aload_n 0, 1) := by decide +kernel
theorem dX8_list_52 : decode cX8_list 52 = .ok (.getfield 112, 3) := by decide +kernel
theorem dX8_list_55 : decode cX8_list 55 = .ok (.if_icmp .ge 44, 3) := by decide +kernel
theorem dX8_list_58 : decode cX8_list 58 = .ok (.iload 4, 2) := by decide +kernel
theorem dX8_list_60 : decode cX8_list 60 = .ok (.aload_n 0, 1) := by decide +kernel
theorem dX8_list_61 : decode cX8_list 61 = .ok (.getfield 96, 3) := by decide +kernel
theorem dX8_list_64 : decode cX8_list 64 = .ok (.iload_n 1, 1) := by decide +kernel
theorem dX8_list_65 : decode cX8_list 65 = .ok (.iaload, 1) := by decide +kernel
theorem dX8_list_66 : decode cX8_list 66 = .ok (.if_icmp .ge 33, 3) := by decide +kernel
theorem dX8_list_69 : decode cX8_list 69 = .ok (.aload_n 0, 1) := by decide +kernel
theorem dX8_list_70 : decode cX8_list 70 = .ok (.iload 5, 2) := by decide +kernel
theorem dX8_list_72 : decode cX8_list 72 = .ok (.iload_n 2, 1) := by decide +kernel
theorem dX8_list_73 : decode cX8_list 73 = .ok (.iconst (-1), 1) := by decide +kernel
theorem dX8_list_74 : decode cX8_list 74 = .ok (.iload_n 3, 1) := by decide +kernel
theorem dX8_list_75 : decode cX8_list 75 = .ok (.invokevirtual 122, 3) := by decide +kernel
theorem dX8_list_78 : decode cX8_list 78 = .ok (.ifCond .eq 15, 3) := by decide +kernel
theorem dX8_list_81 : decode cX8_list 81 = .ok (.aload_n 0, 1) := by decide +kernel
theorem dX8_list_82 : decode cX8_list 82 = .ok (.iload_n 1, 1) := by decide +kernel
theorem dX8_list_83 : decode cX8_list 83 = .ok (.iload 4, 2) := by decide +kernel
theorem dX8_list_85 : decode cX8_list 85 = .ok (.iload 5, 2) := by decide +kernel
theorem dX8_list_87 : decode cX8_list 87 = .ok (.invokevirtual 179, 3) := by decide +kernel
theorem dX8_list_90 : decode cX8_list 90 = .ok (.iinc 4 1, 3) := by decide +kernel
theorem dX8_list_93 : decode cX8_list 93 = .ok (.iinc 5 1, 3) := by decide +kernel
theorem dX8_list_96 : decode cX8_list 96 = .ok (.goto (-47), 3) := by decide +kernel
theorem dX8_list_99 : decode cX8_list 99 = .ok (.iload 4, 2) := by decide +kernel
theorem dX8_list_101 : decode cX8_list 101 = .ok (.ireturn, 1) := by decide +kernel
theorem dX8_count_0 : decode cX8_count 0 = .ok (.iload_n 1, 1) := by decide +kernel
theorem dX8_count_1 : decode cX8_count 1 = .ok (.tableswitch 87 0 7 #[47, 52, 57, 62, 67, 72, 77, 82], 47) := by decide +kernel
theorem dX8_count_48 : decode cX8_count 48 = .ok (.aload_n 0, 1) := by decide +kernel
theorem dX8_count_49 : decode cX8_count 49 = .ok (.getfield 105, 3) := by decide +kernel
theorem dX8_count_52 : decode cX8_count 52 = .ok (.ireturn, 1) := by decide +kernel
theorem dX8_count_53 : decode cX8_count 53 = .ok (.aload_n 0, 1) := by decide +kernel
theorem dX8_count_54 : decode cX8_count 54 = .ok (.getfield 112, 3) := by decide +kernel
theorem dX8_count_57 : decode cX8_count 57 = .ok (.ireturn, 1) := by decide +kernel
theorem dX8_count_58 : decode cX8_count 58 = .ok (.aload_n 0, 1) := by decide +kernel
theorem dX8_count_59 : decode cX8_count 59 = .ok (.getfield 133, 3) := by decide +kernel
theorem dX8_count_62 : decode cX8_count 62 = .ok (.ireturn, 1) := by decide +kernel
theorem dX8_count_63 : decode cX8_count 63 = .ok (.aload_n 0, 1) := by decide +kernel
theorem dX8_count_64 : decode cX8_count 64 = .ok (.getfield 56, 3) := by decide +kernel
theorem dX8_count_67 : decode cX8_count 67 = .ok (.ireturn, 1) := by decide +kernel
theorem dX8_count_68 : decode cX8_count 68 = .ok (.aload_n 0, 1) := by decide +kernel
theorem dX8_count_69 : decode cX8_count 69 = .ok (.getfield 60, 3) := by decide +kernel
theorem dX8_count_72 : decode cX8_count 72 = .ok (.ireturn, 1) := by decide +kernel
theorem dX8_count_73 : decode cX8_count 73 = .ok (.aload_n 0, 1) := by decide +kernel
theorem dX8_count_74 : decode cX8_count 74 = .ok (.getfield 63, 3) := by decide +kernel
theorem dX8_count_77 : decode cX8_count 77 = .ok (.ireturn, 1) := by decide +kernel
theorem dX8_count_78 : decode cX8_count 78 = .ok (.aload_n 0, 1) := by decide +kernel
theorem dX8_count_79 : decode cX8_count 79 = .ok (.getfield 172, 3) := by decide +kernel
theorem dX8_count_82 : decode cX8_count 82 = .ok (.ireturn, 1) := by decide +kernel
theorem dX8_count_83 : decode cX8_count 83 = .ok (.aload_n 0, 1) := by decide +kernel
theorem dX8_count_84 : decode cX8_count 84 = .ok (.getfield 169, 3) := by decide +kernel
theorem dX8_count_87 : decode cX8_count 87 = .ok (.ireturn, 1) := by decide +kernel
theorem dX8_count_88 : decode cX8_count 88 = .ok (.bipush (-2), 2) := by decide +kernel
theorem dX8_count_90 : decode cX8_count 90 = .ok (.ireturn, 1) := by decide +kernel
set_option maxRecDepth 20000 in
theorem ggX8_digest_X8_count : GoodIn wsX8_digest wsX8_count := goodIn_r _ [11, 12, 3, 4, 13, 14, 15, 16, 17, 35, 36, 37, 38, 39, 40, 41, 42, 43, 44, 45, 46, 47, 48, 49, 50, 51, 52, 53, 54, 55, 56, 57, 58, 59, 60, 61, 62, 63, 64, 65, 66, 67, 68, 69, 70, 71] (by decide +kernel) (by decide +kernel)
set_option maxRecDepth 20000 in
theorem gX8_digest_X8_count : GoodIn wsX8_digest (wsV RX8 187 RX8 yX8_count wsX8_count) := goodIn_app (goodIn_of _ (by decide +kernel)) ggX8_digest_X8_count
set_option maxRecDepth 20000 in
theorem ggX8_digest_X8_about : GoodIn wsX8_digest wsX8_about := goodIn_r _ [21, 22, 23, 24, 25, 26, 27, 28, 29, 30, 10, 31, 3, 32, 33, 34, 35, 36, 37, 38, 39, 40, 41, 42, 43, 44, 45, 46, 47, 48, 49, 50, 51, 52, 53, 54, 55, 56, 57, 58, 59, 60, 61, 62, 63, 64, 65, 66, 67, 68, 69, 70, 71] (by decide +kernel) (by decide +kernel)
set_option maxRecDepth 20000 in
theorem gX8_digest_X8_about : GoodIn wsX8_digest (wsV RX8 190 RX8 yX8_about wsX8_about) := goodIn_app (goodIn_of _ (by decide +kernel)) ggX8_digest_X8_about
theorem dX8_digest_0 : decode cX8_digest 0 = .ok (.ldc2_w 183, 3) := by decide +kernel
theorem dX8_digest_3 : decode cX8_digest 3 = .ok (.lstore_n 1, 1) := by decide +kernel
theorem dX8_digest_4 : decode cX8_digest 4 = .ok (.iconst 0, 1) := by decide +kernel
theorem dX8_digest_5 : decode cX8_digest 5 = .ok (.istore_n 3, 1) := by decide +kernel
theorem dX8_digest_6 : decode cX8_digest 6 = .ok (.iload_n 3, 1) := by decide +kernel
theorem dX8_digest_7 : decode cX8_digest 7 = .ok (.bipush 8, 2) := by decide +kernel
theorem dX8_digest_9 : decode cX8_digest 9 = .ok (.if_icmp .ge 32, 3) := by decide +kernel
theorem dX8_digest_12 : decode cX8_digest 12 = .ok (.iload_n 3, 1) := by decide +kernel
theorem dX8_digest_13 : decode cX8_digest 13 = .ok (.bipush 6, 2) := by decide +kernel
theorem dX8_digest_15 : decode cX8_digest 15 = .ok (.if_icmp .ne 7, 3) := by decide +kernel
theorem dX8_digest_18 : decode cX8_digest 18 = .ok (.lload_n 1, 1) := by decide +kernel
theorem dX8_digest_19 : decode cX8_digest 19 = .ok (.goto 15, 3) := by decide +kernel
theorem dX8_digest_22 : decode cX8_digest 22 = .ok (.ldc2_w 185, 3) := by decide +kernel
theorem dX8_digest_25 : decode cX8_digest 25 = .ok (.lload_n 1, 1) := by decide +kernel
theorem dX8_digest_26 : decode cX8_digest 26 = .ok (.lmul, 1) := by decide +kernel
theorem dX8_digest_27 : decode cX8_digest 27 = .ok (.aload_n 0, 1) := by decide +kernel
theorem dX8_digest_28 : decode cX8_digest 28 = .ok (.iload_n 3, 1) := by decide +kernel
theorem dX8_digest_29 : decode cX8_digest 29 = .ok (.invokevirtual 187, 3) := by decide +kernel
theorem dX8_digest_32 : decode cX8_digest 32 = .ok (.i2l, 1) := by decide +kernel
theorem dX8_digest_33 : decode cX8_digest 33 = .ok (.ladd, 1) := by decide +kernel
theorem dX8_digest_34 : decode cX8_digest 34 = .ok (.lstore_n 1, 1) := by decide +kernel
theorem dX8_digest_35 : decode cX8_digest 35 = .ok (.iinc 3 1, 3) := by decide +kernel
theorem dX8_digest_38 : decode cX8_digest 38 = .ok (.goto (-32), 3) := by decide +kernel
theorem dX8_digest_41 : decode cX8_digest 41 = .ok (.iconst 0, 1) := by decide +kernel
theorem dX8_digest_42 : decode cX8_digest 42 = .ok (.istore_n 3, 1) := by decide +kernel
theorem dX8_digest_43 : decode cX8_digest 43 = .ok (.iload_n 3, 1) := by decide +kernel
theorem dX8_digest_44 : decode cX8_digest 44 = .ok (.aload_n 0, 1) := by decide +kernel
theorem dX8_digest_45 : decode cX8_digest 45 = .ok (.getfield 112, 3) := by decide +kernel
theorem dX8_digest_48 : decode cX8_digest 48 = .ok (.if_icmp .ge 40, 3) := by decide +kernel
theorem dX8_digest_51 : decode cX8_digest 51 = .ok (.iconst 2, 1) := by decide +kernel
theorem dX8_digest_52 : decode cX8_digest 52 = .ok (.istore 4, 2) := by decide +kernel
theorem dX8_digest_54 : decode cX8_digest 54 = .ok (.iload 4, 2) := by decide +kernel
theorem dX8_digest_56 : decode cX8_digest 56 = .ok (.bipush 6, 2) := by decide +kernel
theorem dX8_digest_58 : decode cX8_digest 58 = .ok (.if_icmp .ge 24, 3) := by decide +kernel
theorem dX8_digest_61 : decode cX8_digest 61 = .ok (.ldc2_w 185, 3) := by decide +kernel
theorem dX8_digest_64 : decode cX8_digest 64 = .ok (.lload_n 1, 1) := by decide +kernel
theorem dX8_digest_65 : decode cX8_digest 65 = .ok (.lmul, 1) := by decide +kernel
theorem dX8_digest_66 : decode cX8_digest 66 = .ok (.aload_n 0, 1) := by decide +kernel
theorem dX8_digest_67 : decode cX8_digest 67 = .ok (.iload_n 3, 1) := by decide +kernel
theorem dX8_digest_68 : decode cX8_digest 68 = .ok (.iload 4, 2) := by decide +kernel
theorem dX8_digest_70 : decode cX8_digest 70 = .ok (.invokevirtual 190, 3) := by decide +kernel
theorem dX8_digest_73 : decode cX8_digest 73 = .ok (.i2l, 1) := by decide +kernel
theorem dX8_digest_74 : decode cX8_digest 74 = .ok (.ladd, 1) := by decide +kernel
theorem dX8_digest_75 : decode cX8_digest 75 = .ok (.lstore_n 1, 1) := by decide +kernel
theorem dX8_digest_76 : decode cX8_digest 76 = .ok (.iinc 4 1, 3) := by decide +kernel
theorem dX8_digest_79 : decode cX8_digest 79 = .ok (.goto (-25), 3) := by decide +kernel
theorem dX8_digest_82 : decode cX8_digest 82 = .ok (.iinc 3 1, 3) := by decide +kernel
theorem dX8_digest_85 : decode cX8_digest 85 = .ok (.goto (-42), 3) := by decide +kernel
theorem dX8_digest_88 : decode cX8_digest 88 = .ok (.iconst 0, 1) := by decide +kernel
theorem dX8_digest_89 : decode cX8_digest 89 = .ok (.istore_n 3, 1) := by decide +kernel
theorem dX8_digest_90 : decode cX8_digest 90 = .ok (.iload_n 3, 1) := by decide +kernel
theorem dX8_digest_91 : decode cX8_digest 91 = .ok (.aload_n 0, 1) := by decide +kernel
theorem dX8_digest_92 : decode cX8_digest 92 = .ok (.getfield 133, 3) := by decide +kernel
theorem dX8_digest_95 : decode cX8_digest 95 = .ok (.if_icmp .ge 23, 3) := by decide +kernel
theorem dX8_digest_98 : decode cX8_digest 98 = .ok (.ldc2_w 185, 3) := by decide +kernel
theorem dX8_digest_101 : decode cX8_digest 101 = .ok (.lload_n 1, 1) := by decide +kernel
theorem dX8_digest_102 : decode cX8_digest 102 = .ok (.lmul, 1) := by decide +kernel
theorem dX8_digest_103 : decode cX8_digest 103 = .ok (.aload_n 0, 1) := by decide +kernel
theorem dX8_digest_104 : decode cX8_digest 104 = .ok (.getfield 53, 3) := by decide +kernel
theorem dX8_digest_107 : decode cX8_digest 107 = .ok (.iload_n 3, 1) := by decide +kernel
theorem dX8_digest_108 : decode cX8_digest 108 = .ok (.iaload, 1) := by decide +kernel
theorem dX8_digest_109 : decode cX8_digest 109 = .ok (.i2l, 1) := by decide +kernel
theorem dX8_digest_110 : decode cX8_digest 110 = .ok (.ladd, 1) := by decide +kernel
theorem dX8_digest_111 : decode cX8_digest 111 = .ok (.lstore_n 1, 1) := by decide +kernel
theorem dX8_digest_112 : decode cX8_digest 112 = .ok (.iinc 3 1, 3) := by decide +kernel
theorem dX8_digest_115 : decode cX8_digest 115 = .ok (.goto (-25), 3) := by decide +kernel
theorem dX8_digest_118 : decode cX8_digest 118 = .ok (.iconst 0, 1) := by decide +kernel
theorem dX8_digest_119 : decode cX8_digest 119 = .ok (.istore_n 3, 1) := by decide +kernel
theorem dX8_digest_120 : decode cX8_digest 120 = .ok (.iload_n 3, 1) := by decide +kernel
theorem dX8_digest_121 : decode cX8_digest 121 = .ok (.bipush 7, 2) := by decide +kernel
theorem dX8_digest_123 : decode cX8_digest 123 = .ok (.if_icmp .ge 23, 3) := by decide +kernel
theorem dX8_digest_126 : decode cX8_digest 126 = .ok (.ldc2_w 185, 3) := by decide +kernel
theorem dX8_digest_129 : decode cX8_digest 129 = .ok (.lload_n 1, 1) := by decide +kernel
theorem dX8_digest_130 : decode cX8_digest 130 = .ok (.lmul, 1) := by decide +kernel
theorem dX8_digest_131 : decode cX8_digest 131 = .ok (.aload_n 0, 1) := by decide +kernel
theorem dX8_digest_132 : decode cX8_digest 132 = .ok (.getfield 81, 3) := by decide +kernel
theorem dX8_digest_135 : decode cX8_digest 135 = .ok (.iload_n 3, 1) := by decide +kernel
theorem dX8_digest_136 : decode cX8_digest 136 = .ok (.iaload, 1) := by decide +kernel
theorem dX8_digest_137 : decode cX8_digest 137 = .ok (.i2l, 1) := by decide +kernel
theorem dX8_digest_138 : decode cX8_digest 138 = .ok (.ladd, 1) := by decide +kernel
theorem dX8_digest_139 : decode cX8_digest 139 = .ok (.lstore_n 1, 1) := by decide +kernel
theorem dX8_digest_140 : decode cX8_digest 140 = .ok (.iinc 3 1, 3) := by decide +kernel
theorem dX8_digest_143 : decode cX8_digest 143 = .ok (.goto (-23), 3) := by decide +kernel
theorem dX8_digest_146 : decode cX8_digest 146 = .ok (.lload_n 1, 1) := by decide +kernel
theorem dX8_digest_147 : decode cX8_digest 147 = .ok (.lreturn, 1) := by decide +kernel
theorem dJ9_abs_0f7a4_0 : decode cJ9_abs_0f7a4 0 = .ok (.iload_n 0, 1) := by decide +kernel
theorem dJ9_abs_0f7a4_1 : decode cJ9_abs_0f7a4 1 = .ok (.ifCond .ge 8, 3) := by decide +kernel
theorem dJ9_abs_0f7a4_4 : decode cJ9_abs_0f7a4 4 = .ok (.iload_n 0, 1) := by decide +kernel
theorem dJ9_abs_0f7a4_5 : decode cJ9_abs_0f7a4 5 = .ok (.ineg, 1) := by decide +kernel
theorem dJ9_abs_0f7a4_6 : decode cJ9_abs_0f7a4 6 = .ok (.goto 4, 3) := by decide +kernel
theorem dJ9_abs_0f7a4_9 : decode cJ9_abs_0f7a4 9 = .ok (.iload_n 0, 1) := by decide +kernel
theorem dJ9_abs_0f7a4_10 : decode cJ9_abs_0f7a4 10 = .ok (.ireturn, 1) := by decide +kernel
theorem dJ9_max_7cf53_0 : decode cJ9_max_7cf53 0 = .ok (.iload_n 0, 1) := by decide +kernel
theorem dJ9_max_7cf53_1 : decode cJ9_max_7cf53 1 = .ok (.iload_n 1, 1) := by decide +kernel
theorem dJ9_max_7cf53_2 : decode cJ9_max_7cf53 2 = .ok (.if_icmp .lt 7, 3) := by decide +kernel
theorem dJ9_max_7cf53_5 : decode cJ9_max_7cf53 5 = .ok (.iload_n 0, 1) := by decide +kernel
theorem dJ9_max_7cf53_6 : decode cJ9_max_7cf53 6 = .ok (.goto 4, 3) := by decide +kernel
theorem dJ9_max_7cf53_9 : decode cJ9_max_7cf53 9 = .ok (.iload_n 1, 1) := by decide +kernel
theorem dJ9_max_7cf53_10 : decode cJ9_max_7cf53 10 = .ok (.ireturn, 1) := by decide +kernel
end
section
set_option maxRecDepth 20000 in
theorem ggL_law_X7_init : GoodIn wsL_law wsX7_init := goodIn_r _ [8, 9, 10, 11, 12, 13, 14, 15, 16, 17, 18, 19, 20, 21, 22, 23, 24, 25, 26, 27, 28, 29, 30, 31, 32, 33, 34, 35, 36, 37, 38, 39, 40, 41, 42, 43, 44, 45, 46, 47, 48, 49, 50, 51, 52, 53, 54, 55, 56, 57, 58, 59, 60, 61, 62, 63, 64, 65, 66, 67, 68, 69, 70, 71, 72, 73, 74, 75, 76, 77, 78, 79, 80, 81, 82, 83, 84, 85, 86, 87, 88, 89, 90, 91, 92, 93, 94, 95, 96, 97, 98, 99, 100, 101, 102, 103, 104, 105, 106, 107, 108, 109, 110, 111, 112, 113, 114, 115, 116, 117, 118, 119, 120, 121, 807, 808, 809, 810, 811, 812, 763, 764, 765, 766, 767, 768, 769, 813, 814, 815, 816, 817, 818, 819, 820, 821, 822, 823, 824, 825, 826, 827, 828, 829, 830, 831, 832, 833, 834, 835, 836, 837, 838, 839, 840, 841, 842, 843, 844, 845, 846, 847] (by decide +kernel) (by decide +kernel)
set_option maxRecDepth 20000 in
theorem gL_law_X7_init : GoodIn wsL_law (wsX7_init) := ggL_law_X7_init
set_option maxRecDepth 20000 in
theorem ggL_law_X8_init : GoodIn wsL_law wsX8_init := goodIn_r _ [124, 125, 10, 11, 53, 126, 127, 128, 129, 130, 131, 132, 133, 134, 135, 136, 137, 138, 139, 140, 141, 142, 143, 144, 145, 146, 147, 148, 149, 150, 151, 152, 153, 154, 155, 156, 157, 770, 771, 772, 773, 774, 775, 776, 777, 778, 779, 780, 781, 782, 783, 784, 785, 786, 787, 788, 789, 790, 791, 792, 793, 794, 795, 796, 797, 798, 799, 800, 801, 802, 803, 804, 805, 806] (by decide +kernel) (by decide +kernel)
set_option maxRecDepth 20000 in
theorem gL_law_X8_init : GoodIn wsL_law (wsX8_init) := ggL_law_X8_init
set_option maxRecDepth 20000 in
theorem ggL_law_X7_kind : GoodIn wsL_law wsX7_kind := goodIn_r _ [161, 15, 162, 163, 2, 164, 165, 166, 167, 14, 168, 44, 40, 45, 46, 47, 48, 169, 170, 171, 43, 172, 54, 763, 764, 765, 766, 767, 768, 769, 807, 808, 809, 810, 811, 812, 847] (by decide +kernel) (by decide +kernel)
set_option maxRecDepth 20000 in
theorem gL_law_X7_kind : GoodIn wsL_law (wsV RL 13 RX7 yX7_kind wsX7_kind) := goodIn_app (goodIn_of _ (by decide +kernel)) ggL_law_X7_kind
set_option maxRecDepth 20000 in
theorem ggL_law_X8_kind : GoodIn wsL_law wsX8_kind := goodIn_r _ [176, 177, 126, 127, 129, 130, 131, 178, 179, 5, 180, 770, 771, 772, 773, 774, 775, 776, 777, 778, 779, 780, 781, 782, 783, 784, 785, 786, 787, 788, 789, 790, 791, 792, 793, 794, 795, 796, 797, 798, 799, 800, 801, 802, 803, 804, 805, 806] (by decide +kernel) (by decide +kernel)
set_option maxRecDepth 20000 in
theorem gL_law_X8_kind : GoodIn wsL_law (wsV RL 17 RX8 yX8_kind wsX8_kind) := goodIn_app (goodIn_of _ (by decide +kernel)) ggL_law_X8_kind
set_option maxRecDepth 20000 in
theorem ggL_law_X7_piece : GoodIn wsL_law wsX7_piece := goodIn_r _ [184, 19, 185, 186, 187, 2, 188, 15, 162, 163, 164, 189, 190, 191, 192, 193, 194, 18, 195, 60, 58, 61, 62, 63, 64, 65, 196, 170, 171, 43, 172, 54, 763, 764, 765, 766, 767, 768, 769, 813, 814, 815, 816, 817, 818, 819, 807, 808, 809, 810, 811, 812, 847] (by decide +kernel) (by decide +kernel)
set_option maxRecDepth 20000 in
theorem gL_law_X7_piece : GoodIn wsL_law (wsV RL 18 RX7 yX7_piece wsX7_piece) := goodIn_app (goodIn_of _ (by decide +kernel)) ggL_law_X7_piece
set_option maxRecDepth 20000 in
theorem ggL_law_X8_piece : GoodIn wsL_law wsX8_piece := goodIn_r _ [200, 201, 132, 133, 134, 135, 137, 202, 203, 204, 5, 205, 177, 178, 179, 180, 770, 771, 772, 773, 774, 775, 776, 777, 778, 779, 780, 781, 782, 783, 784, 785, 786, 787, 788, 789, 790, 791, 792, 793, 794, 795, 796, 797, 798, 799, 800, 801, 802, 803, 804, 805, 806] (by decide +kernel) (by decide +kernel)
set_option maxRecDepth 20000 in
theorem gL_law_X8_piece : GoodIn wsL_law (wsV RL 22 RX8 yX8_piece wsX8_piece) := goodIn_app (goodIn_of _ (by decide +kernel)) ggL_law_X8_piece
set_option maxRecDepth 20000 in
theorem ggL_law_X7_about : GoodIn wsL_law wsX7_about := goodIn_r _ [209, 19, 210, 211, 212, 2, 213, 162, 163, 164, 214, 215, 216, 43, 217, 54, 763, 764, 765, 766, 767, 768, 769, 813, 814, 815, 816, 817, 818, 819, 847] (by decide +kernel) (by decide +kernel)
set_option maxRecDepth 20000 in
theorem gL_law_X7_about : GoodIn wsL_law (wsV RL 23 RX7 yX7_about wsX7_about) := goodIn_app (goodIn_of _ (by decide +kernel)) ggL_law_X7_about
set_option maxRecDepth 20000 in
theorem ggL_law_X8_about : GoodIn wsL_law wsX8_about := goodIn_r _ [221, 132, 133, 134, 135, 136, 137, 222, 223, 224, 5, 225, 201, 178, 179, 180, 770, 771, 772, 773, 774, 775, 776, 777, 778, 779, 780, 781, 782, 783, 784, 785, 786, 787, 788, 789, 790, 791, 792, 793, 794, 795, 796, 797, 798, 799, 800, 801, 802, 803, 804, 805, 806] (by decide +kernel) (by decide +kernel)
set_option maxRecDepth 20000 in
theorem gL_law_X8_about : GoodIn wsL_law (wsV RL 27 RX8 yX8_about wsX8_about) := goodIn_app (goodIn_of _ (by decide +kernel)) ggL_law_X8_about
set_option maxRecDepth 20000 in
theorem ggL_law_X7_chip : GoodIn wsL_law wsX7_chip := goodIn_r _ [229, 19, 210, 211, 212, 2, 213, 162, 163, 164, 230, 170, 171, 43, 172, 54, 763, 764, 765, 766, 767, 768, 769, 813, 814, 815, 816, 817, 818, 819, 847] (by decide +kernel) (by decide +kernel)
set_option maxRecDepth 20000 in
theorem gL_law_X7_chip : GoodIn wsL_law (wsV RL 28 RX7 yX7_chip wsX7_chip) := goodIn_app (goodIn_of _ (by decide +kernel)) ggL_law_X7_chip
set_option maxRecDepth 20000 in
theorem ggL_law_X8_chip : GoodIn wsL_law wsX8_chip := goodIn_r _ [234, 134, 222, 223, 224, 5, 225, 201, 178, 179, 180, 770, 771, 772, 773, 774, 775, 776, 777, 778, 779, 780, 781, 782, 783, 784, 785, 786, 787, 788, 789, 790, 791, 792, 793, 794, 795, 796, 797, 798, 799, 800, 801, 802, 803, 804, 805, 806] (by decide +kernel) (by decide +kernel)
set_option maxRecDepth 20000 in
theorem gL_law_X8_chip : GoodIn wsL_law (wsV RL 32 RX8 yX8_chip wsX8_chip) := goodIn_app (goodIn_of _ (by decide +kernel)) ggL_law_X8_chip
set_option maxRecDepth 20000 in
theorem ggL_law_X7_lost : GoodIn wsL_law wsX7_lost := goodIn_r _ [238, 19, 210, 211, 212, 2, 213, 162, 163, 164, 214, 215, 216, 43, 217, 54, 230, 170, 171, 172, 763, 764, 765, 766, 767, 768, 769, 813, 814, 815, 816, 817, 818, 819, 847] (by decide +kernel) (by decide +kernel)
set_option maxRecDepth 20000 in
theorem gL_law_X7_lost : GoodIn wsL_law (wsV RL 33 RX7 yX7_lost wsX7_lost) := goodIn_app (goodIn_of _ (by decide +kernel)) ggL_law_X7_lost
set_option maxRecDepth 20000 in
theorem ggL_law_X8_lost : GoodIn wsL_law wsX8_lost := goodIn_r _ [242, 135, 222, 223, 224, 5, 225, 201, 178, 179, 180, 770, 771, 772, 773, 774, 775, 776, 777, 778, 779, 780, 781, 782, 783, 784, 785, 786, 787, 788, 789, 790, 791, 792, 793, 794, 795, 796, 797, 798, 799, 800, 801, 802, 803, 804, 805, 806] (by decide +kernel) (by decide +kernel)
set_option maxRecDepth 20000 in
theorem gL_law_X8_lost : GoodIn wsL_law (wsV RL 37 RX8 yX8_lost wsX8_lost) := goodIn_app (goodIn_of _ (by decide +kernel)) ggL_law_X8_lost
set_option maxRecDepth 20000 in
theorem ggL_law_X7_again : GoodIn wsL_law wsX7_again := goodIn_r _ [246, 247, 248, 249, 2, 250, 19, 210, 211, 212, 213, 162, 163, 164, 214, 215, 216, 43, 217, 54, 230, 170, 171, 172, 763, 764, 765, 766, 767, 768, 769, 813, 814, 815, 816, 817, 818, 819, 847] (by decide +kernel) (by decide +kernel)
set_option maxRecDepth 20000 in
theorem gL_law_X7_again : GoodIn wsL_law (wsV RL 38 RX7 yX7_again wsX7_again) := goodIn_app (goodIn_of _ (by decide +kernel)) ggL_law_X7_again
set_option maxRecDepth 20000 in
theorem ggL_law_X8_again : GoodIn wsL_law wsX8_again := goodIn_r _ [254, 135, 222, 223, 224, 5, 225, 201, 178, 179, 180, 770, 771, 772, 773, 774, 775, 776, 777, 778, 779, 780, 781, 782, 783, 784, 785, 786, 787, 788, 789, 790, 791, 792, 793, 794, 795, 796, 797, 798, 799, 800, 801, 802, 803, 804, 805, 806] (by decide +kernel) (by decide +kernel)
set_option maxRecDepth 20000 in
theorem gL_law_X8_again : GoodIn wsL_law (wsV RL 41 RX8 yX8_again wsX8_again) := goodIn_app (goodIn_of _ (by decide +kernel)) ggL_law_X8_again
set_option maxRecDepth 20000 in
theorem ggL_law_X7_pieces : GoodIn wsL_law wsX7_pieces := goodIn_r _ [258, 19, 259, 260, 2, 261, 189, 190, 191, 162, 163, 164, 262, 263, 264, 265, 185, 186, 187, 188, 15, 266, 267, 268, 269, 270, 271, 18, 272, 58, 273, 274, 275, 276, 63, 61, 60, 277, 215, 216, 43, 217, 54, 763, 764, 765, 766, 767, 768, 769, 807, 808, 809, 810, 811, 812, 813, 814, 815, 816, 817, 818, 819, 847] (by decide +kernel) (by decide +kernel)
set_option maxRecDepth 20000 in
theorem gL_law_X7_pieces : GoodIn wsL_law (wsV RL 42 RX7 yX7_pieces wsX7_pieces) := goodIn_app (goodIn_of _ (by decide +kernel)) ggL_law_X7_pieces
set_option maxRecDepth 20000 in
theorem ggL_law_X8_pieces : GoodIn wsL_law wsX8_pieces := goodIn_r _ [281, 201, 178, 179, 5, 180, 202, 203, 204, 205, 177, 282, 283, 284, 285, 135, 133, 132, 770, 771, 772, 773, 774, 775, 776, 777, 778, 779, 780, 781, 782, 783, 784, 785, 786, 787, 788, 789, 790, 791, 792, 793, 794, 795, 796, 797, 798, 799, 800, 801, 802, 803, 804, 805, 806] (by decide +kernel) (by decide +kernel)
set_option maxRecDepth 20000 in
theorem gL_law_X8_pieces : GoodIn wsL_law (wsV RL 46 RX8 yX8_pieces wsX8_pieces) := goodIn_app (goodIn_of _ (by decide +kernel)) ggL_law_X8_pieces
set_option maxRecDepth 20000 in
theorem ggL_law_X7_scan : GoodIn wsL_law wsX7_scan := goodIn_r _ [289, 35, 19, 290, 291, 2, 292, 162, 163, 164, 293, 294, 295, 34, 296, 114, 297, 215, 216, 43, 217, 54, 298, 299, 300, 301, 36, 302, 303, 304, 305, 115, 306, 307, 308, 309, 116, 210, 211, 212, 213, 214, 247, 248, 249, 250, 230, 170, 171, 172, 763, 764, 765, 766, 767, 768, 769, 813, 814, 815, 816, 817, 818, 819, 844, 845, 846, 847] (by decide +kernel) (by decide +kernel)
set_option maxRecDepth 20000 in
theorem gL_law_X7_scan : GoodIn wsL_law (wsV RL 47 RX7 yX7_scan wsX7_scan) := goodIn_app (goodIn_of _ (by decide +kernel)) ggL_law_X7_scan
set_option maxRecDepth 20000 in
theorem ggL_law_X8_scan : GoodIn wsL_law wsX8_scan := goodIn_r _ [313, 153, 155, 156, 135, 134, 314, 315, 5, 316, 178, 179, 180, 317, 318, 319, 320, 321, 222, 223, 224, 225, 201, 770, 771, 772, 773, 774, 775, 776, 777, 778, 779, 780, 781, 782, 783, 784, 785, 786, 787, 788, 789, 790, 791, 792, 793, 794, 795, 796, 797, 798, 799, 800, 801, 802, 803, 804, 805, 806] (by decide +kernel) (by decide +kernel)
set_option maxRecDepth 20000 in
theorem gL_law_X8_scan : GoodIn wsL_law (wsV RL 50 RX8 yX8_scan wsX8_scan) := goodIn_app (goodIn_of _ (by decide +kernel)) ggL_law_X8_scan
set_option maxRecDepth 20000 in
theorem ggL_law_X7_hand : GoodIn wsL_law wsX7_hand := goodIn_r _ [325, 247, 248, 249, 2, 250, 19, 210, 211, 212, 213, 162, 163, 164, 214, 215, 216, 43, 217, 54, 230, 170, 171, 172, 763, 764, 765, 766, 767, 768, 769, 813, 814, 815, 816, 817, 818, 819, 847] (by decide +kernel) (by decide +kernel)
set_option maxRecDepth 20000 in
theorem gL_law_X7_hand : GoodIn wsL_law (wsV RL 51 RX7 yX7_hand wsX7_hand) := goodIn_app (goodIn_of _ (by decide +kernel)) ggL_law_X7_hand
set_option maxRecDepth 20000 in
theorem ggL_law_X8_hand : GoodIn wsL_law wsX8_hand := goodIn_r _ [329, 135, 222, 223, 224, 5, 225, 201, 178, 179, 180, 770, 771, 772, 773, 774, 775, 776, 777, 778, 779, 780, 781, 782, 783, 784, 785, 786, 787, 788, 789, 790, 791, 792, 793, 794, 795, 796, 797, 798, 799, 800, 801, 802, 803, 804, 805, 806] (by decide +kernel) (by decide +kernel)
set_option maxRecDepth 20000 in
theorem gL_law_X8_hand : GoodIn wsL_law (wsV RL 54 RX8 yX8_hand wsX8_hand) := goodIn_app (goodIn_of _ (by decide +kernel)) ggL_law_X8_hand
set_option maxRecDepth 20000 in
theorem ggL_law_X7_batch : GoodIn wsL_law wsX7_batch := goodIn_r _ [333, 23, 19, 185, 186, 187, 2, 188, 15, 162, 163, 164, 259, 260, 261, 189, 190, 191, 334, 335, 336, 18, 337, 58, 63, 65, 273, 274, 275, 276, 61, 60, 277, 215, 216, 43, 217, 54, 196, 170, 171, 172, 338, 339, 340, 22, 341, 73, 71, 74, 75, 342, 763, 764, 765, 766, 767, 768, 769, 820, 821, 822, 823, 824, 807, 808, 809, 810, 811, 812, 813, 814, 815, 816, 817, 818, 819, 847] (by decide +kernel) (by decide +kernel)
set_option maxRecDepth 20000 in
theorem gL_law_X7_batch : GoodIn wsL_law (wsV RL 55 RX7 yX7_batch wsX7_batch) := goodIn_app (goodIn_of _ (by decide +kernel)) ggL_law_X7_batch
set_option maxRecDepth 20000 in
theorem ggL_law_X8_batch : GoodIn wsL_law wsX8_batch := goodIn_r _ [346, 347, 201, 140, 135, 137, 138, 139, 141, 202, 203, 204, 5, 205, 177, 178, 179, 180, 282, 283, 284, 285, 133, 132, 770, 771, 772, 773, 774, 775, 776, 777, 778, 779, 780, 781, 782, 783, 784, 785, 786, 787, 788, 789, 790, 791, 792, 793, 794, 795, 796, 797, 798, 799, 800, 801, 802, 803, 804, 805, 806] (by decide +kernel) (by decide +kernel)
set_option maxRecDepth 20000 in
theorem gL_law_X8_batch : GoodIn wsL_law (wsV RL 58 RX8 yX8_batch wsX8_batch) := goodIn_app (goodIn_of _ (by decide +kernel)) ggL_law_X8_batch
set_option maxRecDepth 20000 in
theorem ggL_law_X7_at : GoodIn wsL_law wsX7_at := goodIn_r _ [351, 23, 352, 353, 354, 2, 355, 162, 163, 164, 214, 215, 216, 43, 217, 54, 763, 764, 765, 766, 767, 768, 769, 820, 821, 822, 823, 824, 847] (by decide +kernel) (by decide +kernel)
set_option maxRecDepth 20000 in
theorem gL_law_X7_at : GoodIn wsL_law (wsV RL 59 RX7 yX7_at wsX7_at) := goodIn_app (goodIn_of _ (by decide +kernel)) ggL_law_X7_at
set_option maxRecDepth 20000 in
theorem ggL_law_X8_at : GoodIn wsL_law wsX8_at := goodIn_r _ [359, 347, 141, 178, 179, 5, 180, 770, 771, 772, 773, 774, 775, 776, 777, 778, 779, 780, 781, 782, 783, 784, 785, 786, 787, 788, 789, 790, 791, 792, 793, 794, 795, 796, 797, 798, 799, 800, 801, 802, 803, 804, 805, 806] (by decide +kernel) (by decide +kernel)
set_option maxRecDepth 20000 in
theorem gL_law_X8_at : GoodIn wsL_law (wsV RL 62 RX8 yX8_at wsX8_at) := goodIn_app (goodIn_of _ (by decide +kernel)) ggL_law_X8_at
set_option maxRecDepth 20000 in
theorem ggL_law_X7_of : GoodIn wsL_law wsX7_of := goodIn_r _ [363, 23, 19, 162, 163, 2, 164, 214, 215, 216, 43, 217, 54, 364, 365, 366, 18, 367, 58, 65, 277, 368, 369, 370, 22, 371, 71, 75, 372, 763, 764, 765, 766, 767, 768, 769, 820, 821, 822, 823, 824, 847, 813, 814, 815, 816, 817, 818, 819] (by decide +kernel) (by decide +kernel)
set_option maxRecDepth 20000 in
theorem gL_law_X7_of : GoodIn wsL_law (wsV RL 63 RX7 yX7_of wsX7_of) := goodIn_app (goodIn_of _ (by decide +kernel)) ggL_law_X7_of
set_option maxRecDepth 20000 in
theorem ggL_law_X8_of : GoodIn wsL_law wsX8_of := goodIn_r _ [376, 347, 138, 139, 140, 178, 179, 5, 180, 377, 378, 379, 380, 141, 770, 771, 772, 773, 774, 775, 776, 777, 778, 779, 780, 781, 782, 783, 784, 785, 786, 787, 788, 789, 790, 791, 792, 793, 794, 795, 796, 797, 798, 799, 800, 801, 802, 803, 804, 805, 806] (by decide +kernel) (by decide +kernel)
set_option maxRecDepth 20000 in
theorem gL_law_X8_of : GoodIn wsL_law (wsV RL 66 RX8 yX8_of wsX8_of) := goodIn_app (goodIn_of _ (by decide +kernel)) ggL_law_X8_of
set_option maxRecDepth 20000 in
theorem ggL_law_X7_swap : GoodIn wsL_law wsX7_swap := goodIn_r _ [384, 23, 352, 353, 354, 2, 355, 162, 163, 164, 214, 215, 216, 43, 217, 54, 230, 170, 171, 172, 763, 764, 765, 766, 767, 768, 769, 820, 821, 822, 823, 824, 847] (by decide +kernel) (by decide +kernel)
set_option maxRecDepth 20000 in
theorem gL_law_X7_swap : GoodIn wsL_law (wsV RL 67 RX7 yX7_swap wsX7_swap) := goodIn_app (goodIn_of _ (by decide +kernel)) ggL_law_X7_swap
set_option maxRecDepth 20000 in
theorem ggL_law_X8_swap : GoodIn wsL_law wsX8_swap := goodIn_r _ [388, 347, 141, 178, 179, 5, 180, 770, 771, 772, 773, 774, 775, 776, 777, 778, 779, 780, 781, 782, 783, 784, 785, 786, 787, 788, 789, 790, 791, 792, 793, 794, 795, 796, 797, 798, 799, 800, 801, 802, 803, 804, 805, 806] (by decide +kernel) (by decide +kernel)
set_option maxRecDepth 20000 in
theorem gL_law_X8_swap : GoodIn wsL_law (wsV RL 70 RX8 yX8_swap wsX8_swap) := goodIn_app (goodIn_of _ (by decide +kernel)) ggL_law_X8_swap
set_option maxRecDepth 20000 in
theorem ggL_law_X7_undo : GoodIn wsL_law wsX7_undo := goodIn_r _ [392, 23, 19, 214, 215, 216, 43, 217, 54, 393, 394, 395, 18, 396, 58, 65, 63, 277, 196, 170, 171, 172, 397, 398, 399, 22, 400, 71, 73, 74, 75, 372, 342, 763, 764, 765, 766, 767, 768, 769, 820, 821, 822, 823, 824, 847, 813, 814, 815, 816, 817, 818, 819] (by decide +kernel) (by decide +kernel)
set_option maxRecDepth 20000 in
theorem gL_law_X7_undo : GoodIn wsL_law (wsV RL 71 RX7 yX7_undo wsX7_undo) := goodIn_app (goodIn_of _ (by decide +kernel)) ggL_law_X7_undo
set_option maxRecDepth 20000 in
theorem ggL_law_X8_undo : GoodIn wsL_law wsX8_undo := goodIn_r _ [404, 347, 141, 139, 140, 135, 137, 138, 770, 771, 772, 773, 774, 775, 776, 777, 778, 779, 780, 781, 782, 783, 784, 785, 786, 787, 788, 789, 790, 791, 792, 793, 794, 795, 796, 797, 798, 799, 800, 801, 802, 803, 804, 805, 806] (by decide +kernel) (by decide +kernel)
set_option maxRecDepth 20000 in
theorem gL_law_X8_undo : GoodIn wsL_law (wsV RL 75 RX8 yX8_undo wsX8_undo) := goodIn_app (goodIn_of _ (by decide +kernel)) ggL_law_X8_undo
set_option maxRecDepth 20000 in
theorem ggL_law_X7_between : GoodIn wsL_law wsX7_between := goodIn_r _ [408, 15, 185, 186, 187, 2, 188, 162, 163, 164, 409, 410, 411, 14, 412, 45, 413, 414, 415, 416, 44, 417, 418, 419, 46, 420, 215, 216, 43, 217, 54, 763, 764, 765, 766, 767, 768, 769, 807, 808, 809, 810, 811, 812, 847] (by decide +kernel) (by decide +kernel)
set_option maxRecDepth 20000 in
theorem gL_law_X7_between : GoodIn wsL_law (wsV RL 76 RX7 yX7_between wsX7_between) := goodIn_app (goodIn_of _ (by decide +kernel)) ggL_law_X7_between
set_option maxRecDepth 20000 in
theorem ggL_law_X8_between : GoodIn wsL_law wsX8_between := goodIn_r _ [424, 202, 203, 204, 5, 205, 177, 178, 179, 180, 425, 426, 427, 428, 127, 126, 129, 770, 771, 772, 773, 774, 775, 776, 777, 778, 779, 780, 781, 782, 783, 784, 785, 786, 787, 788, 789, 790, 791, 792, 793, 794, 795, 796, 797, 798, 799, 800, 801, 802, 803, 804, 805, 806] (by decide +kernel) (by decide +kernel)
set_option maxRecDepth 20000 in
theorem gL_law_X8_between : GoodIn wsL_law (wsV RL 79 RX8 yX8_between wsX8_between) := goodIn_app (goodIn_of _ (by decide +kernel)) ggL_law_X8_between
set_option maxRecDepth 20000 in
theorem ggL_law_X7_empties : GoodIn wsL_law wsX7_empties := goodIn_r _ [432, 23, 433, 434, 435, 22, 436, 71, 437, 438, 439, 440, 75, 372, 215, 216, 43, 217, 54, 441, 442, 443, 444, 76, 73, 445, 410, 411, 14, 412, 45, 413, 414, 415, 416, 44, 417, 418, 419, 46, 420, 763, 764, 765, 766, 767, 768, 769, 820, 821, 822, 823, 824, 847, 807, 808, 809, 810, 811, 812] (by decide +kernel) (by decide +kernel)
set_option maxRecDepth 20000 in
theorem gL_law_X7_empties : GoodIn wsL_law (wsV RL 80 RX7 yX7_empties wsX7_empties) := goodIn_app (goodIn_of _ (by decide +kernel)) ggL_law_X7_empties
set_option maxRecDepth 20000 in
theorem ggL_law_X8_empties : GoodIn wsL_law wsX8_empties := goodIn_r _ [449, 347, 141, 450, 451, 452, 5, 453, 138, 425, 426, 427, 428, 127, 126, 129, 770, 771, 772, 773, 774, 775, 776, 777, 778, 779, 780, 781, 782, 783, 784, 785, 786, 787, 788, 789, 790, 791, 792, 793, 794, 795, 796, 797, 798, 799, 800, 801, 802, 803, 804, 805, 806] (by decide +kernel) (by decide +kernel)
set_option maxRecDepth 20000 in
theorem gL_law_X8_empties : GoodIn wsL_law (wsV RL 83 RX8 yX8_empties wsX8_empties) := goodIn_app (goodIn_of _ (by decide +kernel)) ggL_law_X8_empties
set_option maxRecDepth 20000 in
theorem ggL_law_X7_plan : GoodIn wsL_law wsX7_plan := goodIn_r _ [457, 23, 27, 458, 459, 460, 26, 461, 85, 462, 463, 464, 465, 83, 466, 442, 443, 22, 444, 76, 73, 372, 215, 216, 43, 217, 54, 445, 410, 411, 14, 412, 45, 413, 414, 415, 416, 44, 417, 418, 419, 46, 420, 467, 170, 171, 172, 468, 469, 470, 471, 84, 472, 473, 474, 475, 476, 477, 478, 479, 480, 433, 434, 435, 436, 71, 437, 438, 439, 440, 75, 441, 763, 764, 765, 766, 767, 768, 769, 820, 821, 822, 823, 824, 825, 826, 827, 847, 807, 808, 809, 810, 811, 812] (by decide +kernel) (by decide +kernel)
set_option maxRecDepth 20000 in
theorem gL_law_X7_plan : GoodIn wsL_law (wsV RL 84 RX7 yX7_plan wsX7_plan) := goodIn_app (goodIn_of _ (by decide +kernel)) ggL_law_X7_plan
set_option maxRecDepth 20000 in
theorem ggL_law_X8_plan : GoodIn wsL_law wsX8_plan := goodIn_r _ [484, 347, 145, 485, 141, 450, 451, 452, 5, 453, 138, 425, 426, 427, 428, 127, 126, 129, 770, 771, 772, 773, 774, 775, 776, 777, 778, 779, 780, 781, 782, 783, 784, 785, 786, 787, 788, 789, 790, 791, 792, 793, 794, 795, 796, 797, 798, 799, 800, 801, 802, 803, 804, 805, 806] (by decide +kernel) (by decide +kernel)
set_option maxRecDepth 20000 in
theorem gL_law_X8_plan : GoodIn wsL_law (wsV RL 87 RX8 yX8_plan wsX8_plan) := goodIn_app (goodIn_of _ (by decide +kernel)) ggL_law_X8_plan
set_option maxRecDepth 20000 in
theorem ggL_law_X7_greedy : GoodIn wsL_law wsX7_greedy := goodIn_r _ [489, 23, 490, 491, 492, 22, 493, 71, 75, 372, 215, 216, 43, 217, 54, 494, 495, 496, 497, 441, 442, 443, 444, 76, 73, 445, 410, 411, 14, 412, 45, 413, 414, 415, 416, 44, 417, 418, 419, 46, 420, 342, 170, 171, 172, 433, 434, 435, 436, 437, 438, 439, 440, 763, 764, 765, 766, 767, 768, 769, 820, 821, 822, 823, 824, 847, 807, 808, 809, 810, 811, 812] (by decide +kernel) (by decide +kernel)
set_option maxRecDepth 20000 in
theorem gL_law_X7_greedy : GoodIn wsL_law (wsV RL 88 RX7 yX7_greedy wsX7_greedy) := goodIn_app (goodIn_of _ (by decide +kernel)) ggL_law_X7_greedy
set_option maxRecDepth 20000 in
theorem ggL_law_X8_greedy : GoodIn wsL_law wsX8_greedy := goodIn_r _ [501, 347, 141, 450, 451, 452, 5, 453, 138, 425, 426, 427, 428, 127, 126, 129, 502, 447, 448, 449, 770, 771, 772, 773, 774, 775, 776, 777, 778, 779, 780, 781, 782, 783, 784, 785, 786, 787, 788, 789, 790, 791, 792, 793, 794, 795, 796, 797, 798, 799, 800, 801, 802, 803, 804, 805, 806] (by decide +kernel) (by decide +kernel)
set_option maxRecDepth 20000 in
theorem gL_law_X8_greedy : GoodIn wsL_law (wsV RL 91 RX8 yX8_greedy wsX8_greedy) := goodIn_app (goodIn_of _ (by decide +kernel)) ggL_law_X8_greedy
set_option maxRecDepth 20000 in
theorem ggL_law_X7_tunnel : GoodIn wsL_law wsX7_tunnel := goodIn_r _ [506, 31, 162, 163, 2, 164, 763, 764, 765, 766, 767, 768, 769, 828, 829, 830, 831, 832, 833, 834, 835, 836, 837, 838, 839, 840, 841, 842, 843] (by decide +kernel) (by decide +kernel)
set_option maxRecDepth 20000 in
theorem gL_law_X7_tunnel : GoodIn wsL_law (wsV RL 92 RX7 yX7_tunnel wsX7_tunnel) := goodIn_app (goodIn_of _ (by decide +kernel)) ggL_law_X7_tunnel
set_option maxRecDepth 20000 in
theorem ggL_law_X8_tunnel : GoodIn wsL_law wsX8_tunnel := goodIn_r _ [510, 142, 143, 144, 178, 179, 5, 180, 770, 771, 772, 773, 774, 775, 776, 777, 778, 779, 780, 781, 782, 783, 784, 785, 786, 787, 788, 789, 790, 791, 792, 793, 794, 795, 796, 797, 798, 799, 800, 801, 802, 803, 804, 805, 806] (by decide +kernel) (by decide +kernel)
set_option maxRecDepth 20000 in
theorem gL_law_X8_tunnel : GoodIn wsL_law (wsV RL 95 RX8 yX8_tunnel wsX8_tunnel) := goodIn_app (goodIn_of _ (by decide +kernel)) ggL_law_X8_tunnel
set_option maxRecDepth 20000 in
theorem ggL_law_X7_wash : GoodIn wsL_law wsX7_wash := goodIn_r _ [514, 23, 31, 19, 515, 516, 517, 30, 518, 107, 97, 105, 519, 94, 520, 521, 522, 523, 95, 96, 104, 100, 101, 102, 524, 119, 120, 43, 121, 54, 525, 526, 527, 528, 103, 529, 215, 216, 217, 530, 438, 439, 22, 440, 75, 372, 441, 442, 443, 444, 76, 73, 445, 410, 411, 14, 412, 45, 413, 414, 415, 416, 44, 417, 418, 419, 46, 420, 531, 532, 533, 534, 99, 535, 170, 171, 172, 536, 537, 538, 539, 540, 541, 542, 543, 544, 545, 546, 547, 91, 106, 548, 549, 550, 551, 552, 553, 554, 555, 92, 556, 557, 558, 559, 560, 561, 562, 563, 564, 565, 566, 567, 568, 569, 570, 571, 572, 573, 574, 575, 576, 577, 578, 579, 580, 581, 582, 583, 584, 585, 586, 587, 588, 589, 590, 591, 592, 93, 593, 594, 595, 18, 596, 58, 63, 65, 64, 277, 196, 763, 764, 765, 766, 767, 768, 769, 820, 821, 822, 823, 824, 828, 829, 830, 831, 832, 833, 834, 835, 836, 837, 838, 839, 840, 841, 842, 843, 847, 807, 808, 809, 810, 811, 812, 813, 814, 815, 816, 817, 818, 819] (by decide +kernel) (by decide +kernel)
set_option maxRecDepth 20000 in
theorem gL_law_X7_wash : GoodIn wsL_law (wsV RL 96 RX7 yX7_wash wsX7_wash) := goodIn_app (goodIn_of _ (by decide +kernel)) ggL_law_X7_wash
set_option maxRecDepth 20000 in
theorem ggL_law_X8_wash : GoodIn wsL_law wsX8_wash := goodIn_r _ [600, 347, 141, 146, 147, 148, 601, 142, 130, 151, 150, 139, 201, 135, 137, 136, 602, 450, 451, 452, 5, 453, 138, 425, 426, 427, 428, 127, 126, 129, 603, 604, 605, 606, 607, 608, 609, 610, 143, 611, 612, 613, 614, 152, 615, 616, 617, 618, 619, 620, 621, 622, 144, 149, 131, 502, 447, 448, 449, 770, 771, 772, 773, 774, 775, 776, 777, 778, 779, 780, 781, 782, 783, 784, 785, 786, 787, 788, 789, 790, 791, 792, 793, 794, 795, 796, 797, 798, 799, 800, 801, 802, 803, 804, 805, 806] (by decide +kernel) (by decide +kernel)
set_option maxRecDepth 20000 in
theorem gL_law_X8_wash : GoodIn wsL_law (wsV RL 99 RX8 yX8_wash wsX8_wash) := goodIn_app (goodIn_of _ (by decide +kernel)) ggL_law_X8_wash
set_option maxRecDepth 20000 in
theorem ggL_law_X7_washed : GoodIn wsL_law wsX7_washed := goodIn_r _ [626, 31, 162, 163, 2, 164, 214, 215, 216, 43, 217, 54, 763, 764, 765, 766, 767, 768, 769, 828, 829, 830, 831, 832, 833, 834, 835, 836, 837, 838, 839, 840, 841, 842, 843, 847] (by decide +kernel) (by decide +kernel)
set_option maxRecDepth 20000 in
theorem gL_law_X7_washed : GoodIn wsL_law (wsV RL 100 RX7 yX7_washed wsX7_washed) := goodIn_app (goodIn_of _ (by decide +kernel)) ggL_law_X7_washed
set_option maxRecDepth 20000 in
theorem ggL_law_X8_washed : GoodIn wsL_law wsX8_washed := goodIn_r _ [630, 150, 178, 179, 5, 180, 770, 771, 772, 773, 774, 775, 776, 777, 778, 779, 780, 781, 782, 783, 784, 785, 786, 787, 788, 789, 790, 791, 792, 793, 794, 795, 796, 797, 798, 799, 800, 801, 802, 803, 804, 805, 806] (by decide +kernel) (by decide +kernel)
set_option maxRecDepth 20000 in
theorem gL_law_X8_washed : GoodIn wsL_law (wsV RL 103 RX8 yX8_washed wsX8_washed) := goodIn_app (goodIn_of _ (by decide +kernel)) ggL_law_X8_washed
set_option maxRecDepth 20000 in
theorem ggL_law_X7_run : GoodIn wsL_law wsX7_run := goodIn_r _ [634, 31, 214, 215, 216, 43, 217, 54, 162, 163, 2, 164, 635, 549, 550, 30, 551, 104, 529, 763, 764, 765, 766, 767, 768, 769, 828, 829, 830, 831, 832, 833, 834, 835, 836, 837, 838, 839, 840, 841, 842, 843, 847] (by decide +kernel) (by decide +kernel)
set_option maxRecDepth 20000 in
theorem gL_law_X7_run : GoodIn wsL_law (wsV RL 104 RX7 yX7_run wsX7_run) := goodIn_app (goodIn_of _ (by decide +kernel)) ggL_law_X7_run
set_option maxRecDepth 20000 in
theorem ggL_law_X8_run : GoodIn wsL_law wsX8_run := goodIn_r _ [639, 601, 151, 178, 179, 5, 180, 770, 771, 772, 773, 774, 775, 776, 777, 778, 779, 780, 781, 782, 783, 784, 785, 786, 787, 788, 789, 790, 791, 792, 793, 794, 795, 796, 797, 798, 799, 800, 801, 802, 803, 804, 805, 806] (by decide +kernel) (by decide +kernel)
set_option maxRecDepth 20000 in
theorem gL_law_X8_run : GoodIn wsL_law (wsV RL 107 RX8 yX8_run wsX8_run) := goodIn_app (goodIn_of _ (by decide +kernel)) ggL_law_X8_run
set_option maxRecDepth 20000 in
theorem ggL_law_X7_pack : GoodIn wsL_law wsX7_pack := goodIn_r _ [643, 19, 189, 190, 2, 191, 162, 163, 164, 185, 186, 187, 188, 15, 269, 270, 271, 18, 272, 58, 273, 274, 275, 276, 63, 61, 60, 277, 215, 216, 43, 217, 54, 644, 645, 646, 647, 196, 170, 171, 172, 763, 764, 765, 766, 767, 768, 769, 807, 808, 809, 810, 811, 812, 813, 814, 815, 816, 817, 818, 819, 847] (by decide +kernel) (by decide +kernel)
set_option maxRecDepth 20000 in
theorem gL_law_X7_pack : GoodIn wsL_law (wsV RL 108 RX7 yX7_pack wsX7_pack) := goodIn_app (goodIn_of _ (by decide +kernel)) ggL_law_X7_pack
set_option maxRecDepth 20000 in
theorem ggL_law_X8_pack : GoodIn wsL_law wsX8_pack := goodIn_r _ [651, 201, 135, 178, 179, 5, 180, 202, 203, 204, 205, 177, 282, 283, 284, 285, 133, 132, 770, 771, 772, 773, 774, 775, 776, 777, 778, 779, 780, 781, 782, 783, 784, 785, 786, 787, 788, 789, 790, 791, 792, 793, 794, 795, 796, 797, 798, 799, 800, 801, 802, 803, 804, 805, 806] (by decide +kernel) (by decide +kernel)
set_option maxRecDepth 20000 in
theorem gL_law_X8_pack : GoodIn wsL_law (wsV RL 111 RX8 yX8_pack wsX8_pack) := goodIn_app (goodIn_of _ (by decide +kernel)) ggL_law_X8_pack
set_option maxRecDepth 20000 in
theorem ggL_law_X7_sheet : GoodIn wsL_law wsX7_sheet := goodIn_r _ [655, 35, 290, 291, 2, 292, 162, 163, 164, 656, 657, 658, 298, 299, 300, 301, 36, 659, 660, 661, 34, 662, 114, 115, 116, 663, 170, 171, 43, 172, 54, 763, 764, 765, 766, 767, 768, 769, 844, 845, 846, 847] (by decide +kernel) (by decide +kernel)
set_option maxRecDepth 20000 in
theorem gL_law_X7_sheet : GoodIn wsL_law (wsV RL 112 RX7 yX7_sheet wsX7_sheet) := goodIn_app (goodIn_of _ (by decide +kernel)) ggL_law_X7_sheet
set_option maxRecDepth 20000 in
theorem ggL_law_X8_sheet : GoodIn wsL_law wsX8_sheet := goodIn_r _ [667, 153, 154, 155, 156, 314, 315, 5, 316, 178, 179, 180, 317, 318, 319, 320, 321, 770, 771, 772, 773, 774, 775, 776, 777, 778, 779, 780, 781, 782, 783, 784, 785, 786, 787, 788, 789, 790, 791, 792, 793, 794, 795, 796, 797, 798, 799, 800, 801, 802, 803, 804, 805, 806] (by decide +kernel) (by decide +kernel)
set_option maxRecDepth 20000 in
theorem gL_law_X8_sheet : GoodIn wsL_law (wsV RL 115 RX8 yX8_sheet wsX8_sheet) := goodIn_app (goodIn_of _ (by decide +kernel)) ggL_law_X8_sheet
set_option maxRecDepth 20000 in
theorem ggL_law_X7_lose : GoodIn wsL_law wsX7_lose := goodIn_r _ [671, 35, 290, 291, 2, 292, 162, 163, 164, 293, 294, 295, 34, 296, 114, 297, 215, 216, 43, 217, 54, 298, 299, 300, 301, 36, 214, 659, 660, 661, 662, 115, 116, 663, 170, 171, 172, 763, 764, 765, 766, 767, 768, 769, 844, 845, 846, 847] (by decide +kernel) (by decide +kernel)
set_option maxRecDepth 20000 in
theorem gL_law_X7_lose : GoodIn wsL_law (wsV RL 116 RX7 yX7_lose wsX7_lose) := goodIn_app (goodIn_of _ (by decide +kernel)) ggL_law_X7_lose
set_option maxRecDepth 20000 in
theorem ggL_law_X8_lose : GoodIn wsL_law wsX8_lose := goodIn_r _ [675, 153, 155, 314, 315, 5, 316, 178, 179, 180, 317, 318, 319, 320, 321, 770, 771, 772, 773, 774, 775, 776, 777, 778, 779, 780, 781, 782, 783, 784, 785, 786, 787, 788, 789, 790, 791, 792, 793, 794, 795, 796, 797, 798, 799, 800, 801, 802, 803, 804, 805, 806] (by decide +kernel) (by decide +kernel)
set_option maxRecDepth 20000 in
theorem gL_law_X8_lose : GoodIn wsL_law (wsV RL 119 RX8 yX8_lose wsX8_lose) := goodIn_app (goodIn_of _ (by decide +kernel)) ggL_law_X8_lose
set_option maxRecDepth 20000 in
theorem ggL_law_X7_put : GoodIn wsL_law wsX7_put := goodIn_r _ [679, 35, 290, 291, 2, 292, 162, 163, 164, 656, 657, 658, 680, 681, 682, 34, 683, 114, 115, 684, 294, 295, 296, 297, 215, 216, 43, 217, 54, 298, 299, 300, 301, 36, 685, 686, 687, 688, 116, 689, 690, 691, 663, 170, 171, 172, 763, 764, 765, 766, 767, 768, 769, 844, 845, 846, 847] (by decide +kernel) (by decide +kernel)
set_option maxRecDepth 20000 in
theorem gL_law_X7_put : GoodIn wsL_law (wsV RL 120 RX7 yX7_put wsX7_put) := goodIn_app (goodIn_of _ (by decide +kernel)) ggL_law_X7_put
set_option maxRecDepth 20000 in
theorem ggL_law_X8_put : GoodIn wsL_law wsX8_put := goodIn_r _ [695, 314, 315, 5, 316, 178, 179, 180, 696, 697, 698, 699, 153, 154, 155, 317, 318, 319, 320, 321, 700, 701, 702, 703, 156, 770, 771, 772, 773, 774, 775, 776, 777, 778, 779, 780, 781, 782, 783, 784, 785, 786, 787, 788, 789, 790, 791, 792, 793, 794, 795, 796, 797, 798, 799, 800, 801, 802, 803, 804, 805, 806] (by decide +kernel) (by decide +kernel)
set_option maxRecDepth 20000 in
theorem gL_law_X8_put : GoodIn wsL_law (wsV RL 124 RX8 yX8_put wsX8_put) := goodIn_app (goodIn_of _ (by decide +kernel)) ggL_law_X8_put
set_option maxRecDepth 20000 in
theorem ggL_law_X7_get : GoodIn wsL_law wsX7_get := goodIn_r _ [707, 708, 35, 36, 290, 291, 2, 292, 162, 163, 164, 656, 657, 658, 680, 681, 682, 34, 683, 114, 115, 684, 294, 295, 296, 297, 215, 216, 43, 217, 54, 306, 307, 308, 309, 116, 763, 764, 765, 766, 767, 768, 769, 844, 845, 846, 847] (by decide +kernel) (by decide +kernel)
set_option maxRecDepth 20000 in
theorem gL_law_X7_get : GoodIn wsL_law (wsV RL 125 RX7 yX7_get wsX7_get) := goodIn_app (goodIn_of _ (by decide +kernel)) ggL_law_X7_get
set_option maxRecDepth 20000 in
theorem ggL_law_X8_get : GoodIn wsL_law wsX8_get := goodIn_r _ [712, 713, 321, 156, 314, 315, 5, 316, 178, 179, 180, 696, 697, 698, 699, 153, 154, 155, 770, 771, 772, 773, 774, 775, 776, 777, 778, 779, 780, 781, 782, 783, 784, 785, 786, 787, 788, 789, 790, 791, 792, 793, 794, 795, 796, 797, 798, 799, 800, 801, 802, 803, 804, 805, 806] (by decide +kernel) (by decide +kernel)
set_option maxRecDepth 20000 in
theorem gL_law_X8_get : GoodIn wsL_law (wsV RL 128 RX8 yX8_get wsX8_get) := goodIn_app (goodIn_of _ (by decide +kernel)) ggL_law_X8_get
set_option maxRecDepth 20000 in
theorem ggL_law_X7_copy : GoodIn wsL_law wsX7_copy := goodIn_r _ [717, 35, 290, 291, 2, 292, 162, 163, 164, 293, 294, 295, 34, 296, 114, 297, 215, 216, 43, 217, 54, 298, 299, 300, 301, 36, 214, 302, 303, 304, 305, 115, 718, 719, 720, 721, 722, 307, 308, 309, 116, 723, 686, 687, 688, 689, 690, 691, 663, 170, 171, 172, 763, 764, 765, 766, 767, 768, 769, 844, 845, 846, 847] (by decide +kernel) (by decide +kernel)
set_option maxRecDepth 20000 in
theorem gL_law_X7_copy : GoodIn wsL_law (wsV RL 129 RX7 yX7_copy wsX7_copy) := goodIn_app (goodIn_of _ (by decide +kernel)) ggL_law_X7_copy
set_option maxRecDepth 20000 in
theorem ggL_law_X8_copy : GoodIn wsL_law wsX8_copy := goodIn_r _ [727, 153, 154, 155, 157, 156, 314, 315, 5, 316, 178, 179, 180, 317, 318, 319, 320, 321, 770, 771, 772, 773, 774, 775, 776, 777, 778, 779, 780, 781, 782, 783, 784, 785, 786, 787, 788, 789, 790, 791, 792, 793, 794, 795, 796, 797, 798, 799, 800, 801, 802, 803, 804, 805, 806] (by decide +kernel) (by decide +kernel)
set_option maxRecDepth 20000 in
theorem gL_law_X8_copy : GoodIn wsL_law (wsV RL 133 RX8 yX8_copy wsX8_copy) := goodIn_app (goodIn_of _ (by decide +kernel)) ggL_law_X8_copy
set_option maxRecDepth 20000 in
theorem ggL_law_X7_list : GoodIn wsL_law wsX7_list := goodIn_r _ [731, 35, 19, 290, 291, 2, 292, 162, 163, 164, 259, 260, 261, 189, 190, 191, 266, 267, 268, 293, 294, 295, 34, 296, 114, 297, 215, 216, 43, 217, 54, 298, 299, 300, 301, 36, 214, 732, 274, 275, 18, 276, 63, 61, 60, 277, 685, 686, 687, 688, 116, 689, 690, 691, 663, 170, 171, 172, 763, 764, 765, 766, 767, 768, 769, 844, 845, 846, 813, 814, 815, 816, 817, 818, 819, 847] (by decide +kernel) (by decide +kernel)
set_option maxRecDepth 20000 in
theorem gL_law_X7_list : GoodIn wsL_law (wsV RL 134 RX7 yX7_list wsX7_list) := goodIn_app (goodIn_of _ (by decide +kernel)) ggL_law_X7_list
set_option maxRecDepth 20000 in
theorem ggL_law_X8_list : GoodIn wsL_law wsX8_list := goodIn_r _ [736, 153, 201, 155, 314, 315, 5, 316, 178, 179, 180, 317, 318, 319, 320, 321, 282, 283, 284, 285, 135, 133, 132, 700, 701, 702, 703, 156, 154, 770, 771, 772, 773, 774, 775, 776, 777, 778, 779, 780, 781, 782, 783, 784, 785, 786, 787, 788, 789, 790, 791, 792, 793, 794, 795, 796, 797, 798, 799, 800, 801, 802, 803, 804, 805, 806] (by decide +kernel) (by decide +kernel)
set_option maxRecDepth 20000 in
theorem gL_law_X8_list : GoodIn wsL_law (wsV RL 137 RX8 yX8_list wsX8_list) := goodIn_app (goodIn_of _ (by decide +kernel)) ggL_law_X8_list
set_option maxRecDepth 20000 in
theorem ggL_law_X7_count : GoodIn wsL_law wsX7_count := goodIn_r _ [740, 15, 19, 23, 31, 36, 763, 764, 765, 766, 767, 768, 769, 807, 808, 809, 810, 811, 812, 813, 814, 815, 816, 817, 818, 819, 820, 821, 822, 823, 824, 828, 829, 830, 831, 832, 833, 834, 835, 836, 837, 838, 839, 840, 841, 842, 843] (by decide +kernel) (by decide +kernel)
set_option maxRecDepth 20000 in
theorem gL_law_X7_count : GoodIn wsL_law (wsV RL 138 RX7 yX7_count wsX7_count) := goodIn_app (goodIn_of _ (by decide +kernel)) ggL_law_X7_count
set_option maxRecDepth 20000 in
theorem ggL_law_X8_count : GoodIn wsL_law wsX8_count := goodIn_r _ [744, 177, 201, 347, 142, 143, 144, 321, 602, 770, 771, 772, 773, 774, 775, 776, 777, 778, 779, 780, 781, 782, 783, 784, 785, 786, 787, 788, 789, 790, 791, 792, 793, 794, 795, 796, 797, 798, 799, 800, 801, 802, 803, 804, 805, 806] (by decide +kernel) (by decide +kernel)
set_option maxRecDepth 20000 in
theorem gL_law_X8_count : GoodIn wsL_law (wsV RL 141 RX8 yX8_count wsX8_count) := goodIn_app (goodIn_of _ (by decide +kernel)) ggL_law_X8_count
set_option maxRecDepth 20000 in
theorem ggL_law_X7_digest : GoodIn wsL_law wsX7_digest := goodIn_r _ [748, 749, 750, 19, 23, 751, 738, 739, 2, 740, 15, 31, 36, 752, 207, 208, 209, 210, 211, 212, 213, 162, 163, 164, 214, 215, 216, 43, 217, 54, 753, 349, 350, 351, 352, 353, 354, 355, 754, 624, 625, 626, 763, 764, 765, 766, 767, 768, 769, 813, 814, 815, 816, 817, 818, 819, 820, 821, 822, 823, 824, 807, 808, 809, 810, 811, 812, 828, 829, 830, 831, 832, 833, 834, 835, 836, 837, 838, 839, 840, 841, 842, 843, 847] (by decide +kernel) (by decide +kernel)
set_option maxRecDepth 20000 in
theorem gL_law_X7_digest : GoodIn wsL_law (wsV RL 142 RX7 yX7_digest wsX7_digest) := goodIn_app (goodIn_of _ (by decide +kernel)) ggL_law_X7_digest
set_option maxRecDepth 20000 in
theorem ggL_law_X8_digest : GoodIn wsL_law wsX8_digest := goodIn_r _ [758, 759, 760, 201, 347, 141, 150, 761, 742, 743, 5, 744, 177, 142, 143, 144, 321, 602, 762, 219, 220, 221, 132, 133, 134, 135, 136, 137, 222, 223, 224, 225, 178, 179, 180, 770, 771, 772, 773, 774, 775, 776, 777, 778, 779, 780, 781, 782, 783, 784, 785, 786, 787, 788, 789, 790, 791, 792, 793, 794, 795, 796, 797, 798, 799, 800, 801, 802, 803, 804, 805, 806] (by decide +kernel) (by decide +kernel)
set_option maxRecDepth 20000 in
theorem gL_law_X8_digest : GoodIn wsL_law (wsV RL 146 RX8 yX8_digest wsX8_digest) := goodIn_app (goodIn_of _ (by decide +kernel)) ggL_law_X8_digest
theorem dL_law_0 : decode cL_law 0 = .ok (.new 7, 3) := by decide +kernel
theorem dL_law_3 : decode cL_law 3 = .ok (.dup, 1) := by decide +kernel
theorem dL_law_4 : decode cL_law 4 = .ok (.invokespecial 9, 3) := by decide +kernel
theorem dL_law_7 : decode cL_law 7 = .ok (.astore_n 1, 1) := by decide +kernel
theorem dL_law_8 : decode cL_law 8 = .ok (.new 10, 3) := by decide +kernel
theorem dL_law_11 : decode cL_law 11 = .ok (.dup, 1) := by decide +kernel
theorem dL_law_12 : decode cL_law 12 = .ok (.invokespecial 12, 3) := by decide +kernel
theorem dL_law_15 : decode cL_law 15 = .ok (.astore_n 2, 1) := by decide +kernel
theorem dL_law_16 : decode cL_law 16 = .ok (.iconst 0, 1) := by decide +kernel
theorem dL_law_17 : decode cL_law 17 = .ok (.istore_n 3, 1) := by decide +kernel
theorem dL_law_18 : decode cL_law 18 = .ok (.iload_n 3, 1) := by decide +kernel
theorem dL_law_19 : decode cL_law 19 = .ok (.aload_n 0, 1) := by decide +kernel
theorem dL_law_20 : decode cL_law 20 = .ok (.arraylength, 1) := by decide +kernel
theorem dL_law_21 : decode cL_law 21 = .ok (.bipush 6, 2) := by decide +kernel
theorem dL_law_23 : decode cL_law 23 = .ok (.isub, 1) := by decide +kernel
theorem dL_law_24 : decode cL_law 24 = .ok (.if_icmp .gt 1196, 3) := by decide +kernel
theorem dL_law_27 : decode cL_law 27 = .ok (.aload_n 0, 1) := by decide +kernel
theorem dL_law_28 : decode cL_law 28 = .ok (.iload_n 3, 1) := by decide +kernel
theorem dL_law_29 : decode cL_law 29 = .ok (.iaload, 1) := by decide +kernel
theorem dL_law_30 : decode cL_law 30 = .ok (.bipush 31, 2) := by decide +kernel
theorem dL_law_32 : decode cL_law 32 = .ok (.iand, 1) := by decide +kernel
theorem dL_law_33 : decode cL_law 33 = .ok (.tableswitch 1181 0 30 #[139, 218, 277, 310, 359, 382, 405, 448, 481, 504, 547, 570, 603, 636, 649, 682, 695, 708, 721, 764, 777, 800, 833, 876, 919, 942, 995, 1038, 1101, 1144, 1167], 139) := by decide +kernel
theorem dL_law_172 : decode cL_law 172 = .ok (.aload_n 1, 1) := by decide +kernel
theorem dL_law_173 : decode cL_law 173 = .ok (.aload_n 0, 1) := by decide +kernel
theorem dL_law_174 : decode cL_law 174 = .ok (.iload_n 3, 1) := by decide +kernel
theorem dL_law_175 : decode cL_law 175 = .ok (.iconst 1, 1) := by decide +kernel
theorem dL_law_176 : decode cL_law 176 = .ok (.iadd, 1) := by decide +kernel
theorem dL_law_177 : decode cL_law 177 = .ok (.iaload, 1) := by decide +kernel
theorem dL_law_178 : decode cL_law 178 = .ok (.aload_n 0, 1) := by decide +kernel
theorem dL_law_179 : decode cL_law 179 = .ok (.iload_n 3, 1) := by decide +kernel
theorem dL_law_180 : decode cL_law 180 = .ok (.iconst 2, 1) := by decide +kernel
theorem dL_law_181 : decode cL_law 181 = .ok (.iadd, 1) := by decide +kernel
theorem dL_law_182 : decode cL_law 182 = .ok (.iaload, 1) := by decide +kernel
theorem dL_law_183 : decode cL_law 183 = .ok (.aload_n 0, 1) := by decide +kernel
theorem dL_law_184 : decode cL_law 184 = .ok (.iload_n 3, 1) := by decide +kernel
theorem dL_law_185 : decode cL_law 185 = .ok (.iconst 3, 1) := by decide +kernel
theorem dL_law_186 : decode cL_law 186 = .ok (.iadd, 1) := by decide +kernel
theorem dL_law_187 : decode cL_law 187 = .ok (.iaload, 1) := by decide +kernel
theorem dL_law_188 : decode cL_law 188 = .ok (.ifCond .eq 7, 3) := by decide +kernel
theorem dL_law_191 : decode cL_law 191 = .ok (.iconst 1, 1) := by decide +kernel
theorem dL_law_192 : decode cL_law 192 = .ok (.goto 4, 3) := by decide +kernel
theorem dL_law_195 : decode cL_law 195 = .ok (.iconst 0, 1) := by decide +kernel
theorem dL_law_196 : decode cL_law 196 = .ok (.aload_n 0, 1) := by decide +kernel
theorem dL_law_197 : decode cL_law 197 = .ok (.iload_n 3, 1) := by decide +kernel
theorem dL_law_198 : decode cL_law 198 = .ok (.iconst 4, 1) := by decide +kernel
theorem dL_law_199 : decode cL_law 199 = .ok (.iadd, 1) := by decide +kernel
theorem dL_law_200 : decode cL_law 200 = .ok (.iaload, 1) := by decide +kernel
theorem dL_law_201 : decode cL_law 201 = .ok (.aload_n 0, 1) := by decide +kernel
theorem dL_law_202 : decode cL_law 202 = .ok (.iload_n 3, 1) := by decide +kernel
theorem dL_law_203 : decode cL_law 203 = .ok (.iconst 5, 1) := by decide +kernel
theorem dL_law_204 : decode cL_law 204 = .ok (.iadd, 1) := by decide +kernel
theorem dL_law_205 : decode cL_law 205 = .ok (.iaload, 1) := by decide +kernel
theorem dL_law_206 : decode cL_law 206 = .ok (.invokevirtual 13, 3) := by decide +kernel
theorem dL_law_209 : decode cL_law 209 = .ok (.aload_n 2, 1) := by decide +kernel
theorem dL_law_210 : decode cL_law 210 = .ok (.aload_n 0, 1) := by decide +kernel
theorem dL_law_211 : decode cL_law 211 = .ok (.iload_n 3, 1) := by decide +kernel
theorem dL_law_212 : decode cL_law 212 = .ok (.iconst 1, 1) := by decide +kernel
theorem dL_law_213 : decode cL_law 213 = .ok (.iadd, 1) := by decide +kernel
theorem dL_law_214 : decode cL_law 214 = .ok (.iaload, 1) := by decide +kernel
theorem dL_law_215 : decode cL_law 215 = .ok (.aload_n 0, 1) := by decide +kernel
theorem dL_law_216 : decode cL_law 216 = .ok (.iload_n 3, 1) := by decide +kernel
theorem dL_law_217 : decode cL_law 217 = .ok (.iconst 2, 1) := by decide +kernel
theorem dL_law_218 : decode cL_law 218 = .ok (.iadd, 1) := by decide +kernel
theorem dL_law_219 : decode cL_law 219 = .ok (.iaload, 1) := by decide +kernel
theorem dL_law_220 : decode cL_law 220 = .ok (.aload_n 0, 1) := by decide +kernel
theorem dL_law_221 : decode cL_law 221 = .ok (.iload_n 3, 1) := by decide +kernel
theorem dL_law_222 : decode cL_law 222 = .ok (.iconst 3, 1) := by decide +kernel
theorem dL_law_223 : decode cL_law 223 = .ok (.iadd, 1) := by decide +kernel
theorem dL_law_224 : decode cL_law 224 = .ok (.iaload, 1) := by decide +kernel
theorem dL_law_225 : decode cL_law 225 = .ok (.ifCond .eq 7, 3) := by decide +kernel
theorem dL_law_228 : decode cL_law 228 = .ok (.iconst 1, 1) := by decide +kernel
theorem dL_law_229 : decode cL_law 229 = .ok (.goto 4, 3) := by decide +kernel
theorem dL_law_232 : decode cL_law 232 = .ok (.iconst 0, 1) := by decide +kernel
theorem dL_law_233 : decode cL_law 233 = .ok (.aload_n 0, 1) := by decide +kernel
theorem dL_law_234 : decode cL_law 234 = .ok (.iload_n 3, 1) := by decide +kernel
theorem dL_law_235 : decode cL_law 235 = .ok (.iconst 4, 1) := by decide +kernel
theorem dL_law_236 : decode cL_law 236 = .ok (.iadd, 1) := by decide +kernel
theorem dL_law_237 : decode cL_law 237 = .ok (.iaload, 1) := by decide +kernel
theorem dL_law_238 : decode cL_law 238 = .ok (.aload_n 0, 1) := by decide +kernel
theorem dL_law_239 : decode cL_law 239 = .ok (.iload_n 3, 1) := by decide +kernel
theorem dL_law_240 : decode cL_law 240 = .ok (.iconst 5, 1) := by decide +kernel
theorem dL_law_241 : decode cL_law 241 = .ok (.iadd, 1) := by decide +kernel
theorem dL_law_242 : decode cL_law 242 = .ok (.iaload, 1) := by decide +kernel
theorem dL_law_243 : decode cL_law 243 = .ok (.invokevirtual 17, 3) := by decide +kernel
theorem dL_law_246 : decode cL_law 246 = .ok (.if_icmp .eq 968, 3) := by decide +kernel
theorem dL_law_249 : decode cL_law 249 = .ok (.iconst 0, 1) := by decide +kernel
theorem dL_law_250 : decode cL_law 250 = .ok (.ireturn, 1) := by decide +kernel
theorem dL_law_251 : decode cL_law 251 = .ok (.aload_n 1, 1) := by decide +kernel
theorem dL_law_252 : decode cL_law 252 = .ok (.aload_n 0, 1) := by decide +kernel
theorem dL_law_253 : decode cL_law 253 = .ok (.iload_n 3, 1) := by decide +kernel
theorem dL_law_254 : decode cL_law 254 = .ok (.iconst 1, 1) := by decide +kernel
theorem dL_law_255 : decode cL_law 255 = .ok (.iadd, 1) := by decide +kernel
theorem dL_law_256 : decode cL_law 256 = .ok (.iaload, 1) := by decide +kernel
theorem dL_law_257 : decode cL_law 257 = .ok (.aload_n 0, 1) := by decide +kernel
theorem dL_law_258 : decode cL_law 258 = .ok (.iload_n 3, 1) := by decide +kernel
theorem dL_law_259 : decode cL_law 259 = .ok (.iconst 2, 1) := by decide +kernel
theorem dL_law_260 : decode cL_law 260 = .ok (.iadd, 1) := by decide +kernel
theorem dL_law_261 : decode cL_law 261 = .ok (.iaload, 1) := by decide +kernel
theorem dL_law_262 : decode cL_law 262 = .ok (.aload_n 0, 1) := by decide +kernel
theorem dL_law_263 : decode cL_law 263 = .ok (.iload_n 3, 1) := by decide +kernel
theorem dL_law_264 : decode cL_law 264 = .ok (.iconst 3, 1) := by decide +kernel
theorem dL_law_265 : decode cL_law 265 = .ok (.iadd, 1) := by decide +kernel
theorem dL_law_266 : decode cL_law 266 = .ok (.iaload, 1) := by decide +kernel
theorem dL_law_267 : decode cL_law 267 = .ok (.ifCond .eq 7, 3) := by decide +kernel
theorem dL_law_270 : decode cL_law 270 = .ok (.iconst 1, 1) := by decide +kernel
theorem dL_law_271 : decode cL_law 271 = .ok (.goto 4, 3) := by decide +kernel
theorem dL_law_274 : decode cL_law 274 = .ok (.iconst 0, 1) := by decide +kernel
theorem dL_law_275 : decode cL_law 275 = .ok (.invokevirtual 18, 3) := by decide +kernel
theorem dL_law_278 : decode cL_law 278 = .ok (.aload_n 2, 1) := by decide +kernel
theorem dL_law_279 : decode cL_law 279 = .ok (.aload_n 0, 1) := by decide +kernel
theorem dL_law_280 : decode cL_law 280 = .ok (.iload_n 3, 1) := by decide +kernel
theorem dL_law_281 : decode cL_law 281 = .ok (.iconst 1, 1) := by decide +kernel
theorem dL_law_282 : decode cL_law 282 = .ok (.iadd, 1) := by decide +kernel
theorem dL_law_283 : decode cL_law 283 = .ok (.iaload, 1) := by decide +kernel
theorem dL_law_284 : decode cL_law 284 = .ok (.aload_n 0, 1) := by decide +kernel
theorem dL_law_285 : decode cL_law 285 = .ok (.iload_n 3, 1) := by decide +kernel
theorem dL_law_286 : decode cL_law 286 = .ok (.iconst 2, 1) := by decide +kernel
theorem dL_law_287 : decode cL_law 287 = .ok (.iadd, 1) := by decide +kernel
theorem dL_law_288 : decode cL_law 288 = .ok (.iaload, 1) := by decide +kernel
theorem dL_law_289 : decode cL_law 289 = .ok (.aload_n 0, 1) := by decide +kernel
theorem dL_law_290 : decode cL_law 290 = .ok (.iload_n 3, 1) := by decide +kernel
theorem dL_law_291 : decode cL_law 291 = .ok (.iconst 3, 1) := by decide +kernel
theorem dL_law_292 : decode cL_law 292 = .ok (.iadd, 1) := by decide +kernel
theorem dL_law_293 : decode cL_law 293 = .ok (.iaload, 1) := by decide +kernel
theorem dL_law_294 : decode cL_law 294 = .ok (.ifCond .eq 7, 3) := by decide +kernel
theorem dL_law_297 : decode cL_law 297 = .ok (.iconst 1, 1) := by decide +kernel
theorem dL_law_298 : decode cL_law 298 = .ok (.goto 4, 3) := by decide +kernel
theorem dL_law_301 : decode cL_law 301 = .ok (.iconst 0, 1) := by decide +kernel
theorem dL_law_302 : decode cL_law 302 = .ok (.invokevirtual 22, 3) := by decide +kernel
theorem dL_law_305 : decode cL_law 305 = .ok (.if_icmp .eq 909, 3) := by decide +kernel
theorem dL_law_308 : decode cL_law 308 = .ok (.iconst 0, 1) := by decide +kernel
theorem dL_law_309 : decode cL_law 309 = .ok (.ireturn, 1) := by decide +kernel
theorem dL_law_310 : decode cL_law 310 = .ok (.aload_n 1, 1) := by decide +kernel
theorem dL_law_311 : decode cL_law 311 = .ok (.aload_n 0, 1) := by decide +kernel
theorem dL_law_312 : decode cL_law 312 = .ok (.iload_n 3, 1) := by decide +kernel
theorem dL_law_313 : decode cL_law 313 = .ok (.iconst 1, 1) := by decide +kernel
theorem dL_law_314 : decode cL_law 314 = .ok (.iadd, 1) := by decide +kernel
theorem dL_law_315 : decode cL_law 315 = .ok (.iaload, 1) := by decide +kernel
theorem dL_law_316 : decode cL_law 316 = .ok (.aload_n 0, 1) := by decide +kernel
theorem dL_law_317 : decode cL_law 317 = .ok (.iload_n 3, 1) := by decide +kernel
theorem dL_law_318 : decode cL_law 318 = .ok (.iconst 2, 1) := by decide +kernel
theorem dL_law_319 : decode cL_law 319 = .ok (.iadd, 1) := by decide +kernel
theorem dL_law_320 : decode cL_law 320 = .ok (.iaload, 1) := by decide +kernel
theorem dL_law_321 : decode cL_law 321 = .ok (.invokevirtual 23, 3) := by decide +kernel
theorem dL_law_324 : decode cL_law 324 = .ok (.aload_n 2, 1) := by decide +kernel
theorem dL_law_325 : decode cL_law 325 = .ok (.aload_n 0, 1) := by decide +kernel
theorem dL_law_326 : decode cL_law 326 = .ok (.iload_n 3, 1) := by decide +kernel
theorem dL_law_327 : decode cL_law 327 = .ok (.iconst 1, 1) := by decide +kernel
theorem dL_law_328 : decode cL_law 328 = .ok (.iadd, 1) := by decide +kernel
theorem dL_law_329 : decode cL_law 329 = .ok (.iaload, 1) := by decide +kernel
theorem dL_law_330 : decode cL_law 330 = .ok (.aload_n 0, 1) := by decide +kernel
theorem dL_law_331 : decode cL_law 331 = .ok (.iload_n 3, 1) := by decide +kernel
theorem dL_law_332 : decode cL_law 332 = .ok (.iconst 2, 1) := by decide +kernel
theorem dL_law_333 : decode cL_law 333 = .ok (.iadd, 1) := by decide +kernel
theorem dL_law_334 : decode cL_law 334 = .ok (.iaload, 1) := by decide +kernel
theorem dL_law_335 : decode cL_law 335 = .ok (.invokevirtual 27, 3) := by decide +kernel
theorem dL_law_338 : decode cL_law 338 = .ok (.if_icmp .eq 876, 3) := by decide +kernel
theorem dL_law_341 : decode cL_law 341 = .ok (.iconst 0, 1) := by decide +kernel
theorem dL_law_342 : decode cL_law 342 = .ok (.ireturn, 1) := by decide +kernel
theorem dL_law_343 : decode cL_law 343 = .ok (.aload_n 1, 1) := by decide +kernel
theorem dL_law_344 : decode cL_law 344 = .ok (.aload_n 0, 1) := by decide +kernel
theorem dL_law_345 : decode cL_law 345 = .ok (.iload_n 3, 1) := by decide +kernel
theorem dL_law_346 : decode cL_law 346 = .ok (.iconst 1, 1) := by decide +kernel
theorem dL_law_347 : decode cL_law 347 = .ok (.iadd, 1) := by decide +kernel
theorem dL_law_348 : decode cL_law 348 = .ok (.iaload, 1) := by decide +kernel
theorem dL_law_349 : decode cL_law 349 = .ok (.aload_n 0, 1) := by decide +kernel
theorem dL_law_350 : decode cL_law 350 = .ok (.iload_n 3, 1) := by decide +kernel
theorem dL_law_351 : decode cL_law 351 = .ok (.iconst 2, 1) := by decide +kernel
theorem dL_law_352 : decode cL_law 352 = .ok (.iadd, 1) := by decide +kernel
theorem dL_law_353 : decode cL_law 353 = .ok (.iaload, 1) := by decide +kernel
theorem dL_law_354 : decode cL_law 354 = .ok (.ifCond .eq 7, 3) := by decide +kernel
theorem dL_law_357 : decode cL_law 357 = .ok (.iconst 1, 1) := by decide +kernel
theorem dL_law_358 : decode cL_law 358 = .ok (.goto 4, 3) := by decide +kernel
theorem dL_law_361 : decode cL_law 361 = .ok (.iconst 0, 1) := by decide +kernel
theorem dL_law_362 : decode cL_law 362 = .ok (.invokevirtual 28, 3) := by decide +kernel
theorem dL_law_365 : decode cL_law 365 = .ok (.aload_n 2, 1) := by decide +kernel
theorem dL_law_366 : decode cL_law 366 = .ok (.aload_n 0, 1) := by decide +kernel
theorem dL_law_367 : decode cL_law 367 = .ok (.iload_n 3, 1) := by decide +kernel
theorem dL_law_368 : decode cL_law 368 = .ok (.iconst 1, 1) := by decide +kernel
theorem dL_law_369 : decode cL_law 369 = .ok (.iadd, 1) := by decide +kernel
theorem dL_law_370 : decode cL_law 370 = .ok (.iaload, 1) := by decide +kernel
theorem dL_law_371 : decode cL_law 371 = .ok (.aload_n 0, 1) := by decide +kernel
theorem dL_law_372 : decode cL_law 372 = .ok (.iload_n 3, 1) := by decide +kernel
theorem dL_law_373 : decode cL_law 373 = .ok (.iconst 2, 1) := by decide +kernel
theorem dL_law_374 : decode cL_law 374 = .ok (.iadd, 1) := by decide +kernel
theorem dL_law_375 : decode cL_law 375 = .ok (.iaload, 1) := by decide +kernel
theorem dL_law_376 : decode cL_law 376 = .ok (.ifCond .eq 7, 3) := by decide +kernel
theorem dL_law_379 : decode cL_law 379 = .ok (.iconst 1, 1) := by decide +kernel
theorem dL_law_380 : decode cL_law 380 = .ok (.goto 4, 3) := by decide +kernel
theorem dL_law_383 : decode cL_law 383 = .ok (.iconst 0, 1) := by decide +kernel
theorem dL_law_384 : decode cL_law 384 = .ok (.invokevirtual 32, 3) := by decide +kernel
theorem dL_law_387 : decode cL_law 387 = .ok (.if_icmp .eq 827, 3) := by decide +kernel
theorem dL_law_390 : decode cL_law 390 = .ok (.iconst 0, 1) := by decide +kernel
theorem dL_law_391 : decode cL_law 391 = .ok (.ireturn, 1) := by decide +kernel
theorem dL_law_392 : decode cL_law 392 = .ok (.aload_n 1, 1) := by decide +kernel
theorem dL_law_393 : decode cL_law 393 = .ok (.aload_n 0, 1) := by decide +kernel
theorem dL_law_394 : decode cL_law 394 = .ok (.iload_n 3, 1) := by decide +kernel
theorem dL_law_395 : decode cL_law 395 = .ok (.iconst 1, 1) := by decide +kernel
theorem dL_law_396 : decode cL_law 396 = .ok (.iadd, 1) := by decide +kernel
theorem dL_law_397 : decode cL_law 397 = .ok (.iaload, 1) := by decide +kernel
theorem dL_law_398 : decode cL_law 398 = .ok (.invokevirtual 33, 3) := by decide +kernel
theorem dL_law_401 : decode cL_law 401 = .ok (.aload_n 2, 1) := by decide +kernel
theorem dL_law_402 : decode cL_law 402 = .ok (.aload_n 0, 1) := by decide +kernel
theorem dL_law_403 : decode cL_law 403 = .ok (.iload_n 3, 1) := by decide +kernel
theorem dL_law_404 : decode cL_law 404 = .ok (.iconst 1, 1) := by decide +kernel
theorem dL_law_405 : decode cL_law 405 = .ok (.iadd, 1) := by decide +kernel
theorem dL_law_406 : decode cL_law 406 = .ok (.iaload, 1) := by decide +kernel
theorem dL_law_407 : decode cL_law 407 = .ok (.invokevirtual 37, 3) := by decide +kernel
theorem dL_law_410 : decode cL_law 410 = .ok (.if_icmp .eq 804, 3) := by decide +kernel
theorem dL_law_413 : decode cL_law 413 = .ok (.iconst 0, 1) := by decide +kernel
theorem dL_law_414 : decode cL_law 414 = .ok (.ireturn, 1) := by decide +kernel
theorem dL_law_415 : decode cL_law 415 = .ok (.aload_n 1, 1) := by decide +kernel
theorem dL_law_416 : decode cL_law 416 = .ok (.aload_n 0, 1) := by decide +kernel
theorem dL_law_417 : decode cL_law 417 = .ok (.iload_n 3, 1) := by decide +kernel
theorem dL_law_418 : decode cL_law 418 = .ok (.iconst 1, 1) := by decide +kernel
theorem dL_law_419 : decode cL_law 419 = .ok (.iadd, 1) := by decide +kernel
theorem dL_law_420 : decode cL_law 420 = .ok (.iaload, 1) := by decide +kernel
theorem dL_law_421 : decode cL_law 421 = .ok (.invokevirtual 38, 3) := by decide +kernel
theorem dL_law_424 : decode cL_law 424 = .ok (.aload_n 2, 1) := by decide +kernel
theorem dL_law_425 : decode cL_law 425 = .ok (.aload_n 0, 1) := by decide +kernel
theorem dL_law_426 : decode cL_law 426 = .ok (.iload_n 3, 1) := by decide +kernel
theorem dL_law_427 : decode cL_law 427 = .ok (.iconst 1, 1) := by decide +kernel
theorem dL_law_428 : decode cL_law 428 = .ok (.iadd, 1) := by decide +kernel
theorem dL_law_429 : decode cL_law 429 = .ok (.iaload, 1) := by decide +kernel
theorem dL_law_430 : decode cL_law 430 = .ok (.invokevirtual 41, 3) := by decide +kernel
theorem dL_law_433 : decode cL_law 433 = .ok (.if_icmp .eq 781, 3) := by decide +kernel
theorem dL_law_436 : decode cL_law 436 = .ok (.iconst 0, 1) := by decide +kernel
theorem dL_law_437 : decode cL_law 437 = .ok (.ireturn, 1) := by decide +kernel
theorem dL_law_438 : decode cL_law 438 = .ok (.aload_n 1, 1) := by decide +kernel
theorem dL_law_439 : decode cL_law 439 = .ok (.aload_n 0, 1) := by decide +kernel
theorem dL_law_440 : decode cL_law 440 = .ok (.iload_n 3, 1) := by decide +kernel
theorem dL_law_441 : decode cL_law 441 = .ok (.iconst 1, 1) := by decide +kernel
theorem dL_law_442 : decode cL_law 442 = .ok (.iadd, 1) := by decide +kernel
theorem dL_law_443 : decode cL_law 443 = .ok (.iaload, 1) := by decide +kernel
theorem dL_law_444 : decode cL_law 444 = .ok (.aload_n 0, 1) := by decide +kernel
theorem dL_law_445 : decode cL_law 445 = .ok (.iload_n 3, 1) := by decide +kernel
theorem dL_law_446 : decode cL_law 446 = .ok (.iconst 2, 1) := by decide +kernel
theorem dL_law_447 : decode cL_law 447 = .ok (.iadd, 1) := by decide +kernel
theorem dL_law_448 : decode cL_law 448 = .ok (.iaload, 1) := by decide +kernel
theorem dL_law_449 : decode cL_law 449 = .ok (.aload_n 0, 1) := by decide +kernel
theorem dL_law_450 : decode cL_law 450 = .ok (.iload_n 3, 1) := by decide +kernel
theorem dL_law_451 : decode cL_law 451 = .ok (.iconst 3, 1) := by decide +kernel
theorem dL_law_452 : decode cL_law 452 = .ok (.iadd, 1) := by decide +kernel
theorem dL_law_453 : decode cL_law 453 = .ok (.iaload, 1) := by decide +kernel
theorem dL_law_454 : decode cL_law 454 = .ok (.invokevirtual 42, 3) := by decide +kernel
theorem dL_law_457 : decode cL_law 457 = .ok (.aload_n 2, 1) := by decide +kernel
theorem dL_law_458 : decode cL_law 458 = .ok (.aload_n 0, 1) := by decide +kernel
theorem dL_law_459 : decode cL_law 459 = .ok (.iload_n 3, 1) := by decide +kernel
theorem dL_law_460 : decode cL_law 460 = .ok (.iconst 1, 1) := by decide +kernel
theorem dL_law_461 : decode cL_law 461 = .ok (.iadd, 1) := by decide +kernel
theorem dL_law_462 : decode cL_law 462 = .ok (.iaload, 1) := by decide +kernel
theorem dL_law_463 : decode cL_law 463 = .ok (.aload_n 0, 1) := by decide +kernel
theorem dL_law_464 : decode cL_law 464 = .ok (.iload_n 3, 1) := by decide +kernel
theorem dL_law_465 : decode cL_law 465 = .ok (.iconst 2, 1) := by decide +kernel
theorem dL_law_466 : decode cL_law 466 = .ok (.iadd, 1) := by decide +kernel
theorem dL_law_467 : decode cL_law 467 = .ok (.iaload, 1) := by decide +kernel
theorem dL_law_468 : decode cL_law 468 = .ok (.aload_n 0, 1) := by decide +kernel
theorem dL_law_469 : decode cL_law 469 = .ok (.iload_n 3, 1) := by decide +kernel
theorem dL_law_470 : decode cL_law 470 = .ok (.iconst 3, 1) := by decide +kernel
theorem dL_law_471 : decode cL_law 471 = .ok (.iadd, 1) := by decide +kernel
theorem dL_law_472 : decode cL_law 472 = .ok (.iaload, 1) := by decide +kernel
theorem dL_law_473 : decode cL_law 473 = .ok (.invokevirtual 46, 3) := by decide +kernel
theorem dL_law_476 : decode cL_law 476 = .ok (.if_icmp .eq 738, 3) := by decide +kernel
theorem dL_law_479 : decode cL_law 479 = .ok (.iconst 0, 1) := by decide +kernel
theorem dL_law_480 : decode cL_law 480 = .ok (.ireturn, 1) := by decide +kernel
theorem dL_law_481 : decode cL_law 481 = .ok (.aload_n 1, 1) := by decide +kernel
theorem dL_law_482 : decode cL_law 482 = .ok (.aload_n 0, 1) := by decide +kernel
theorem dL_law_483 : decode cL_law 483 = .ok (.iload_n 3, 1) := by decide +kernel
theorem dL_law_484 : decode cL_law 484 = .ok (.iconst 1, 1) := by decide +kernel
theorem dL_law_485 : decode cL_law 485 = .ok (.iadd, 1) := by decide +kernel
theorem dL_law_486 : decode cL_law 486 = .ok (.iaload, 1) := by decide +kernel
theorem dL_law_487 : decode cL_law 487 = .ok (.aload_n 0, 1) := by decide +kernel
theorem dL_law_488 : decode cL_law 488 = .ok (.iload_n 3, 1) := by decide +kernel
theorem dL_law_489 : decode cL_law 489 = .ok (.iconst 2, 1) := by decide +kernel
theorem dL_law_490 : decode cL_law 490 = .ok (.iadd, 1) := by decide +kernel
theorem dL_law_491 : decode cL_law 491 = .ok (.iaload, 1) := by decide +kernel
theorem dL_law_492 : decode cL_law 492 = .ok (.invokevirtual 47, 3) := by decide +kernel
theorem dL_law_495 : decode cL_law 495 = .ok (.aload_n 2, 1) := by decide +kernel
theorem dL_law_496 : decode cL_law 496 = .ok (.aload_n 0, 1) := by decide +kernel
theorem dL_law_497 : decode cL_law 497 = .ok (.iload_n 3, 1) := by decide +kernel
theorem dL_law_498 : decode cL_law 498 = .ok (.iconst 1, 1) := by decide +kernel
theorem dL_law_499 : decode cL_law 499 = .ok (.iadd, 1) := by decide +kernel
theorem dL_law_500 : decode cL_law 500 = .ok (.iaload, 1) := by decide +kernel
theorem dL_law_501 : decode cL_law 501 = .ok (.aload_n 0, 1) := by decide +kernel
theorem dL_law_502 : decode cL_law 502 = .ok (.iload_n 3, 1) := by decide +kernel
theorem dL_law_503 : decode cL_law 503 = .ok (.iconst 2, 1) := by decide +kernel
theorem dL_law_504 : decode cL_law 504 = .ok (.iadd, 1) := by decide +kernel
theorem dL_law_505 : decode cL_law 505 = .ok (.iaload, 1) := by decide +kernel
theorem dL_law_506 : decode cL_law 506 = .ok (.invokevirtual 50, 3) := by decide +kernel
theorem dL_law_509 : decode cL_law 509 = .ok (.if_icmp .eq 705, 3) := by decide +kernel
theorem dL_law_512 : decode cL_law 512 = .ok (.iconst 0, 1) := by decide +kernel
theorem dL_law_513 : decode cL_law 513 = .ok (.ireturn, 1) := by decide +kernel
theorem dL_law_514 : decode cL_law 514 = .ok (.aload_n 1, 1) := by decide +kernel
theorem dL_law_515 : decode cL_law 515 = .ok (.aload_n 0, 1) := by decide +kernel
theorem dL_law_516 : decode cL_law 516 = .ok (.iload_n 3, 1) := by decide +kernel
theorem dL_law_517 : decode cL_law 517 = .ok (.iconst 1, 1) := by decide +kernel
theorem dL_law_518 : decode cL_law 518 = .ok (.iadd, 1) := by decide +kernel
theorem dL_law_519 : decode cL_law 519 = .ok (.iaload, 1) := by decide +kernel
theorem dL_law_520 : decode cL_law 520 = .ok (.invokevirtual 51, 3) := by decide +kernel
theorem dL_law_523 : decode cL_law 523 = .ok (.aload_n 2, 1) := by decide +kernel
theorem dL_law_524 : decode cL_law 524 = .ok (.aload_n 0, 1) := by decide +kernel
theorem dL_law_525 : decode cL_law 525 = .ok (.iload_n 3, 1) := by decide +kernel
theorem dL_law_526 : decode cL_law 526 = .ok (.iconst 1, 1) := by decide +kernel
theorem dL_law_527 : decode cL_law 527 = .ok (.iadd, 1) := by decide +kernel
theorem dL_law_528 : decode cL_law 528 = .ok (.iaload, 1) := by decide +kernel
theorem dL_law_529 : decode cL_law 529 = .ok (.invokevirtual 54, 3) := by decide +kernel
theorem dL_law_532 : decode cL_law 532 = .ok (.if_icmp .eq 682, 3) := by decide +kernel
theorem dL_law_535 : decode cL_law 535 = .ok (.iconst 0, 1) := by decide +kernel
theorem dL_law_536 : decode cL_law 536 = .ok (.ireturn, 1) := by decide +kernel
theorem dL_law_537 : decode cL_law 537 = .ok (.aload_n 1, 1) := by decide +kernel
theorem dL_law_538 : decode cL_law 538 = .ok (.aload_n 0, 1) := by decide +kernel
theorem dL_law_539 : decode cL_law 539 = .ok (.iload_n 3, 1) := by decide +kernel
theorem dL_law_540 : decode cL_law 540 = .ok (.iconst 1, 1) := by decide +kernel
theorem dL_law_541 : decode cL_law 541 = .ok (.iadd, 1) := by decide +kernel
theorem dL_law_542 : decode cL_law 542 = .ok (.iaload, 1) := by decide +kernel
theorem dL_law_543 : decode cL_law 543 = .ok (.aload_n 0, 1) := by decide +kernel
theorem dL_law_544 : decode cL_law 544 = .ok (.iload_n 3, 1) := by decide +kernel
theorem dL_law_545 : decode cL_law 545 = .ok (.iconst 2, 1) := by decide +kernel
theorem dL_law_546 : decode cL_law 546 = .ok (.iadd, 1) := by decide +kernel
theorem dL_law_547 : decode cL_law 547 = .ok (.iaload, 1) := by decide +kernel
theorem dL_law_548 : decode cL_law 548 = .ok (.aload_n 0, 1) := by decide +kernel
theorem dL_law_549 : decode cL_law 549 = .ok (.iload_n 3, 1) := by decide +kernel
theorem dL_law_550 : decode cL_law 550 = .ok (.iconst 3, 1) := by decide +kernel
theorem dL_law_551 : decode cL_law 551 = .ok (.iadd, 1) := by decide +kernel
theorem dL_law_552 : decode cL_law 552 = .ok (.iaload, 1) := by decide +kernel
theorem dL_law_553 : decode cL_law 553 = .ok (.invokevirtual 55, 3) := by decide +kernel
theorem dL_law_556 : decode cL_law 556 = .ok (.aload_n 2, 1) := by decide +kernel
theorem dL_law_557 : decode cL_law 557 = .ok (.aload_n 0, 1) := by decide +kernel
theorem dL_law_558 : decode cL_law 558 = .ok (.iload_n 3, 1) := by decide +kernel
theorem dL_law_559 : decode cL_law 559 = .ok (.iconst 1, 1) := by decide +kernel
theorem dL_law_560 : decode cL_law 560 = .ok (.iadd, 1) := by decide +kernel
theorem dL_law_561 : decode cL_law 561 = .ok (.iaload, 1) := by decide +kernel
theorem dL_law_562 : decode cL_law 562 = .ok (.aload_n 0, 1) := by decide +kernel
theorem dL_law_563 : decode cL_law 563 = .ok (.iload_n 3, 1) := by decide +kernel
theorem dL_law_564 : decode cL_law 564 = .ok (.iconst 2, 1) := by decide +kernel
theorem dL_law_565 : decode cL_law 565 = .ok (.iadd, 1) := by decide +kernel
theorem dL_law_566 : decode cL_law 566 = .ok (.iaload, 1) := by decide +kernel
theorem dL_law_567 : decode cL_law 567 = .ok (.aload_n 0, 1) := by decide +kernel
theorem dL_law_568 : decode cL_law 568 = .ok (.iload_n 3, 1) := by decide +kernel
theorem dL_law_569 : decode cL_law 569 = .ok (.iconst 3, 1) := by decide +kernel
theorem dL_law_570 : decode cL_law 570 = .ok (.iadd, 1) := by decide +kernel
theorem dL_law_571 : decode cL_law 571 = .ok (.iaload, 1) := by decide +kernel
theorem dL_law_572 : decode cL_law 572 = .ok (.invokevirtual 58, 3) := by decide +kernel
theorem dL_law_575 : decode cL_law 575 = .ok (.if_icmp .eq 639, 3) := by decide +kernel
theorem dL_law_578 : decode cL_law 578 = .ok (.iconst 0, 1) := by decide +kernel
theorem dL_law_579 : decode cL_law 579 = .ok (.ireturn, 1) := by decide +kernel
theorem dL_law_580 : decode cL_law 580 = .ok (.aload_n 1, 1) := by decide +kernel
theorem dL_law_581 : decode cL_law 581 = .ok (.aload_n 0, 1) := by decide +kernel
theorem dL_law_582 : decode cL_law 582 = .ok (.iload_n 3, 1) := by decide +kernel
theorem dL_law_583 : decode cL_law 583 = .ok (.iconst 1, 1) := by decide +kernel
theorem dL_law_584 : decode cL_law 584 = .ok (.iadd, 1) := by decide +kernel
theorem dL_law_585 : decode cL_law 585 = .ok (.iaload, 1) := by decide +kernel
theorem dL_law_586 : decode cL_law 586 = .ok (.invokevirtual 59, 3) := by decide +kernel
theorem dL_law_589 : decode cL_law 589 = .ok (.aload_n 2, 1) := by decide +kernel
theorem dL_law_590 : decode cL_law 590 = .ok (.aload_n 0, 1) := by decide +kernel
theorem dL_law_591 : decode cL_law 591 = .ok (.iload_n 3, 1) := by decide +kernel
theorem dL_law_592 : decode cL_law 592 = .ok (.iconst 1, 1) := by decide +kernel
theorem dL_law_593 : decode cL_law 593 = .ok (.iadd, 1) := by decide +kernel
theorem dL_law_594 : decode cL_law 594 = .ok (.iaload, 1) := by decide +kernel
theorem dL_law_595 : decode cL_law 595 = .ok (.invokevirtual 62, 3) := by decide +kernel
theorem dL_law_598 : decode cL_law 598 = .ok (.if_icmp .eq 616, 3) := by decide +kernel
theorem dL_law_601 : decode cL_law 601 = .ok (.iconst 0, 1) := by decide +kernel
theorem dL_law_602 : decode cL_law 602 = .ok (.ireturn, 1) := by decide +kernel
theorem dL_law_603 : decode cL_law 603 = .ok (.aload_n 1, 1) := by decide +kernel
theorem dL_law_604 : decode cL_law 604 = .ok (.aload_n 0, 1) := by decide +kernel
theorem dL_law_605 : decode cL_law 605 = .ok (.iload_n 3, 1) := by decide +kernel
theorem dL_law_606 : decode cL_law 606 = .ok (.iconst 1, 1) := by decide +kernel
theorem dL_law_607 : decode cL_law 607 = .ok (.iadd, 1) := by decide +kernel
theorem dL_law_608 : decode cL_law 608 = .ok (.iaload, 1) := by decide +kernel
theorem dL_law_609 : decode cL_law 609 = .ok (.aload_n 0, 1) := by decide +kernel
theorem dL_law_610 : decode cL_law 610 = .ok (.iload_n 3, 1) := by decide +kernel
theorem dL_law_611 : decode cL_law 611 = .ok (.iconst 2, 1) := by decide +kernel
theorem dL_law_612 : decode cL_law 612 = .ok (.iadd, 1) := by decide +kernel
theorem dL_law_613 : decode cL_law 613 = .ok (.iaload, 1) := by decide +kernel
theorem dL_law_614 : decode cL_law 614 = .ok (.invokevirtual 63, 3) := by decide +kernel
theorem dL_law_617 : decode cL_law 617 = .ok (.aload_n 2, 1) := by decide +kernel
theorem dL_law_618 : decode cL_law 618 = .ok (.aload_n 0, 1) := by decide +kernel
theorem dL_law_619 : decode cL_law 619 = .ok (.iload_n 3, 1) := by decide +kernel
theorem dL_law_620 : decode cL_law 620 = .ok (.iconst 1, 1) := by decide +kernel
theorem dL_law_621 : decode cL_law 621 = .ok (.iadd, 1) := by decide +kernel
theorem dL_law_622 : decode cL_law 622 = .ok (.iaload, 1) := by decide +kernel
theorem dL_law_623 : decode cL_law 623 = .ok (.aload_n 0, 1) := by decide +kernel
theorem dL_law_624 : decode cL_law 624 = .ok (.iload_n 3, 1) := by decide +kernel
theorem dL_law_625 : decode cL_law 625 = .ok (.iconst 2, 1) := by decide +kernel
theorem dL_law_626 : decode cL_law 626 = .ok (.iadd, 1) := by decide +kernel
theorem dL_law_627 : decode cL_law 627 = .ok (.iaload, 1) := by decide +kernel
theorem dL_law_628 : decode cL_law 628 = .ok (.invokevirtual 66, 3) := by decide +kernel
theorem dL_law_631 : decode cL_law 631 = .ok (.if_icmp .eq 583, 3) := by decide +kernel
theorem dL_law_634 : decode cL_law 634 = .ok (.iconst 0, 1) := by decide +kernel
theorem dL_law_635 : decode cL_law 635 = .ok (.ireturn, 1) := by decide +kernel
theorem dL_law_636 : decode cL_law 636 = .ok (.aload_n 1, 1) := by decide +kernel
theorem dL_law_637 : decode cL_law 637 = .ok (.aload_n 0, 1) := by decide +kernel
theorem dL_law_638 : decode cL_law 638 = .ok (.iload_n 3, 1) := by decide +kernel
theorem dL_law_639 : decode cL_law 639 = .ok (.iconst 1, 1) := by decide +kernel
theorem dL_law_640 : decode cL_law 640 = .ok (.iadd, 1) := by decide +kernel
theorem dL_law_641 : decode cL_law 641 = .ok (.iaload, 1) := by decide +kernel
theorem dL_law_642 : decode cL_law 642 = .ok (.aload_n 0, 1) := by decide +kernel
theorem dL_law_643 : decode cL_law 643 = .ok (.iload_n 3, 1) := by decide +kernel
theorem dL_law_644 : decode cL_law 644 = .ok (.iconst 2, 1) := by decide +kernel
theorem dL_law_645 : decode cL_law 645 = .ok (.iadd, 1) := by decide +kernel
theorem dL_law_646 : decode cL_law 646 = .ok (.iaload, 1) := by decide +kernel
theorem dL_law_647 : decode cL_law 647 = .ok (.invokevirtual 67, 3) := by decide +kernel
theorem dL_law_650 : decode cL_law 650 = .ok (.aload_n 2, 1) := by decide +kernel
theorem dL_law_651 : decode cL_law 651 = .ok (.aload_n 0, 1) := by decide +kernel
theorem dL_law_652 : decode cL_law 652 = .ok (.iload_n 3, 1) := by decide +kernel
theorem dL_law_653 : decode cL_law 653 = .ok (.iconst 1, 1) := by decide +kernel
theorem dL_law_654 : decode cL_law 654 = .ok (.iadd, 1) := by decide +kernel
theorem dL_law_655 : decode cL_law 655 = .ok (.iaload, 1) := by decide +kernel
theorem dL_law_656 : decode cL_law 656 = .ok (.aload_n 0, 1) := by decide +kernel
theorem dL_law_657 : decode cL_law 657 = .ok (.iload_n 3, 1) := by decide +kernel
theorem dL_law_658 : decode cL_law 658 = .ok (.iconst 2, 1) := by decide +kernel
theorem dL_law_659 : decode cL_law 659 = .ok (.iadd, 1) := by decide +kernel
theorem dL_law_660 : decode cL_law 660 = .ok (.iaload, 1) := by decide +kernel
theorem dL_law_661 : decode cL_law 661 = .ok (.invokevirtual 70, 3) := by decide +kernel
theorem dL_law_664 : decode cL_law 664 = .ok (.if_icmp .eq 550, 3) := by decide +kernel
theorem dL_law_667 : decode cL_law 667 = .ok (.iconst 0, 1) := by decide +kernel
theorem dL_law_668 : decode cL_law 668 = .ok (.ireturn, 1) := by decide +kernel
theorem dL_law_669 : decode cL_law 669 = .ok (.aload_n 1, 1) := by decide +kernel
theorem dL_law_670 : decode cL_law 670 = .ok (.invokevirtual 71, 3) := by decide +kernel
theorem dL_law_673 : decode cL_law 673 = .ok (.aload_n 2, 1) := by decide +kernel
theorem dL_law_674 : decode cL_law 674 = .ok (.invokevirtual 75, 3) := by decide +kernel
theorem dL_law_677 : decode cL_law 677 = .ok (.if_icmp .eq 537, 3) := by decide +kernel
theorem dL_law_680 : decode cL_law 680 = .ok (.iconst 0, 1) := by decide +kernel
theorem dL_law_681 : decode cL_law 681 = .ok (.ireturn, 1) := by decide +kernel
theorem dL_law_682 : decode cL_law 682 = .ok (.aload_n 1, 1) := by decide +kernel
theorem dL_law_683 : decode cL_law 683 = .ok (.aload_n 0, 1) := by decide +kernel
theorem dL_law_684 : decode cL_law 684 = .ok (.iload_n 3, 1) := by decide +kernel
theorem dL_law_685 : decode cL_law 685 = .ok (.iconst 1, 1) := by decide +kernel
theorem dL_law_686 : decode cL_law 686 = .ok (.iadd, 1) := by decide +kernel
theorem dL_law_687 : decode cL_law 687 = .ok (.iaload, 1) := by decide +kernel
theorem dL_law_688 : decode cL_law 688 = .ok (.aload_n 0, 1) := by decide +kernel
theorem dL_law_689 : decode cL_law 689 = .ok (.iload_n 3, 1) := by decide +kernel
theorem dL_law_690 : decode cL_law 690 = .ok (.iconst 2, 1) := by decide +kernel
theorem dL_law_691 : decode cL_law 691 = .ok (.iadd, 1) := by decide +kernel
theorem dL_law_692 : decode cL_law 692 = .ok (.iaload, 1) := by decide +kernel
theorem dL_law_693 : decode cL_law 693 = .ok (.invokevirtual 76, 3) := by decide +kernel
theorem dL_law_696 : decode cL_law 696 = .ok (.aload_n 2, 1) := by decide +kernel
theorem dL_law_697 : decode cL_law 697 = .ok (.aload_n 0, 1) := by decide +kernel
theorem dL_law_698 : decode cL_law 698 = .ok (.iload_n 3, 1) := by decide +kernel
theorem dL_law_699 : decode cL_law 699 = .ok (.iconst 1, 1) := by decide +kernel
theorem dL_law_700 : decode cL_law 700 = .ok (.iadd, 1) := by decide +kernel
theorem dL_law_701 : decode cL_law 701 = .ok (.iaload, 1) := by decide +kernel
theorem dL_law_702 : decode cL_law 702 = .ok (.aload_n 0, 1) := by decide +kernel
theorem dL_law_703 : decode cL_law 703 = .ok (.iload_n 3, 1) := by decide +kernel
theorem dL_law_704 : decode cL_law 704 = .ok (.iconst 2, 1) := by decide +kernel
theorem dL_law_705 : decode cL_law 705 = .ok (.iadd, 1) := by decide +kernel
theorem dL_law_706 : decode cL_law 706 = .ok (.iaload, 1) := by decide +kernel
theorem dL_law_707 : decode cL_law 707 = .ok (.invokevirtual 79, 3) := by decide +kernel
theorem dL_law_710 : decode cL_law 710 = .ok (.if_icmp .eq 504, 3) := by decide +kernel
theorem dL_law_713 : decode cL_law 713 = .ok (.iconst 0, 1) := by decide +kernel
theorem dL_law_714 : decode cL_law 714 = .ok (.ireturn, 1) := by decide +kernel
theorem dL_law_715 : decode cL_law 715 = .ok (.aload_n 1, 1) := by decide +kernel
theorem dL_law_716 : decode cL_law 716 = .ok (.invokevirtual 80, 3) := by decide +kernel
theorem dL_law_719 : decode cL_law 719 = .ok (.aload_n 2, 1) := by decide +kernel
theorem dL_law_720 : decode cL_law 720 = .ok (.invokevirtual 83, 3) := by decide +kernel
theorem dL_law_723 : decode cL_law 723 = .ok (.if_icmp .eq 491, 3) := by decide +kernel
theorem dL_law_726 : decode cL_law 726 = .ok (.iconst 0, 1) := by decide +kernel
theorem dL_law_727 : decode cL_law 727 = .ok (.ireturn, 1) := by decide +kernel
theorem dL_law_728 : decode cL_law 728 = .ok (.aload_n 1, 1) := by decide +kernel
theorem dL_law_729 : decode cL_law 729 = .ok (.invokevirtual 84, 3) := by decide +kernel
theorem dL_law_732 : decode cL_law 732 = .ok (.aload_n 2, 1) := by decide +kernel
theorem dL_law_733 : decode cL_law 733 = .ok (.invokevirtual 87, 3) := by decide +kernel
theorem dL_law_736 : decode cL_law 736 = .ok (.if_icmp .eq 478, 3) := by decide +kernel
theorem dL_law_739 : decode cL_law 739 = .ok (.iconst 0, 1) := by decide +kernel
theorem dL_law_740 : decode cL_law 740 = .ok (.ireturn, 1) := by decide +kernel
theorem dL_law_741 : decode cL_law 741 = .ok (.aload_n 1, 1) := by decide +kernel
theorem dL_law_742 : decode cL_law 742 = .ok (.invokevirtual 88, 3) := by decide +kernel
theorem dL_law_745 : decode cL_law 745 = .ok (.aload_n 2, 1) := by decide +kernel
theorem dL_law_746 : decode cL_law 746 = .ok (.invokevirtual 91, 3) := by decide +kernel
theorem dL_law_749 : decode cL_law 749 = .ok (.if_icmp .eq 465, 3) := by decide +kernel
theorem dL_law_752 : decode cL_law 752 = .ok (.iconst 0, 1) := by decide +kernel
theorem dL_law_753 : decode cL_law 753 = .ok (.ireturn, 1) := by decide +kernel
theorem dL_law_754 : decode cL_law 754 = .ok (.aload_n 1, 1) := by decide +kernel
theorem dL_law_755 : decode cL_law 755 = .ok (.aload_n 0, 1) := by decide +kernel
theorem dL_law_756 : decode cL_law 756 = .ok (.iload_n 3, 1) := by decide +kernel
theorem dL_law_757 : decode cL_law 757 = .ok (.iconst 1, 1) := by decide +kernel
theorem dL_law_758 : decode cL_law 758 = .ok (.iadd, 1) := by decide +kernel
theorem dL_law_759 : decode cL_law 759 = .ok (.iaload, 1) := by decide +kernel
theorem dL_law_760 : decode cL_law 760 = .ok (.aload_n 0, 1) := by decide +kernel
theorem dL_law_761 : decode cL_law 761 = .ok (.iload_n 3, 1) := by decide +kernel
theorem dL_law_762 : decode cL_law 762 = .ok (.iconst 2, 1) := by decide +kernel
theorem dL_law_763 : decode cL_law 763 = .ok (.iadd, 1) := by decide +kernel
theorem dL_law_764 : decode cL_law 764 = .ok (.iaload, 1) := by decide +kernel
theorem dL_law_765 : decode cL_law 765 = .ok (.aload_n 0, 1) := by decide +kernel
theorem dL_law_766 : decode cL_law 766 = .ok (.iload_n 3, 1) := by decide +kernel
theorem dL_law_767 : decode cL_law 767 = .ok (.iconst 3, 1) := by decide +kernel
theorem dL_law_768 : decode cL_law 768 = .ok (.iadd, 1) := by decide +kernel
theorem dL_law_769 : decode cL_law 769 = .ok (.iaload, 1) := by decide +kernel
theorem dL_law_770 : decode cL_law 770 = .ok (.invokevirtual 92, 3) := by decide +kernel
theorem dL_law_773 : decode cL_law 773 = .ok (.aload_n 2, 1) := by decide +kernel
theorem dL_law_774 : decode cL_law 774 = .ok (.aload_n 0, 1) := by decide +kernel
theorem dL_law_775 : decode cL_law 775 = .ok (.iload_n 3, 1) := by decide +kernel
theorem dL_law_776 : decode cL_law 776 = .ok (.iconst 1, 1) := by decide +kernel
theorem dL_law_777 : decode cL_law 777 = .ok (.iadd, 1) := by decide +kernel
theorem dL_law_778 : decode cL_law 778 = .ok (.iaload, 1) := by decide +kernel
theorem dL_law_779 : decode cL_law 779 = .ok (.aload_n 0, 1) := by decide +kernel
theorem dL_law_780 : decode cL_law 780 = .ok (.iload_n 3, 1) := by decide +kernel
theorem dL_law_781 : decode cL_law 781 = .ok (.iconst 2, 1) := by decide +kernel
theorem dL_law_782 : decode cL_law 782 = .ok (.iadd, 1) := by decide +kernel
theorem dL_law_783 : decode cL_law 783 = .ok (.iaload, 1) := by decide +kernel
theorem dL_law_784 : decode cL_law 784 = .ok (.aload_n 0, 1) := by decide +kernel
theorem dL_law_785 : decode cL_law 785 = .ok (.iload_n 3, 1) := by decide +kernel
theorem dL_law_786 : decode cL_law 786 = .ok (.iconst 3, 1) := by decide +kernel
theorem dL_law_787 : decode cL_law 787 = .ok (.iadd, 1) := by decide +kernel
theorem dL_law_788 : decode cL_law 788 = .ok (.iaload, 1) := by decide +kernel
theorem dL_law_789 : decode cL_law 789 = .ok (.invokevirtual 95, 3) := by decide +kernel
theorem dL_law_792 : decode cL_law 792 = .ok (.if_icmp .eq 422, 3) := by decide +kernel
theorem dL_law_795 : decode cL_law 795 = .ok (.iconst 0, 1) := by decide +kernel
theorem dL_law_796 : decode cL_law 796 = .ok (.ireturn, 1) := by decide +kernel
theorem dL_law_797 : decode cL_law 797 = .ok (.aload_n 1, 1) := by decide +kernel
theorem dL_law_798 : decode cL_law 798 = .ok (.invokevirtual 96, 3) := by decide +kernel
theorem dL_law_801 : decode cL_law 801 = .ok (.aload_n 2, 1) := by decide +kernel
theorem dL_law_802 : decode cL_law 802 = .ok (.invokevirtual 99, 3) := by decide +kernel
theorem dL_law_805 : decode cL_law 805 = .ok (.if_icmp .eq 409, 3) := by decide +kernel
theorem dL_law_808 : decode cL_law 808 = .ok (.iconst 0, 1) := by decide +kernel
theorem dL_law_809 : decode cL_law 809 = .ok (.ireturn, 1) := by decide +kernel
theorem dL_law_810 : decode cL_law 810 = .ok (.aload_n 1, 1) := by decide +kernel
theorem dL_law_811 : decode cL_law 811 = .ok (.aload_n 0, 1) := by decide +kernel
theorem dL_law_812 : decode cL_law 812 = .ok (.iload_n 3, 1) := by decide +kernel
theorem dL_law_813 : decode cL_law 813 = .ok (.iconst 1, 1) := by decide +kernel
theorem dL_law_814 : decode cL_law 814 = .ok (.iadd, 1) := by decide +kernel
theorem dL_law_815 : decode cL_law 815 = .ok (.iaload, 1) := by decide +kernel
theorem dL_law_816 : decode cL_law 816 = .ok (.invokevirtual 100, 3) := by decide +kernel
theorem dL_law_819 : decode cL_law 819 = .ok (.aload_n 2, 1) := by decide +kernel
theorem dL_law_820 : decode cL_law 820 = .ok (.aload_n 0, 1) := by decide +kernel
theorem dL_law_821 : decode cL_law 821 = .ok (.iload_n 3, 1) := by decide +kernel
theorem dL_law_822 : decode cL_law 822 = .ok (.iconst 1, 1) := by decide +kernel
theorem dL_law_823 : decode cL_law 823 = .ok (.iadd, 1) := by decide +kernel
theorem dL_law_824 : decode cL_law 824 = .ok (.iaload, 1) := by decide +kernel
theorem dL_law_825 : decode cL_law 825 = .ok (.invokevirtual 103, 3) := by decide +kernel
theorem dL_law_828 : decode cL_law 828 = .ok (.if_icmp .eq 386, 3) := by decide +kernel
theorem dL_law_831 : decode cL_law 831 = .ok (.iconst 0, 1) := by decide +kernel
theorem dL_law_832 : decode cL_law 832 = .ok (.ireturn, 1) := by decide +kernel
theorem dL_law_833 : decode cL_law 833 = .ok (.aload_n 1, 1) := by decide +kernel
theorem dL_law_834 : decode cL_law 834 = .ok (.aload_n 0, 1) := by decide +kernel
theorem dL_law_835 : decode cL_law 835 = .ok (.iload_n 3, 1) := by decide +kernel
theorem dL_law_836 : decode cL_law 836 = .ok (.iconst 1, 1) := by decide +kernel
theorem dL_law_837 : decode cL_law 837 = .ok (.iadd, 1) := by decide +kernel
theorem dL_law_838 : decode cL_law 838 = .ok (.iaload, 1) := by decide +kernel
theorem dL_law_839 : decode cL_law 839 = .ok (.aload_n 0, 1) := by decide +kernel
theorem dL_law_840 : decode cL_law 840 = .ok (.iload_n 3, 1) := by decide +kernel
theorem dL_law_841 : decode cL_law 841 = .ok (.iconst 2, 1) := by decide +kernel
theorem dL_law_842 : decode cL_law 842 = .ok (.iadd, 1) := by decide +kernel
theorem dL_law_843 : decode cL_law 843 = .ok (.iaload, 1) := by decide +kernel
theorem dL_law_844 : decode cL_law 844 = .ok (.invokevirtual 104, 3) := by decide +kernel
theorem dL_law_847 : decode cL_law 847 = .ok (.aload_n 2, 1) := by decide +kernel
theorem dL_law_848 : decode cL_law 848 = .ok (.aload_n 0, 1) := by decide +kernel
theorem dL_law_849 : decode cL_law 849 = .ok (.iload_n 3, 1) := by decide +kernel
theorem dL_law_850 : decode cL_law 850 = .ok (.iconst 1, 1) := by decide +kernel
theorem dL_law_851 : decode cL_law 851 = .ok (.iadd, 1) := by decide +kernel
theorem dL_law_852 : decode cL_law 852 = .ok (.iaload, 1) := by decide +kernel
theorem dL_law_853 : decode cL_law 853 = .ok (.aload_n 0, 1) := by decide +kernel
theorem dL_law_854 : decode cL_law 854 = .ok (.iload_n 3, 1) := by decide +kernel
theorem dL_law_855 : decode cL_law 855 = .ok (.iconst 2, 1) := by decide +kernel
theorem dL_law_856 : decode cL_law 856 = .ok (.iadd, 1) := by decide +kernel
theorem dL_law_857 : decode cL_law 857 = .ok (.iaload, 1) := by decide +kernel
theorem dL_law_858 : decode cL_law 858 = .ok (.invokevirtual 107, 3) := by decide +kernel
theorem dL_law_861 : decode cL_law 861 = .ok (.if_icmp .eq 353, 3) := by decide +kernel
theorem dL_law_864 : decode cL_law 864 = .ok (.iconst 0, 1) := by decide +kernel
theorem dL_law_865 : decode cL_law 865 = .ok (.ireturn, 1) := by decide +kernel
theorem dL_law_866 : decode cL_law 866 = .ok (.aload_n 1, 1) := by decide +kernel
theorem dL_law_867 : decode cL_law 867 = .ok (.aload_n 0, 1) := by decide +kernel
theorem dL_law_868 : decode cL_law 868 = .ok (.iload_n 3, 1) := by decide +kernel
theorem dL_law_869 : decode cL_law 869 = .ok (.iconst 1, 1) := by decide +kernel
theorem dL_law_870 : decode cL_law 870 = .ok (.iadd, 1) := by decide +kernel
theorem dL_law_871 : decode cL_law 871 = .ok (.iaload, 1) := by decide +kernel
theorem dL_law_872 : decode cL_law 872 = .ok (.aload_n 0, 1) := by decide +kernel
theorem dL_law_873 : decode cL_law 873 = .ok (.iload_n 3, 1) := by decide +kernel
theorem dL_law_874 : decode cL_law 874 = .ok (.iconst 2, 1) := by decide +kernel
theorem dL_law_875 : decode cL_law 875 = .ok (.iadd, 1) := by decide +kernel
theorem dL_law_876 : decode cL_law 876 = .ok (.iaload, 1) := by decide +kernel
theorem dL_law_877 : decode cL_law 877 = .ok (.aload_n 0, 1) := by decide +kernel
theorem dL_law_878 : decode cL_law 878 = .ok (.iload_n 3, 1) := by decide +kernel
theorem dL_law_879 : decode cL_law 879 = .ok (.iconst 3, 1) := by decide +kernel
theorem dL_law_880 : decode cL_law 880 = .ok (.iadd, 1) := by decide +kernel
theorem dL_law_881 : decode cL_law 881 = .ok (.iaload, 1) := by decide +kernel
theorem dL_law_882 : decode cL_law 882 = .ok (.invokevirtual 108, 3) := by decide +kernel
theorem dL_law_885 : decode cL_law 885 = .ok (.aload_n 2, 1) := by decide +kernel
theorem dL_law_886 : decode cL_law 886 = .ok (.aload_n 0, 1) := by decide +kernel
theorem dL_law_887 : decode cL_law 887 = .ok (.iload_n 3, 1) := by decide +kernel
theorem dL_law_888 : decode cL_law 888 = .ok (.iconst 1, 1) := by decide +kernel
theorem dL_law_889 : decode cL_law 889 = .ok (.iadd, 1) := by decide +kernel
theorem dL_law_890 : decode cL_law 890 = .ok (.iaload, 1) := by decide +kernel
theorem dL_law_891 : decode cL_law 891 = .ok (.aload_n 0, 1) := by decide +kernel
theorem dL_law_892 : decode cL_law 892 = .ok (.iload_n 3, 1) := by decide +kernel
theorem dL_law_893 : decode cL_law 893 = .ok (.iconst 2, 1) := by decide +kernel
theorem dL_law_894 : decode cL_law 894 = .ok (.iadd, 1) := by decide +kernel
theorem dL_law_895 : decode cL_law 895 = .ok (.iaload, 1) := by decide +kernel
theorem dL_law_896 : decode cL_law 896 = .ok (.aload_n 0, 1) := by decide +kernel
theorem dL_law_897 : decode cL_law 897 = .ok (.iload_n 3, 1) := by decide +kernel
theorem dL_law_898 : decode cL_law 898 = .ok (.iconst 3, 1) := by decide +kernel
theorem dL_law_899 : decode cL_law 899 = .ok (.iadd, 1) := by decide +kernel
theorem dL_law_900 : decode cL_law 900 = .ok (.iaload, 1) := by decide +kernel
theorem dL_law_901 : decode cL_law 901 = .ok (.invokevirtual 111, 3) := by decide +kernel
theorem dL_law_904 : decode cL_law 904 = .ok (.if_icmp .eq 310, 3) := by decide +kernel
theorem dL_law_907 : decode cL_law 907 = .ok (.iconst 0, 1) := by decide +kernel
theorem dL_law_908 : decode cL_law 908 = .ok (.ireturn, 1) := by decide +kernel
theorem dL_law_909 : decode cL_law 909 = .ok (.aload_n 1, 1) := by decide +kernel
theorem dL_law_910 : decode cL_law 910 = .ok (.aload_n 0, 1) := by decide +kernel
theorem dL_law_911 : decode cL_law 911 = .ok (.iload_n 3, 1) := by decide +kernel
theorem dL_law_912 : decode cL_law 912 = .ok (.iconst 1, 1) := by decide +kernel
theorem dL_law_913 : decode cL_law 913 = .ok (.iadd, 1) := by decide +kernel
theorem dL_law_914 : decode cL_law 914 = .ok (.iaload, 1) := by decide +kernel
theorem dL_law_915 : decode cL_law 915 = .ok (.aload_n 0, 1) := by decide +kernel
theorem dL_law_916 : decode cL_law 916 = .ok (.iload_n 3, 1) := by decide +kernel
theorem dL_law_917 : decode cL_law 917 = .ok (.iconst 2, 1) := by decide +kernel
theorem dL_law_918 : decode cL_law 918 = .ok (.iadd, 1) := by decide +kernel
theorem dL_law_919 : decode cL_law 919 = .ok (.iaload, 1) := by decide +kernel
theorem dL_law_920 : decode cL_law 920 = .ok (.aload_n 0, 1) := by decide +kernel
theorem dL_law_921 : decode cL_law 921 = .ok (.iload_n 3, 1) := by decide +kernel
theorem dL_law_922 : decode cL_law 922 = .ok (.iconst 3, 1) := by decide +kernel
theorem dL_law_923 : decode cL_law 923 = .ok (.iadd, 1) := by decide +kernel
theorem dL_law_924 : decode cL_law 924 = .ok (.iaload, 1) := by decide +kernel
theorem dL_law_925 : decode cL_law 925 = .ok (.invokevirtual 112, 3) := by decide +kernel
theorem dL_law_928 : decode cL_law 928 = .ok (.aload_n 2, 1) := by decide +kernel
theorem dL_law_929 : decode cL_law 929 = .ok (.aload_n 0, 1) := by decide +kernel
theorem dL_law_930 : decode cL_law 930 = .ok (.iload_n 3, 1) := by decide +kernel
theorem dL_law_931 : decode cL_law 931 = .ok (.iconst 1, 1) := by decide +kernel
theorem dL_law_932 : decode cL_law 932 = .ok (.iadd, 1) := by decide +kernel
theorem dL_law_933 : decode cL_law 933 = .ok (.iaload, 1) := by decide +kernel
theorem dL_law_934 : decode cL_law 934 = .ok (.aload_n 0, 1) := by decide +kernel
theorem dL_law_935 : decode cL_law 935 = .ok (.iload_n 3, 1) := by decide +kernel
theorem dL_law_936 : decode cL_law 936 = .ok (.iconst 2, 1) := by decide +kernel
theorem dL_law_937 : decode cL_law 937 = .ok (.iadd, 1) := by decide +kernel
theorem dL_law_938 : decode cL_law 938 = .ok (.iaload, 1) := by decide +kernel
theorem dL_law_939 : decode cL_law 939 = .ok (.aload_n 0, 1) := by decide +kernel
theorem dL_law_940 : decode cL_law 940 = .ok (.iload_n 3, 1) := by decide +kernel
theorem dL_law_941 : decode cL_law 941 = .ok (.iconst 3, 1) := by decide +kernel
theorem dL_law_942 : decode cL_law 942 = .ok (.iadd, 1) := by decide +kernel
theorem dL_law_943 : decode cL_law 943 = .ok (.iaload, 1) := by decide +kernel
theorem dL_law_944 : decode cL_law 944 = .ok (.invokevirtual 115, 3) := by decide +kernel
theorem dL_law_947 : decode cL_law 947 = .ok (.if_icmp .eq 267, 3) := by decide +kernel
theorem dL_law_950 : decode cL_law 950 = .ok (.iconst 0, 1) := by decide +kernel
theorem dL_law_951 : decode cL_law 951 = .ok (.ireturn, 1) := by decide +kernel
theorem dL_law_952 : decode cL_law 952 = .ok (.aload_n 1, 1) := by decide +kernel
theorem dL_law_953 : decode cL_law 953 = .ok (.aload_n 0, 1) := by decide +kernel
theorem dL_law_954 : decode cL_law 954 = .ok (.iload_n 3, 1) := by decide +kernel
theorem dL_law_955 : decode cL_law 955 = .ok (.iconst 1, 1) := by decide +kernel
theorem dL_law_956 : decode cL_law 956 = .ok (.iadd, 1) := by decide +kernel
theorem dL_law_957 : decode cL_law 957 = .ok (.iaload, 1) := by decide +kernel
theorem dL_law_958 : decode cL_law 958 = .ok (.invokevirtual 116, 3) := by decide +kernel
theorem dL_law_961 : decode cL_law 961 = .ok (.aload_n 2, 1) := by decide +kernel
theorem dL_law_962 : decode cL_law 962 = .ok (.aload_n 0, 1) := by decide +kernel
theorem dL_law_963 : decode cL_law 963 = .ok (.iload_n 3, 1) := by decide +kernel
theorem dL_law_964 : decode cL_law 964 = .ok (.iconst 1, 1) := by decide +kernel
theorem dL_law_965 : decode cL_law 965 = .ok (.iadd, 1) := by decide +kernel
theorem dL_law_966 : decode cL_law 966 = .ok (.iaload, 1) := by decide +kernel
theorem dL_law_967 : decode cL_law 967 = .ok (.invokevirtual 119, 3) := by decide +kernel
theorem dL_law_970 : decode cL_law 970 = .ok (.if_icmp .eq 244, 3) := by decide +kernel
theorem dL_law_973 : decode cL_law 973 = .ok (.iconst 0, 1) := by decide +kernel
theorem dL_law_974 : decode cL_law 974 = .ok (.ireturn, 1) := by decide +kernel
theorem dL_law_975 : decode cL_law 975 = .ok (.aload_n 1, 1) := by decide +kernel
theorem dL_law_976 : decode cL_law 976 = .ok (.aload_n 0, 1) := by decide +kernel
theorem dL_law_977 : decode cL_law 977 = .ok (.iload_n 3, 1) := by decide +kernel
theorem dL_law_978 : decode cL_law 978 = .ok (.iconst 1, 1) := by decide +kernel
theorem dL_law_979 : decode cL_law 979 = .ok (.iadd, 1) := by decide +kernel
theorem dL_law_980 : decode cL_law 980 = .ok (.iaload, 1) := by decide +kernel
theorem dL_law_981 : decode cL_law 981 = .ok (.aload_n 0, 1) := by decide +kernel
theorem dL_law_982 : decode cL_law 982 = .ok (.iload_n 3, 1) := by decide +kernel
theorem dL_law_983 : decode cL_law 983 = .ok (.iconst 2, 1) := by decide +kernel
theorem dL_law_984 : decode cL_law 984 = .ok (.iadd, 1) := by decide +kernel
theorem dL_law_985 : decode cL_law 985 = .ok (.iaload, 1) := by decide +kernel
theorem dL_law_986 : decode cL_law 986 = .ok (.aload_n 0, 1) := by decide +kernel
theorem dL_law_987 : decode cL_law 987 = .ok (.iload_n 3, 1) := by decide +kernel
theorem dL_law_988 : decode cL_law 988 = .ok (.iconst 3, 1) := by decide +kernel
theorem dL_law_989 : decode cL_law 989 = .ok (.iadd, 1) := by decide +kernel
theorem dL_law_990 : decode cL_law 990 = .ok (.iaload, 1) := by decide +kernel
theorem dL_law_991 : decode cL_law 991 = .ok (.aload_n 0, 1) := by decide +kernel
theorem dL_law_992 : decode cL_law 992 = .ok (.iload_n 3, 1) := by decide +kernel
theorem dL_law_993 : decode cL_law 993 = .ok (.iconst 4, 1) := by decide +kernel
theorem dL_law_994 : decode cL_law 994 = .ok (.iadd, 1) := by decide +kernel
theorem dL_law_995 : decode cL_law 995 = .ok (.iaload, 1) := by decide +kernel
theorem dL_law_996 : decode cL_law 996 = .ok (.invokevirtual 120, 3) := by decide +kernel
theorem dL_law_999 : decode cL_law 999 = .ok (.aload_n 2, 1) := by decide +kernel
theorem dL_law_1000 : decode cL_law 1000 = .ok (.aload_n 0, 1) := by decide +kernel
theorem dL_law_1001 : decode cL_law 1001 = .ok (.iload_n 3, 1) := by decide +kernel
theorem dL_law_1002 : decode cL_law 1002 = .ok (.iconst 1, 1) := by decide +kernel
theorem dL_law_1003 : decode cL_law 1003 = .ok (.iadd, 1) := by decide +kernel
theorem dL_law_1004 : decode cL_law 1004 = .ok (.iaload, 1) := by decide +kernel
theorem dL_law_1005 : decode cL_law 1005 = .ok (.aload_n 0, 1) := by decide +kernel
theorem dL_law_1006 : decode cL_law 1006 = .ok (.iload_n 3, 1) := by decide +kernel
theorem dL_law_1007 : decode cL_law 1007 = .ok (.iconst 2, 1) := by decide +kernel
theorem dL_law_1008 : decode cL_law 1008 = .ok (.iadd, 1) := by decide +kernel
theorem dL_law_1009 : decode cL_law 1009 = .ok (.iaload, 1) := by decide +kernel
theorem dL_law_1010 : decode cL_law 1010 = .ok (.aload_n 0, 1) := by decide +kernel
theorem dL_law_1011 : decode cL_law 1011 = .ok (.iload_n 3, 1) := by decide +kernel
theorem dL_law_1012 : decode cL_law 1012 = .ok (.iconst 3, 1) := by decide +kernel
theorem dL_law_1013 : decode cL_law 1013 = .ok (.iadd, 1) := by decide +kernel
theorem dL_law_1014 : decode cL_law 1014 = .ok (.iaload, 1) := by decide +kernel
theorem dL_law_1015 : decode cL_law 1015 = .ok (.aload_n 0, 1) := by decide +kernel
theorem dL_law_1016 : decode cL_law 1016 = .ok (.iload_n 3, 1) := by decide +kernel
theorem dL_law_1017 : decode cL_law 1017 = .ok (.iconst 4, 1) := by decide +kernel
theorem dL_law_1018 : decode cL_law 1018 = .ok (.iadd, 1) := by decide +kernel
theorem dL_law_1019 : decode cL_law 1019 = .ok (.iaload, 1) := by decide +kernel
theorem dL_law_1020 : decode cL_law 1020 = .ok (.invokevirtual 124, 3) := by decide +kernel
theorem dL_law_1023 : decode cL_law 1023 = .ok (.if_icmp .eq 191, 3) := by decide +kernel
theorem dL_law_1026 : decode cL_law 1026 = .ok (.iconst 0, 1) := by decide +kernel
theorem dL_law_1027 : decode cL_law 1027 = .ok (.ireturn, 1) := by decide +kernel
theorem dL_law_1028 : decode cL_law 1028 = .ok (.aload_n 1, 1) := by decide +kernel
theorem dL_law_1029 : decode cL_law 1029 = .ok (.aload_n 0, 1) := by decide +kernel
theorem dL_law_1030 : decode cL_law 1030 = .ok (.iload_n 3, 1) := by decide +kernel
theorem dL_law_1031 : decode cL_law 1031 = .ok (.iconst 1, 1) := by decide +kernel
theorem dL_law_1032 : decode cL_law 1032 = .ok (.iadd, 1) := by decide +kernel
theorem dL_law_1033 : decode cL_law 1033 = .ok (.iaload, 1) := by decide +kernel
theorem dL_law_1034 : decode cL_law 1034 = .ok (.aload_n 0, 1) := by decide +kernel
theorem dL_law_1035 : decode cL_law 1035 = .ok (.iload_n 3, 1) := by decide +kernel
theorem dL_law_1036 : decode cL_law 1036 = .ok (.iconst 2, 1) := by decide +kernel
theorem dL_law_1037 : decode cL_law 1037 = .ok (.iadd, 1) := by decide +kernel
theorem dL_law_1038 : decode cL_law 1038 = .ok (.iaload, 1) := by decide +kernel
theorem dL_law_1039 : decode cL_law 1039 = .ok (.aload_n 0, 1) := by decide +kernel
theorem dL_law_1040 : decode cL_law 1040 = .ok (.iload_n 3, 1) := by decide +kernel
theorem dL_law_1041 : decode cL_law 1041 = .ok (.iconst 3, 1) := by decide +kernel
theorem dL_law_1042 : decode cL_law 1042 = .ok (.iadd, 1) := by decide +kernel
theorem dL_law_1043 : decode cL_law 1043 = .ok (.iaload, 1) := by decide +kernel
theorem dL_law_1044 : decode cL_law 1044 = .ok (.invokevirtual 125, 3) := by decide +kernel
theorem dL_law_1047 : decode cL_law 1047 = .ok (.aload_n 2, 1) := by decide +kernel
theorem dL_law_1048 : decode cL_law 1048 = .ok (.aload_n 0, 1) := by decide +kernel
theorem dL_law_1049 : decode cL_law 1049 = .ok (.iload_n 3, 1) := by decide +kernel
theorem dL_law_1050 : decode cL_law 1050 = .ok (.iconst 1, 1) := by decide +kernel
theorem dL_law_1051 : decode cL_law 1051 = .ok (.iadd, 1) := by decide +kernel
theorem dL_law_1052 : decode cL_law 1052 = .ok (.iaload, 1) := by decide +kernel
theorem dL_law_1053 : decode cL_law 1053 = .ok (.aload_n 0, 1) := by decide +kernel
theorem dL_law_1054 : decode cL_law 1054 = .ok (.iload_n 3, 1) := by decide +kernel
theorem dL_law_1055 : decode cL_law 1055 = .ok (.iconst 2, 1) := by decide +kernel
theorem dL_law_1056 : decode cL_law 1056 = .ok (.iadd, 1) := by decide +kernel
theorem dL_law_1057 : decode cL_law 1057 = .ok (.iaload, 1) := by decide +kernel
theorem dL_law_1058 : decode cL_law 1058 = .ok (.aload_n 0, 1) := by decide +kernel
theorem dL_law_1059 : decode cL_law 1059 = .ok (.iload_n 3, 1) := by decide +kernel
theorem dL_law_1060 : decode cL_law 1060 = .ok (.iconst 3, 1) := by decide +kernel
theorem dL_law_1061 : decode cL_law 1061 = .ok (.iadd, 1) := by decide +kernel
theorem dL_law_1062 : decode cL_law 1062 = .ok (.iaload, 1) := by decide +kernel
theorem dL_law_1063 : decode cL_law 1063 = .ok (.invokevirtual 128, 3) := by decide +kernel
theorem dL_law_1066 : decode cL_law 1066 = .ok (.if_icmp .eq 148, 3) := by decide +kernel
theorem dL_law_1069 : decode cL_law 1069 = .ok (.iconst 0, 1) := by decide +kernel
theorem dL_law_1070 : decode cL_law 1070 = .ok (.ireturn, 1) := by decide +kernel
theorem dL_law_1071 : decode cL_law 1071 = .ok (.aload_n 1, 1) := by decide +kernel
theorem dL_law_1072 : decode cL_law 1072 = .ok (.aload_n 0, 1) := by decide +kernel
theorem dL_law_1073 : decode cL_law 1073 = .ok (.iload_n 3, 1) := by decide +kernel
theorem dL_law_1074 : decode cL_law 1074 = .ok (.iconst 1, 1) := by decide +kernel
theorem dL_law_1075 : decode cL_law 1075 = .ok (.iadd, 1) := by decide +kernel
theorem dL_law_1076 : decode cL_law 1076 = .ok (.iaload, 1) := by decide +kernel
theorem dL_law_1077 : decode cL_law 1077 = .ok (.aload_n 0, 1) := by decide +kernel
theorem dL_law_1078 : decode cL_law 1078 = .ok (.iload_n 3, 1) := by decide +kernel
theorem dL_law_1079 : decode cL_law 1079 = .ok (.iconst 2, 1) := by decide +kernel
theorem dL_law_1080 : decode cL_law 1080 = .ok (.iadd, 1) := by decide +kernel
theorem dL_law_1081 : decode cL_law 1081 = .ok (.iaload, 1) := by decide +kernel
theorem dL_law_1082 : decode cL_law 1082 = .ok (.aload_n 0, 1) := by decide +kernel
theorem dL_law_1083 : decode cL_law 1083 = .ok (.iload_n 3, 1) := by decide +kernel
theorem dL_law_1084 : decode cL_law 1084 = .ok (.iconst 3, 1) := by decide +kernel
theorem dL_law_1085 : decode cL_law 1085 = .ok (.iadd, 1) := by decide +kernel
theorem dL_law_1086 : decode cL_law 1086 = .ok (.iaload, 1) := by decide +kernel
theorem dL_law_1087 : decode cL_law 1087 = .ok (.aload_n 0, 1) := by decide +kernel
theorem dL_law_1088 : decode cL_law 1088 = .ok (.iload_n 3, 1) := by decide +kernel
theorem dL_law_1089 : decode cL_law 1089 = .ok (.iconst 4, 1) := by decide +kernel
theorem dL_law_1090 : decode cL_law 1090 = .ok (.iadd, 1) := by decide +kernel
theorem dL_law_1091 : decode cL_law 1091 = .ok (.iaload, 1) := by decide +kernel
theorem dL_law_1092 : decode cL_law 1092 = .ok (.aload_n 0, 1) := by decide +kernel
theorem dL_law_1093 : decode cL_law 1093 = .ok (.iload_n 3, 1) := by decide +kernel
theorem dL_law_1094 : decode cL_law 1094 = .ok (.iconst 5, 1) := by decide +kernel
theorem dL_law_1095 : decode cL_law 1095 = .ok (.iadd, 1) := by decide +kernel
theorem dL_law_1096 : decode cL_law 1096 = .ok (.iaload, 1) := by decide +kernel
theorem dL_law_1097 : decode cL_law 1097 = .ok (.invokevirtual 129, 3) := by decide +kernel
theorem dL_law_1100 : decode cL_law 1100 = .ok (.aload_n 2, 1) := by decide +kernel
theorem dL_law_1101 : decode cL_law 1101 = .ok (.aload_n 0, 1) := by decide +kernel
theorem dL_law_1102 : decode cL_law 1102 = .ok (.iload_n 3, 1) := by decide +kernel
theorem dL_law_1103 : decode cL_law 1103 = .ok (.iconst 1, 1) := by decide +kernel
theorem dL_law_1104 : decode cL_law 1104 = .ok (.iadd, 1) := by decide +kernel
theorem dL_law_1105 : decode cL_law 1105 = .ok (.iaload, 1) := by decide +kernel
theorem dL_law_1106 : decode cL_law 1106 = .ok (.aload_n 0, 1) := by decide +kernel
theorem dL_law_1107 : decode cL_law 1107 = .ok (.iload_n 3, 1) := by decide +kernel
theorem dL_law_1108 : decode cL_law 1108 = .ok (.iconst 2, 1) := by decide +kernel
theorem dL_law_1109 : decode cL_law 1109 = .ok (.iadd, 1) := by decide +kernel
theorem dL_law_1110 : decode cL_law 1110 = .ok (.iaload, 1) := by decide +kernel
theorem dL_law_1111 : decode cL_law 1111 = .ok (.aload_n 0, 1) := by decide +kernel
theorem dL_law_1112 : decode cL_law 1112 = .ok (.iload_n 3, 1) := by decide +kernel
theorem dL_law_1113 : decode cL_law 1113 = .ok (.iconst 3, 1) := by decide +kernel
theorem dL_law_1114 : decode cL_law 1114 = .ok (.iadd, 1) := by decide +kernel
theorem dL_law_1115 : decode cL_law 1115 = .ok (.iaload, 1) := by decide +kernel
theorem dL_law_1116 : decode cL_law 1116 = .ok (.aload_n 0, 1) := by decide +kernel
theorem dL_law_1117 : decode cL_law 1117 = .ok (.iload_n 3, 1) := by decide +kernel
theorem dL_law_1118 : decode cL_law 1118 = .ok (.iconst 4, 1) := by decide +kernel
theorem dL_law_1119 : decode cL_law 1119 = .ok (.iadd, 1) := by decide +kernel
theorem dL_law_1120 : decode cL_law 1120 = .ok (.iaload, 1) := by decide +kernel
theorem dL_law_1121 : decode cL_law 1121 = .ok (.aload_n 0, 1) := by decide +kernel
theorem dL_law_1122 : decode cL_law 1122 = .ok (.iload_n 3, 1) := by decide +kernel
theorem dL_law_1123 : decode cL_law 1123 = .ok (.iconst 5, 1) := by decide +kernel
theorem dL_law_1124 : decode cL_law 1124 = .ok (.iadd, 1) := by decide +kernel
theorem dL_law_1125 : decode cL_law 1125 = .ok (.iaload, 1) := by decide +kernel
theorem dL_law_1126 : decode cL_law 1126 = .ok (.invokevirtual 133, 3) := by decide +kernel
theorem dL_law_1129 : decode cL_law 1129 = .ok (.if_icmp .eq 85, 3) := by decide +kernel
theorem dL_law_1132 : decode cL_law 1132 = .ok (.iconst 0, 1) := by decide +kernel
theorem dL_law_1133 : decode cL_law 1133 = .ok (.ireturn, 1) := by decide +kernel
theorem dL_law_1134 : decode cL_law 1134 = .ok (.aload_n 1, 1) := by decide +kernel
theorem dL_law_1135 : decode cL_law 1135 = .ok (.aload_n 0, 1) := by decide +kernel
theorem dL_law_1136 : decode cL_law 1136 = .ok (.iload_n 3, 1) := by decide +kernel
theorem dL_law_1137 : decode cL_law 1137 = .ok (.iconst 1, 1) := by decide +kernel
theorem dL_law_1138 : decode cL_law 1138 = .ok (.iadd, 1) := by decide +kernel
theorem dL_law_1139 : decode cL_law 1139 = .ok (.iaload, 1) := by decide +kernel
theorem dL_law_1140 : decode cL_law 1140 = .ok (.aload_n 0, 1) := by decide +kernel
theorem dL_law_1141 : decode cL_law 1141 = .ok (.iload_n 3, 1) := by decide +kernel
theorem dL_law_1142 : decode cL_law 1142 = .ok (.iconst 2, 1) := by decide +kernel
theorem dL_law_1143 : decode cL_law 1143 = .ok (.iadd, 1) := by decide +kernel
theorem dL_law_1144 : decode cL_law 1144 = .ok (.iaload, 1) := by decide +kernel
theorem dL_law_1145 : decode cL_law 1145 = .ok (.aload_n 0, 1) := by decide +kernel
theorem dL_law_1146 : decode cL_law 1146 = .ok (.iload_n 3, 1) := by decide +kernel
theorem dL_law_1147 : decode cL_law 1147 = .ok (.iconst 3, 1) := by decide +kernel
theorem dL_law_1148 : decode cL_law 1148 = .ok (.iadd, 1) := by decide +kernel
theorem dL_law_1149 : decode cL_law 1149 = .ok (.iaload, 1) := by decide +kernel
theorem dL_law_1150 : decode cL_law 1150 = .ok (.invokevirtual 134, 3) := by decide +kernel
theorem dL_law_1153 : decode cL_law 1153 = .ok (.aload_n 2, 1) := by decide +kernel
theorem dL_law_1154 : decode cL_law 1154 = .ok (.aload_n 0, 1) := by decide +kernel
theorem dL_law_1155 : decode cL_law 1155 = .ok (.iload_n 3, 1) := by decide +kernel
theorem dL_law_1156 : decode cL_law 1156 = .ok (.iconst 1, 1) := by decide +kernel
theorem dL_law_1157 : decode cL_law 1157 = .ok (.iadd, 1) := by decide +kernel
theorem dL_law_1158 : decode cL_law 1158 = .ok (.iaload, 1) := by decide +kernel
theorem dL_law_1159 : decode cL_law 1159 = .ok (.aload_n 0, 1) := by decide +kernel
theorem dL_law_1160 : decode cL_law 1160 = .ok (.iload_n 3, 1) := by decide +kernel
theorem dL_law_1161 : decode cL_law 1161 = .ok (.iconst 2, 1) := by decide +kernel
theorem dL_law_1162 : decode cL_law 1162 = .ok (.iadd, 1) := by decide +kernel
theorem dL_law_1163 : decode cL_law 1163 = .ok (.iaload, 1) := by decide +kernel
theorem dL_law_1164 : decode cL_law 1164 = .ok (.aload_n 0, 1) := by decide +kernel
theorem dL_law_1165 : decode cL_law 1165 = .ok (.iload_n 3, 1) := by decide +kernel
theorem dL_law_1166 : decode cL_law 1166 = .ok (.iconst 3, 1) := by decide +kernel
theorem dL_law_1167 : decode cL_law 1167 = .ok (.iadd, 1) := by decide +kernel
theorem dL_law_1168 : decode cL_law 1168 = .ok (.iaload, 1) := by decide +kernel
theorem dL_law_1169 : decode cL_law 1169 = .ok (.invokevirtual 137, 3) := by decide +kernel
theorem dL_law_1172 : decode cL_law 1172 = .ok (.if_icmp .eq 42, 3) := by decide +kernel
theorem dL_law_1175 : decode cL_law 1175 = .ok (.iconst 0, 1) := by decide +kernel
theorem dL_law_1176 : decode cL_law 1176 = .ok (.ireturn, 1) := by decide +kernel
theorem dL_law_1177 : decode cL_law 1177 = .ok (.aload_n 1, 1) := by decide +kernel
theorem dL_law_1178 : decode cL_law 1178 = .ok (.aload_n 0, 1) := by decide +kernel
theorem dL_law_1179 : decode cL_law 1179 = .ok (.iload_n 3, 1) := by decide +kernel
theorem dL_law_1180 : decode cL_law 1180 = .ok (.iconst 1, 1) := by decide +kernel
theorem dL_law_1181 : decode cL_law 1181 = .ok (.iadd, 1) := by decide +kernel
theorem dL_law_1182 : decode cL_law 1182 = .ok (.iaload, 1) := by decide +kernel
theorem dL_law_1183 : decode cL_law 1183 = .ok (.invokevirtual 138, 3) := by decide +kernel
theorem dL_law_1186 : decode cL_law 1186 = .ok (.aload_n 2, 1) := by decide +kernel
theorem dL_law_1187 : decode cL_law 1187 = .ok (.aload_n 0, 1) := by decide +kernel
theorem dL_law_1188 : decode cL_law 1188 = .ok (.iload_n 3, 1) := by decide +kernel
theorem dL_law_1189 : decode cL_law 1189 = .ok (.iconst 1, 1) := by decide +kernel
theorem dL_law_1190 : decode cL_law 1190 = .ok (.iadd, 1) := by decide +kernel
theorem dL_law_1191 : decode cL_law 1191 = .ok (.iaload, 1) := by decide +kernel
theorem dL_law_1192 : decode cL_law 1192 = .ok (.invokevirtual 141, 3) := by decide +kernel
theorem dL_law_1195 : decode cL_law 1195 = .ok (.if_icmp .eq 19, 3) := by decide +kernel
theorem dL_law_1198 : decode cL_law 1198 = .ok (.iconst 0, 1) := by decide +kernel
theorem dL_law_1199 : decode cL_law 1199 = .ok (.ireturn, 1) := by decide +kernel
theorem dL_law_1200 : decode cL_law 1200 = .ok (.aload_n 1, 1) := by decide +kernel
theorem dL_law_1201 : decode cL_law 1201 = .ok (.invokevirtual 142, 3) := by decide +kernel
theorem dL_law_1204 : decode cL_law 1204 = .ok (.aload_n 2, 1) := by decide +kernel
theorem dL_law_1205 : decode cL_law 1205 = .ok (.invokevirtual 146, 3) := by decide +kernel
theorem dL_law_1208 : decode cL_law 1208 = .ok (.lcmp, 1) := by decide +kernel
theorem dL_law_1209 : decode cL_law 1209 = .ok (.ifCond .eq 5, 3) := by decide +kernel
theorem dL_law_1212 : decode cL_law 1212 = .ok (.iconst 0, 1) := by decide +kernel
theorem dL_law_1213 : decode cL_law 1213 = .ok (.ireturn, 1) := by decide +kernel
theorem dL_law_1214 : decode cL_law 1214 = .ok (.iinc 3 6, 3) := by decide +kernel
theorem dL_law_1217 : decode cL_law 1217 = .ok (.goto (-1199), 3) := by decide +kernel
theorem dL_law_1220 : decode cL_law 1220 = .ok (.iconst 1, 1) := by decide +kernel
theorem dL_law_1221 : decode cL_law 1221 = .ok (.ireturn, 1) := by decide +kernel
end
