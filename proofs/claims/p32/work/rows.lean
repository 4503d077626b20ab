section
/-- a private method of a class that the tables say can be made, by its rows of tables_1 -/
def lw_okq (q : MethodName × Nat) : Prop := (q.1.cls ≠ "java/lang/invoke/MethodHandle" ∧ q.1.cls ≠ "java/lang/invoke/VarHandle") ∧ Cond.instantiable q.1.cls q.2 ∈ tables_1 ∧ Cond.privateMethod q.1 ∈ tables_1 ∧ Cond.instanceMethod q.1 ∈ tables_1
theorem lw_p0 : lw_okq (⟨"LinenTunnel", "isKind", "(I)Z"⟩, 7) := ⟨⟨by decide +kernel, by decide +kernel⟩, List.mem_of_getElem? (i := 12) (by decide +kernel), List.mem_of_getElem? (i := 276) (by decide +kernel), List.mem_of_getElem? (i := 277) (by decide +kernel)⟩
theorem lw_p1 : lw_okq (⟨"LinenTunnel", "isPiece", "(I)Z"⟩, 7) := ⟨⟨by decide +kernel, by decide +kernel⟩, List.mem_of_getElem? (i := 12) (by decide +kernel), List.mem_of_getElem? (i := 292) (by decide +kernel), List.mem_of_getElem? (i := 293) (by decide +kernel)⟩
theorem lw_p2 : lw_okq (⟨"LinenTunnel", "soilFrom", "(II)I"⟩, 7) := ⟨⟨by decide +kernel, by decide +kernel⟩, List.mem_of_getElem? (i := 12) (by decide +kernel), List.mem_of_getElem? (i := 313) (by decide +kernel), List.mem_of_getElem? (i := 314) (by decide +kernel)⟩
theorem lw_p3 : lw_okq (⟨"LinenTunnel", "isKindOrAny", "(I)Z"⟩, 7) := ⟨⟨by decide +kernel, by decide +kernel⟩, List.mem_of_getElem? (i := 12) (by decide +kernel), List.mem_of_getElem? (i := 324) (by decide +kernel), List.mem_of_getElem? (i := 325) (by decide +kernel)⟩
theorem lw_p4 : lw_okq (⟨"LinenTunnel", "find", "(I)I"⟩, 7) := ⟨⟨by decide +kernel, by decide +kernel⟩, List.mem_of_getElem? (i := 12) (by decide +kernel), List.mem_of_getElem? (i := 352) (by decide +kernel), List.mem_of_getElem? (i := 353) (by decide +kernel)⟩
theorem lw_p5 : lw_okq (⟨"LinenTunnel", "isOrderPlace", "(I)Z"⟩, 7) := ⟨⟨by decide +kernel, by decide +kernel⟩, List.mem_of_getElem? (i := 12) (by decide +kernel), List.mem_of_getElem? (i := 385) (by decide +kernel), List.mem_of_getElem? (i := 386) (by decide +kernel)⟩
theorem lw_p6 : lw_okq (⟨"LinenTunnel$Planner", "fillGaps", "()V"⟩, 3) := ⟨⟨by decide +kernel, by decide +kernel⟩, List.mem_of_getElem? (i := 131) (by decide +kernel), List.mem_of_getElem? (i := 458) (by decide +kernel), List.mem_of_getElem? (i := 459) (by decide +kernel)⟩
theorem lw_p7 : lw_okq (⟨"LinenTunnel$Planner", "fillFewest", "()V"⟩, 3) := ⟨⟨by decide +kernel, by decide +kernel⟩, List.mem_of_getElem? (i := 131) (by decide +kernel), List.mem_of_getElem? (i := 464) (by decide +kernel), List.mem_of_getElem? (i := 465) (by decide +kernel)⟩
theorem lw_p8 : lw_okq (⟨"LinenTunnel$Planner", "bestBehind", "(II)I"⟩, 3) := ⟨⟨by decide +kernel, by decide +kernel⟩, List.mem_of_getElem? (i := 131) (by decide +kernel), List.mem_of_getElem? (i := 468) (by decide +kernel), List.mem_of_getElem? (i := 469) (by decide +kernel)⟩
theorem lw_p9 : lw_okq (⟨"LinenTunnel$Planner", "costBehind", "(III)I"⟩, 3) := ⟨⟨by decide +kernel, by decide +kernel⟩, List.mem_of_getElem? (i := 131) (by decide +kernel), List.mem_of_getElem? (i := 472) (by decide +kernel), List.mem_of_getElem? (i := 473) (by decide +kernel)⟩
theorem lw_p10 : lw_okq (⟨"LinenTunnel$Waiting", "nextOf", "(II)I"⟩, 5) := ⟨⟨by decide +kernel, by decide +kernel⟩, List.mem_of_getElem? (i := 97) (by decide +kernel), List.mem_of_getElem? (i := 485) (by decide +kernel), List.mem_of_getElem? (i := 486) (by decide +kernel)⟩
theorem lw_p11 : lw_okq (⟨"LinenTunnel$House", "clear", "()V"⟩, 16) := ⟨⟨by decide +kernel, by decide +kernel⟩, List.mem_of_getElem? (i := 149) (by decide +kernel), List.mem_of_getElem? (i := 501) (by decide +kernel), List.mem_of_getElem? (i := 502) (by decide +kernel)⟩
theorem lw_p12 : lw_okq (⟨"LinenTunnel$House", "lineUp", "(I)V"⟩, 16) := ⟨⟨by decide +kernel, by decide +kernel⟩, List.mem_of_getElem? (i := 149) (by decide +kernel), List.mem_of_getElem? (i := 506) (by decide +kernel), List.mem_of_getElem? (i := 507) (by decide +kernel)⟩
theorem lw_p13 : lw_okq (⟨"LinenTunnel$House", "addSlot", "(I)V"⟩, 16) := ⟨⟨by decide +kernel, by decide +kernel⟩, List.mem_of_getElem? (i := 149) (by decide +kernel), List.mem_of_getElem? (i := 512) (by decide +kernel), List.mem_of_getElem? (i := 513) (by decide +kernel)⟩
theorem lw_p14 : lw_okq (⟨"LinenTunnel$House", "note", "(III)V"⟩, 16) := ⟨⟨by decide +kernel, by decide +kernel⟩, List.mem_of_getElem? (i := 149) (by decide +kernel), List.mem_of_getElem? (i := 517) (by decide +kernel), List.mem_of_getElem? (i := 518) (by decide +kernel)⟩
theorem lw_p15 : lw_okq (⟨"LinenTunnel$House", "addTotal", "(II)V"⟩, 16) := ⟨⟨by decide +kernel, by decide +kernel⟩, List.mem_of_getElem? (i := 149) (by decide +kernel), List.mem_of_getElem? (i := 521) (by decide +kernel), List.mem_of_getElem? (i := 522) (by decide +kernel)⟩
def lw_privs_1 : List (MethodName × Nat) := [(⟨"LinenTunnel", "isKind", "(I)Z"⟩, 7), (⟨"LinenTunnel", "isPiece", "(I)Z"⟩, 7), (⟨"LinenTunnel", "soilFrom", "(II)I"⟩, 7), (⟨"LinenTunnel", "isKindOrAny", "(I)Z"⟩, 7), (⟨"LinenTunnel", "find", "(I)I"⟩, 7), (⟨"LinenTunnel", "isOrderPlace", "(I)Z"⟩, 7), (⟨"LinenTunnel$Planner", "fillGaps", "()V"⟩, 3), (⟨"LinenTunnel$Planner", "fillFewest", "()V"⟩, 3), (⟨"LinenTunnel$Planner", "bestBehind", "(II)I"⟩, 3), (⟨"LinenTunnel$Planner", "costBehind", "(III)I"⟩, 3), (⟨"LinenTunnel$Waiting", "nextOf", "(II)I"⟩, 5), (⟨"LinenTunnel$House", "clear", "()V"⟩, 16), (⟨"LinenTunnel$House", "lineUp", "(I)V"⟩, 16), (⟨"LinenTunnel$House", "addSlot", "(I)V"⟩, 16), (⟨"LinenTunnel$House", "note", "(III)V"⟩, 16), (⟨"LinenTunnel$House", "addTotal", "(II)V"⟩, 16)]
theorem lw_r1 : ∀ q ∈ lw_privs_1, lw_okq q := List.forall_mem_cons.mpr ⟨lw_p0, List.forall_mem_cons.mpr ⟨lw_p1, List.forall_mem_cons.mpr ⟨lw_p2, List.forall_mem_cons.mpr ⟨lw_p3, List.forall_mem_cons.mpr ⟨lw_p4, List.forall_mem_cons.mpr ⟨lw_p5, List.forall_mem_cons.mpr ⟨lw_p6, List.forall_mem_cons.mpr ⟨lw_p7, List.forall_mem_cons.mpr ⟨lw_p8, List.forall_mem_cons.mpr ⟨lw_p9, List.forall_mem_cons.mpr ⟨lw_p10, List.forall_mem_cons.mpr ⟨lw_p11, List.forall_mem_cons.mpr ⟨lw_p12, List.forall_mem_cons.mpr ⟨lw_p13, List.forall_mem_cons.mpr ⟨lw_p14, List.forall_mem_cons.mpr ⟨lw_p15, fun _ h => absurd h List.not_mem_nil⟩⟩⟩⟩⟩⟩⟩⟩⟩⟩⟩⟩⟩⟩⟩⟩
theorem lw_p16 : lw_okq (⟨"LinenTunnel$House", "doBeat", "(I)V"⟩, 16) := ⟨⟨by decide +kernel, by decide +kernel⟩, List.mem_of_getElem? (i := 149) (by decide +kernel), List.mem_of_getElem? (i := 526) (by decide +kernel), List.mem_of_getElem? (i := 527) (by decide +kernel)⟩
theorem lw_p17 : lw_okq (⟨"LinenTunnel$House", "freeDryer", "(I)I"⟩, 16) := ⟨⟨by decide +kernel, by decide +kernel⟩, List.mem_of_getElem? (i := 149) (by decide +kernel), List.mem_of_getElem? (i := 534) (by decide +kernel), List.mem_of_getElem? (i := 535) (by decide +kernel)⟩
theorem lw_p18 : lw_okq (⟨"LinenTunnel$House", "goOut", "(IIII)V"⟩, 16) := ⟨⟨by decide +kernel, by decide +kernel⟩, List.mem_of_getElem? (i := 149) (by decide +kernel), List.mem_of_getElem? (i := 538) (by decide +kernel), List.mem_of_getElem? (i := 539) (by decide +kernel)⟩
theorem lw_p19 : lw_okq (⟨"LinenTunnel$House", "moveOn", "(I)V"⟩, 16) := ⟨⟨by decide +kernel, by decide +kernel⟩, List.mem_of_getElem? (i := 149) (by decide +kernel), List.mem_of_getElem? (i := 542) (by decide +kernel), List.mem_of_getElem? (i := 543) (by decide +kernel)⟩
theorem lw_p20 : lw_okq (⟨"LinenTunnel$House", "waterOfBeat", "()I"⟩, 16) := ⟨⟨by decide +kernel, by decide +kernel⟩, List.mem_of_getElem? (i := 149) (by decide +kernel), List.mem_of_getElem? (i := 546) (by decide +kernel), List.mem_of_getElem? (i := 547) (by decide +kernel)⟩
theorem lw_p21 : lw_okq (⟨"LinenTunnel$House", "hasWaterOfNext", "(I)Z"⟩, 16) := ⟨⟨by decide +kernel, by decide +kernel⟩, List.mem_of_getElem? (i := 149) (by decide +kernel), List.mem_of_getElem? (i := 550) (by decide +kernel), List.mem_of_getElem? (i := 551) (by decide +kernel)⟩
theorem lw_p22 : lw_okq (⟨"LinenTunnel$House", "colourAt", "(I)I"⟩, 16) := ⟨⟨by decide +kernel, by decide +kernel⟩, List.mem_of_getElem? (i := 149) (by decide +kernel), List.mem_of_getElem? (i := 554) (by decide +kernel), List.mem_of_getElem? (i := 555) (by decide +kernel)⟩
theorem lw_p23 : lw_okq (⟨"LinenTunnel$House", "ironAll", "()V"⟩, 16) := ⟨⟨by decide +kernel, by decide +kernel⟩, List.mem_of_getElem? (i := 149) (by decide +kernel), List.mem_of_getElem? (i := 558) (by decide +kernel), List.mem_of_getElem? (i := 559) (by decide +kernel)⟩
theorem lw_p24 : lw_okq (⟨"LinenTunnel$House", "firstDry", "(I)I"⟩, 16) := ⟨⟨by decide +kernel, by decide +kernel⟩, List.mem_of_getElem? (i := 149) (by decide +kernel), List.mem_of_getElem? (i := 562) (by decide +kernel), List.mem_of_getElem? (i := 563) (by decide +kernel)⟩
theorem lw_p25 : lw_okq (⟨"LinenTunnel$House", "ironOne", "(I)V"⟩, 16) := ⟨⟨by decide +kernel, by decide +kernel⟩, List.mem_of_getElem? (i := 149) (by decide +kernel), List.mem_of_getElem? (i := 566) (by decide +kernel), List.mem_of_getElem? (i := 567) (by decide +kernel)⟩
theorem lw_p26 : lw_okq (⟨"LinenTunnel$House", "firstIron", "()I"⟩, 16) := ⟨⟨by decide +kernel, by decide +kernel⟩, List.mem_of_getElem? (i := 149) (by decide +kernel), List.mem_of_getElem? (i := 570) (by decide +kernel), List.mem_of_getElem? (i := 571) (by decide +kernel)⟩
theorem lw_p27 : lw_okq (⟨"LinenTunnelModel", "isKind", "(I)Z"⟩, 37) := ⟨⟨by decide +kernel, by decide +kernel⟩, List.mem_of_getElem? (i := 662) (by decide +kernel), List.mem_of_getElem? (i := 792) (by decide +kernel), List.mem_of_getElem? (i := 793) (by decide +kernel)⟩
theorem lw_p28 : lw_okq (⟨"LinenTunnelModel", "isPiece", "(I)Z"⟩, 37) := ⟨⟨by decide +kernel, by decide +kernel⟩, List.mem_of_getElem? (i := 662) (by decide +kernel), List.mem_of_getElem? (i := 800) (by decide +kernel), List.mem_of_getElem? (i := 801) (by decide +kernel)⟩
theorem lw_p29 : lw_okq (⟨"LinenTunnelModel", "is", "(IIII)Z"⟩, 37) := ⟨⟨by decide +kernel, by decide +kernel⟩, List.mem_of_getElem? (i := 662) (by decide +kernel), List.mem_of_getElem? (i := 820) (by decide +kernel), List.mem_of_getElem? (i := 821) (by decide +kernel)⟩
theorem lw_p30 : lw_okq (⟨"LinenTunnelModel", "meets", "(I)I"⟩, 37) := ⟨⟨by decide +kernel, by decide +kernel⟩, List.mem_of_getElem? (i := 662) (by decide +kernel), List.mem_of_getElem? (i := 831) (by decide +kernel), List.mem_of_getElem? (i := 832) (by decide +kernel)⟩
theorem lw_p31 : lw_okq (⟨"LinenTunnelModel", "placeIn", "(I)I"⟩, 37) := ⟨⟨by decide +kernel, by decide +kernel⟩, List.mem_of_getElem? (i := 662) (by decide +kernel), List.mem_of_getElem? (i := 851) (by decide +kernel), List.mem_of_getElem? (i := 852) (by decide +kernel)⟩
def lw_privs_2 : List (MethodName × Nat) := [(⟨"LinenTunnel$House", "doBeat", "(I)V"⟩, 16), (⟨"LinenTunnel$House", "freeDryer", "(I)I"⟩, 16), (⟨"LinenTunnel$House", "goOut", "(IIII)V"⟩, 16), (⟨"LinenTunnel$House", "moveOn", "(I)V"⟩, 16), (⟨"LinenTunnel$House", "waterOfBeat", "()I"⟩, 16), (⟨"LinenTunnel$House", "hasWaterOfNext", "(I)Z"⟩, 16), (⟨"LinenTunnel$House", "colourAt", "(I)I"⟩, 16), (⟨"LinenTunnel$House", "ironAll", "()V"⟩, 16), (⟨"LinenTunnel$House", "firstDry", "(I)I"⟩, 16), (⟨"LinenTunnel$House", "ironOne", "(I)V"⟩, 16), (⟨"LinenTunnel$House", "firstIron", "()I"⟩, 16), (⟨"LinenTunnelModel", "isKind", "(I)Z"⟩, 37), (⟨"LinenTunnelModel", "isPiece", "(I)Z"⟩, 37), (⟨"LinenTunnelModel", "is", "(IIII)Z"⟩, 37), (⟨"LinenTunnelModel", "meets", "(I)I"⟩, 37), (⟨"LinenTunnelModel", "placeIn", "(I)I"⟩, 37)]
theorem lw_r2 : ∀ q ∈ lw_privs_2, lw_okq q := List.forall_mem_cons.mpr ⟨lw_p16, List.forall_mem_cons.mpr ⟨lw_p17, List.forall_mem_cons.mpr ⟨lw_p18, List.forall_mem_cons.mpr ⟨lw_p19, List.forall_mem_cons.mpr ⟨lw_p20, List.forall_mem_cons.mpr ⟨lw_p21, List.forall_mem_cons.mpr ⟨lw_p22, List.forall_mem_cons.mpr ⟨lw_p23, List.forall_mem_cons.mpr ⟨lw_p24, List.forall_mem_cons.mpr ⟨lw_p25, List.forall_mem_cons.mpr ⟨lw_p26, List.forall_mem_cons.mpr ⟨lw_p27, List.forall_mem_cons.mpr ⟨lw_p28, List.forall_mem_cons.mpr ⟨lw_p29, List.forall_mem_cons.mpr ⟨lw_p30, List.forall_mem_cons.mpr ⟨lw_p31, fun _ h => absurd h List.not_mem_nil⟩⟩⟩⟩⟩⟩⟩⟩⟩⟩⟩⟩⟩⟩⟩⟩
theorem lw_p32 : lw_okq (⟨"LinenTunnelModel", "emptiesOf", "(II)I"⟩, 37) := ⟨⟨by decide +kernel, by decide +kernel⟩, List.mem_of_getElem? (i := 662) (by decide +kernel), List.mem_of_getElem? (i := 867) (by decide +kernel), List.mem_of_getElem? (i := 868) (by decide +kernel)⟩
theorem lw_p33 : lw_okq (⟨"LinenTunnelModel", "betweenBatches", "(II)I"⟩, 37) := ⟨⟨by decide +kernel, by decide +kernel⟩, List.mem_of_getElem? (i := 662) (by decide +kernel), List.mem_of_getElem? (i := 875) (by decide +kernel), List.mem_of_getElem? (i := 876) (by decide +kernel)⟩
theorem lw_p34 : lw_okq (⟨"LinenTunnelModel", "kindAt", "(I)I"⟩, 37) := ⟨⟨by decide +kernel, by decide +kernel⟩, List.mem_of_getElem? (i := 662) (by decide +kernel), List.mem_of_getElem? (i := 897) (by decide +kernel), List.mem_of_getElem? (i := 898) (by decide +kernel)⟩
theorem lw_p35 : lw_okq (⟨"LinenTunnelModel", "dryerAt", "(I)I"⟩, 37) := ⟨⟨by decide +kernel, by decide +kernel⟩, List.mem_of_getElem? (i := 662) (by decide +kernel), List.mem_of_getElem? (i := 901) (by decide +kernel), List.mem_of_getElem? (i := 902) (by decide +kernel)⟩
theorem lw_p36 : lw_okq (⟨"LinenTunnelModel", "goesOut", "(III)V"⟩, 37) := ⟨⟨by decide +kernel, by decide +kernel⟩, List.mem_of_getElem? (i := 662) (by decide +kernel), List.mem_of_getElem? (i := 905) (by decide +kernel), List.mem_of_getElem? (i := 906) (by decide +kernel)⟩
theorem lw_p37 : lw_okq (⟨"LinenTunnelModel", "waterNow", "()I"⟩, 37) := ⟨⟨by decide +kernel, by decide +kernel⟩, List.mem_of_getElem? (i := 662) (by decide +kernel), List.mem_of_getElem? (i := 909) (by decide +kernel), List.mem_of_getElem? (i := 910) (by decide +kernel)⟩
theorem lw_p38 : lw_okq (⟨"LinenTunnelModel", "irons", "()V"⟩, 37) := ⟨⟨by decide +kernel, by decide +kernel⟩, List.mem_of_getElem? (i := 662) (by decide +kernel), List.mem_of_getElem? (i := 913) (by decide +kernel), List.mem_of_getElem? (i := 914) (by decide +kernel)⟩
theorem lw_p39 : lw_okq (⟨"LinenTunnelModel", "lacks", "(III)I"⟩, 37) := ⟨⟨by decide +kernel, by decide +kernel⟩, List.mem_of_getElem? (i := 662) (by decide +kernel), List.mem_of_getElem? (i := 941) (by decide +kernel), List.mem_of_getElem? (i := 942) (by decide +kernel)⟩
theorem lw_p40 : lw_okq (⟨"LinenTunnelModel", "lay", "(III)V"⟩, 37) := ⟨⟨by decide +kernel, by decide +kernel⟩, List.mem_of_getElem? (i := 662) (by decide +kernel), List.mem_of_getElem? (i := 945) (by decide +kernel), List.mem_of_getElem? (i := 946) (by decide +kernel)⟩
def lw_privs_3 : List (MethodName × Nat) := [(⟨"LinenTunnelModel", "emptiesOf", "(II)I"⟩, 37), (⟨"LinenTunnelModel", "betweenBatches", "(II)I"⟩, 37), (⟨"LinenTunnelModel", "kindAt", "(I)I"⟩, 37), (⟨"LinenTunnelModel", "dryerAt", "(I)I"⟩, 37), (⟨"LinenTunnelModel", "goesOut", "(III)V"⟩, 37), (⟨"LinenTunnelModel", "waterNow", "()I"⟩, 37), (⟨"LinenTunnelModel", "irons", "()V"⟩, 37), (⟨"LinenTunnelModel", "lacks", "(III)I"⟩, 37), (⟨"LinenTunnelModel", "lay", "(III)V"⟩, 37)]
theorem lw_r3 : ∀ q ∈ lw_privs_3, lw_okq q := List.forall_mem_cons.mpr ⟨lw_p32, List.forall_mem_cons.mpr ⟨lw_p33, List.forall_mem_cons.mpr ⟨lw_p34, List.forall_mem_cons.mpr ⟨lw_p35, List.forall_mem_cons.mpr ⟨lw_p36, List.forall_mem_cons.mpr ⟨lw_p37, List.forall_mem_cons.mpr ⟨lw_p38, List.forall_mem_cons.mpr ⟨lw_p39, List.forall_mem_cons.mpr ⟨lw_p40, fun _ h => absurd h List.not_mem_nil⟩⟩⟩⟩⟩⟩⟩⟩⟩
def lw_privs : List (MethodName × Nat) := lw_privs_1 ++ (lw_privs_2 ++ (lw_privs_3))
def lw_tbl : List Cond := k2_sels lw_privs ++ tables_1
theorem lw_privs_ok : ∀ q ∈ lw_privs, lw_okq q := by
  show ∀ q ∈ lw_privs_1 ++ (lw_privs_2 ++ (lw_privs_3)), lw_okq q
  exact List.forall_mem_append.mpr ⟨lw_r1, List.forall_mem_append.mpr ⟨lw_r2, lw_r3⟩⟩
end
section
/-! ===== BEGIN words of one list among another's, by their places ===== -/
theorem goodIn_r {big : List Cond} (ws : List Cond) (ps : List Nat) (hp : ws = ps.filterMap (fun i => big[i]?)) (h : ws.all goodWord = true) : GoodIn big ws := by
  intro w hw
  have h1 := List.all_eq_true.mp h w hw
  rw [hp] at hw
  obtain ⟨i, -, hi⟩ := List.mem_filterMap.mp hw
  have hm : w ∈ big := by first | exact List.mem_of_getElem? hi | exact List.getElem?_mem hi
  exact ⟨hm, good_of_word h1⟩
theorem goodIn_app {big a b : List Cond} (ha : GoodIn big a) (hb : GoodIn big b) : GoodIn big (a ++ b) := fun w h => (List.mem_append.mp h).elim (ha w) (hb w)
/-! ===== END ===== -/
/-! ===== BEGIN printed: names, fields, word lists, decode rows ===== -/
def RX0 : String := "LinenTunnel$House"
def TX0 : u_T := fun k => match k with
  | 0 => ("LinenTunnel$House", "kinds", "LLinenTunnel$Kinds;", true)
  | 1 => ("LinenTunnel$House", "waiting", "LLinenTunnel$Waiting;", true)
  | 2 => ("LinenTunnel$House", "compartments", "I", false)
  | 3 => ("LinenTunnel$House", "dryers", "I", false)
  | 4 => ("LinenTunnel$House", "irons", "I", false)
  | 5 => ("LinenTunnel$House", "washes", "I", false)
  | 6 => ("LinenTunnel$House", "slotNumber", "I", false)
  | 7 => ("LinenTunnel$House", "nextSlot", "I", false)
  | 8 => ("LinenTunnel$House", "gone", "I", false)
  | 9 => ("LinenTunnel$House", "slots", "LLinenTunnel$Row;", true)
  | 10 => ("LinenTunnel$House", "inside", "LLinenTunnel$Row;", true)
  | 11 => ("LinenTunnel$House", "dryerTill", "LLinenTunnel$Row;", true)
  | 12 => ("LinenTunnel$House", "ironTill", "LLinenTunnel$Row;", true)
  | 13 => ("LinenTunnel$House", "size", "LLinenTunnel$Row;", true)
  | 14 => ("LinenTunnel$House", "facts", "LLinenTunnel$Row;", true)
  | _ => ("LinenTunnel$House", "totals", "LLinenTunnel$Row;", true)
def tyX0 : Nat → FieldType := fun k => match k with
  | 0 => .object "LinenTunnel$Kinds"
  | 1 => .object "LinenTunnel$Waiting"
  | 2 => .int
  | 3 => .int
  | 4 => .int
  | 5 => .int
  | 6 => .int
  | 7 => .int
  | 8 => .int
  | 9 => .object "LinenTunnel$Row"
  | 10 => .object "LinenTunnel$Row"
  | 11 => .object "LinenTunnel$Row"
  | 12 => .object "LinenTunnel$Row"
  | 13 => .object "LinenTunnel$Row"
  | 14 => .object "LinenTunnel$Row"
  | _ => .object "LinenTunnel$Row"
abbrev wsX00 : List Cond := u_ws RX0 TX0 16
theorem nmX0 : ∀ a, a < 16 → ∀ b, b < 16 → a ≠ b → (TX0 a).2.1 ≠ (TX0 b).2.1 := by decide +kernel
theorem tyX0_ok : ∀ k, k < 16 → parseFieldDescriptor (TX0 k).2.2.1 = some (tyX0 k) := by decide +kernel
abbrev cX0_init : ByteArray := prog_2_method_1_code
def yX0_init : MethodName := ⟨RX0, "<init>", "(LLinenTunnel$Kinds;LLinenTunnel$Waiting;)V"⟩
def RX1 : String := "LinenTunnel$Kinds"
def TX1 : u_T := fun k => match k with
  | 0 => ("LinenTunnel$Kinds", "number", "I", false)
  | 1 => ("LinenTunnel$Kinds", "heat", "LLinenTunnel$Row;", true)
  | 2 => ("LinenTunnel$Kinds", "colour", "LLinenTunnel$Row;", true)
  | 3 => ("LinenTunnel$Kinds", "foul", "LLinenTunnel$Row;", true)
  | 4 => ("LinenTunnel$Kinds", "dry", "LLinenTunnel$Row;", true)
  | _ => ("LinenTunnel$Kinds", "iron", "LLinenTunnel$Row;", true)
def tyX1 : Nat → FieldType := fun k => match k with
  | 0 => .int
  | 1 => .object "LinenTunnel$Row"
  | 2 => .object "LinenTunnel$Row"
  | 3 => .object "LinenTunnel$Row"
  | 4 => .object "LinenTunnel$Row"
  | _ => .object "LinenTunnel$Row"
abbrev wsX10 : List Cond := u_ws RX1 TX1 6
theorem nmX1 : ∀ a, a < 6 → ∀ b, b < 6 → a ≠ b → (TX1 a).2.1 ≠ (TX1 b).2.1 := by decide +kernel
theorem tyX1_ok : ∀ k, k < 6 → parseFieldDescriptor (TX1 k).2.2.1 = some (tyX1 k) := by decide +kernel
abbrev cX1_init : ByteArray := prog_3_method_1_code
def yX1_init : MethodName := ⟨RX1, "<init>", "()V"⟩
def RX2 : String := "LinenTunnel$Linen"
def TX2 : u_T := fun k => match k with
  | 0 => ("LinenTunnel$Linen", "number", "I", false)
  | 1 => ("LinenTunnel$Linen", "kind", "LLinenTunnel$Row;", true)
  | 2 => ("LinenTunnel$Linen", "owner", "LLinenTunnel$Row;", true)
  | 3 => ("LinenTunnel$Linen", "chip", "LLinenTunnel$Row;", true)
  | 4 => ("LinenTunnel$Linen", "place", "LLinenTunnel$Row;", true)
  | 5 => ("LinenTunnel$Linen", "washes", "LLinenTunnel$Row;", true)
  | _ => ("LinenTunnel$Linen", "batch", "LLinenTunnel$Row;", true)
def tyX2 : Nat → FieldType := fun k => match k with
  | 0 => .int
  | 1 => .object "LinenTunnel$Row"
  | 2 => .object "LinenTunnel$Row"
  | 3 => .object "LinenTunnel$Row"
  | 4 => .object "LinenTunnel$Row"
  | 5 => .object "LinenTunnel$Row"
  | _ => .object "LinenTunnel$Row"
abbrev wsX20 : List Cond := u_ws RX2 TX2 7
theorem nmX2 : ∀ a, a < 7 → ∀ b, b < 7 → a ≠ b → (TX2 a).2.1 ≠ (TX2 b).2.1 := by decide +kernel
theorem tyX2_ok : ∀ k, k < 7 → parseFieldDescriptor (TX2 k).2.2.1 = some (tyX2 k) := by decide +kernel
abbrev cX2_init : ByteArray := prog_4_method_1_code
def yX2_init : MethodName := ⟨RX2, "<init>", "()V"⟩
def RX3 : String := "LinenTunnel$Planner"
def TX3 : u_T := fun k => match k with
  | 0 => ("LinenTunnel$Planner", "waiting", "LLinenTunnel$Waiting;", true)
  | 1 => ("LinenTunnel$Planner", "gaps", "LLinenTunnel$Row;", true)
  | _ => ("LinenTunnel$Planner", "fewest", "LLinenTunnel$Row;", true)
def tyX3 : Nat → FieldType := fun k => match k with
  | 0 => .object "LinenTunnel$Waiting"
  | 1 => .object "LinenTunnel$Row"
  | _ => .object "LinenTunnel$Row"
abbrev wsX30 : List Cond := u_ws RX3 TX3 3
theorem nmX3 : ∀ a, a < 3 → ∀ b, b < 3 → a ≠ b → (TX3 a).2.1 ≠ (TX3 b).2.1 := by decide +kernel
theorem tyX3_ok : ∀ k, k < 3 → parseFieldDescriptor (TX3 k).2.2.1 = some (tyX3 k) := by decide +kernel
abbrev cX3_init : ByteArray := prog_5_method_1_code
def yX3_init : MethodName := ⟨RX3, "<init>", "(LLinenTunnel$Waiting;)V"⟩
def RX4 : String := "LinenTunnel$Row"
def TX4 : u_T := fun k => match k with
  | _ => ("LinenTunnel$Row", "items", "[I", true)
def tyX4 : Nat → FieldType := fun k => match k with
  | _ => .array .int
abbrev wsX40 : List Cond := u_ws RX4 TX4 1
theorem nmX4 : ∀ a, a < 1 → ∀ b, b < 1 → a ≠ b → (TX4 a).2.1 ≠ (TX4 b).2.1 := by decide +kernel
theorem tyX4_ok : ∀ k, k < 1 → parseFieldDescriptor (TX4 k).2.2.1 = some (tyX4 k) := by decide +kernel
abbrev cX4_init : ByteArray := prog_6_method_1_code
def yX4_init : MethodName := ⟨RX4, "<init>", "(I)V"⟩
abbrev cX4_fill : ByteArray := prog_6_method_4_code
def yX4_fill : MethodName := ⟨RX4, "fill", "(I)V"⟩
def RX5 : String := "LinenTunnel$Sheets"
def TX5 : u_T := fun k => match k with
  | 0 => ("LinenTunnel$Sheets", "form", "LLinenTunnel$Row;", true)
  | 1 => ("LinenTunnel$Sheets", "size", "LLinenTunnel$Row;", true)
  | _ => ("LinenTunnel$Sheets", "items", "LLinenTunnel$Row;", true)
def tyX5 : Nat → FieldType := fun k => match k with
  | 0 => .object "LinenTunnel$Row"
  | 1 => .object "LinenTunnel$Row"
  | _ => .object "LinenTunnel$Row"
abbrev wsX50 : List Cond := u_ws RX5 TX5 3
theorem nmX5 : ∀ a, a < 3 → ∀ b, b < 3 → a ≠ b → (TX5 a).2.1 ≠ (TX5 b).2.1 := by decide +kernel
theorem tyX5_ok : ∀ k, k < 3 → parseFieldDescriptor (TX5 k).2.2.1 = some (tyX5 k) := by decide +kernel
abbrev cX5_init : ByteArray := prog_7_method_1_code
def yX5_init : MethodName := ⟨RX5, "<init>", "()V"⟩
def RX6 : String := "LinenTunnel$Waiting"
def TX6 : u_T := fun k => match k with
  | 0 => ("LinenTunnel$Waiting", "kinds", "LLinenTunnel$Kinds;", true)
  | 1 => ("LinenTunnel$Waiting", "number", "I", false)
  | 2 => ("LinenTunnel$Waiting", "kind", "LLinenTunnel$Row;", true)
  | 3 => ("LinenTunnel$Waiting", "size", "LLinenTunnel$Row;", true)
  | _ => ("LinenTunnel$Waiting", "order", "LLinenTunnel$Row;", true)
def tyX6 : Nat → FieldType := fun k => match k with
  | 0 => .object "LinenTunnel$Kinds"
  | 1 => .int
  | 2 => .object "LinenTunnel$Row"
  | 3 => .object "LinenTunnel$Row"
  | _ => .object "LinenTunnel$Row"
abbrev wsX60 : List Cond := u_ws RX6 TX6 5
theorem nmX6 : ∀ a, a < 5 → ∀ b, b < 5 → a ≠ b → (TX6 a).2.1 ≠ (TX6 b).2.1 := by decide +kernel
theorem tyX6_ok : ∀ k, k < 5 → parseFieldDescriptor (TX6 k).2.2.1 = some (tyX6 k) := by decide +kernel
abbrev cX6_init : ByteArray := prog_8_method_1_code
def yX6_init : MethodName := ⟨RX6, "<init>", "(LLinenTunnel$Kinds;)V"⟩
def RX7 : String := "LinenTunnel"
def TX7 : u_T := fun k => match k with
  | 0 => ("LinenTunnel", "kinds", "LLinenTunnel$Kinds;", true)
  | 1 => ("LinenTunnel", "linen", "LLinenTunnel$Linen;", true)
  | 2 => ("LinenTunnel", "waiting", "LLinenTunnel$Waiting;", true)
  | 3 => ("LinenTunnel", "planner", "LLinenTunnel$Planner;", true)
  | 4 => ("LinenTunnel", "house", "LLinenTunnel$House;", true)
  | 5 => ("LinenTunnel", "sheets", "LLinenTunnel$Sheets;", true)
  | _ => ("LinenTunnel", "latestFinding", "I", false)
def tyX7 : Nat → FieldType := fun k => match k with
  | 0 => .object "LinenTunnel$Kinds"
  | 1 => .object "LinenTunnel$Linen"
  | 2 => .object "LinenTunnel$Waiting"
  | 3 => .object "LinenTunnel$Planner"
  | 4 => .object "LinenTunnel$House"
  | 5 => .object "LinenTunnel$Sheets"
  | _ => .int
abbrev wsX70 : List Cond := u_ws RX7 TX7 7
theorem nmX7 : ∀ a, a < 7 → ∀ b, b < 7 → a ≠ b → (TX7 a).2.1 ≠ (TX7 b).2.1 := by decide +kernel
theorem tyX7_ok : ∀ k, k < 7 → parseFieldDescriptor (TX7 k).2.2.1 = some (tyX7 k) := by decide +kernel
abbrev cX7_init : ByteArray := prog_1_method_1_code
def yX7_init : MethodName := ⟨RX7, "<init>", "()V"⟩
def RX8 : String := "LinenTunnelModel"
def TX8 : u_T := fun k => match k with
  | 0 => ("LinenTunnelModel", "kinds", "I", false)
  | 1 => ("LinenTunnelModel", "heats", "[I", true)
  | 2 => ("LinenTunnelModel", "colours", "[I", true)
  | 3 => ("LinenTunnelModel", "isFoul", "[Z", true)
  | 4 => ("LinenTunnelModel", "dries", "[I", true)
  | 5 => ("LinenTunnelModel", "irons", "[I", true)
  | 6 => ("LinenTunnelModel", "pieceMany", "I", false)
  | 7 => ("LinenTunnelModel", "kindOf", "[I", true)
  | 8 => ("LinenTunnelModel", "ownerOf", "[I", true)
  | 9 => ("LinenTunnelModel", "hasChip", "[Z", true)
  | 10 => ("LinenTunnelModel", "placeOf", "[I", true)
  | 11 => ("LinenTunnelModel", "washes", "[I", true)
  | 12 => ("LinenTunnelModel", "batchOf", "[I", true)
  | 13 => ("LinenTunnelModel", "batches", "I", false)
  | 14 => ("LinenTunnelModel", "batchKind", "[I", true)
  | 15 => ("LinenTunnelModel", "batchMany", "[I", true)
  | 16 => ("LinenTunnelModel", "batchPiece", "[I", true)
  | 17 => ("LinenTunnelModel", "order", "[I", true)
  | 18 => ("LinenTunnelModel", "compartments", "I", false)
  | 19 => ("LinenTunnelModel", "dryers", "I", false)
  | 20 => ("LinenTunnelModel", "ironMany", "I", false)
  | 21 => ("LinenTunnelModel", "washMany", "I", false)
  | 22 => ("LinenTunnelModel", "yet", "[I", true)
  | 23 => ("LinenTunnelModel", "slots", "[I", true)
  | 24 => ("LinenTunnelModel", "inside", "[I", true)
  | 25 => ("LinenTunnelModel", "dryerFree", "[I", true)
  | 26 => ("LinenTunnelModel", "ironFree", "[I", true)
  | 27 => ("LinenTunnelModel", "washed", "[I", true)
  | 28 => ("LinenTunnelModel", "runs", "I", false)
  | 29 => ("LinenTunnelModel", "runRows", "[I", true)
  | 30 => ("LinenTunnelModel", "wentOut", "[I", true)
  | 31 => ("LinenTunnelModel", "isThere", "[Z", true)
  | 32 => ("LinenTunnelModel", "forms", "[I", true)
  | 33 => ("LinenTunnelModel", "sizes", "[I", true)
  | 34 => ("LinenTunnelModel", "items", "[I", true)
  | 35 => ("LinenTunnelModel", "moved", "[I", true)
  | _ => ("LinenTunnelModel", "finding", "I", false)
def tyX8 : Nat → FieldType := fun k => match k with
  | 0 => .int
  | 1 => .array .int
  | 2 => .array .int
  | 3 => .array .boolean
  | 4 => .array .int
  | 5 => .array .int
  | 6 => .int
  | 7 => .array .int
  | 8 => .array .int
  | 9 => .array .boolean
  | 10 => .array .int
  | 11 => .array .int
  | 12 => .array .int
  | 13 => .int
  | 14 => .array .int
  | 15 => .array .int
  | 16 => .array .int
  | 17 => .array .int
  | 18 => .int
  | 19 => .int
  | 20 => .int
  | 21 => .int
  | 22 => .array .int
  | 23 => .array .int
  | 24 => .array .int
  | 25 => .array .int
  | 26 => .array .int
  | 27 => .array .int
  | 28 => .int
  | 29 => .array .int
  | 30 => .array .int
  | 31 => .array .boolean
  | 32 => .array .int
  | 33 => .array .int
  | 34 => .array .int
  | 35 => .array .int
  | _ => .int
abbrev wsX80 : List Cond := u_ws RX8 TX8 37
theorem nmX8 : ∀ a, a < 37 → ∀ b, b < 37 → a ≠ b → (TX8 a).2.1 ≠ (TX8 b).2.1 := by decide +kernel
theorem tyX8_ok : ∀ k, k < 37 → parseFieldDescriptor (TX8 k).2.2.1 = some (tyX8 k) := by decide +kernel
abbrev cX8_init : ByteArray := prog_10_method_1_code
def yX8_init : MethodName := ⟨RX8, "<init>", "()V"⟩
def RL : String := "LinenTunnelLaw"
abbrev cL_law : ByteArray := code
def wsX4_init : List Cond := .code yX4_init cX4_init 2 none :: ([.methodLink RX4 1 objectInit, .instanceMethod objectInit, .code objectInit ⟨#[0xb1]⟩ 1 none, .arrayClass .int, .fieldLink RX4 7 "LinenTunnel$Row" "items" "[I"] ++ wsX40)
def wsX0_init_r1 : List Cond := [Cond.methodLink RX0 3 objectInit, Cond.instanceMethod objectInit, Cond.code objectInit ⟨#[0xb1]⟩ 1 none, Cond.fieldLink RX0 9 "LinenTunnel$House" "compartments" "I", Cond.fieldLink RX0 15 "LinenTunnel$House" "dryers" "I", Cond.fieldLink RX0 18 "LinenTunnel$House" "irons" "I", Cond.fieldLink RX0 21 "LinenTunnel$House" "washes" "I", Cond.fieldLink RX0 24 "LinenTunnel$House" "slotNumber" "I", Cond.fieldLink RX0 27 "LinenTunnel$House" "nextSlot" "I", Cond.fieldLink RX0 30 "LinenTunnel$House" "gone" "I", Cond.classLink RX0 33 RX4, Cond.instantiable RX4 1, Cond.initialized RX4, Cond.fieldLink RX0 38 "LinenTunnel$House" "slots" "LLinenTunnel$Row;", Cond.fieldLink RX0 42 "LinenTunnel$House" "inside" "LLinenTunnel$Row;", Cond.fieldLink RX0 45 "LinenTunnel$House" "dryerTill" "LLinenTunnel$Row;", Cond.fieldLink RX0 48 "LinenTunnel$House" "ironTill" "LLinenTunnel$Row;", Cond.fieldLink RX0 51 "LinenTunnel$House" "size" "LLinenTunnel$Row;", Cond.fieldLink RX0 54 "LinenTunnel$House" "facts" "LLinenTunnel$Row;", Cond.fieldLink RX0 57 "LinenTunnel$House" "totals" "LLinenTunnel$Row;", Cond.fieldLink RX0 60 "LinenTunnel$House" "kinds" "LLinenTunnel$Kinds;", Cond.fieldLink RX0 64 "LinenTunnel$House" "waiting" "LLinenTunnel$Waiting;", Cond.methodLink RX0 35 yX4_init, Cond.instanceMethod yX4_init]
def wsX0_init_r2 : List Cond := [Cond.code yX4_init cX4_init 2 none, Cond.methodLink RX4 1 objectInit, Cond.arrayClass .int, Cond.fieldLink RX4 7 "LinenTunnel$Row" "items" "[I"]
def wsX0_init : List Cond := .code yX0_init cX0_init 3 none :: ((wsX0_init_r1 ++ wsX0_init_r2) ++ wsX00 ++ wsX40)
def wsX4_fill : List Cond := .code yX4_fill cX4_fill 3 none :: ([.fieldLink RX4 7 "LinenTunnel$Row" "items" "[I"] ++ wsX40)
def wsX1_init : List Cond := .code yX1_init cX1_init 1 none :: ([.methodLink RX1 3 objectInit, .instanceMethod objectInit, .code objectInit ⟨#[0xb1]⟩ 1 none, .fieldLink RX1 9 "LinenTunnel$Kinds" "number" "I", .classLink RX1 15 RX4, .instantiable RX4 1, .initialized RX4, .fieldLink RX1 20 "LinenTunnel$Kinds" "heat" "LLinenTunnel$Row;", .fieldLink RX1 24 "LinenTunnel$Kinds" "colour" "LLinenTunnel$Row;", .fieldLink RX1 27 "LinenTunnel$Kinds" "foul" "LLinenTunnel$Row;", .fieldLink RX1 30 "LinenTunnel$Kinds" "dry" "LLinenTunnel$Row;", .fieldLink RX1 33 "LinenTunnel$Kinds" "iron" "LLinenTunnel$Row;", .methodLink RX1 17 yX4_init, .instanceMethod yX4_init, .code yX4_init cX4_init 2 none, .methodLink RX4 1 objectInit, .arrayClass .int, .fieldLink RX4 7 "LinenTunnel$Row" "items" "[I"] ++ wsX10 ++ wsX40)
def wsX2_init : List Cond := .code yX2_init cX2_init 1 none :: ([.methodLink RX2 3 objectInit, .instanceMethod objectInit, .code objectInit ⟨#[0xb1]⟩ 1 none, .fieldLink RX2 9 "LinenTunnel$Linen" "number" "I", .classLink RX2 15 RX4, .instantiable RX4 1, .initialized RX4, .fieldLink RX2 20 "LinenTunnel$Linen" "kind" "LLinenTunnel$Row;", .fieldLink RX2 24 "LinenTunnel$Linen" "owner" "LLinenTunnel$Row;", .fieldLink RX2 27 "LinenTunnel$Linen" "chip" "LLinenTunnel$Row;", .fieldLink RX2 30 "LinenTunnel$Linen" "place" "LLinenTunnel$Row;", .fieldLink RX2 33 "LinenTunnel$Linen" "washes" "LLinenTunnel$Row;", .fieldLink RX2 36 "LinenTunnel$Linen" "batch" "LLinenTunnel$Row;", .methodLink RX2 17 yX4_init, .instanceMethod yX4_init, .code yX4_init cX4_init 2 none, .methodLink RX4 1 objectInit, .arrayClass .int, .fieldLink RX4 7 "LinenTunnel$Row" "items" "[I"] ++ wsX20 ++ wsX40)
def wsX3_init : List Cond := .code yX3_init cX3_init 2 none :: ([.methodLink RX3 3 objectInit, .instanceMethod objectInit, .code objectInit ⟨#[0xb1]⟩ 1 none, .classLink RX3 9 RX4, .instantiable RX4 1, .initialized RX4, .fieldLink RX3 14 "LinenTunnel$Planner" "gaps" "LLinenTunnel$Row;", .fieldLink RX3 20 "LinenTunnel$Planner" "fewest" "LLinenTunnel$Row;", .fieldLink RX3 23 "LinenTunnel$Planner" "waiting" "LLinenTunnel$Waiting;", .methodLink RX3 11 yX4_init, .instanceMethod yX4_init, .code yX4_init cX4_init 2 none, .methodLink RX4 1 objectInit, .arrayClass .int, .fieldLink RX4 7 "LinenTunnel$Row" "items" "[I"] ++ wsX40 ++ wsX30)
def wsX5_init : List Cond := .code yX5_init cX5_init 1 none :: ([.methodLink RX5 3 objectInit, .instanceMethod objectInit, .code objectInit ⟨#[0xb1]⟩ 1 none, .classLink RX5 9 RX4, .instantiable RX4 1, .initialized RX4, .fieldLink RX5 14 "LinenTunnel$Sheets" "form" "LLinenTunnel$Row;", .fieldLink RX5 20 "LinenTunnel$Sheets" "size" "LLinenTunnel$Row;", .fieldLink RX5 23 "LinenTunnel$Sheets" "items" "LLinenTunnel$Row;", .methodLink RX5 11 yX4_init, .instanceMethod yX4_init, .code yX4_init cX4_init 2 none, .methodLink RX4 1 objectInit, .arrayClass .int, .fieldLink RX4 7 "LinenTunnel$Row" "items" "[I", .methodLink RX5 26 yX4_fill, .instanceMethod yX4_fill, .selects RX4 yX4_fill yX4_fill, .code yX4_fill cX4_fill 3 none] ++ wsX40 ++ wsX50)
def wsX6_init : List Cond := .code yX6_init cX6_init 2 none :: ([.methodLink RX6 3 objectInit, .instanceMethod objectInit, .code objectInit ⟨#[0xb1]⟩ 1 none, .fieldLink RX6 9 "LinenTunnel$Waiting" "number" "I", .classLink RX6 15 RX4, .instantiable RX4 1, .initialized RX4, .fieldLink RX6 20 "LinenTunnel$Waiting" "kind" "LLinenTunnel$Row;", .fieldLink RX6 24 "LinenTunnel$Waiting" "size" "LLinenTunnel$Row;", .fieldLink RX6 27 "LinenTunnel$Waiting" "order" "LLinenTunnel$Row;", .fieldLink RX6 30 "LinenTunnel$Waiting" "kinds" "LLinenTunnel$Kinds;", .methodLink RX6 17 yX4_init, .instanceMethod yX4_init, .code yX4_init cX4_init 2 none, .methodLink RX4 1 objectInit, .arrayClass .int, .fieldLink RX4 7 "LinenTunnel$Row" "items" "[I"] ++ wsX60 ++ wsX40)
def wsX7_init_r1 : List Cond := [Cond.methodLink RX7 3 objectInit, Cond.instanceMethod objectInit, Cond.code objectInit ⟨#[0xb1]⟩ 1 none, Cond.classLink RX7 9 RX1, Cond.instantiable RX1 6, Cond.initialized RX1, Cond.fieldLink RX7 12 "LinenTunnel" "kinds" "LLinenTunnel$Kinds;", Cond.classLink RX7 16 RX2, Cond.instantiable RX2 7, Cond.initialized RX2, Cond.fieldLink RX7 19 "LinenTunnel" "linen" "LLinenTunnel$Linen;", Cond.classLink RX7 23 RX6, Cond.instantiable RX6 5, Cond.initialized RX6, Cond.fieldLink RX7 28 "LinenTunnel" "waiting" "LLinenTunnel$Waiting;", Cond.classLink RX7 32 RX3, Cond.instantiable RX3 3, Cond.initialized RX3, Cond.fieldLink RX7 37 "LinenTunnel" "planner" "LLinenTunnel$Planner;", Cond.classLink RX7 41 RX0, Cond.instantiable RX0 16, Cond.initialized RX0, Cond.fieldLink RX7 46 "LinenTunnel" "house" "LLinenTunnel$House;", Cond.classLink RX7 50 RX5]
def wsX7_init_r2 : List Cond := [Cond.instantiable RX5 3, Cond.initialized RX5, Cond.fieldLink RX7 53 "LinenTunnel" "sheets" "LLinenTunnel$Sheets;", Cond.fieldLink RX7 57 "LinenTunnel" "latestFinding" "I", Cond.instanceMethod yX1_init, Cond.code yX1_init cX1_init 1 none, Cond.methodLink RX1 3 objectInit, Cond.fieldLink RX1 9 "LinenTunnel$Kinds" "number" "I", Cond.classLink RX1 15 RX4, Cond.instantiable RX4 1, Cond.initialized RX4, Cond.fieldLink RX1 20 "LinenTunnel$Kinds" "heat" "LLinenTunnel$Row;", Cond.fieldLink RX1 24 "LinenTunnel$Kinds" "colour" "LLinenTunnel$Row;", Cond.fieldLink RX1 27 "LinenTunnel$Kinds" "foul" "LLinenTunnel$Row;", Cond.fieldLink RX1 30 "LinenTunnel$Kinds" "dry" "LLinenTunnel$Row;", Cond.fieldLink RX1 33 "LinenTunnel$Kinds" "iron" "LLinenTunnel$Row;", Cond.methodLink RX1 17 yX4_init, Cond.instanceMethod yX4_init, Cond.code yX4_init cX4_init 2 none, Cond.methodLink RX4 1 objectInit, Cond.arrayClass .int, Cond.fieldLink RX4 7 "LinenTunnel$Row" "items" "[I", Cond.instanceMethod yX2_init, Cond.code yX2_init cX2_init 1 none]
def wsX7_init_r3 : List Cond := [Cond.methodLink RX2 3 objectInit, Cond.fieldLink RX2 9 "LinenTunnel$Linen" "number" "I", Cond.classLink RX2 15 RX4, Cond.fieldLink RX2 20 "LinenTunnel$Linen" "kind" "LLinenTunnel$Row;", Cond.fieldLink RX2 24 "LinenTunnel$Linen" "owner" "LLinenTunnel$Row;", Cond.fieldLink RX2 27 "LinenTunnel$Linen" "chip" "LLinenTunnel$Row;", Cond.fieldLink RX2 30 "LinenTunnel$Linen" "place" "LLinenTunnel$Row;", Cond.fieldLink RX2 33 "LinenTunnel$Linen" "washes" "LLinenTunnel$Row;", Cond.fieldLink RX2 36 "LinenTunnel$Linen" "batch" "LLinenTunnel$Row;", Cond.methodLink RX2 17 yX4_init, Cond.methodLink RX7 25 yX6_init, Cond.instanceMethod yX6_init, Cond.code yX6_init cX6_init 2 none, Cond.methodLink RX6 3 objectInit, Cond.fieldLink RX6 9 "LinenTunnel$Waiting" "number" "I", Cond.classLink RX6 15 RX4, Cond.fieldLink RX6 20 "LinenTunnel$Waiting" "kind" "LLinenTunnel$Row;", Cond.fieldLink RX6 24 "LinenTunnel$Waiting" "size" "LLinenTunnel$Row;", Cond.fieldLink RX6 27 "LinenTunnel$Waiting" "order" "LLinenTunnel$Row;", Cond.fieldLink RX6 30 "LinenTunnel$Waiting" "kinds" "LLinenTunnel$Kinds;", Cond.methodLink RX6 17 yX4_init, Cond.methodLink RX7 34 yX3_init, Cond.instanceMethod yX3_init, Cond.code yX3_init cX3_init 2 none]
def wsX7_init_r4 : List Cond := [Cond.methodLink RX3 3 objectInit, Cond.classLink RX3 9 RX4, Cond.fieldLink RX3 14 "LinenTunnel$Planner" "gaps" "LLinenTunnel$Row;", Cond.fieldLink RX3 20 "LinenTunnel$Planner" "fewest" "LLinenTunnel$Row;", Cond.fieldLink RX3 23 "LinenTunnel$Planner" "waiting" "LLinenTunnel$Waiting;", Cond.methodLink RX3 11 yX4_init, Cond.methodLink RX7 43 yX0_init, Cond.instanceMethod yX0_init, Cond.code yX0_init cX0_init 3 none, Cond.methodLink RX0 3 objectInit, Cond.fieldLink RX0 9 "LinenTunnel$House" "compartments" "I", Cond.fieldLink RX0 15 "LinenTunnel$House" "dryers" "I", Cond.fieldLink RX0 18 "LinenTunnel$House" "irons" "I", Cond.fieldLink RX0 21 "LinenTunnel$House" "washes" "I", Cond.fieldLink RX0 24 "LinenTunnel$House" "slotNumber" "I", Cond.fieldLink RX0 27 "LinenTunnel$House" "nextSlot" "I", Cond.fieldLink RX0 30 "LinenTunnel$House" "gone" "I", Cond.classLink RX0 33 RX4, Cond.fieldLink RX0 38 "LinenTunnel$House" "slots" "LLinenTunnel$Row;", Cond.fieldLink RX0 42 "LinenTunnel$House" "inside" "LLinenTunnel$Row;", Cond.fieldLink RX0 45 "LinenTunnel$House" "dryerTill" "LLinenTunnel$Row;", Cond.fieldLink RX0 48 "LinenTunnel$House" "ironTill" "LLinenTunnel$Row;", Cond.fieldLink RX0 51 "LinenTunnel$House" "size" "LLinenTunnel$Row;", Cond.fieldLink RX0 54 "LinenTunnel$House" "facts" "LLinenTunnel$Row;"]
def wsX7_init_r5 : List Cond := [Cond.fieldLink RX0 57 "LinenTunnel$House" "totals" "LLinenTunnel$Row;", Cond.fieldLink RX0 60 "LinenTunnel$House" "kinds" "LLinenTunnel$Kinds;", Cond.fieldLink RX0 64 "LinenTunnel$House" "waiting" "LLinenTunnel$Waiting;", Cond.methodLink RX0 35 yX4_init, Cond.methodLink RX7 52 yX5_init, Cond.instanceMethod yX5_init, Cond.code yX5_init cX5_init 1 none, Cond.methodLink RX5 3 objectInit, Cond.classLink RX5 9 RX4, Cond.fieldLink RX5 14 "LinenTunnel$Sheets" "form" "LLinenTunnel$Row;", Cond.fieldLink RX5 20 "LinenTunnel$Sheets" "size" "LLinenTunnel$Row;", Cond.fieldLink RX5 23 "LinenTunnel$Sheets" "items" "LLinenTunnel$Row;", Cond.methodLink RX5 11 yX4_init, Cond.methodLink RX5 26 yX4_fill, Cond.instanceMethod yX4_fill, Cond.selects RX4 yX4_fill yX4_fill, Cond.code yX4_fill cX4_fill 3 none]
def wsX7_init : List Cond := .code yX7_init cX7_init 1 none :: ((wsX7_init_r1 ++ (wsX7_init_r2 ++ (wsX7_init_r3 ++ (wsX7_init_r4 ++ wsX7_init_r5)))) ++ wsX10 ++ wsX70 ++ wsX20 ++ wsX60 ++ wsX30 ++ wsX00 ++ wsX50 ++ wsX40)
def wsX8_init_r1 : List Cond := [Cond.methodLink RX8 1 objectInit, Cond.instanceMethod objectInit, Cond.code objectInit ⟨#[0xb1]⟩ 1 none, Cond.arrayClass .int, Cond.fieldLink RX8 7 "LinenTunnelModel" "heats" "[I", Cond.fieldLink RX8 13 "LinenTunnelModel" "colours" "[I", Cond.arrayClass .boolean, Cond.fieldLink RX8 16 "LinenTunnelModel" "isFoul" "[Z", Cond.fieldLink RX8 20 "LinenTunnelModel" "dries" "[I", Cond.fieldLink RX8 23 "LinenTunnelModel" "irons" "[I", Cond.fieldLink RX8 26 "LinenTunnelModel" "kindOf" "[I", Cond.fieldLink RX8 29 "LinenTunnelModel" "ownerOf" "[I", Cond.fieldLink RX8 32 "LinenTunnelModel" "hasChip" "[Z", Cond.fieldLink RX8 35 "LinenTunnelModel" "placeOf" "[I", Cond.fieldLink RX8 38 "LinenTunnelModel" "washes" "[I", Cond.fieldLink RX8 41 "LinenTunnelModel" "batchOf" "[I", Cond.fieldLink RX8 44 "LinenTunnelModel" "batchKind" "[I", Cond.fieldLink RX8 47 "LinenTunnelModel" "batchMany" "[I", Cond.fieldLink RX8 50 "LinenTunnelModel" "batchPiece" "[I", Cond.fieldLink RX8 53 "LinenTunnelModel" "order" "[I", Cond.fieldLink RX8 56 "LinenTunnelModel" "compartments" "I", Cond.fieldLink RX8 60 "LinenTunnelModel" "dryers" "I", Cond.fieldLink RX8 63 "LinenTunnelModel" "ironMany" "I", Cond.fieldLink RX8 66 "LinenTunnelModel" "yet" "[I"]
def wsX8_init_r2 : List Cond := [Cond.fieldLink RX8 69 "LinenTunnelModel" "slots" "[I", Cond.fieldLink RX8 72 "LinenTunnelModel" "inside" "[I", Cond.fieldLink RX8 75 "LinenTunnelModel" "dryerFree" "[I", Cond.fieldLink RX8 78 "LinenTunnelModel" "ironFree" "[I", Cond.fieldLink RX8 81 "LinenTunnelModel" "washed" "[I", Cond.fieldLink RX8 84 "LinenTunnelModel" "runRows" "[I", Cond.fieldLink RX8 87 "LinenTunnelModel" "wentOut" "[I", Cond.fieldLink RX8 90 "LinenTunnelModel" "isThere" "[Z", Cond.fieldLink RX8 93 "LinenTunnelModel" "forms" "[I", Cond.fieldLink RX8 96 "LinenTunnelModel" "sizes" "[I", Cond.fieldLink RX8 99 "LinenTunnelModel" "items" "[I", Cond.fieldLink RX8 102 "LinenTunnelModel" "moved" "[I"]
def wsX8_init : List Cond := .code yX8_init cX8_init 1 none :: ((wsX8_init_r1 ++ wsX8_init_r2) ++ wsX80)
theorem dX0_init_0 : decode cX0_init 0 = .ok (.aload_n 0, 1) := by decide +kernel
theorem dX0_init_1 : decode cX0_init 1 = .ok (.invokespecial 3, 3) := by decide +kernel
theorem dX0_init_4 : decode cX0_init 4 = .ok (.aload_n 0, 1) := by decide +kernel
theorem dX0_init_5 : decode cX0_init 5 = .ok (.iconst 4, 1) := by decide +kernel
theorem dX0_init_6 : decode cX0_init 6 = .ok (.putfield 9, 3) := by decide +kernel
theorem dX0_init_9 : decode cX0_init 9 = .ok (.aload_n 0, 1) := by decide +kernel
theorem dX0_init_10 : decode cX0_init 10 = .ok (.iconst 2, 1) := by decide +kernel
theorem dX0_init_11 : decode cX0_init 11 = .ok (.putfield 15, 3) := by decide +kernel
theorem dX0_init_14 : decode cX0_init 14 = .ok (.aload_n 0, 1) := by decide +kernel
theorem dX0_init_15 : decode cX0_init 15 = .ok (.iconst 1, 1) := by decide +kernel
theorem dX0_init_16 : decode cX0_init 16 = .ok (.putfield 18, 3) := by decide +kernel
theorem dX0_init_19 : decode cX0_init 19 = .ok (.aload_n 0, 1) := by decide +kernel
theorem dX0_init_20 : decode cX0_init 20 = .ok (.iconst 0, 1) := by decide +kernel
theorem dX0_init_21 : decode cX0_init 21 = .ok (.putfield 21, 3) := by decide +kernel
theorem dX0_init_24 : decode cX0_init 24 = .ok (.aload_n 0, 1) := by decide +kernel
theorem dX0_init_25 : decode cX0_init 25 = .ok (.iconst 0, 1) := by decide +kernel
theorem dX0_init_26 : decode cX0_init 26 = .ok (.putfield 24, 3) := by decide +kernel
theorem dX0_init_29 : decode cX0_init 29 = .ok (.aload_n 0, 1) := by decide +kernel
theorem dX0_init_30 : decode cX0_init 30 = .ok (.iconst 0, 1) := by decide +kernel
theorem dX0_init_31 : decode cX0_init 31 = .ok (.putfield 27, 3) := by decide +kernel
theorem dX0_init_34 : decode cX0_init 34 = .ok (.aload_n 0, 1) := by decide +kernel
theorem dX0_init_35 : decode cX0_init 35 = .ok (.iconst 0, 1) := by decide +kernel
theorem dX0_init_36 : decode cX0_init 36 = .ok (.putfield 30, 3) := by decide +kernel
theorem dX0_init_39 : decode cX0_init 39 = .ok (.aload_n 0, 1) := by decide +kernel
theorem dX0_init_40 : decode cX0_init 40 = .ok (.new 33, 3) := by decide +kernel
theorem dX0_init_43 : decode cX0_init 43 = .ok (.dup, 1) := by decide +kernel
theorem dX0_init_44 : decode cX0_init 44 = .ok (.bipush 67, 2) := by decide +kernel
theorem dX0_init_46 : decode cX0_init 46 = .ok (.invokespecial 35, 3) := by decide +kernel
theorem dX0_init_49 : decode cX0_init 49 = .ok (.putfield 38, 3) := by decide +kernel
theorem dX0_init_52 : decode cX0_init 52 = .ok (.aload_n 0, 1) := by decide +kernel
theorem dX0_init_53 : decode cX0_init 53 = .ok (.new 33, 3) := by decide +kernel
theorem dX0_init_56 : decode cX0_init 56 = .ok (.dup, 1) := by decide +kernel
theorem dX0_init_57 : decode cX0_init 57 = .ok (.bipush 10, 2) := by decide +kernel
theorem dX0_init_59 : decode cX0_init 59 = .ok (.invokespecial 35, 3) := by decide +kernel
theorem dX0_init_62 : decode cX0_init 62 = .ok (.putfield 42, 3) := by decide +kernel
theorem dX0_init_65 : decode cX0_init 65 = .ok (.aload_n 0, 1) := by decide +kernel
theorem dX0_init_66 : decode cX0_init 66 = .ok (.new 33, 3) := by decide +kernel
theorem dX0_init_69 : decode cX0_init 69 = .ok (.dup, 1) := by decide +kernel
theorem dX0_init_70 : decode cX0_init 70 = .ok (.iconst 4, 1) := by decide +kernel
theorem dX0_init_71 : decode cX0_init 71 = .ok (.invokespecial 35, 3) := by decide +kernel
theorem dX0_init_74 : decode cX0_init 74 = .ok (.putfield 45, 3) := by decide +kernel
theorem dX0_init_77 : decode cX0_init 77 = .ok (.aload_n 0, 1) := by decide +kernel
theorem dX0_init_78 : decode cX0_init 78 = .ok (.new 33, 3) := by decide +kernel
theorem dX0_init_81 : decode cX0_init 81 = .ok (.dup, 1) := by decide +kernel
theorem dX0_init_82 : decode cX0_init 82 = .ok (.iconst 3, 1) := by decide +kernel
theorem dX0_init_83 : decode cX0_init 83 = .ok (.invokespecial 35, 3) := by decide +kernel
theorem dX0_init_86 : decode cX0_init 86 = .ok (.putfield 48, 3) := by decide +kernel
theorem dX0_init_89 : decode cX0_init 89 = .ok (.aload_n 0, 1) := by decide +kernel
theorem dX0_init_90 : decode cX0_init 90 = .ok (.new 33, 3) := by decide +kernel
theorem dX0_init_93 : decode cX0_init 93 = .ok (.dup, 1) := by decide +kernel
theorem dX0_init_94 : decode cX0_init 94 = .ok (.bipush 12, 2) := by decide +kernel
theorem dX0_init_96 : decode cX0_init 96 = .ok (.invokespecial 35, 3) := by decide +kernel
theorem dX0_init_99 : decode cX0_init 99 = .ok (.putfield 51, 3) := by decide +kernel
theorem dX0_init_102 : decode cX0_init 102 = .ok (.aload_n 0, 1) := by decide +kernel
theorem dX0_init_103 : decode cX0_init 103 = .ok (.new 33, 3) := by decide +kernel
theorem dX0_init_106 : decode cX0_init 106 = .ok (.dup, 1) := by decide +kernel
theorem dX0_init_107 : decode cX0_init 107 = .ok (.bipush 84, 2) := by decide +kernel
theorem dX0_init_109 : decode cX0_init 109 = .ok (.invokespecial 35, 3) := by decide +kernel
theorem dX0_init_112 : decode cX0_init 112 = .ok (.putfield 54, 3) := by decide +kernel
theorem dX0_init_115 : decode cX0_init 115 = .ok (.aload_n 0, 1) := by decide +kernel
theorem dX0_init_116 : decode cX0_init 116 = .ok (.new 33, 3) := by decide +kernel
theorem dX0_init_119 : decode cX0_init 119 = .ok (.dup, 1) := by decide +kernel
theorem dX0_init_120 : decode cX0_init 120 = .ok (.bipush 7, 2) := by decide +kernel
theorem dX0_init_122 : decode cX0_init 122 = .ok (.invokespecial 35, 3) := by decide +kernel
theorem dX0_init_125 : decode cX0_init 125 = .ok (.putfield 57, 3) := by decide +kernel
theorem dX0_init_128 : decode cX0_init 128 = .ok (.aload_n 0, 1) := by decide +kernel
theorem dX0_init_129 : decode cX0_init 129 = .ok (.aload_n 1, 1) := by decide +kernel
theorem dX0_init_130 : decode cX0_init 130 = .ok (.putfield 60, 3) := by decide +kernel
theorem dX0_init_133 : decode cX0_init 133 = .ok (.aload_n 0, 1) := by decide +kernel
theorem dX0_init_134 : decode cX0_init 134 = .ok (.aload_n 2, 1) := by decide +kernel
theorem dX0_init_135 : decode cX0_init 135 = .ok (.putfield 64, 3) := by decide +kernel
theorem dX0_init_138 : decode cX0_init 138 = .ok (.return_, 1) := by decide +kernel
set_option maxRecDepth 20000 in
theorem ggX1_init_X4_init : GoodIn wsX1_init wsX4_init := goodIn_r _ [15, 16, 2, 3, 17, 18, 25] (by decide +kernel) (by decide +kernel)
set_option maxRecDepth 20000 in
theorem gX1_init_X4_init : GoodIn wsX1_init (wsX4_init) := ggX1_init_X4_init
theorem dX1_init_0 : decode cX1_init 0 = .ok (.aload_n 0, 1) := by decide +kernel
theorem dX1_init_1 : decode cX1_init 1 = .ok (.invokespecial 3, 3) := by decide +kernel
theorem dX1_init_4 : decode cX1_init 4 = .ok (.aload_n 0, 1) := by decide +kernel
theorem dX1_init_5 : decode cX1_init 5 = .ok (.iconst 0, 1) := by decide +kernel
theorem dX1_init_6 : decode cX1_init 6 = .ok (.putfield 9, 3) := by decide +kernel
theorem dX1_init_9 : decode cX1_init 9 = .ok (.aload_n 0, 1) := by decide +kernel
theorem dX1_init_10 : decode cX1_init 10 = .ok (.new 15, 3) := by decide +kernel
theorem dX1_init_13 : decode cX1_init 13 = .ok (.dup, 1) := by decide +kernel
theorem dX1_init_14 : decode cX1_init 14 = .ok (.bipush 8, 2) := by decide +kernel
theorem dX1_init_16 : decode cX1_init 16 = .ok (.invokespecial 17, 3) := by decide +kernel
theorem dX1_init_19 : decode cX1_init 19 = .ok (.putfield 20, 3) := by decide +kernel
theorem dX1_init_22 : decode cX1_init 22 = .ok (.aload_n 0, 1) := by decide +kernel
theorem dX1_init_23 : decode cX1_init 23 = .ok (.new 15, 3) := by decide +kernel
theorem dX1_init_26 : decode cX1_init 26 = .ok (.dup, 1) := by decide +kernel
theorem dX1_init_27 : decode cX1_init 27 = .ok (.bipush 8, 2) := by decide +kernel
theorem dX1_init_29 : decode cX1_init 29 = .ok (.invokespecial 17, 3) := by decide +kernel
theorem dX1_init_32 : decode cX1_init 32 = .ok (.putfield 24, 3) := by decide +kernel
theorem dX1_init_35 : decode cX1_init 35 = .ok (.aload_n 0, 1) := by decide +kernel
theorem dX1_init_36 : decode cX1_init 36 = .ok (.new 15, 3) := by decide +kernel
theorem dX1_init_39 : decode cX1_init 39 = .ok (.dup, 1) := by decide +kernel
theorem dX1_init_40 : decode cX1_init 40 = .ok (.bipush 8, 2) := by decide +kernel
theorem dX1_init_42 : decode cX1_init 42 = .ok (.invokespecial 17, 3) := by decide +kernel
theorem dX1_init_45 : decode cX1_init 45 = .ok (.putfield 27, 3) := by decide +kernel
theorem dX1_init_48 : decode cX1_init 48 = .ok (.aload_n 0, 1) := by decide +kernel
theorem dX1_init_49 : decode cX1_init 49 = .ok (.new 15, 3) := by decide +kernel
theorem dX1_init_52 : decode cX1_init 52 = .ok (.dup, 1) := by decide +kernel
theorem dX1_init_53 : decode cX1_init 53 = .ok (.bipush 8, 2) := by decide +kernel
theorem dX1_init_55 : decode cX1_init 55 = .ok (.invokespecial 17, 3) := by decide +kernel
theorem dX1_init_58 : decode cX1_init 58 = .ok (.putfield 30, 3) := by decide +kernel
theorem dX1_init_61 : decode cX1_init 61 = .ok (.aload_n 0, 1) := by decide +kernel
theorem dX1_init_62 : decode cX1_init 62 = .ok (.new 15, 3) := by decide +kernel
theorem dX1_init_65 : decode cX1_init 65 = .ok (.dup, 1) := by decide +kernel
theorem dX1_init_66 : decode cX1_init 66 = .ok (.bipush 8, 2) := by decide +kernel
theorem dX1_init_68 : decode cX1_init 68 = .ok (.invokespecial 17, 3) := by decide +kernel
theorem dX1_init_71 : decode cX1_init 71 = .ok (.putfield 33, 3) := by decide +kernel
theorem dX1_init_74 : decode cX1_init 74 = .ok (.return_, 1) := by decide +kernel
set_option maxRecDepth 20000 in
theorem ggX2_init_X4_init : GoodIn wsX2_init wsX4_init := goodIn_r _ [16, 17, 2, 3, 18, 19, 27] (by decide +kernel) (by decide +kernel)
set_option maxRecDepth 20000 in
theorem gX2_init_X4_init : GoodIn wsX2_init (wsX4_init) := ggX2_init_X4_init
theorem dX2_init_0 : decode cX2_init 0 = .ok (.aload_n 0, 1) := by decide +kernel
theorem dX2_init_1 : decode cX2_init 1 = .ok (.invokespecial 3, 3) := by decide +kernel
theorem dX2_init_4 : decode cX2_init 4 = .ok (.aload_n 0, 1) := by decide +kernel
theorem dX2_init_5 : decode cX2_init 5 = .ok (.iconst 0, 1) := by decide +kernel
theorem dX2_init_6 : decode cX2_init 6 = .ok (.putfield 9, 3) := by decide +kernel
theorem dX2_init_9 : decode cX2_init 9 = .ok (.aload_n 0, 1) := by decide +kernel
theorem dX2_init_10 : decode cX2_init 10 = .ok (.new 15, 3) := by decide +kernel
theorem dX2_init_13 : decode cX2_init 13 = .ok (.dup, 1) := by decide +kernel
theorem dX2_init_14 : decode cX2_init 14 = .ok (.bipush 100, 2) := by decide +kernel
theorem dX2_init_16 : decode cX2_init 16 = .ok (.invokespecial 17, 3) := by decide +kernel
theorem dX2_init_19 : decode cX2_init 19 = .ok (.putfield 20, 3) := by decide +kernel
theorem dX2_init_22 : decode cX2_init 22 = .ok (.aload_n 0, 1) := by decide +kernel
theorem dX2_init_23 : decode cX2_init 23 = .ok (.new 15, 3) := by decide +kernel
theorem dX2_init_26 : decode cX2_init 26 = .ok (.dup, 1) := by decide +kernel
theorem dX2_init_27 : decode cX2_init 27 = .ok (.bipush 100, 2) := by decide +kernel
theorem dX2_init_29 : decode cX2_init 29 = .ok (.invokespecial 17, 3) := by decide +kernel
theorem dX2_init_32 : decode cX2_init 32 = .ok (.putfield 24, 3) := by decide +kernel
theorem dX2_init_35 : decode cX2_init 35 = .ok (.aload_n 0, 1) := by decide +kernel
theorem dX2_init_36 : decode cX2_init 36 = .ok (.new 15, 3) := by decide +kernel
theorem dX2_init_39 : decode cX2_init 39 = .ok (.dup, 1) := by decide +kernel
theorem dX2_init_40 : decode cX2_init 40 = .ok (.bipush 100, 2) := by decide +kernel
theorem dX2_init_42 : decode cX2_init 42 = .ok (.invokespecial 17, 3) := by decide +kernel
theorem dX2_init_45 : decode cX2_init 45 = .ok (.putfield 27, 3) := by decide +kernel
theorem dX2_init_48 : decode cX2_init 48 = .ok (.aload_n 0, 1) := by decide +kernel
theorem dX2_init_49 : decode cX2_init 49 = .ok (.new 15, 3) := by decide +kernel
theorem dX2_init_52 : decode cX2_init 52 = .ok (.dup, 1) := by decide +kernel
theorem dX2_init_53 : decode cX2_init 53 = .ok (.bipush 100, 2) := by decide +kernel
theorem dX2_init_55 : decode cX2_init 55 = .ok (.invokespecial 17, 3) := by decide +kernel
theorem dX2_init_58 : decode cX2_init 58 = .ok (.putfield 30, 3) := by decide +kernel
theorem dX2_init_61 : decode cX2_init 61 = .ok (.aload_n 0, 1) := by decide +kernel
theorem dX2_init_62 : decode cX2_init 62 = .ok (.new 15, 3) := by decide +kernel
theorem dX2_init_65 : decode cX2_init 65 = .ok (.dup, 1) := by decide +kernel
theorem dX2_init_66 : decode cX2_init 66 = .ok (.bipush 100, 2) := by decide +kernel
theorem dX2_init_68 : decode cX2_init 68 = .ok (.invokespecial 17, 3) := by decide +kernel
theorem dX2_init_71 : decode cX2_init 71 = .ok (.putfield 33, 3) := by decide +kernel
theorem dX2_init_74 : decode cX2_init 74 = .ok (.aload_n 0, 1) := by decide +kernel
theorem dX2_init_75 : decode cX2_init 75 = .ok (.new 15, 3) := by decide +kernel
theorem dX2_init_78 : decode cX2_init 78 = .ok (.dup, 1) := by decide +kernel
theorem dX2_init_79 : decode cX2_init 79 = .ok (.bipush 100, 2) := by decide +kernel
theorem dX2_init_81 : decode cX2_init 81 = .ok (.invokespecial 17, 3) := by decide +kernel
theorem dX2_init_84 : decode cX2_init 84 = .ok (.putfield 36, 3) := by decide +kernel
theorem dX2_init_87 : decode cX2_init 87 = .ok (.return_, 1) := by decide +kernel
set_option maxRecDepth 20000 in
theorem ggX3_init_X4_init : GoodIn wsX3_init wsX4_init := goodIn_r _ [12, 13, 2, 3, 14, 15, 16] (by decide +kernel) (by decide +kernel)
set_option maxRecDepth 20000 in
theorem gX3_init_X4_init : GoodIn wsX3_init (wsX4_init) := ggX3_init_X4_init
theorem dX3_init_0 : decode cX3_init 0 = .ok (.aload_n 0, 1) := by decide +kernel
theorem dX3_init_1 : decode cX3_init 1 = .ok (.invokespecial 3, 3) := by decide +kernel
theorem dX3_init_4 : decode cX3_init 4 = .ok (.aload_n 0, 1) := by decide +kernel
theorem dX3_init_5 : decode cX3_init 5 = .ok (.new 9, 3) := by decide +kernel
theorem dX3_init_8 : decode cX3_init 8 = .ok (.dup, 1) := by decide +kernel
theorem dX3_init_9 : decode cX3_init 9 = .ok (.bipush 64, 2) := by decide +kernel
theorem dX3_init_11 : decode cX3_init 11 = .ok (.invokespecial 11, 3) := by decide +kernel
theorem dX3_init_14 : decode cX3_init 14 = .ok (.putfield 14, 3) := by decide +kernel
theorem dX3_init_17 : decode cX3_init 17 = .ok (.aload_n 0, 1) := by decide +kernel
theorem dX3_init_18 : decode cX3_init 18 = .ok (.new 9, 3) := by decide +kernel
theorem dX3_init_21 : decode cX3_init 21 = .ok (.dup, 1) := by decide +kernel
theorem dX3_init_22 : decode cX3_init 22 = .ok (.sipush 2048, 3) := by decide +kernel
theorem dX3_init_25 : decode cX3_init 25 = .ok (.invokespecial 11, 3) := by decide +kernel
theorem dX3_init_28 : decode cX3_init 28 = .ok (.putfield 20, 3) := by decide +kernel
theorem dX3_init_31 : decode cX3_init 31 = .ok (.aload_n 0, 1) := by decide +kernel
theorem dX3_init_32 : decode cX3_init 32 = .ok (.aload_n 1, 1) := by decide +kernel
theorem dX3_init_33 : decode cX3_init 33 = .ok (.putfield 23, 3) := by decide +kernel
theorem dX3_init_36 : decode cX3_init 36 = .ok (.return_, 1) := by decide +kernel
theorem dX4_init_0 : decode cX4_init 0 = .ok (.aload_n 0, 1) := by decide +kernel
theorem dX4_init_1 : decode cX4_init 1 = .ok (.invokespecial 1, 3) := by decide +kernel
theorem dX4_init_4 : decode cX4_init 4 = .ok (.aload_n 0, 1) := by decide +kernel
theorem dX4_init_5 : decode cX4_init 5 = .ok (.iload_n 1, 1) := by decide +kernel
theorem dX4_init_6 : decode cX4_init 6 = .ok (.ifCond .le 7, 3) := by decide +kernel
theorem dX4_init_9 : decode cX4_init 9 = .ok (.iload_n 1, 1) := by decide +kernel
theorem dX4_init_10 : decode cX4_init 10 = .ok (.goto 4, 3) := by decide +kernel
theorem dX4_init_14 : decode cX4_init 14 = .ok (.newarray .int, 2) := by decide +kernel
theorem dX4_init_16 : decode cX4_init 16 = .ok (.putfield 7, 3) := by decide +kernel
theorem dX4_init_19 : decode cX4_init 19 = .ok (.return_, 1) := by decide +kernel
theorem dX4_fill_0 : decode cX4_fill 0 = .ok (.iconst 0, 1) := by decide +kernel
theorem dX4_fill_1 : decode cX4_fill 1 = .ok (.istore_n 2, 1) := by decide +kernel
theorem dX4_fill_2 : decode cX4_fill 2 = .ok (.iload_n 2, 1) := by decide +kernel
theorem dX4_fill_3 : decode cX4_fill 3 = .ok (.aload_n 0, 1) := by decide +kernel
theorem dX4_fill_4 : decode cX4_fill 4 = .ok (.getfield 7, 3) := by decide +kernel
theorem dX4_fill_7 : decode cX4_fill 7 = .ok (.arraylength, 1) := by decide +kernel
theorem dX4_fill_8 : decode cX4_fill 8 = .ok (.if_icmp .ge 16, 3) := by decide +kernel
theorem dX4_fill_11 : decode cX4_fill 11 = .ok (.aload_n 0, 1) := by decide +kernel
theorem dX4_fill_12 : decode cX4_fill 12 = .ok (.getfield 7, 3) := by decide +kernel
theorem dX4_fill_15 : decode cX4_fill 15 = .ok (.iload_n 2, 1) := by decide +kernel
theorem dX4_fill_16 : decode cX4_fill 16 = .ok (.iload_n 1, 1) := by decide +kernel
theorem dX4_fill_17 : decode cX4_fill 17 = .ok (.iastore, 1) := by decide +kernel
theorem dX4_fill_18 : decode cX4_fill 18 = .ok (.iinc 2 1, 3) := by decide +kernel
theorem dX4_fill_21 : decode cX4_fill 21 = .ok (.goto (-19), 3) := by decide +kernel
theorem dX4_fill_24 : decode cX4_fill 24 = .ok (.return_, 1) := by decide +kernel
set_option maxRecDepth 20000 in
theorem ggX5_init_X4_init : GoodIn wsX5_init wsX4_init := goodIn_r _ [12, 13, 2, 3, 14, 15, 20] (by decide +kernel) (by decide +kernel)
set_option maxRecDepth 20000 in
theorem gX5_init_X4_init : GoodIn wsX5_init (wsX4_init) := ggX5_init_X4_init
set_option maxRecDepth 20000 in
theorem ggX5_init_X4_fill : GoodIn wsX5_init wsX4_fill := goodIn_r _ [19, 15, 20] (by decide +kernel) (by decide +kernel)
set_option maxRecDepth 20000 in
theorem gX5_init_X4_fill : GoodIn wsX5_init (wsV RX5 26 RX4 yX4_fill wsX4_fill) := goodIn_app (goodIn_of _ (by decide +kernel)) ggX5_init_X4_fill
theorem dX5_init_0 : decode cX5_init 0 = .ok (.aload_n 0, 1) := by decide +kernel
theorem dX5_init_1 : decode cX5_init 1 = .ok (.invokespecial 3, 3) := by decide +kernel
theorem dX5_init_4 : decode cX5_init 4 = .ok (.aload_n 0, 1) := by decide +kernel
theorem dX5_init_5 : decode cX5_init 5 = .ok (.new 9, 3) := by decide +kernel
theorem dX5_init_8 : decode cX5_init 8 = .ok (.dup, 1) := by decide +kernel
theorem dX5_init_9 : decode cX5_init 9 = .ok (.iconst 4, 1) := by decide +kernel
theorem dX5_init_10 : decode cX5_init 10 = .ok (.invokespecial 11, 3) := by decide +kernel
theorem dX5_init_13 : decode cX5_init 13 = .ok (.putfield 14, 3) := by decide +kernel
theorem dX5_init_16 : decode cX5_init 16 = .ok (.aload_n 0, 1) := by decide +kernel
theorem dX5_init_17 : decode cX5_init 17 = .ok (.new 9, 3) := by decide +kernel
theorem dX5_init_20 : decode cX5_init 20 = .ok (.dup, 1) := by decide +kernel
theorem dX5_init_21 : decode cX5_init 21 = .ok (.iconst 4, 1) := by decide +kernel
theorem dX5_init_22 : decode cX5_init 22 = .ok (.invokespecial 11, 3) := by decide +kernel
theorem dX5_init_25 : decode cX5_init 25 = .ok (.putfield 20, 3) := by decide +kernel
theorem dX5_init_28 : decode cX5_init 28 = .ok (.aload_n 0, 1) := by decide +kernel
theorem dX5_init_29 : decode cX5_init 29 = .ok (.new 9, 3) := by decide +kernel
theorem dX5_init_32 : decode cX5_init 32 = .ok (.dup, 1) := by decide +kernel
theorem dX5_init_33 : decode cX5_init 33 = .ok (.sipush 240, 3) := by decide +kernel
theorem dX5_init_36 : decode cX5_init 36 = .ok (.invokespecial 11, 3) := by decide +kernel
theorem dX5_init_39 : decode cX5_init 39 = .ok (.putfield 23, 3) := by decide +kernel
theorem dX5_init_42 : decode cX5_init 42 = .ok (.aload_n 0, 1) := by decide +kernel
theorem dX5_init_43 : decode cX5_init 43 = .ok (.getfield 14, 3) := by decide +kernel
theorem dX5_init_46 : decode cX5_init 46 = .ok (.iconst (-1), 1) := by decide +kernel
theorem dX5_init_47 : decode cX5_init 47 = .ok (.invokevirtual 26, 3) := by decide +kernel
theorem dX5_init_50 : decode cX5_init 50 = .ok (.return_, 1) := by decide +kernel
set_option maxRecDepth 20000 in
theorem ggX6_init_X4_init : GoodIn wsX6_init wsX4_init := goodIn_r _ [14, 15, 2, 3, 16, 17, 23] (by decide +kernel) (by decide +kernel)
set_option maxRecDepth 20000 in
theorem gX6_init_X4_init : GoodIn wsX6_init (wsX4_init) := ggX6_init_X4_init
theorem dX6_init_0 : decode cX6_init 0 = .ok (.aload_n 0, 1) := by decide +kernel
theorem dX6_init_1 : decode cX6_init 1 = .ok (.invokespecial 3, 3) := by decide +kernel
theorem dX6_init_4 : decode cX6_init 4 = .ok (.aload_n 0, 1) := by decide +kernel
theorem dX6_init_5 : decode cX6_init 5 = .ok (.iconst 0, 1) := by decide +kernel
theorem dX6_init_6 : decode cX6_init 6 = .ok (.putfield 9, 3) := by decide +kernel
theorem dX6_init_9 : decode cX6_init 9 = .ok (.aload_n 0, 1) := by decide +kernel
theorem dX6_init_10 : decode cX6_init 10 = .ok (.new 15, 3) := by decide +kernel
theorem dX6_init_13 : decode cX6_init 13 = .ok (.dup, 1) := by decide +kernel
theorem dX6_init_14 : decode cX6_init 14 = .ok (.bipush 12, 2) := by decide +kernel
theorem dX6_init_16 : decode cX6_init 16 = .ok (.invokespecial 17, 3) := by decide +kernel
theorem dX6_init_19 : decode cX6_init 19 = .ok (.putfield 20, 3) := by decide +kernel
theorem dX6_init_22 : decode cX6_init 22 = .ok (.aload_n 0, 1) := by decide +kernel
theorem dX6_init_23 : decode cX6_init 23 = .ok (.new 15, 3) := by decide +kernel
theorem dX6_init_26 : decode cX6_init 26 = .ok (.dup, 1) := by decide +kernel
theorem dX6_init_27 : decode cX6_init 27 = .ok (.bipush 12, 2) := by decide +kernel
theorem dX6_init_29 : decode cX6_init 29 = .ok (.invokespecial 17, 3) := by decide +kernel
theorem dX6_init_32 : decode cX6_init 32 = .ok (.putfield 24, 3) := by decide +kernel
theorem dX6_init_35 : decode cX6_init 35 = .ok (.aload_n 0, 1) := by decide +kernel
theorem dX6_init_36 : decode cX6_init 36 = .ok (.new 15, 3) := by decide +kernel
theorem dX6_init_39 : decode cX6_init 39 = .ok (.dup, 1) := by decide +kernel
theorem dX6_init_40 : decode cX6_init 40 = .ok (.bipush 12, 2) := by decide +kernel
theorem dX6_init_42 : decode cX6_init 42 = .ok (.invokespecial 17, 3) := by decide +kernel
theorem dX6_init_45 : decode cX6_init 45 = .ok (.putfield 27, 3) := by decide +kernel
theorem dX6_init_48 : decode cX6_init 48 = .ok (.aload_n 0, 1) := by decide +kernel
theorem dX6_init_49 : decode cX6_init 49 = .ok (.aload_n 1, 1) := by decide +kernel
theorem dX6_init_50 : decode cX6_init 50 = .ok (.putfield 30, 3) := by decide +kernel
theorem dX6_init_53 : decode cX6_init 53 = .ok (.return_, 1) := by decide +kernel
set_option maxRecDepth 20000 in
theorem ggX7_init_X1_init : GoodIn wsX7_init wsX1_init := goodIn_r _ [30, 31, 2, 3, 32, 33, 34, 35, 36, 37, 38, 39, 40, 41, 42, 43, 44, 45, 46, 114, 115, 116, 117, 118, 119, 161] (by decide +kernel) (by decide +kernel)
set_option maxRecDepth 20000 in
theorem gX7_init_X1_init_n11 : GoodIn wsX7_init (wsX1_init) := ggX7_init_X1_init
set_option maxRecDepth 20000 in
theorem ggX7_init_X2_init : GoodIn wsX7_init wsX2_init := goodIn_r _ [48, 49, 2, 3, 50, 51, 34, 35, 52, 53, 54, 55, 56, 57, 58, 42, 43, 44, 45, 46, 127, 128, 129, 130, 131, 132, 133, 161] (by decide +kernel) (by decide +kernel)
set_option maxRecDepth 20000 in
theorem gX7_init_X2_init_n18 : GoodIn wsX7_init (wsX2_init) := ggX7_init_X2_init
set_option maxRecDepth 20000 in
theorem ggX7_init_X6_init : GoodIn wsX7_init wsX6_init := goodIn_r _ [61, 62, 2, 3, 63, 64, 34, 35, 65, 66, 67, 68, 69, 42, 43, 44, 45, 46, 134, 135, 136, 137, 138, 161] (by decide +kernel) (by decide +kernel)
set_option maxRecDepth 20000 in
theorem gX7_init_X6_init : GoodIn wsX7_init (wsX6_init) := ggX7_init_X6_init
set_option maxRecDepth 20000 in
theorem ggX7_init_X3_init : GoodIn wsX7_init wsX3_init := goodIn_r _ [72, 73, 2, 3, 74, 34, 35, 75, 76, 77, 78, 42, 43, 44, 45, 46, 161, 139, 140, 141] (by decide +kernel) (by decide +kernel)
set_option maxRecDepth 20000 in
theorem gX7_init_X3_init : GoodIn wsX7_init (wsX3_init) := ggX7_init_X3_init
set_option maxRecDepth 20000 in
theorem ggX7_init_X0_init : GoodIn wsX7_init wsX0_init := goodIn_r _ [81, 82, 2, 3, 83, 84, 85, 86, 87, 88, 89, 90, 34, 35, 91, 92, 93, 94, 95, 96, 97, 98, 99, 100, 42, 43, 44, 45, 46, 142, 143, 144, 145, 146, 147, 148, 149, 150, 151, 152, 153, 154, 155, 156, 157, 161] (by decide +kernel) (by decide +kernel)
set_option maxRecDepth 20000 in
theorem gX7_init_X0_init : GoodIn wsX7_init (wsX0_init) := ggX7_init_X0_init
set_option maxRecDepth 20000 in
theorem ggX7_init_X5_init : GoodIn wsX7_init wsX5_init := goodIn_r _ [103, 104, 2, 3, 105, 34, 35, 106, 107, 108, 109, 42, 43, 44, 45, 46, 110, 111, 112, 113, 161, 158, 159, 160] (by decide +kernel) (by decide +kernel)
set_option maxRecDepth 20000 in
theorem gX7_init_X5_init : GoodIn wsX7_init (wsX5_init) := ggX7_init_X5_init
theorem dX7_init_0 : decode cX7_init 0 = .ok (.aload_n 0, 1) := by decide +kernel
theorem dX7_init_1 : decode cX7_init 1 = .ok (.invokespecial 3, 3) := by decide +kernel
theorem dX7_init_4 : decode cX7_init 4 = .ok (.aload_n 0, 1) := by decide +kernel
theorem dX7_init_5 : decode cX7_init 5 = .ok (.new 9, 3) := by decide +kernel
theorem dX7_init_8 : decode cX7_init 8 = .ok (.dup, 1) := by decide +kernel
theorem dX7_init_9 : decode cX7_init 9 = .ok (.invokespecial 11, 3) := by decide +kernel
theorem dX7_init_12 : decode cX7_init 12 = .ok (.putfield 12, 3) := by decide +kernel
theorem dX7_init_15 : decode cX7_init 15 = .ok (.aload_n 0, 1) := by decide +kernel
theorem dX7_init_16 : decode cX7_init 16 = .ok (.new 16, 3) := by decide +kernel
theorem dX7_init_19 : decode cX7_init 19 = .ok (.dup, 1) := by decide +kernel
theorem dX7_init_20 : decode cX7_init 20 = .ok (.invokespecial 18, 3) := by decide +kernel
theorem dX7_init_23 : decode cX7_init 23 = .ok (.putfield 19, 3) := by decide +kernel
theorem dX7_init_26 : decode cX7_init 26 = .ok (.aload_n 0, 1) := by decide +kernel
theorem dX7_init_27 : decode cX7_init 27 = .ok (.new 23, 3) := by decide +kernel
theorem dX7_init_30 : decode cX7_init 30 = .ok (.dup, 1) := by decide +kernel
theorem dX7_init_31 : decode cX7_init 31 = .ok (.aload_n 0, 1) := by decide +kernel
theorem dX7_init_32 : decode cX7_init 32 = .ok (.getfield 12, 3) := by decide +kernel
theorem dX7_init_35 : decode cX7_init 35 = .ok (.invokespecial 25, 3) := by decide +kernel
theorem dX7_init_38 : decode cX7_init 38 = .ok (.putfield 28, 3) := by decide +kernel
theorem dX7_init_41 : decode cX7_init 41 = .ok (.aload_n 0, 1) := by decide +kernel
theorem dX7_init_42 : decode cX7_init 42 = .ok (.new 32, 3) := by decide +kernel
theorem dX7_init_45 : decode cX7_init 45 = .ok (.dup, 1) := by decide +kernel
theorem dX7_init_46 : decode cX7_init 46 = .ok (.aload_n 0, 1) := by decide +kernel
theorem dX7_init_47 : decode cX7_init 47 = .ok (.getfield 28, 3) := by decide +kernel
theorem dX7_init_50 : decode cX7_init 50 = .ok (.invokespecial 34, 3) := by decide +kernel
theorem dX7_init_53 : decode cX7_init 53 = .ok (.putfield 37, 3) := by decide +kernel
theorem dX7_init_56 : decode cX7_init 56 = .ok (.aload_n 0, 1) := by decide +kernel
theorem dX7_init_57 : decode cX7_init 57 = .ok (.new 41, 3) := by decide +kernel
theorem dX7_init_60 : decode cX7_init 60 = .ok (.dup, 1) := by decide +kernel
theorem dX7_init_61 : decode cX7_init 61 = .ok (.aload_n 0, 1) := by decide +kernel
theorem dX7_init_62 : decode cX7_init 62 = .ok (.getfield 12, 3) := by decide +kernel
theorem dX7_init_65 : decode cX7_init 65 = .ok (.aload_n 0, 1) := by decide +kernel
theorem dX7_init_66 : decode cX7_init 66 = .ok (.getfield 28, 3) := by decide +kernel
theorem dX7_init_69 : decode cX7_init 69 = .ok (.invokespecial 43, 3) := by decide +kernel
theorem dX7_init_72 : decode cX7_init 72 = .ok (.putfield 46, 3) := by decide +kernel
theorem dX7_init_75 : decode cX7_init 75 = .ok (.aload_n 0, 1) := by decide +kernel
theorem dX7_init_76 : decode cX7_init 76 = .ok (.new 50, 3) := by decide +kernel
theorem dX7_init_79 : decode cX7_init 79 = .ok (.dup, 1) := by decide +kernel
theorem dX7_init_80 : decode cX7_init 80 = .ok (.invokespecial 52, 3) := by decide +kernel
theorem dX7_init_83 : decode cX7_init 83 = .ok (.putfield 53, 3) := by decide +kernel
theorem dX7_init_86 : decode cX7_init 86 = .ok (.aload_n 0, 1) := by decide +kernel
theorem dX7_init_87 : decode cX7_init 87 = .ok (.iconst 0, 1) := by decide +kernel
theorem dX7_init_88 : decode cX7_init 88 = .ok (.putfield 57, 3) := by decide +kernel
theorem dX7_init_91 : decode cX7_init 91 = .ok (.return_, 1) := by decide +kernel
theorem dX8_init_0 : decode cX8_init 0 = .ok (.aload_n 0, 1) := by decide +kernel
theorem dX8_init_1 : decode cX8_init 1 = .ok (.invokespecial 1, 3) := by decide +kernel
theorem dX8_init_4 : decode cX8_init 4 = .ok (.aload_n 0, 1) := by decide +kernel
theorem dX8_init_5 : decode cX8_init 5 = .ok (.bipush 8, 2) := by decide +kernel
theorem dX8_init_7 : decode cX8_init 7 = .ok (.newarray .int, 2) := by decide +kernel
theorem dX8_init_9 : decode cX8_init 9 = .ok (.putfield 7, 3) := by decide +kernel
theorem dX8_init_12 : decode cX8_init 12 = .ok (.aload_n 0, 1) := by decide +kernel
theorem dX8_init_13 : decode cX8_init 13 = .ok (.bipush 8, 2) := by decide +kernel
theorem dX8_init_15 : decode cX8_init 15 = .ok (.newarray .int, 2) := by decide +kernel
theorem dX8_init_17 : decode cX8_init 17 = .ok (.putfield 13, 3) := by decide +kernel
theorem dX8_init_20 : decode cX8_init 20 = .ok (.aload_n 0, 1) := by decide +kernel
theorem dX8_init_21 : decode cX8_init 21 = .ok (.bipush 8, 2) := by decide +kernel
theorem dX8_init_23 : decode cX8_init 23 = .ok (.newarray .boolean, 2) := by decide +kernel
theorem dX8_init_25 : decode cX8_init 25 = .ok (.putfield 16, 3) := by decide +kernel
theorem dX8_init_28 : decode cX8_init 28 = .ok (.aload_n 0, 1) := by decide +kernel
theorem dX8_init_29 : decode cX8_init 29 = .ok (.bipush 8, 2) := by decide +kernel
theorem dX8_init_31 : decode cX8_init 31 = .ok (.newarray .int, 2) := by decide +kernel
theorem dX8_init_33 : decode cX8_init 33 = .ok (.putfield 20, 3) := by decide +kernel
theorem dX8_init_36 : decode cX8_init 36 = .ok (.aload_n 0, 1) := by decide +kernel
theorem dX8_init_37 : decode cX8_init 37 = .ok (.bipush 8, 2) := by decide +kernel
theorem dX8_init_39 : decode cX8_init 39 = .ok (.newarray .int, 2) := by decide +kernel
theorem dX8_init_41 : decode cX8_init 41 = .ok (.putfield 23, 3) := by decide +kernel
theorem dX8_init_44 : decode cX8_init 44 = .ok (.aload_n 0, 1) := by decide +kernel
theorem dX8_init_45 : decode cX8_init 45 = .ok (.bipush 100, 2) := by decide +kernel
theorem dX8_init_47 : decode cX8_init 47 = .ok (.newarray .int, 2) := by decide +kernel
theorem dX8_init_49 : decode cX8_init 49 = .ok (.putfield 26, 3) := by decide +kernel
theorem dX8_init_52 : decode cX8_init 52 = .ok (.aload_n 0, 1) := by decide +kernel
theorem dX8_init_53 : decode cX8_init 53 = .ok (.bipush 100, 2) := by decide +kernel
theorem dX8_init_55 : decode cX8_init 55 = .ok (.newarray .int, 2) := by decide +kernel
theorem dX8_init_57 : decode cX8_init 57 = .ok (.putfield 29, 3) := by decide +kernel
theorem dX8_init_60 : decode cX8_init 60 = .ok (.aload_n 0, 1) := by decide +kernel
theorem dX8_init_61 : decode cX8_init 61 = .ok (.bipush 100, 2) := by decide +kernel
theorem dX8_init_63 : decode cX8_init 63 = .ok (.newarray .boolean, 2) := by decide +kernel
theorem dX8_init_65 : decode cX8_init 65 = .ok (.putfield 32, 3) := by decide +kernel
theorem dX8_init_68 : decode cX8_init 68 = .ok (.aload_n 0, 1) := by decide +kernel
theorem dX8_init_69 : decode cX8_init 69 = .ok (.bipush 100, 2) := by decide +kernel
theorem dX8_init_71 : decode cX8_init 71 = .ok (.newarray .int, 2) := by decide +kernel
theorem dX8_init_73 : decode cX8_init 73 = .ok (.putfield 35, 3) := by decide +kernel
theorem dX8_init_76 : decode cX8_init 76 = .ok (.aload_n 0, 1) := by decide +kernel
theorem dX8_init_77 : decode cX8_init 77 = .ok (.bipush 100, 2) := by decide +kernel
theorem dX8_init_79 : decode cX8_init 79 = .ok (.newarray .int, 2) := by decide +kernel
theorem dX8_init_81 : decode cX8_init 81 = .ok (.putfield 38, 3) := by decide +kernel
theorem dX8_init_84 : decode cX8_init 84 = .ok (.aload_n 0, 1) := by decide +kernel
theorem dX8_init_85 : decode cX8_init 85 = .ok (.bipush 100, 2) := by decide +kernel
theorem dX8_init_87 : decode cX8_init 87 = .ok (.newarray .int, 2) := by decide +kernel
theorem dX8_init_89 : decode cX8_init 89 = .ok (.putfield 41, 3) := by decide +kernel
theorem dX8_init_92 : decode cX8_init 92 = .ok (.aload_n 0, 1) := by decide +kernel
theorem dX8_init_93 : decode cX8_init 93 = .ok (.bipush 12, 2) := by decide +kernel
theorem dX8_init_95 : decode cX8_init 95 = .ok (.newarray .int, 2) := by decide +kernel
theorem dX8_init_97 : decode cX8_init 97 = .ok (.putfield 44, 3) := by decide +kernel
theorem dX8_init_100 : decode cX8_init 100 = .ok (.aload_n 0, 1) := by decide +kernel
theorem dX8_init_101 : decode cX8_init 101 = .ok (.bipush 12, 2) := by decide +kernel
theorem dX8_init_103 : decode cX8_init 103 = .ok (.newarray .int, 2) := by decide +kernel
theorem dX8_init_105 : decode cX8_init 105 = .ok (.putfield 47, 3) := by decide +kernel
theorem dX8_init_108 : decode cX8_init 108 = .ok (.aload_n 0, 1) := by decide +kernel
theorem dX8_init_109 : decode cX8_init 109 = .ok (.sipush 240, 3) := by decide +kernel
theorem dX8_init_112 : decode cX8_init 112 = .ok (.newarray .int, 2) := by decide +kernel
theorem dX8_init_114 : decode cX8_init 114 = .ok (.putfield 50, 3) := by decide +kernel
theorem dX8_init_117 : decode cX8_init 117 = .ok (.aload_n 0, 1) := by decide +kernel
theorem dX8_init_118 : decode cX8_init 118 = .ok (.bipush 12, 2) := by decide +kernel
theorem dX8_init_120 : decode cX8_init 120 = .ok (.newarray .int, 2) := by decide +kernel
theorem dX8_init_122 : decode cX8_init 122 = .ok (.putfield 53, 3) := by decide +kernel
theorem dX8_init_125 : decode cX8_init 125 = .ok (.aload_n 0, 1) := by decide +kernel
theorem dX8_init_126 : decode cX8_init 126 = .ok (.iconst 4, 1) := by decide +kernel
theorem dX8_init_127 : decode cX8_init 127 = .ok (.putfield 56, 3) := by decide +kernel
theorem dX8_init_130 : decode cX8_init 130 = .ok (.aload_n 0, 1) := by decide +kernel
theorem dX8_init_131 : decode cX8_init 131 = .ok (.iconst 2, 1) := by decide +kernel
theorem dX8_init_132 : decode cX8_init 132 = .ok (.putfield 60, 3) := by decide +kernel
theorem dX8_init_135 : decode cX8_init 135 = .ok (.aload_n 0, 1) := by decide +kernel
theorem dX8_init_136 : decode cX8_init 136 = .ok (.iconst 1, 1) := by decide +kernel
theorem dX8_init_137 : decode cX8_init 137 = .ok (.putfield 63, 3) := by decide +kernel
theorem dX8_init_140 : decode cX8_init 140 = .ok (.aload_n 0, 1) := by decide +kernel
theorem dX8_init_141 : decode cX8_init 141 = .ok (.sipush 3072, 3) := by decide +kernel
theorem dX8_init_144 : decode cX8_init 144 = .ok (.newarray .int, 2) := by decide +kernel
theorem dX8_init_146 : decode cX8_init 146 = .ok (.putfield 66, 3) := by decide +kernel
theorem dX8_init_149 : decode cX8_init 149 = .ok (.aload_n 0, 1) := by decide +kernel
theorem dX8_init_150 : decode cX8_init 150 = .ok (.bipush 100, 2) := by decide +kernel
theorem dX8_init_152 : decode cX8_init 152 = .ok (.newarray .int, 2) := by decide +kernel
theorem dX8_init_154 : decode cX8_init 154 = .ok (.putfield 69, 3) := by decide +kernel
theorem dX8_init_157 : decode cX8_init 157 = .ok (.aload_n 0, 1) := by decide +kernel
theorem dX8_init_158 : decode cX8_init 158 = .ok (.bipush 10, 2) := by decide +kernel
theorem dX8_init_160 : decode cX8_init 160 = .ok (.newarray .int, 2) := by decide +kernel
theorem dX8_init_162 : decode cX8_init 162 = .ok (.putfield 72, 3) := by decide +kernel
theorem dX8_init_165 : decode cX8_init 165 = .ok (.aload_n 0, 1) := by decide +kernel
theorem dX8_init_166 : decode cX8_init 166 = .ok (.iconst 4, 1) := by decide +kernel
theorem dX8_init_167 : decode cX8_init 167 = .ok (.newarray .int, 2) := by decide +kernel
theorem dX8_init_169 : decode cX8_init 169 = .ok (.putfield 75, 3) := by decide +kernel
theorem dX8_init_172 : decode cX8_init 172 = .ok (.aload_n 0, 1) := by decide +kernel
theorem dX8_init_173 : decode cX8_init 173 = .ok (.iconst 3, 1) := by decide +kernel
theorem dX8_init_174 : decode cX8_init 174 = .ok (.newarray .int, 2) := by decide +kernel
theorem dX8_init_176 : decode cX8_init 176 = .ok (.putfield 78, 3) := by decide +kernel
theorem dX8_init_179 : decode cX8_init 179 = .ok (.aload_n 0, 1) := by decide +kernel
theorem dX8_init_180 : decode cX8_init 180 = .ok (.bipush 7, 2) := by decide +kernel
theorem dX8_init_182 : decode cX8_init 182 = .ok (.newarray .int, 2) := by decide +kernel
theorem dX8_init_184 : decode cX8_init 184 = .ok (.putfield 81, 3) := by decide +kernel
theorem dX8_init_187 : decode cX8_init 187 = .ok (.aload_n 0, 1) := by decide +kernel
theorem dX8_init_188 : decode cX8_init 188 = .ok (.bipush 84, 2) := by decide +kernel
theorem dX8_init_190 : decode cX8_init 190 = .ok (.newarray .int, 2) := by decide +kernel
theorem dX8_init_192 : decode cX8_init 192 = .ok (.putfield 84, 3) := by decide +kernel
theorem dX8_init_195 : decode cX8_init 195 = .ok (.aload_n 0, 1) := by decide +kernel
theorem dX8_init_196 : decode cX8_init 196 = .ok (.bipush 12, 2) := by decide +kernel
theorem dX8_init_198 : decode cX8_init 198 = .ok (.newarray .int, 2) := by decide +kernel
theorem dX8_init_200 : decode cX8_init 200 = .ok (.putfield 87, 3) := by decide +kernel
theorem dX8_init_203 : decode cX8_init 203 = .ok (.aload_n 0, 1) := by decide +kernel
theorem dX8_init_204 : decode cX8_init 204 = .ok (.iconst 4, 1) := by decide +kernel
theorem dX8_init_205 : decode cX8_init 205 = .ok (.newarray .boolean, 2) := by decide +kernel
theorem dX8_init_207 : decode cX8_init 207 = .ok (.putfield 90, 3) := by decide +kernel
theorem dX8_init_210 : decode cX8_init 210 = .ok (.aload_n 0, 1) := by decide +kernel
theorem dX8_init_211 : decode cX8_init 211 = .ok (.iconst 4, 1) := by decide +kernel
theorem dX8_init_212 : decode cX8_init 212 = .ok (.newarray .int, 2) := by decide +kernel
theorem dX8_init_214 : decode cX8_init 214 = .ok (.putfield 93, 3) := by decide +kernel
theorem dX8_init_217 : decode cX8_init 217 = .ok (.aload_n 0, 1) := by decide +kernel
theorem dX8_init_218 : decode cX8_init 218 = .ok (.iconst 4, 1) := by decide +kernel
theorem dX8_init_219 : decode cX8_init 219 = .ok (.newarray .int, 2) := by decide +kernel
theorem dX8_init_221 : decode cX8_init 221 = .ok (.putfield 96, 3) := by decide +kernel
theorem dX8_init_224 : decode cX8_init 224 = .ok (.aload_n 0, 1) := by decide +kernel
theorem dX8_init_225 : decode cX8_init 225 = .ok (.sipush 240, 3) := by decide +kernel
theorem dX8_init_228 : decode cX8_init 228 = .ok (.newarray .int, 2) := by decide +kernel
theorem dX8_init_230 : decode cX8_init 230 = .ok (.putfield 99, 3) := by decide +kernel
theorem dX8_init_233 : decode cX8_init 233 = .ok (.aload_n 0, 1) := by decide +kernel
theorem dX8_init_234 : decode cX8_init 234 = .ok (.bipush 60, 2) := by decide +kernel
theorem dX8_init_236 : decode cX8_init 236 = .ok (.newarray .int, 2) := by decide +kernel
theorem dX8_init_238 : decode cX8_init 238 = .ok (.putfield 102, 3) := by decide +kernel
theorem dX8_init_241 : decode cX8_init 241 = .ok (.return_, 1) := by decide +kernel
theorem dL_law_0 : decode cL_law 0 = .ok (.new 7, 3) := by decide +kernel
theorem dL_law_3 : decode cL_law 3 = .ok (.dup, 1) := by decide +kernel
theorem dL_law_4 : decode cL_law 4 = .ok (.invokespecial 9, 3) := by decide +kernel
theorem dL_law_7 : decode cL_law 7 = .ok (.astore_n 1, 1) := by decide +kernel
theorem dL_law_8 : decode cL_law 8 = .ok (.new 10, 3) := by decide +kernel
theorem dL_law_11 : decode cL_law 11 = .ok (.dup, 1) := by decide +kernel
theorem dL_law_12 : decode cL_law 12 = .ok (.invokespecial 12, 3) := by decide +kernel
theorem dL_law_15 : decode cL_law 15 = .ok (.astore_n 2, 1) := by decide +kernel
abbrev vwCl : List vw_C := [(RX0, TX0, 16), (RX1, TX1, 6), (RX2, TX2, 7), (RX3, TX3, 3), (RX4, TX4, 1), (RX5, TX5, 3), (RX6, TX6, 5), (RX7, TX7, 7), (RX8, TX8, 37)]
end
section
/-! ===== a memory: cells by numbers, slots by numbers; a world is such a memory at given addresses ===== -/
abbrev mm_M : Type := Nat → Nat → Int32
def mm_up (σ : mm_M) (c j : Nat) (v : Int32) : mm_M := fun c' => if c' = c then upd (σ c) j v else σ c'
abbrev mm_F : Type := (Nat → Nat) → Nat → (Nat → Int32) → va_E
def mm_W (cf : mm_F) (N : Nat) (a : Nat → Nat) (σ : mm_M) : va_W := (List.range N).map fun k => (a k, cf a k (σ k))
theorem mm_W_at {cf : mm_F} {N : Nat} {a : Nat → Nat} {σ : mm_M} {k : Nat} (hk : k < N) : (mm_W cf N a σ)[k]? = some (a k, cf a k (σ k)) := by
  simp [mm_W, hk]
theorem mm_W_lt {cf : mm_F} {N : Nat} {a : Nat → Nat} {σ : mm_M} {k : Nat} {q : Nat × va_E} (h : (mm_W cf N a σ)[k]? = some q) : k < N ∧ q = (a k, cf a k (σ k)) := by
  have hk : k < N := by
    have := (List.getElem?_eq_some_iff.mp h).1
    simpa [mm_W] using this
  rw [mm_W_at hk] at h
  exact ⟨hk, (Option.some.inj h).symm⟩
theorem mm_W_set {cf : mm_F} {N : Nat} {a : Nat → Nat} {σ : mm_M} {k j : Nat} {v : Int32} {e : va_E} (he : cf a k (upd (σ k) j v) = e) : (mm_W cf N a σ).set k (a k, e) = mm_W cf N a (mm_up σ k j v) := by
  apply List.ext_getElem?
  intro i
  by_cases hi : i < N
  · rw [mm_W_at hi]
    by_cases hk : k = i
    · subst hk
      rw [List.getElem?_set_self (by simpa [mm_W] using hi)]
      simp [mm_up, he]
    · rw [List.getElem?_set_ne hk, mm_W_at hi]
      simp [mm_up, Ne.symm hk]
  · rw [List.getElem?_eq_none (by simpa [mm_W] using hi), List.getElem?_eq_none (by simpa [mm_W] using hi)]
def mm_A (N : Nat) (a : Nat → Nat) (sz : Nat) : Nat → Prop := fun q => (∃ k, k < N ∧ q = a k) ∨ sz ≤ q
def mm_J (N : Nat) (a : Nat → Nat) : Prop := ∀ i j, i < N → j < N → a i = a j → i = j
theorem mm_D {cf : mm_F} {N : Nat} {a : Nat → Nat} {σ : mm_M} {A : Nat → Prop} (hJ : mm_J N a) (hA : ∀ k, k < N → A (a k)) : va_D A (mm_W cf N a σ) := by
  refine ⟨fun i j p q hi hj h => ?_, fun k q hk => ?_⟩
  · obtain ⟨h1, rfl⟩ := mm_W_lt hi
    obtain ⟨h2, rfl⟩ := mm_W_lt hj
    exact hJ i j h1 h2 h
  · obtain ⟨h1, rfl⟩ := mm_W_lt hk
    exact hA k h1
/-- the tables' words of nest mates -/
def mm_nst (w : Cond) : Bool := match w with
  | .fieldLinkNest _ _ _ _ _ _ => true
  | .methodLinkNest _ _ _ _ => true
  | _ => false
def mm_N (nw : List Cond) (U : State) : Prop := ∀ w ∈ nw, mm_nst w = true ∧ va_Nw w U
theorem mm_N.warm {nw : List Cond} {s U : State} (hW : s.WarmedH U.vm) (h : mm_N nw s) : mm_N nw U := by
  intro w hw
  obtain ⟨h1, h2⟩ := h w hw
  refine ⟨h1, ?_⟩
  cases w <;> first | exact va_Nw.warmM hW h2 | exact va_Nw.warmF hW h2 | cases h1
theorem mm_N.same {nw : List Cond} {u U : State} (hv : u.vm = U.vm) (h : mm_N nw u) : mm_N nw U := by
  intro w hw
  obtain ⟨h1, h2⟩ := h w hw
  refine ⟨h1, va_Nw.same ?_ hv h2⟩
  cases w <;> first | rfl | cases h1
/-- the start of a method over a world; its ends -/
def mm_P (nw : List Cond) (D : va_G) (cf : mm_F) (N : Nat) (a : Nat → Nat) (tys : List (ClassId × FieldType)) (σ : mm_M) (av : List Value) (sz : Nat) : Array Value → State → Prop := va_Pc av (fun U => U.heap.size = sz ∧ va_P D vwCl (mm_W cf N a σ) U.heap ∧ va_K D vwCl tys U ∧ mm_N nw U)
def mm_E (D : va_G) (cf : mm_F) (N : Nat) (a : Nat → Nat) (σ : mm_M) : Unit → State → Prop := fun _ t => va_P D vwCl (mm_W cf N a σ) t.heap
def mm_Qv (D : va_G) (cf : mm_F) (N : Nat) (a : Nat → Nat) (σ : mm_M) (sz : Nat) : Array Value → State → Outcome → State → Prop := va_Qv (fun (_ : Unit) => True) (mm_E D cf N a σ) (mm_A N a sz)
theorem mm_P.blind {nw : List Cond} {D : va_G} {cf : mm_F} {N : Nat} {a : Nat → Nat} {tys : List (ClassId × FieldType)} {σ : mm_M} {av : List Value} {sz : Nat} : FrameBlind (mm_P nw D cf N a tys σ av sz) := by
  intro ar U g mk h
  obtain ⟨q0, q1, qP, qK, qN⟩ := h
  exact ⟨q0, q1, qP, va_K.moved (u := U) (U := U.calling g mk ar) (Vm.Alike.refl U.vm) qK, mm_N.same (u := U) rfl qN⟩
/-- a run: the machine's parts, how many locals, what may change, what is to come -/
abbrev mm_K := Program × Launch × Env × Room × State × MethodId × Array Value × List Frame × Method × Code × Nat × (Nat → Prop) × (State → Prop)
/-- what holds all through a method's run -/
def mm_C (nw : List Cond) (K : mm_K) (R : Room) (cc : ByteArray) (n : Nat) (ret : Option FieldType) (Ts : List Cond) (own : String) (D : va_G) (N : Nat) (a : Nat → Nat) (tys : List (ClassId × FieldType)) : Prop :=
  match K with
  | (p, _, _, R0, s, m, args, _, meth, c, n0, A, _) => (p.tables.exec = Jvm.exec ∧ c.code = cc ∧ c.maxLocals = n0 ∧ (∀ w ∈ Ts, w.before args s = true) ∧ s.vm.findClass own = some m.cls ∧ va_K D vwCl tys s ∧ mm_J N a ∧ (∀ k, k < N → A (a k)) ∧ (∀ q, s.heap.size ≤ q → A q) ∧ mm_N nw s ∧ meth.sig.returnType = ret ∧ meth.locks = false) ∧ R0 = R ∧ n0 = n
/-- what is to come: the method's end -/
def mm_H (K : mm_K) (N : Nat) (a : Nat → Nat) (Qc : Nat → Array Value → State → Outcome → State → Prop) : Prop :=
  match K with
  | (_, _, _, _, s, _, args, below, _, _, _, A, Q) => A = mm_A N a s.heap.size ∧ Q = MQ below (Qc s.heap.size) args s 0 0 (mm_A N a s.heap.size)
/-- the machine, at a place of a method, over a world -/
def mm_G (K : mm_K) (D : va_G) (cf : mm_F) (N : Nat) (a : Nat → Nat) (σ : mm_M) (pc : Nat) (lv : List (Nat × Value)) (st : List Value) : Prop :=
  match K with
  | (p, l, e, R, s, m, args, below, meth, c, n, A, Q) => ∀ (H : Heap) (locs : List Loc) (ls : Array Slot), va_P D vwCl (mm_W cf N a σ) H → va_S A s.heap H locs → lv_has ls n lv → W p l e R s m args below meth c H locs 0 0 Q (F0 m pc ls st)
def mm_L (K : mm_K) (l : Launch) : Prop := K.2.1 = l
/-- a method's contract over a world, out of its run -/
theorem mm_met {nw : List Cond} {l : Launch} {y : MethodName} {ws ws' : List Cond} {rm : Room} {cc : ByteArray} {maxL : Nat} {ret : Option FieldType} {own : String} {D : va_G} {cf : mm_F} {N : Nat} {a : Nat → Nat} {tys : List (ClassId × FieldType)} {σ : mm_M} {av : List Value} {lv : List (Nat × Value)} (Qc : Nat → Array Value → State → Outcome → State → Prop)
    (hJ : mm_J N a) (hy : plainName y.cls = true) (hw : ws = Cond.code y cc maxL ret :: ws') (hown : own = y.cls) (hlen : (lg_sl av).length ≤ maxL) (hlv : lv_args 0 av = lv)
    (body : ∀ K : mm_K, mm_L K l → mm_C nw K rm cc maxL ret ws own D N a tys → mm_H K N a Qc → mm_G K D cf N a σ 0 lv []) (sz : Nat) :
    Met l y ws rm (mm_P nw D cf N a tys σ av sz) (Qc sz) 0 0 (mm_A N a sz) := by
  refine Met.ofW (cc := cc) (maxL := maxL) (ret := ret) hy hw ?_
  intro p e s m args below meth c s₁ B hml hv
  obtain ⟨rfl, hsz, hP, hK, hN⟩ := hv
  have hts := atoms_spec (ws := ws) B.pre
  have ho : s.vm.findClass y.cls = some m.cls := findClass_of_methodNamed B.named
  subst hsz
  subst hown
  have hl := lv_entry av (n := maxL) hlen
  rw [lg_entry_eq]
  rw [hlv] at hl
  exact body (p, l, e, rm, s, m, av.toArray, below, meth, c, maxL, mm_A N a s.heap.size, MQ below (Qc s.heap.size) av.toArray s 0 0 (mm_A N a s.heap.size)) rfl ⟨⟨B.exec, B.bytes, hml, hts, ho, hK, hJ, fun k hk => Or.inl ⟨k, hk, rfl⟩, fun q hq => Or.inr hq, hN, B.returns, B.notSynchronized⟩, rfl, rfl⟩ ⟨rfl, rfl⟩ s.heap [] _ hP va_S.rf hl
section MMR
variable {nw : List Cond} {K : mm_K} {l : Launch} {R : Room} {n : Nat} {D : va_G} {cf : mm_F} {N : Nat} {a : Nat → Nat} {σ : mm_M} {pc : Nat} {lv : List (Nat × Value)} {rest : List Value} {cc : ByteArray} {ret : Option FieldType} {Ts : List Cond} {own : String} {tys : List (ClassId × FieldType)}
theorem mm_iconst (X : mm_C nw K R cc n ret Ts own D N a tys) {z : Int} {v : Int32} (hd : decode cc pc = .ok (.iconst z, 1)) (hv : Int32.ofInt z = v) (k : mm_G K D cf N a σ (pc + 1) lv (.int v :: rest)) : mm_G K D cf N a σ pc lv rest := by
  obtain ⟨p, l, e, R0, s, m, args, below, meth, c, n0, A, Q⟩ := K
  obtain ⟨⟨hx, hb, hml, hts, hown, hK, hJ, hA1, hA2, hN, hrt, hlk⟩, rfl, rfl⟩ := X
  intro H locs ls hP hS hl
  exact lv_iconst hx hb hd hv (k H locs ls hP hS hl)
theorem mm_iload_n (X : mm_C nw K R cc n ret Ts own D N a tys) {i : Fin 4} {x : Int32} (hd : decode cc pc = .ok (.iload_n i, 1)) (j : Nat) (hj : lv[j]? = some ((i : Nat), .int x)) (k : mm_G K D cf N a σ (pc + 1) lv (.int x :: rest)) : mm_G K D cf N a σ pc lv rest := by
  obtain ⟨p, l, e, R0, s, m, args, below, meth, c, n0, A, Q⟩ := K
  obtain ⟨⟨hx, hb, hml, hts, hown, hK, hJ, hA1, hA2, hN, hrt, hlk⟩, rfl, rfl⟩ := X
  intro H locs ls hP hS hl
  exact lv_iload_n hx hb hd rfl (lv_at hl j hj) (k H locs ls hP hS hl)
theorem mm_aload_n (X : mm_C nw K R cc n ret Ts own D N a tys) {i : Fin 4} {x : Nat} (hd : decode cc pc = .ok (.aload_n i, 1)) (j : Nat) (hj : lv[j]? = some ((i : Nat), .ref x)) (k : mm_G K D cf N a σ (pc + 1) lv (.ref x :: rest)) : mm_G K D cf N a σ pc lv rest := by
  obtain ⟨p, l, e, R0, s, m, args, below, meth, c, n0, A, Q⟩ := K
  obtain ⟨⟨hx, hb, hml, hts, hown, hK, hJ, hA1, hA2, hN, hrt, hlk⟩, rfl, rfl⟩ := X
  intro H locs ls hP hS hl
  exact lv_aload_n hx hb hd rfl (lv_at hl j hj) (k H locs ls hP hS hl)
theorem mm_istore_n (X : mm_C nw K R cc n ret Ts own D N a tys) {i : Fin 4} {x : Int32} {lv2 : List (Nat × Value)} (hd : decode cc pc = .ok (.istore_n i, 1)) (hn : (i : Nat) < n) (hv : ((i : Nat), Value.int x) :: lv.filter (fun q => !(q.1 == (i : Nat)) && !(q.1 + 1 == (i : Nat) && q.2.category == 2)) = lv2) (k : mm_G K D cf N a σ (pc + 1) lv2 rest) : mm_G K D cf N a σ pc lv (.int x :: rest) := by
  obtain ⟨p, l, e, R0, s, m, args, below, meth, c, n0, A, Q⟩ := K
  obtain ⟨⟨hx, hb, hml, hts, hown, hK, hJ, hA1, hA2, hN, hrt, hlk⟩, rfl, rfl⟩ := X
  intro H locs ls hP hS hl
  exact lv_istore_n hx hb hd rfl hl hn hv (fun ls2 h2 => k H locs ls2 hP hS h2)
theorem mm_iinc (X : mm_C nw K R cc n ret Ts own D N a tys) {i : Nat} {z : Int} {x v : Int32} {lv2 : List (Nat × Value)} (hd : decode cc pc = .ok (.iinc i z, 3)) (j : Nat) (hj : lv[j]? = some (i, .int x)) (hz : x + Int32.ofInt z = v) (hn : i < n) (hv : (i, Value.int v) :: lv.filter (fun q => !(q.1 == i) && !(q.1 + 1 == i && q.2.category == 2)) = lv2) (k : mm_G K D cf N a σ (pc + 3) lv2 rest) : mm_G K D cf N a σ pc lv rest := by
  obtain ⟨p, l, e, R0, s, m, args, below, meth, c, n0, A, Q⟩ := K
  obtain ⟨⟨hx, hb, hml, hts, hown, hK, hJ, hA1, hA2, hN, hrt, hlk⟩, rfl, rfl⟩ := X
  intro H locs ls hP hS hl
  exact lv_iinc hx hb hd hl hj hz hn hv (fun ls2 h2 => k H locs ls2 hP hS h2)
theorem mm_icmp_ge (X : mm_C nw K R cc n ret Ts own D N a tys) {x y : Int32} {off : Int} {tgt : Nat} (hd : decode cc pc = .ok (.if_icmp .ge off, 3)) (ht : (pc : Int) + off = (tgt : Int)) (kt : ¬ x < y → mm_G K D cf N a σ tgt lv rest) (kf : x < y → mm_G K D cf N a σ (pc + 3) lv rest) : mm_G K D cf N a σ pc lv (.int y :: .int x :: rest) := by
  obtain ⟨p, l, e, R0, s, m, args, below, meth, c, n0, A, Q⟩ := K
  obtain ⟨⟨hx, hb, hml, hts, hown, hK, hJ, hA1, hA2, hN, hrt, hlk⟩, rfl, rfl⟩ := X
  intro H locs ls hP hS hl
  exact lv_icmp_ge hx hb hd ht (fun h => kt (Int32.not_lt.mpr h) H locs ls hP hS hl) (fun h => kf (Int32.not_le.mp h) H locs ls hP hS hl)
theorem mm_goto (X : mm_C nw K R cc n ret Ts own D N a tys) {off : Int} {tgt : Nat} (hd : decode cc pc = .ok (.goto off, 3)) (ht : (pc : Int) + off = (tgt : Int)) (k : mm_G K D cf N a σ tgt lv rest) : mm_G K D cf N a σ pc lv rest := by
  obtain ⟨p, l, e, R0, s, m, args, below, meth, c, n0, A, Q⟩ := K
  obtain ⟨⟨hx, hb, hml, hts, hown, hK, hJ, hA1, hA2, hN, hrt, hlk⟩, rfl, rfl⟩ := X
  intro H locs ls hP hS hl
  exact lv_goto hx hb hd ht (k H locs ls hP hS hl)
theorem mm_get (X : mm_C nw K R cc n ret Ts own D N a tys) {ref C : String} {T : u_T} {M ci index : Nat} (hd : decode cc pc = .ok (.getfield index, 3)) (o j : Nat) (ho : o < N) {fs : List Value} (he : cf a o (σ o) = .inr (ci, fs)) (hc : vwCl[ci]? = some (C, T, M)) (hj : j < M) (hin : ∀ w ∈ u_ws C T M, w ∈ Ts) (hlink : (Cond.fieldLink own index ref (T j).2.1 (T j).2.2.1) ∈ Ts) (hsame : (T j).1 = ref) {v : Value} (hv : fs[j]? = some v) (k : mm_G K D cf N a σ (pc + 3) lv (v :: rest)) : mm_G K D cf N a σ pc lv (.ref (a o) :: rest) := by
  obtain ⟨p, l, e, R0, s, m, args, below, meth, c, n0, A, Q⟩ := K
  obtain ⟨⟨hx, hb, hml, hts, hown, hK, hJ, hA1, hA2, hN, hrt, hlk⟩, rfl, rfl⟩ := X
  intro H locs ls hP hS hl
  exact va_get hx hb hts hin hown hK hP o ((mm_W_at ho).trans (by rw [he])) hc j hj (hts _ hlink) (fun x h => by rw [← hsame]; exact h) hv hd (k H locs ls hP hS hl)
theorem mm_iast (X : mm_C nw K R cc n ret Ts own D N a tys) {cA : ClassId} {M : Nat} {i x : Int32} (hd : decode cc pc = .ok (.iastore, 1)) (o t : Nat) (ho : o < N) (he : ∀ f : Nat → Int32, cf a o f = .inl (cA, M, .inl f)) (ht : tys[t]? = some (cA, .int)) (hi : ¬ (i < 0 ∨ M ≤ i.toNatClampNeg)) (k : mm_G K D cf N a (mm_up σ o i.toNatClampNeg x) (pc + 1) lv rest) : mm_G K D cf N a σ pc lv (.int x :: .int i :: .ref (a o) :: rest) := by
  obtain ⟨p, l, e, R0, s, m, args, below, meth, c, n0, A, Q⟩ := K
  obtain ⟨⟨hx, hb, hml, hts, hown, hK, hJ, hA1, hA2, hN, hrt, hlk⟩, rfl, rfl⟩ := X
  intro H locs ls hP hS hl
  refine va_iast hx hb hK hP (mm_D hJ hA1) hS o t ((mm_W_at ho).trans (by rw [he])) ht hi hd (fun H1 locs1 hP1 hD1 hS1 => ?_)
  rw [mm_W_set (he _)] at hP1
  exact k H1 locs1 ls hP1 hS1 hl
theorem mm_alen (X : mm_C nw K R cc n ret Ts own D N a tys) {cA : ClassId} {M : Nat} {v : Int32} {f : Nat → Int32} {ty : FieldType} (hd : decode cc pc = .ok (.arraylength, 1)) (o t : Nat) (ho : o < N) (he : cf a o (σ o) = .inl (cA, M, .inl f)) (ht : tys[t]? = some (cA, ty)) (hv : Int32.ofNat M = v) (k : mm_G K D cf N a σ (pc + 1) lv (.int v :: rest)) : mm_G K D cf N a σ pc lv (.ref (a o) :: rest) := by
  obtain ⟨p, l, e, R0, s, m, args, below, meth, c, n0, A, Q⟩ := K
  obtain ⟨⟨hx, hb, hml, hts, hown, hK, hJ, hA1, hA2, hN, hrt, hlk⟩, rfl, rfl⟩ := X
  intro H locs ls hP hS hl
  exact va_alen hx hb hK hP o t ((mm_W_at ho).trans (by rw [he])) ht hv hd (k H locs ls hP hS hl)
end MMR
section MMK
variable {nw : List Cond} {K : mm_K} {l : Launch} {R : Room} {n : Nat} {D : va_G} {cf : mm_F} {N : Nat} {a : Nat → Nat} {σ σ2 : mm_M} {pc : Nat} {lv : List (Nat × Value)} {rest : List Value} {cc : ByteArray} {ret : Option FieldType} {Ts : List Cond} {own : String} {tys : List (ClassId × FieldType)}
variable {y : MethodName} {ws ws' : List Cond} {bytes : ByteArray} {maxL index : Nat} {rety : Option FieldType} {rm : Room} {C : String}
theorem mm_vret (X : mm_C nw K R cc n ret Ts own D N a tys) (hd : decode cc pc = .ok (.return_, 1)) (hr : ret = none) (hQ : mm_H K N a (fun sz => mm_Qv D cf N a σ sz)) : mm_G K D cf N a σ pc lv [] := by
  obtain ⟨p, l, e, R0, s, m, args, below, meth, c, n0, A, Q⟩ := K
  obtain ⟨⟨hx, hb, hml, hts, hown, hK, hJ, hA1, hA2, hN, hrt, hlk⟩, rfl, rfl⟩ := X
  intro H locs ls hP hS hl
  obtain ⟨rfl, rfl⟩ := hQ
  exact W.vret hx hb (hrt.trans hr) (fun t ht hW => ⟨⟨(), rfl, trivial, by show va_P _ _ _ t.heap; rw [ht]; exact hP⟩, hS.F ht⟩) hS.2.2 hd hlk
end MMK
/-! ===== the class: cells 0 to 6 its objects, 7 to 32 the arrays of its rows, 33 to 58 the rows (a row is its array + 26) ===== -/
def dv_len (k : Nat) : Nat := [8, 8, 8, 8, 8, 100, 100, 100, 100, 100, 100, 12, 12, 12, 64, 2048, 67, 10, 4, 3, 12, 84, 7, 4, 4, 240].getD (k - 7) 0
def dv_cf (cI : ClassId) : mm_F := fun a k f => if 33 ≤ k then .inr (4, [.ref (a (k - 26))]) else if 7 ≤ k then .inl (cI, dv_len k, .inl f) else match k with
  | 0 => .inr (7, [.ref (a 1), .ref (a 2), .ref (a 3), .ref (a 4), .ref (a 5), .ref (a 6), .int (f 6)])
  | 1 => .inr (1, [.int (f 0), .ref (a 33), .ref (a 34), .ref (a 35), .ref (a 36), .ref (a 37)])
  | 2 => .inr (2, [.int (f 0), .ref (a 38), .ref (a 39), .ref (a 40), .ref (a 41), .ref (a 42), .ref (a 43)])
  | 3 => .inr (6, [.ref (a 1), .int (f 1), .ref (a 44), .ref (a 45), .ref (a 46)])
  | 4 => .inr (3, [.ref (a 3), .ref (a 47), .ref (a 48)])
  | 5 => .inr (0, [.ref (a 1), .ref (a 3), .int (f 2), .int (f 3), .int (f 4), .int (f 5), .int (f 6), .int (f 7), .int (f 8), .ref (a 49), .ref (a 50), .ref (a 51), .ref (a 52), .ref (a 53), .ref (a 54), .ref (a 55)])
  | _ => .inr (5, [.ref (a 56), .ref (a 57), .ref (a 58)])
def mm_nw : List Cond := [.fieldLinkNest "LinenTunnel" 65 "LinenTunnel$Kinds" "number" "I" "LinenTunnel", .fieldLinkNest "LinenTunnel$House" 147 "LinenTunnel$Kinds" "colour" "LLinenTunnel$Row;" "LinenTunnel", .fieldLinkNest "LinenTunnel$House" 117 "LinenTunnel$Kinds" "dry" "LLinenTunnel$Row;" "LinenTunnel", .fieldLinkNest "LinenTunnel$House" 161 "LinenTunnel$Kinds" "iron" "LLinenTunnel$Row;" "LinenTunnel", .fieldLinkNest "LinenTunnel" 79 "LinenTunnel$Linen" "number" "I" "LinenTunnel", .fieldLinkNest "LinenTunnel" 86 "LinenTunnel$Linen" "kind" "LLinenTunnel$Row;" "LinenTunnel", .fieldLinkNest "LinenTunnel" 96 "LinenTunnel$Linen" "owner" "LLinenTunnel$Row;" "LinenTunnel", .fieldLinkNest "LinenTunnel" 99 "LinenTunnel$Linen" "chip" "LLinenTunnel$Row;" "LinenTunnel", .fieldLinkNest "LinenTunnel" 102 "LinenTunnel$Linen" "place" "LLinenTunnel$Row;" "LinenTunnel", .fieldLinkNest "LinenTunnel" 105 "LinenTunnel$Linen" "washes" "LLinenTunnel$Row;" "LinenTunnel", .fieldLinkNest "LinenTunnel" 108 "LinenTunnel$Linen" "batch" "LLinenTunnel$Row;" "LinenTunnel", .fieldLinkNest "LinenTunnel$Planner" 33 "LinenTunnel$Waiting" "number" "I" "LinenTunnel", .fieldLinkNest "LinenTunnel$House" 79 "LinenTunnel$Waiting" "number" "I" "LinenTunnel", .fieldLinkNest "LinenTunnel" 147 "LinenTunnel$Waiting" "number" "I" "LinenTunnel", .fieldLinkNest "LinenTunnel$House" 107 "LinenTunnel$Waiting" "kind" "LLinenTunnel$Row;" "LinenTunnel", .fieldLinkNest "LinenTunnel" 166 "LinenTunnel$Waiting" "kind" "LLinenTunnel$Row;" "LinenTunnel", .fieldLinkNest "LinenTunnel$House" 100 "LinenTunnel$Waiting" "size" "LLinenTunnel$Row;" "LinenTunnel", .fieldLinkNest "LinenTunnel" 160 "LinenTunnel$Waiting" "size" "LLinenTunnel$Row;" "LinenTunnel", .fieldLinkNest "LinenTunnel$Planner" 43 "LinenTunnel$Waiting" "order" "LLinenTunnel$Row;" "LinenTunnel", .fieldLinkNest "LinenTunnel$House" 97 "LinenTunnel$Waiting" "order" "LLinenTunnel$Row;" "LinenTunnel", .fieldLinkNest "LinenTunnel" 157 "LinenTunnel$Waiting" "order" "LLinenTunnel$Row;" "LinenTunnel", .fieldLinkNest "LinenTunnel" 190 "LinenTunnel$House" "compartments" "I" "LinenTunnel", .fieldLinkNest "LinenTunnel" 193 "LinenTunnel$House" "dryers" "I" "LinenTunnel", .fieldLinkNest "LinenTunnel" 196 "LinenTunnel$House" "irons" "I" "LinenTunnel", .fieldLinkNest "LinenTunnel" 240 "LinenTunnel$House" "washes" "I" "LinenTunnel", .fieldLinkNest "LinenTunnel" 205 "LinenTunnel$House" "totals" "LLinenTunnel$Row;" "LinenTunnel", .fieldLinkNest "LinenTunnel" 229 "LinenTunnel$Sheets" "form" "LLinenTunnel$Row;" "LinenTunnel", .fieldLinkNest "LinenTunnel" 221 "LinenTunnel$Sheets" "size" "LLinenTunnel$Row;" "LinenTunnel", .methodLinkNest "LinenTunnel" 11 ⟨"LinenTunnel$Kinds", "<init>", "()V"⟩ "LinenTunnel", .methodLinkNest "LinenTunnel" 18 ⟨"LinenTunnel$Linen", "<init>", "()V"⟩ "LinenTunnel"]
/-! ===== the reference: cell 0 its object, 1 to 28 its arrays ===== -/
def md_len (k : Nat) : Nat := [0, 8, 8, 8, 8, 8, 100, 100, 100, 100, 100, 100, 12, 12, 240, 12, 3072, 100, 10, 4, 3, 7, 84, 12, 4, 4, 4, 240, 60].getD k 0
def md_cf (cI cZ : ClassId) : mm_F := fun a k f => if k = 0 then .inr (8, [.int (f 0), .ref (a 1), .ref (a 2), .ref (a 3), .ref (a 4), .ref (a 5), .int (f 6), .ref (a 6), .ref (a 7), .ref (a 8), .ref (a 9), .ref (a 10), .ref (a 11), .int (f 13), .ref (a 12), .ref (a 13), .ref (a 14), .ref (a 15), .int (f 18), .int (f 19), .int (f 20), .int (f 21), .ref (a 16), .ref (a 17), .ref (a 18), .ref (a 19), .ref (a 20), .ref (a 21), .int (f 28), .ref (a 22), .ref (a 23), .ref (a 24), .ref (a 25), .ref (a 26), .ref (a 27), .ref (a 28), .int (f 36)]) else if k = 3 ∨ k = 8 ∨ k = 24 then .inl (cZ, md_len k, .inl f) else .inl (cI, md_len k, .inl f)
/-! ===== the rows ===== -/
theorem mm_in {i : Int32} {n : Nat} (h1 : ¬ i < 0) (h2 : i < nI n) (hn : n < 2 ^ 31) : ¬ (i < 0 ∨ n ≤ i.toNatClampNeg) := by
  rintro (h | h)
  · exact h1 h
  · rw [Int32.lt_iff_toInt_lt, nI_toInt hn] at h2
    rw [Int32.lt_iff_toInt_lt, Int32.toInt_zero] at h1
    rw [← Int32.toNat_toInt] at h
    omega
def dr_fk (σ : mm_M) (j k : Nat) (v : Int32) : mm_M := fun c => if c = j then (fun i => if i < k then v else σ j i) else σ c
theorem dr_fk_0 {σ : mm_M} {j : Nat} {v : Int32} : dr_fk σ j 0 v = σ := by
  funext c
  unfold dr_fk
  split
  · subst_vars
    rfl
  · rfl
theorem dr_fk_s {σ : mm_M} {j k : Nat} {v : Int32} : mm_up (dr_fk σ j k v) j k v = dr_fk σ j (k + 1) v := by
  funext c
  unfold mm_up dr_fk upd
  by_cases hc : c = j
  · subst hc
    simp only [if_true]
    funext i
    by_cases hi : i = k
    · subst hi
      simp
    · by_cases h2 : i < k
      · simp [hi, h2, Nat.lt_succ_of_lt h2]
      · have h3 : ¬ i < k + 1 := by omega
        simp [hi, h2, h3]
  · simp [hc]
abbrev rX4_fill : Room := { frames := 0, cells := 0, slots := 0, locals := 0 }
theorem hyX4_fill : yX4_fill.cls = RX4 ∧ yX4_fill.cls ≠ "java/lang/invoke/MethodHandle" ∧ yX4_fill.cls ≠ "java/lang/invoke/VarHandle" ∧ (parseMethodDescriptor yX4_fill.desc).map (fun d => d.parameters.length) = some 1 := by decide +kernel
theorem kX4_fill : (Cond.fieldLink RX4 7 "LinenTunnel$Row" "items" "[I" : Cond) ∈ wsX4_fill := List.mem_of_getElem? (i := 1) rfl
theorem uX4_fill : ∀ w ∈ u_ws RX4 TX4 1, w ∈ wsX4_fill := fun _ h => (List.mem_cons_of_mem _ (List.mem_append_right _ h))
/-! ===== constructors: a world that grows ===== -/
def gg_D (E : Method → Prop) (nw : List Cond) (K : mm_K) (R : Room) (cc : ByteArray) (n : Nat) (Ts : List Cond) (own : String) (D : va_G) (tys : List (ClassId × FieldType)) : Prop :=
  match K with
  | (p, _, _, R0, s, m, args, _, meth, c, n0, A, _) => (p.tables.exec = Jvm.exec ∧ c.code = cc ∧ c.maxLocals = n0 ∧ (∀ w ∈ Ts, w.before args s = true) ∧ s.vm.findClass own = some m.cls ∧ va_K D vwCl tys s ∧ (∀ q, s.heap.size ≤ q → A q) ∧ mm_N nw s ∧ E meth) ∧ R0 = R ∧ n0 = n
def gg_E (meth : Method) : Prop := meth.sig.returnType = none ∧ meth.locks = false ∧ meth.name = "<init>"
abbrev gg_C (nw : List Cond) (K : mm_K) (R : Room) (cc : ByteArray) (n : Nat) (Ts : List Cond) (own : String) (D : va_G) (tys : List (ClassId × FieldType)) : Prop := gg_D gg_E nw K R cc n Ts own D tys
def gg_G (K : mm_K) (D : va_G) (ws : va_W) (cells slots : Nat) (pc : Nat) (lv : List (Nat × Value)) (st : List Value) : Prop :=
  match K with
  | (p, l, e, R, s, m, args, below, meth, c, n, A, Q) => ∀ (H : Heap) (locs : List Loc) (ls : Array Slot), va_P D vwCl ws H → va_D A ws → va_S A s.heap H locs → lv_has ls n lv → W p l e R s m args below meth c H locs cells slots Q (F0 m pc ls st)
/-- a constructor's start: its object; its end: the cells of a world of its own, at addresses that come with it -/
def gg_P (nw : List Cond) (D : va_G) (tys : List (ClassId × FieldType)) (w0 : va_W) (av : List Value) (sz : Nat) : Array Value → State → Prop := va_Pc av (fun U => U.heap.size = sz ∧ va_P D vwCl w0 U.heap ∧ va_D (fun _ => True) w0 ∧ va_K D vwCl tys U ∧ mm_N nw U)
def gg_Q (D : va_G) (w0 : va_W) (h0 : Nat) (cf : mm_F) (N : Nat) (σ : mm_M) (sz : Nat) : Array Value → State → Outcome → State → Prop := va_Qv (fun a : Nat → Nat => a 0 = h0) (fun a t => va_P D vwCl (mm_W cf N a σ) t.heap ∧ va_D (va_A w0 sz) (mm_W cf N a σ)) (va_A w0 sz)
def gg_H (K : mm_K) (w0 : va_W) (Qc : Nat → Array Value → State → Outcome → State → Prop) (mc ms : Nat) : Prop :=
  match K with
  | (_, _, _, _, s, _, args, below, _, _, _, A, Q) => A = va_A w0 s.heap.size ∧ Q = MQ below (Qc s.heap.size) args s mc ms (va_A w0 s.heap.size)
theorem gg_P.blind {nw : List Cond} {D : va_G} {tys : List (ClassId × FieldType)} {w0 : va_W} {av : List Value} {sz : Nat} : FrameBlind (gg_P nw D tys w0 av sz) := by
  intro ar U g mk h
  obtain ⟨q0, q1, qP, qD, qK, qN⟩ := h
  exact ⟨q0, q1, qP, qD, va_K.moved (u := U) (U := U.calling g mk ar) (Vm.Alike.refl U.vm) qK, mm_N.same (u := U) rfl qN⟩
theorem gg_met {nw : List Cond} {l : Launch} {y : MethodName} {ws ws' : List Cond} {rm : Room} {cc : ByteArray} {maxL : Nat} {own : String} {D : va_G} {tys : List (ClassId × FieldType)} {w0 : va_W} {mc ms : Nat} {av : List Value} {lv : List (Nat × Value)} (Qc : Nat → Array Value → State → Outcome → State → Prop)
    (hy : plainName y.cls = true) (hyn : y.name = "<init>") (hw : ws = Cond.code y cc maxL none :: ws') (hown : own = y.cls) (hlen : (lg_sl av).length ≤ maxL) (hlv : lv_args 0 av = lv)
    (body : ∀ K : mm_K, mm_L K l → gg_C nw K rm cc maxL ws own D tys → gg_H K w0 Qc mc ms → gg_G K D w0 0 0 0 lv []) (sz : Nat) :
    Met l y ws rm (gg_P nw D tys w0 av sz) (Qc sz) mc ms (va_A w0 sz) := by
  refine Met.ofW (cc := cc) (maxL := maxL) (ret := none) hy hw ?_
  intro p e s m args below meth c s₁ B hml hv
  obtain ⟨rfl, hsz, hP, hD, hK, hN⟩ := hv
  have hts := atoms_spec (ws := ws) B.pre
  have ho : s.vm.findClass y.cls = some m.cls := findClass_of_methodNamed B.named
  have hin : meth.name = y.name := (name_of_methodNamed B.named B.method).1
  subst hsz
  subst hown
  have hl := lv_entry av (n := maxL) hlen
  rw [lg_entry_eq]
  rw [hlv] at hl
  exact body (p, l, e, rm, s, m, av.toArray, below, meth, c, maxL, va_A w0 s.heap.size, MQ below (Qc s.heap.size) av.toArray s mc ms (va_A w0 s.heap.size)) rfl ⟨⟨B.exec, B.bytes, hml, hts, ho, hK, fun q hq => Or.inr hq, hN, B.returns, B.notSynchronized, hin.trans hyn⟩, rfl, rfl⟩ ⟨rfl, rfl⟩ s.heap [] _ hP hD.self va_S.rf hl
theorem gg_RA {U : State} {cA : ClassId} {ty : FieldType} (hno : ∀ C, ty ≠ .object C) (h : va_RA U cA ty) : U.vm.findClass ("[" ++ ty.toString) = some cA := by
  cases ty <;> first | exact h | exact absurd rfl (hno _)
section GGR
variable {E : Method → Prop} {nw : List Cond} {K : mm_K} {l : Launch} {R : Room} {n : Nat} {D : va_G} {ws : va_W} {cells slots pc : Nat} {lv : List (Nat × Value)} {rest : List Value} {cc : ByteArray} {Ts : List Cond} {own : String} {tys : List (ClassId × FieldType)}
theorem gg_iconst (X : gg_D E nw K R cc n Ts own D tys) {z : Int} {v : Int32} (hd : decode cc pc = .ok (.iconst z, 1)) (hv : Int32.ofInt z = v) (k : gg_G K D ws cells slots (pc + 1) lv (.int v :: rest)) : gg_G K D ws cells slots pc lv rest := by
  obtain ⟨p, l, e, R0, s, m, args, below, meth, c, n0, A, Q⟩ := K
  obtain ⟨⟨hx, hb, hml, hts, hown, hK, hA2, hN, hE⟩, rfl, rfl⟩ := X
  intro H locs ls hP hD hS hl
  exact lv_iconst hx hb hd hv (k H locs ls hP hD hS hl)
theorem gg_bipush (X : gg_D E nw K R cc n Ts own D tys) {z : Int} {v : Int32} (hd : decode cc pc = .ok (.bipush z, 2)) (hv : (Int8.ofInt z).toInt32 = v) (k : gg_G K D ws cells slots (pc + 2) lv (.int v :: rest)) : gg_G K D ws cells slots pc lv rest := by
  obtain ⟨p, l, e, R0, s, m, args, below, meth, c, n0, A, Q⟩ := K
  obtain ⟨⟨hx, hb, hml, hts, hown, hK, hA2, hN, hE⟩, rfl, rfl⟩ := X
  intro H locs ls hP hD hS hl
  exact lv_bipush hx hb hd hv (k H locs ls hP hD hS hl)
theorem gg_sipush (X : gg_D E nw K R cc n Ts own D tys) {z : Int} {v : Int32} (hd : decode cc pc = .ok (.sipush z, 3)) (hv : (Int16.ofInt z).toInt32 = v) (k : gg_G K D ws cells slots (pc + 3) lv (.int v :: rest)) : gg_G K D ws cells slots pc lv rest := by
  obtain ⟨p, l, e, R0, s, m, args, below, meth, c, n0, A, Q⟩ := K
  obtain ⟨⟨hx, hb, hml, hts, hown, hK, hA2, hN, hE⟩, rfl, rfl⟩ := X
  intro H locs ls hP hD hS hl
  exact lv_sipush hx hb hd hv (k H locs ls hP hD hS hl)
theorem gg_iload_n (X : gg_D E nw K R cc n Ts own D tys) {i : Fin 4} {x : Int32} (hd : decode cc pc = .ok (.iload_n i, 1)) (j : Nat) (hj : lv[j]? = some ((i : Nat), .int x)) (k : gg_G K D ws cells slots (pc + 1) lv (.int x :: rest)) : gg_G K D ws cells slots pc lv rest := by
  obtain ⟨p, l, e, R0, s, m, args, below, meth, c, n0, A, Q⟩ := K
  obtain ⟨⟨hx, hb, hml, hts, hown, hK, hA2, hN, hE⟩, rfl, rfl⟩ := X
  intro H locs ls hP hD hS hl
  exact lv_iload_n hx hb hd rfl (lv_at hl j hj) (k H locs ls hP hD hS hl)
theorem gg_aload_n (X : gg_D E nw K R cc n Ts own D tys) {i : Fin 4} {x : Nat} (hd : decode cc pc = .ok (.aload_n i, 1)) (j : Nat) (hj : lv[j]? = some ((i : Nat), .ref x)) (k : gg_G K D ws cells slots (pc + 1) lv (.ref x :: rest)) : gg_G K D ws cells slots pc lv rest := by
  obtain ⟨p, l, e, R0, s, m, args, below, meth, c, n0, A, Q⟩ := K
  obtain ⟨⟨hx, hb, hml, hts, hown, hK, hA2, hN, hE⟩, rfl, rfl⟩ := X
  intro H locs ls hP hD hS hl
  exact lv_aload_n hx hb hd rfl (lv_at hl j hj) (k H locs ls hP hD hS hl)
theorem gg_astore_n (X : gg_D E nw K R cc n Ts own D tys) {i : Fin 4} {x : Nat} {lv2 : List (Nat × Value)} (hd : decode cc pc = .ok (.astore_n i, 1)) (hn : (i : Nat) < n) (hv : ((i : Nat), Value.ref x) :: lv.filter (fun q => !(q.1 == (i : Nat)) && !(q.1 + 1 == (i : Nat) && q.2.category == 2)) = lv2) (k : gg_G K D ws cells slots (pc + 1) lv2 rest) : gg_G K D ws cells slots pc lv (.ref x :: rest) := by
  obtain ⟨p, l, e, R0, s, m, args, below, meth, c, n0, A, Q⟩ := K
  obtain ⟨⟨hx, hb, hml, hts, hown, hK, hA2, hN, hE⟩, rfl, rfl⟩ := X
  intro H locs ls hP hD hS hl
  exact lv_astore_n hx hb hd rfl hl hn hv (fun ls2 h2 => k H locs ls2 hP hD hS h2)
theorem gg_dup (X : gg_D E nw K R cc n Ts own D tys) {v : Value} (hd : decode cc pc = .ok (.dup, 1)) (hc : v.category = 1) (k : gg_G K D ws cells slots (pc + 1) lv (v :: v :: rest)) : gg_G K D ws cells slots pc lv (v :: rest) := by
  obtain ⟨p, l, e, R0, s, m, args, below, meth, c, n0, A, Q⟩ := K
  obtain ⟨⟨hx, hb, hml, hts, hown, hK, hA2, hN, hE⟩, rfl, rfl⟩ := X
  intro H locs ls hP hD hS hl
  exact lv_dup hx hb hd hc (k H locs ls hP hD hS hl)
theorem gg_goto (X : gg_D E nw K R cc n Ts own D tys) {off : Int} {tgt : Nat} (hd : decode cc pc = .ok (.goto off, 3)) (ht : (pc : Int) + off = (tgt : Int)) (k : gg_G K D ws cells slots tgt lv rest) : gg_G K D ws cells slots pc lv rest := by
  obtain ⟨p, l, e, R0, s, m, args, below, meth, c, n0, A, Q⟩ := K
  obtain ⟨⟨hx, hb, hml, hts, hown, hK, hA2, hN, hE⟩, rfl, rfl⟩ := X
  intro H locs ls hP hD hS hl
  exact lv_goto hx hb hd ht (k H locs ls hP hD hS hl)
theorem gg_if_leF (X : gg_D E nw K R cc n Ts own D tys) {x : Int32} {off : Int} {tgt : Nat} (hd : decode cc pc = .ok (.ifCond .le off, 3)) (ht : (pc : Int) + off = (tgt : Int)) (hf : ¬ x ≤ 0) (k : gg_G K D ws cells slots (pc + 3) lv rest) : gg_G K D ws cells slots pc lv (.int x :: rest) := by
  obtain ⟨p, l, e, R0, s, m, args, below, meth, c, n0, A, Q⟩ := K
  obtain ⟨⟨hx, hb, hml, hts, hown, hK, hA2, hN, hE⟩, rfl, rfl⟩ := X
  intro H locs ls hP hD hS hl
  exact lv_if_le hx hb hd ht (fun h => absurd h hf) (fun _ => k H locs ls hP hD hS hl)
theorem gg_obj (X : gg_D E nw K R cc n Ts own D tys) {b idx : Nat} (hd : decode cc pc = .ok (.invokespecial idx, 3)) (h1 : Cond.methodLink own idx objectInit ∈ Ts) (h2 : Cond.instanceMethod objectInit ∈ Ts) (h3 : Cond.code objectInit ⟨#[0xb1]⟩ 1 none ∈ Ts) (hf : 1 ≤ R.frames) (hlo : 12 ≤ R.locals) (k : gg_G K D ws cells slots (pc + 3) lv []) : gg_G K D ws cells slots pc lv [.ref b] := by
  obtain ⟨p, l, e, R0, s, m, args, below, meth, c, n0, A, Q⟩ := K
  obtain ⟨⟨hx, hb, hml, hts, hown, hK, hA2, hN, hE⟩, rfl, rfl⟩ := X
  intro H locs ls hP hD hS hl
  refine W.objInit hx hb hown (hts _ h1) (hts _ h2) (hts _ h3) rfl (by rw [hml]; exact hl.1) rfl hd hf hlo ?_
  exact W.eq (g2 := F0 m (pc + 3) ls []) rfl (k H locs ls hP hD hS hl)
theorem gg_get (X : gg_D E nw K R cc n Ts own D tys) {ref C : String} {T : u_T} {M ci index : Nat} {b : Nat} (hd : decode cc pc = .ok (.getfield index, 3)) (q0 j : Nat) {fs : List Value} (he : ws[q0]? = some (b, .inr (ci, fs))) (hc : vwCl[ci]? = some (C, T, M)) (hj : j < M) (hin0 : ∀ w ∈ u_ws C T M, w ∈ Ts) (hlink : (Cond.fieldLink own index ref (T j).2.1 (T j).2.2.1) ∈ Ts) (hsame : (T j).1 = ref) {v : Value} (hv : fs[j]? = some v) (k : gg_G K D ws cells slots (pc + 3) lv (v :: rest)) : gg_G K D ws cells slots pc lv (.ref b :: rest) := by
  obtain ⟨p, l, e, R0, s, m, args, below, meth, c, n0, A, Q⟩ := K
  obtain ⟨⟨hx, hb, hml, hts, hown, hK, hA2, hN, hE⟩, rfl, rfl⟩ := X
  intro H locs ls hP hD hS hl
  exact va_get hx hb hts hin0 hown hK hP q0 he hc j hj (hts _ hlink) (fun x h => by rw [← hsame]; exact h) hv hd (k H locs ls hP hD hS hl)
theorem gg_put (X : gg_D E nw K R cc n Ts own D tys) {ref C : String} {T : u_T} {M ci index : Nat} {b : Nat} {v : Value} {ty : FieldType} {ws2 : va_W} (hd : decode cc pc = .ok (.putfield index, 3)) (q0 j : Nat) {fs : List Value} (ty0 : Nat → FieldType) (hty : ∀ k, k < M → parseFieldDescriptor (T k).2.2.1 = some (ty0 k)) (hnm : ∀ a, a < M → ∀ b, b < M → a ≠ b → (T a).2.1 ≠ (T b).2.1) (he : ws[q0]? = some (b, .inr (ci, fs))) (hc : vwCl[ci]? = some (C, T, M)) (hj : j < M) (hin0 : ∀ w ∈ u_ws C T M, w ∈ Ts) (hlink : (Cond.fieldLink own index ref (T j).2.1 (T j).2.2.1) ∈ Ts) (hsame : (T j).1 = ref) (hfin : (T j).2.2.2 = false) (hdt : parseFieldDescriptor (T j).2.2.1 = some ty) (hn : narrow ty v = v) (hfit : fits ty v = true) (hlen : j < fs.length) (hw2 : ws.set q0 (b, .inr (ci, fs.set j v)) = ws2) (k : gg_G K D ws2 cells slots (pc + 3) lv rest) : gg_G K D ws cells slots pc lv (v :: .ref b :: rest) := by
  obtain ⟨p, l, e, R0, s, m, args, below, meth, c, n0, A, Q⟩ := K
  obtain ⟨⟨hx, hb, hml, hts, hown, hK, hA2, hN, hE⟩, rfl, rfl⟩ := X
  intro H locs ls hP hD hS hl
  subst hw2
  exact va_put hx hb hts hin0 ty0 hty hnm hown hK hP hD hS q0 he hc j hj (hts _ hlink) (fun x h => by rw [← hsame]; exact h) hfin hdt hn hfit hlen hd (fun H1 locs1 hP1 hD1 hS1 => k H1 locs1 ls hP1 hD1 hS1 hl)
theorem gg_putF (X : gg_C nw K R cc n Ts own D tys) {ref C : String} {T : u_T} {M ci index : Nat} {b : Nat} {v : Value} {ty : FieldType} {ws2 : va_W} (hd : decode cc pc = .ok (.putfield index, 3)) (q0 j : Nat) {fs : List Value} (ty0 : Nat → FieldType) (hty : ∀ k, k < M → parseFieldDescriptor (T k).2.2.1 = some (ty0 k)) (hnm : ∀ a, a < M → ∀ b, b < M → a ≠ b → (T a).2.1 ≠ (T b).2.1) (he : ws[q0]? = some (b, .inr (ci, fs))) (hc : vwCl[ci]? = some (C, T, M)) (hj : j < M) (hin0 : ∀ w ∈ u_ws C T M, w ∈ Ts) (hlink : (Cond.fieldLink own index ref (T j).2.1 (T j).2.2.1) ∈ Ts) (hsame : (T j).1 = ref) (hfin : (T j).2.2.2 = true) (hdecl : (T j).1 = own) (hdt : parseFieldDescriptor (T j).2.2.1 = some ty) (hn : narrow ty v = v) (hfit : fits ty v = true) (hlen : j < fs.length) (hw2 : ws.set q0 (b, .inr (ci, fs.set j v)) = ws2) (k : gg_G K D ws2 cells slots (pc + 3) lv rest) : gg_G K D ws cells slots pc lv (v :: .ref b :: rest) := by
  obtain ⟨p, l, e, R0, s, m, args, below, meth, c, n0, A, Q⟩ := K
  obtain ⟨⟨hx, hb, hml, hts, hown, hK, hA2, hN, hrt, hlk, hin⟩, rfl, rfl⟩ := X
  intro H locs ls hP hD hS hl
  subst hw2
  exact va_putF hx hb hts hin0 ty0 hty hnm hown hK hP hD hS q0 he hc j hj (hts _ hlink) (fun x h => by rw [← hsame]; exact h) hfin hin hdecl hdt hn hfit hlen hd (fun H1 locs1 hP1 hD1 hS1 => k H1 locs1 ls hP1 hD1 hS1 hl)
theorem gg_new (X : gg_D E nw K R cc n Ts own D tys) {C : String} {T : u_T} {M ci index c2 s2 : Nat} {fs : List Value} (hd : decode cc pc = .ok (.new index, 3)) (ty0 : Nat → FieldType) (hty : ∀ k, k < M → parseFieldDescriptor (T k).2.2.1 = some (ty0 k)) (hc : vwCl[ci]? = some (C, T, M)) (hin0 : ∀ w ∈ u_ws C T M, w ∈ Ts) (h1 : Cond.classLink own index C ∈ Ts) (h2 : Cond.instantiable C M ∈ Ts) (h3 : Cond.initialized C ∈ Ts) (hfs : ∀ j, j < M → defaultValue (ty0 j) = vp_V fs j) (hc2 : cells + 1 = c2) (hs2 : slots + M = s2) (hcR : c2 ≤ R.cells) (hsR : s2 ≤ R.slots) (k : ∀ q : Nat, gg_G K D (ws ++ [(q, .inr (ci, fs))]) c2 s2 (pc + 3) lv (.ref q :: rest)) : gg_G K D ws cells slots pc lv rest := by
  obtain ⟨p, l, e, R0, s, m, args, below, meth, c, n0, A, Q⟩ := K
  obtain ⟨⟨hx, hb, hml, hts, hown, hK, hA2, hN, hE⟩, rfl, rfl⟩ := X
  intro H locs ls hP hD hS hl
  subst hc2
  subst hs2
  exact va_new hx hb hts hin0 ty0 hty hown (hts _ h1) (hts _ h2) (hts _ h3) hK hP hD hS hA2 hc hfs hcR hsR hd (fun q H1 hP1 hD1 hS1 => k q H1 locs ls hP1 hD1 hS1 hl)
theorem gg_newa (X : gg_D E nw K R cc n Ts own D tys) {atype : ArrayType} {ty : FieldType} {cA : ClassId} {x : Int32} {M c2 s2 : Nat} (hd : decode cc pc = .ok (.newarray atype, 2)) (hty : newarray.typeOf atype = ty) (hno : ∀ C, ty ≠ .object C) (t : Nat) (ht : tys[t]? = some (cA, ty)) (h1 : Cond.arrayClass ty ∈ Ts) (hd0 : defaultValue ty = .int 0) (hn : ¬ x < 0) (hM : x.toNatClampNeg = M) (hby : M * componentBytes ty ≤ 536870912) (hc2 : cells + 1 = c2) (hs2 : slots + M = s2) (hcR : c2 ≤ R.cells) (hsR : s2 ≤ R.slots) (k : ∀ q : Nat, gg_G K D (ws ++ [(q, .inl (cA, M, .inl (fun _ => 0)))]) c2 s2 (pc + 2) lv (.ref q :: rest)) : gg_G K D ws cells slots pc lv (.int x :: rest) := by
  obtain ⟨p, l, e, R0, s, m, args, below, meth, c, n0, A, Q⟩ := K
  obtain ⟨⟨hx, hb, hml, hts, hown, hK, hA2, hN, hE⟩, rfl, rfl⟩ := X
  intro H locs ls hP hD hS hl
  subst hc2
  subst hs2
  subst hty
  refine va_newa (a0 := (M, .inl (fun _ => 0))) hx hb (hts _ h1) rfl hK hP hD hS hA2 (fun cB => ?_) hn hM hby hcR hsR hd (fun q cB H1 hK1 hP1 hD1 hS1 => ?_)
  · rw [vp_cell_i, hd0]
  · have ht1 : (tys ++ [(cB, newarray.typeOf atype)])[t]? = some (cA, newarray.typeOf atype) := by
      rw [List.getElem?_append_left (List.getElem?_eq_some_iff.mp ht).1]; exact ht
    have ht2 : (tys ++ [(cB, newarray.typeOf atype)])[tys.length]? = some (cB, newarray.typeOf atype) := by simp
    have e1 := (hK1.2 _ _ ht1).2
    have e2 := (hK1.2 _ _ ht2).2
    have e : cB = cA := by
      exact Option.some.inj ((gg_RA hno e2).symm.trans (gg_RA hno e1))
    subst e
    exact k q H1 locs ls hP1 hD1 hS1 hl
/-- a constructor's call -/
theorem gg_call (X : gg_D E nw K R cc n Ts own D tys) {y : MethodName} {wy wy' : List Cond} {bytes : ByteArray} {maxL index b : Nat} {rm : Room} {As : List Value} {e0 : va_E} {cf : mm_F} {N mc ms c2 s2 : Nat} {σ : mm_M} {wr : va_W} {nw2 : List Cond} {tys2 : List (ClassId × FieldType)} (hd : decode cc pc = .ok (.invokespecial index, 3)) (hL : mm_L K l)
    (hM : ∀ sz, Met l y wy rm (gg_P nw2 D tys2 [(b, e0)] (.ref b :: As) sz) (gg_Q D [(b, e0)] b cf N σ sz) mc ms (va_A [(b, e0)] sz)) (g : GoodIn Ts wy) (hw : wy = Cond.code y bytes maxL none :: wy') (hr0 : rm.cells = mc ∧ rm.slots = ms) (h1 : Cond.methodLink own index y ∈ Ts) (h2 : Cond.instanceMethod y ∈ Ts) (h3 : Cond.initialized y.cls ∈ Ts) (hy1 : y.name = "<init>")
    (hy : y.cls ≠ "java/lang/invoke/MethodHandle" ∧ y.cls ≠ "java/lang/invoke/VarHandle" ∧ (parseMethodDescriptor y.desc).map (fun d => d.parameters.length) = some As.length) (hR : rm.frames + 1 ≤ R.frames ∧ 8 + (maxL + 11) + rm.locals ≤ R.locals) {st : List Value} (hst : st = As.reverse ++ .ref b :: rest) (hroom : (rest.map fun v => v.category).sum ≤ 8) (hnw : ∀ w ∈ nw2, w ∈ nw) (isT : List Nat) (hT : isT.filterMap (fun i => tys[i]?) = tys2)
    (q0 : Nat) (isR : List Nat) (hC : ws[q0]? = some (b, e0)) (hRr : isR.map (fun i => ws[i]?) = wr.map some) (hnd : va_nd isR = true) (hdis : ∀ i ∈ isR, i ∉ [q0]) (hc2 : cells + mc = c2) (hs2 : slots + ms = s2) (hcR : c2 ≤ R.cells) (hsR : s2 ≤ R.slots)
    (k : ∀ a : Nat → Nat, a 0 = b → gg_G K D (wr ++ mm_W cf N a σ) c2 s2 (pc + 3) lv rest) : gg_G K D ws cells slots pc lv st := by
  obtain ⟨p, l1, e, R0, s, m, args, below, meth, c, n0, A, Q⟩ := K
  obtain ⟨⟨hx, hb, hml, hts, hown, hK, hA2, hN, hE⟩, rfl, rfl⟩ := X
  intro H locs ls hP hD hS hl
  have hL : l1 = l := hL
  subst hL
  subst hc2
  subst hs2
  have hC1 : [q0].map (fun i => ws[i]?) = [(b, e0)].map some := by simp [hC]
  have hPc : va_P D vwCl [(b, e0)] H := hP.sub [q0] (by simp [hC])
  have hDc : va_D A [(b, e0)] := hD.sub [q0] rfl hC1
  have hFc := va_free (wc := [(b, e0)]) hD hS hA2 [q0] hC1
  refine va_callv (va_runI (As := As) (rest := rest) ⟨hx, hb, hml, hown, hts⟩ (hM H.size) (cwI As.length hts g hw hr0.1 hr0.2 (hts _ h3) (hts _ h1) (hts _ h2) hy1 hy hR) ⟨gg_P.blind, fun U hU hW => ⟨rfl, by rw [hU], by rw [hU]; exact hPc, hDc.weaken (fun _ _ _ _ => trivial), va_K.moved hW.alike (hK.sub isT hT), fun w hw2 => (hN.warm hW) w (hnw w hw2)⟩⟩ rfl rfl hl.1 hst (lv_room hroom) hd ⟨hcR, hsR⟩) hS (fun q _ h => hFc q h) hFc (fun u t H1 locs1 ht hvm hw1 hB hz hk hS1 => ?_)
  obtain ⟨hP1, hD1⟩ := hB
  rw [ht] at hP1
  obtain ⟨hP2, hD2⟩ := va_join (wr := wr) hP hD [q0] isR hC1 hRr hnd hdis hk hFc hP1 hD1
  exact k u hw1 H1 locs1 ls hP2 hD2 hS1 hl
/-- a call of a nest mate's constructor -/
theorem gg_callN (X : gg_D E nw K R cc n Ts own D tys) {y : MethodName} {wy wy' : List Cond} {bytes : ByteArray} {maxL index b : Nat} {rm : Room} {As : List Value} {e0 : va_E} {cf : mm_F} {N mc ms c2 s2 : Nat} {σ : mm_M} {wr : va_W} {nw2 : List Cond} {tys2 : List (ClassId × FieldType)} {host : String} (hd : decode cc pc = .ok (.invokespecial index, 3)) (hL : mm_L K l)
    (hM : ∀ sz, Met l y wy rm (gg_P nw2 D tys2 [(b, e0)] (.ref b :: As) sz) (gg_Q D [(b, e0)] b cf N σ sz) mc ms (va_A [(b, e0)] sz)) (g : GoodIn Ts wy) (hw : wy = Cond.code y bytes maxL none :: wy') (hr0 : rm.cells = mc ∧ rm.slots = ms) (h1 : Cond.methodLinkNest own index y host ∈ nw) (h2 : Cond.instanceMethod y ∈ Ts) (h3 : Cond.initialized y.cls ∈ Ts) (hy1 : y.name = "<init>")
    (hy : y.cls ≠ "java/lang/invoke/MethodHandle" ∧ y.cls ≠ "java/lang/invoke/VarHandle" ∧ (parseMethodDescriptor y.desc).map (fun d => d.parameters.length) = some As.length) (hR : rm.frames + 1 ≤ R.frames ∧ 8 + (maxL + 11) + rm.locals ≤ R.locals) {st : List Value} (hst : st = As.reverse ++ .ref b :: rest) (hroom : (rest.map fun v => v.category).sum ≤ 8) (hnw : ∀ w ∈ nw2, w ∈ nw) (isT : List Nat) (hT : isT.filterMap (fun i => tys[i]?) = tys2)
    (q0 : Nat) (isR : List Nat) (hC : ws[q0]? = some (b, e0)) (hRr : isR.map (fun i => ws[i]?) = wr.map some) (hnd : va_nd isR = true) (hdis : ∀ i ∈ isR, i ∉ [q0]) (hc2 : cells + mc = c2) (hs2 : slots + ms = s2) (hcR : c2 ≤ R.cells) (hsR : s2 ≤ R.slots)
    (k : ∀ a : Nat → Nat, a 0 = b → gg_G K D (wr ++ mm_W cf N a σ) c2 s2 (pc + 3) lv rest) : gg_G K D ws cells slots pc lv st := by
  obtain ⟨p, l1, e, R0, s, m, args, below, meth, c, n0, A, Q⟩ := K
  obtain ⟨⟨hx, hb, hml, hts, hown, hK, hA2, hN, hE⟩, rfl, rfl⟩ := X
  intro H locs ls hP hD hS hl
  have hL : l1 = l := hL
  subst hL
  subst hc2
  subst hs2
  have hC1 : [q0].map (fun i => ws[i]?) = [(b, e0)].map some := by simp [hC]
  have hPc : va_P D vwCl [(b, e0)] H := hP.sub [q0] (by simp [hC])
  have hDc : va_D A [(b, e0)] := hD.sub [q0] rfl hC1
  have hFc := va_free (wc := [(b, e0)]) hD hS hA2 [q0] hC1
  refine va_callv (va_runIN (As := As) (rest := rest) ⟨hx, hb, hml, hown, hts⟩ (hM H.size) ⟨va_cnB As.length hts g hw hr0.1 hr0.2 ((hN _ h1).2) (hts _ h3) hy hR, hy1, hts _ h2⟩ ⟨gg_P.blind, fun U hU hW => ⟨rfl, by rw [hU], by rw [hU]; exact hPc, hDc.weaken (fun _ _ _ _ => trivial), va_K.moved hW.alike (hK.sub isT hT), fun w hw2 => (hN.warm hW) w (hnw w hw2)⟩⟩ rfl rfl hl.1 hst (lv_room hroom) hd ⟨hcR, hsR⟩) hS (fun q _ h => hFc q h) hFc (fun u t H1 locs1 ht hvm hw1 hB hz hk hS1 => ?_)
  obtain ⟨hP1, hD1⟩ := hB
  rw [ht] at hP1
  obtain ⟨hP2, hD2⟩ := va_join (wr := wr) hP hD [q0] isR hC1 hRr hnd hdis hk hFc hP1 hD1
  exact k u hw1 H1 locs1 ls hP2 hD2 hS1 hl
theorem gg_eq {ws2 : va_W} (h : ws = ws2) (k : gg_G K D ws2 cells slots pc lv rest) : gg_G K D ws cells slots pc lv rest := h ▸ k
theorem gg_ret (X : gg_C nw K R cc n Ts own D tys) {w0 : va_W} {h0 N : Nat} {cf : mm_F} {σ : mm_M} (hd : decode cc pc = .ok (.return_, 1)) (hQ : gg_H K w0 (fun sz => gg_Q D w0 h0 cf N σ sz) cells slots) (a : Nat → Nat) (ha : a 0 = h0) (is : List Nat) (hnd : va_nd is = true) (his : is.map (fun i => ws[i]?) = (mm_W cf N a σ).map some) : gg_G K D ws cells slots pc lv [] := by
  obtain ⟨p, l, e, R0, s, m, args, below, meth, c, n0, A, Q⟩ := K
  obtain ⟨⟨hx, hb, hml, hts, hown, hK, hA2, hN, hrt, hlk, hin⟩, rfl, rfl⟩ := X
  intro H locs ls hP hD hS hl
  obtain ⟨rfl, rfl⟩ := hQ
  have hfm : is.filterMap (fun i => ws[i]?) = mm_W cf N a σ := by
    have : (is.map (fun i => ws[i]?)).filterMap id = ((mm_W cf N a σ).map some).filterMap id := by rw [his]
    rw [List.filterMap_map, List.filterMap_map] at this
    simpa using this
  exact W.vret hx hb hrt (fun t ht hW => ⟨⟨a, rfl, ha, by rw [ht]; exact hP.sub is hfm, hD.sub is hnd his⟩, hS.F ht⟩) hS.2.2 hd hlk
/-- the filling of a row that was just made -/
theorem gg_fill (X : gg_D E nw K R cc n Ts own D tys) {y : MethodName} {wy wy' : List Cond} {bytes : ByteArray} {maxL index : Nat} {C : String} {rm : Room} {As : List Value} {cf : mm_F} {aa : Nat → Nat} {σ σ2 : mm_M} {ci : Nat} {fs : List Value} {T : u_T} {M : Nat} {wr : va_W} (hd : decode cc pc = .ok (.invokevirtual index, 3)) (hL : mm_L K l) (hJ : mm_J 2 aa)
    (hM : ∀ sz, Met l y wy rm (mm_P [] D cf 2 aa tys σ (.ref (aa 0) :: As) sz) (mm_Qv D cf 2 aa σ2 sz) 0 0 (mm_A 2 aa sz)) (g : GoodIn Ts (wsV own index C y wy)) (hw : wy = Cond.code y bytes maxL none :: wy') (hr0 : rm.cells = 0 ∧ rm.slots = 0)
    (hy : y.cls = C ∧ y.cls ≠ "java/lang/invoke/MethodHandle" ∧ y.cls ≠ "java/lang/invoke/VarHandle" ∧ (parseMethodDescriptor y.desc).map (fun d => d.parameters.length) = some As.length) (hR : rm.frames + 1 ≤ R.frames ∧ 8 + (maxL + 11) + rm.locals ≤ R.locals) {st : List Value} (hst : st = As.reverse ++ .ref (aa 0) :: rest) (hroom : (rest.map fun v => v.category).sum ≤ 8)
    (he : cf aa 0 (σ 0) = .inr (ci, fs)) (hc : vwCl[ci]? = some (C, T, M)) (q0 q1 : Nat) (isR : List Nat) (hne : va_nd [q0, q1] = true) (hC : [q0, q1].map (fun i => ws[i]?) = (mm_W cf 2 aa σ).map some) (hRr : isR.map (fun i => ws[i]?) = wr.map some) (hnd : va_nd isR = true) (hdis : ∀ i ∈ isR, i ∉ [q0, q1])
    (hcR : cells ≤ R.cells) (hsR : slots ≤ R.slots) (k : gg_G K D (wr ++ mm_W cf 2 aa σ2) cells slots (pc + 3) lv rest) : gg_G K D ws cells slots pc lv st := by
  obtain ⟨p, l1, e, R0, s, m, args, below, meth, c, n0, A, Q⟩ := K
  obtain ⟨⟨hx, hb, hml, hts, hown, hK, hA2, hN, hE⟩, rfl, rfl⟩ := X
  intro H locs ls hP hD hS hl
  have hL : l1 = l := hL
  subst hL
  have hfm : [q0, q1].filterMap (fun i => ws[i]?) = mm_W cf 2 aa σ := by
    have : ([q0, q1].map (fun i => ws[i]?)).filterMap id = ((mm_W cf 2 aa σ).map some).filterMap id := by rw [hC]
    rw [List.filterMap_map, List.filterMap_map] at this
    simpa using this
  have hPc : va_P D vwCl (mm_W cf 2 aa σ) H := hP.sub [q0, q1] hfm
  have hDc : va_D A (mm_W cf 2 aa σ) := hD.sub [q0, q1] hne hC
  have hFc := va_free (wc := mm_W cf 2 aa σ) hD hS hA2 [q0, q1] hC
  have hAe : ∀ q, mm_A 2 aa H.size q → va_A (mm_W cf 2 aa σ) H.size q := by
    intro q h
    rcases h with ⟨j, hj, rfl⟩ | h
    · exact Or.inl ⟨j, _, mm_W_at hj⟩
    · exact Or.inr h
  have hAe2 : ∀ q, ¬ va_A (mm_W cf 2 aa σ) H.size q → ¬ mm_A 2 aa H.size q := fun q h z => h (hAe q z)
  refine va_callv (va_runV (As := As) (rest := rest) ⟨hx, hb, hml, hown, hts⟩ (hM H.size) (cwV As.length hts g hw hr0.1 hr0.2 hy hR) ⟨mm_P.blind, va_recv (q := (C, T, M)) (q0 := 0) hK hPc hc ((mm_W_at (k := 0) (by decide)).trans (by rw [he])), fun U hU hW => ⟨rfl, by rw [hU], by rw [hU]; exact hPc, va_K.moved hW.alike hK, fun w hw2 => by cases hw2⟩⟩ rfl rfl hl.1 hst (lv_room hroom) hd ⟨hcR, hsR⟩) hS (fun q _ h => hFc q (hAe q h)) (fun q h => hFc q (hAe q h)) (fun u t H1 locs1 ht hvm hw1 hB hz hk hS1 => ?_)
  have hB : va_P D vwCl (mm_W cf 2 aa σ2) t.heap := hB
  rw [ht] at hB
  have hD1 : va_D (va_A (mm_W cf 2 aa σ) H.size) (mm_W cf 2 aa σ2) := mm_D hJ (fun j hj => Or.inl ⟨j, _, mm_W_at hj⟩)
  obtain ⟨hP2, hD2⟩ := va_join (wc := mm_W cf 2 aa σ) (wr := wr) hP hD [q0, q1] isR hC hRr hnd hdis (fun q h1 h2 => hk q h1 (hAe2 q h2)) hFc hB hD1
  exact k H1 locs1 ls hP2 hD2 hS1 hl
/-- two cells of a world are apart -/
theorem gg_apart (X : gg_D E nw K R cc n Ts own D tys) (q0 q1 : Nat) {b c : Nat} {e1 e2 : va_E} (h0 : ws[q0]? = some (b, e1)) (h1 : ws[q1]? = some (c, e2)) (hne : q0 ≠ q1) (k : b ≠ c → gg_G K D ws cells slots pc lv rest) : gg_G K D ws cells slots pc lv rest := by
  obtain ⟨p, l1, e, R0, s, m, args, below, meth, c0, n0, A, Q⟩ := K
  intro H locs ls hP hD hS hl
  exact k (fun h => hne (hD.1 q0 q1 _ _ h0 h1 h)) H locs ls hP hD hS hl
end GGR
end
section
def sm_cf (cI : ClassId) (n : Nat) : mm_F := fun a k f => if k = 0 then .inr (4, [.ref (a 1)]) else .inl (cI, n, .inl f)
def z0 : mm_M := fun _ _ => 0
abbrev rX4_init (n : Nat) : Room := { frames := 1, cells := 1, slots := n, locals := 12 }
theorem hyX4_init : yX4_init.cls ≠ "java/lang/invoke/MethodHandle" ∧ yX4_init.cls ≠ "java/lang/invoke/VarHandle" ∧ (parseMethodDescriptor yX4_init.desc).map (fun d => d.parameters.length) = some 1 := by decide +kernel
theorem uX4_init : ∀ w ∈ u_ws RX4 TX4 1, w ∈ wsX4_init := fun _ h => (List.mem_cons_of_mem _ (List.mem_append_right _ h))
set_option maxRecDepth 100000 in
set_option maxHeartbeats 4000000 in
theorem nX4_init {l : Launch} {D : va_G} {cI : ClassId} {h0 : Nat} {n : Int32} {M : Nat} (hM : n = nI M) (h1 : 0 < M) (h2 : M ≤ 3072) (sz : Nat) : Met l yX4_init wsX4_init (rX4_init M) (gg_P [] D [(cI, .int)] [(h0, .inr (4, [.null]))] [.ref h0, .int n] sz) (gg_Q D [(h0, .inr (4, [.null]))] h0 (sm_cf cI M) 2 z0 sz) 1 M (va_A [(h0, .inr (4, [.null]))] sz) := by
  refine gg_met (fun sz => gg_Q D [(h0, .inr (4, [.null]))] h0 (sm_cf cI M) 2 z0 sz) (lv := [(0, .ref h0), (1, .int n)]) (cc := cX4_init) (maxL := 2) (own := RX4) (by decide +kernel) rfl rfl rfl (Nat.le_of_ble_eq_true rfl) rfl ?_ sz
  intro K hL X hQ
  subst hM
  refine gg_aload_n X dX4_init_0 0 rfl ?_
  refine gg_obj X dX4_init_1 (List.mem_of_getElem? (i := 1) rfl) (List.mem_of_getElem? (i := 2) rfl) (List.mem_of_getElem? (i := 3) rfl) (Nat.le_of_ble_eq_true rfl) (Nat.le_of_ble_eq_true rfl) ?_
  refine gg_aload_n X dX4_init_4 0 rfl ?_
  refine gg_iload_n X dX4_init_5 1 rfl ?_
  refine gg_if_leF X dX4_init_6 (tgt := 13) (by decide) (nI_nle h1 (by omega)) ?_
  refine gg_iload_n X dX4_init_9 1 rfl ?_
  refine gg_goto X dX4_init_10 (tgt := 14) (by decide) ?_
  have hcb : componentBytes .int = 4 := rfl
  refine gg_newa X (atype := .int) (ty := .int) (M := M) (c2 := 1) (s2 := M) dX4_init_14 rfl (fun C h => by cases h) 0 rfl (List.mem_of_getElem? (i := 4) rfl) rfl (nI_pos (by omega)) (nI_clamp (by omega)) (by rw [hcb]; omega) rfl (by omega) (Nat.le_of_ble_eq_true rfl) (Nat.le_refl _) (fun q => ?_)
  refine gg_putF X (ty := .array .int) dX4_init_16 0 0 tyX4 tyX4_ok nmX4 (fs := [.null]) rfl rfl (by decide) uX4_init (List.mem_of_getElem? (i := 5) rfl) rfl rfl rfl (by decide +kernel) rfl rfl (Nat.le_of_ble_eq_true rfl) (ws2 := [(h0, .inr (4, [.ref q])), (q, .inl (cI, M, .inl (fun _ => 0)))]) rfl ?_
  exact gg_ret X dX4_init_19 hQ (fun k => if k = 0 then h0 else q) rfl [0, 1] (by decide) rfl
set_option maxRecDepth 100000 in
set_option maxHeartbeats 4000000 in
theorem nX4_fill {l : Launch} {D : va_G} {cI : ClassId} {n : Nat} {a : Nat → Nat} (hlen : n < 2 ^ 31) (hJ : mm_J 2 a) {σ : mm_M} {p1 : Int32} (sz : Nat) : Met l yX4_fill wsX4_fill rX4_fill (mm_P [] D (sm_cf cI n) 2 a [(cI, .int)] σ [.ref (a 0), .int p1] sz) (mm_Qv D (sm_cf cI n) 2 a (dr_fk σ 1 n p1) sz) 0 0 (mm_A 2 a sz) := by
  refine mm_met (fun sz => mm_Qv D (sm_cf cI n) 2 a (dr_fk σ 1 n p1) sz) (lv := [(0, .ref (a 0)), (1, .int p1)]) (ret := none) (cc := cX4_fill) (maxL := 3) (own := RX4) hJ (by decide +kernel) rfl rfl (Nat.le_of_ble_eq_true rfl) rfl ?_ sz
  intro K hL X hQ
  have hloop : ∀ (r k : Nat), k + r = n → mm_G K D (sm_cf cI n) 2 a (dr_fk σ 1 k p1) 2 [(2, .int (nI k)), (0, .ref (a 0)), (1, .int p1)] [] := by
    intro r
    induction r with
    | zero =>
      intro k hk
      have hk : k = n := hk
      subst hk
      refine mm_iload_n X dX4_fill_2 0 rfl ?_
      refine mm_aload_n X dX4_fill_3 1 rfl ?_
      refine mm_get X dX4_fill_4 0 0 (by decide) rfl rfl (by decide) uX4_fill kX4_fill rfl (v := .ref (a 1)) rfl ?_
      refine mm_alen X dX4_fill_7 1 0 (by decide) rfl rfl (v := nI k) rfl ?_
      refine mm_icmp_ge X dX4_fill_8 (tgt := 24) (by decide) (fun c2 => ?_) (fun c2 => ?_)
      · exact mm_vret X dX4_fill_24 rfl hQ
      · exact absurd c2 (nI_nlt (Nat.le_refl _) hlen)
    | succ r ih =>
      intro k hk
      refine mm_iload_n X dX4_fill_2 0 rfl ?_
      refine mm_aload_n X dX4_fill_3 1 rfl ?_
      refine mm_get X dX4_fill_4 0 0 (by decide) rfl rfl (by decide) uX4_fill kX4_fill rfl (v := .ref (a 1)) rfl ?_
      refine mm_alen X dX4_fill_7 1 0 (by decide) rfl rfl (v := nI n) rfl ?_
      refine mm_icmp_ge X dX4_fill_8 (tgt := 24) (by decide) (fun c2 => ?_) (fun c2 => ?_)
      · exact absurd (nI_lt (by omega) hlen) c2
      · refine mm_aload_n X dX4_fill_11 1 rfl ?_
        refine mm_get X dX4_fill_12 0 0 (by decide) rfl rfl (by decide) uX4_fill kX4_fill rfl (v := .ref (a 1)) rfl ?_
        refine mm_iload_n X dX4_fill_15 0 rfl ?_
        refine mm_iload_n X dX4_fill_16 2 rfl ?_
        refine mm_iast X dX4_fill_17 1 0 (by decide) (fun _ => rfl) rfl (mm_in (nI_pos (by omega)) c2 hlen) ?_
        rw [nI_clamp (by omega), dr_fk_s]
        refine mm_iinc X dX4_fill_18 0 rfl (v := nI (k + 1)) (nI_succ k).symm (by decide) (lv2 := [(2, .int (nI (k + 1))), (0, .ref (a 0)), (1, .int p1)]) rfl ?_
        refine mm_goto X dX4_fill_21 (tgt := 2) (by decide) ?_
        exact ih (k + 1) (by omega)
  refine mm_iconst X dX4_fill_0 (v := 0) (by decide) ?_
  refine mm_istore_n X dX4_fill_1 (by decide) (lv2 := [(2, .int (0 : Int32)), (0, .ref (a 0)), (1, .int p1)]) rfl ?_
  have h0 := hloop n 0 (by omega)
  rw [dr_fk_0, nI_0] at h0
  exact h0
set_option maxRecDepth 20000 in
theorem ggX0_init_X4_init : GoodIn wsX0_init wsX4_init := goodIn_r _ [25, 26, 2, 3, 27, 28, 45] (by decide +kernel) (by decide +kernel)
set_option maxRecDepth 20000 in
theorem gX0_init_X4_init : GoodIn wsX0_init (wsX4_init) := ggX0_init_X4_init
def ck_1 (cI : ClassId) : mm_F := fun a k f => match k with
  | 0 => .inr (1, [.int (f 0), .ref (a 1), .ref (a 2), .ref (a 3), .ref (a 4), .ref (a 5)])
  | 1 => .inr (4, [.ref (a 6)])
  | 2 => .inr (4, [.ref (a 7)])
  | 3 => .inr (4, [.ref (a 8)])
  | 4 => .inr (4, [.ref (a 9)])
  | 5 => .inr (4, [.ref (a 10)])
  | 6 => .inl (cI, 8, .inl f)
  | 7 => .inl (cI, 8, .inl f)
  | 8 => .inl (cI, 8, .inl f)
  | 9 => .inl (cI, 8, .inl f)
  | _ => .inl (cI, 8, .inl f)
def sX1_init : mm_M := z0
abbrev rX1_init : Room := { frames := 2, cells := 10, slots := 45, locals := 33 }
theorem hyX1_init : yX1_init.cls ≠ "java/lang/invoke/MethodHandle" ∧ yX1_init.cls ≠ "java/lang/invoke/VarHandle" ∧ (parseMethodDescriptor yX1_init.desc).map (fun d => d.parameters.length) = some 0 := by decide +kernel
set_option maxRecDepth 100000 in
set_option maxHeartbeats 4000000 in
theorem nX1_init {l : Launch} {D : va_G} {cI : ClassId} {h0 : Nat} (sz : Nat) : Met l yX1_init wsX1_init rX1_init (gg_P [] D [(cI, .int)] [(h0, .inr (1, [.int 0, .null, .null, .null, .null, .null]))] [.ref h0] sz) (gg_Q D [(h0, .inr (1, [.int 0, .null, .null, .null, .null, .null]))] h0 (ck_1 cI) 11 sX1_init sz) 10 45 (va_A [(h0, .inr (1, [.int 0, .null, .null, .null, .null, .null]))] sz) := by
  refine gg_met (y := yX1_init) (ws := wsX1_init) (rm := rX1_init) (D := D) (tys := [(cI, .int)]) (w0 := [(h0, .inr (1, [.int 0, .null, .null, .null, .null, .null]))]) (mc := 10) (ms := 45) (av := [.ref h0]) (fun sz => gg_Q D [(h0, .inr (1, [.int 0, .null, .null, .null, .null, .null]))] h0 (ck_1 cI) 11 sX1_init sz) (lv := [(0, .ref h0)]) (cc := cX1_init) (maxL := 1) (own := RX1) (by decide +kernel) rfl rfl rfl (Nat.le_of_ble_eq_true rfl) rfl ?_ sz
  intro K hL X hQ
  refine gg_aload_n X dX1_init_0 0 rfl ?_
  refine gg_obj X dX1_init_1 (List.mem_of_getElem? (i := 1) rfl) (List.mem_of_getElem? (i := 2) rfl) (List.mem_of_getElem? (i := 3) rfl) (Nat.le_of_ble_eq_true rfl) (Nat.le_of_ble_eq_true rfl) ?_
  refine gg_aload_n X dX1_init_4 0 rfl ?_
  refine gg_iconst X dX1_init_5 (v := 0) (by decide) ?_
  refine gg_put X (ty := .int) dX1_init_6 0 0 tyX1 tyX1_ok nmX1 rfl rfl (by decide) (fun _ h => (List.mem_cons_of_mem _ (List.mem_append_left _ (List.mem_append_right _ h)))) (List.mem_of_getElem? (i := 4) rfl) rfl rfl (by decide +kernel) rfl rfl (Nat.le_of_ble_eq_true rfl) (ws2 := [(h0, .inr (1, [.int 0, .null, .null, .null, .null, .null]))]) rfl ?_
  refine gg_aload_n X dX1_init_9 0 rfl ?_
  refine gg_new X (ci := 4) (M := 1) (c2 := 1) (s2 := 1) (fs := [.null]) dX1_init_10 tyX4 tyX4_ok rfl (fun _ h => (List.mem_cons_of_mem _ (List.mem_append_right _ h))) (List.mem_of_getElem? (i := 5) rfl) (List.mem_of_getElem? (i := 6) rfl) (List.mem_of_getElem? (i := 7) rfl) (fun j hj => by rcases (show j = 0 by omega) with rfl <;> rfl) rfl rfl (Nat.le_of_ble_eq_true rfl) (Nat.le_of_ble_eq_true rfl) (fun q0 => ?_)
  refine gg_eq (ws2 := [(h0, .inr (1, [.int 0, .null, .null, .null, .null, .null])), (q0, .inr (4, [.null]))]) rfl ?_
  refine gg_dup X dX1_init_13 rfl ?_
  refine gg_bipush X dX1_init_14 (v := 8) (by decide) ?_
  refine gg_call X (nw2 := []) (As := [.int 8]) (rest := [.ref q0, .ref h0]) (cf := (sm_cf cI 8)) (N := 2) (σ := z0) (c2 := 2) (s2 := 9) (wr := [(h0, .inr (1, [.int 0, .null, .null, .null, .null, .null]))]) dX1_init_16 hL (fun sz => nX4_init rfl (by decide) (by decide) sz) gX1_init_X4_init rfl ⟨rfl, rfl⟩ (List.mem_of_getElem? (i := 13) rfl) (List.mem_of_getElem? (i := 14) rfl) (List.mem_of_getElem? (i := 7) rfl) rfl hyX4_init ⟨Nat.le_of_ble_eq_true rfl, Nat.le_of_ble_eq_true rfl⟩ rfl (Nat.le_of_ble_eq_true rfl) (fun w h => by cases h) [0] rfl 1 [0] rfl rfl (by decide) (by decide) rfl rfl (Nat.le_of_ble_eq_true rfl) (Nat.le_of_ble_eq_true rfl) (fun a1 ea1 => ?_)
  subst ea1
  refine gg_eq (ws2 := [(h0, .inr (1, [.int 0, .null, .null, .null, .null, .null])), ((a1 0), .inr (4, [.ref (a1 1)])), ((a1 1), .inl (cI, 8, .inl (fun _ => 0)))]) rfl ?_
  refine gg_putF X (ty := (.object "LinenTunnel$Row")) dX1_init_19 0 1 tyX1 tyX1_ok nmX1 rfl rfl (by decide) (fun _ h => (List.mem_cons_of_mem _ (List.mem_append_left _ (List.mem_append_right _ h)))) (List.mem_of_getElem? (i := 8) rfl) rfl rfl rfl (by decide +kernel) rfl rfl (Nat.le_of_ble_eq_true rfl) (ws2 := [(h0, .inr (1, [.int 0, .ref (a1 0), .null, .null, .null, .null])), ((a1 0), .inr (4, [.ref (a1 1)])), ((a1 1), .inl (cI, 8, .inl (fun _ => 0)))]) rfl ?_
  refine gg_aload_n X dX1_init_22 0 rfl ?_
  refine gg_new X (ci := 4) (M := 1) (c2 := 3) (s2 := 10) (fs := [.null]) dX1_init_23 tyX4 tyX4_ok rfl (fun _ h => (List.mem_cons_of_mem _ (List.mem_append_right _ h))) (List.mem_of_getElem? (i := 5) rfl) (List.mem_of_getElem? (i := 6) rfl) (List.mem_of_getElem? (i := 7) rfl) (fun j hj => by rcases (show j = 0 by omega) with rfl <;> rfl) rfl rfl (Nat.le_of_ble_eq_true rfl) (Nat.le_of_ble_eq_true rfl) (fun q2 => ?_)
  refine gg_eq (ws2 := [(h0, .inr (1, [.int 0, .ref (a1 0), .null, .null, .null, .null])), ((a1 0), .inr (4, [.ref (a1 1)])), ((a1 1), .inl (cI, 8, .inl (fun _ => 0))), (q2, .inr (4, [.null]))]) rfl ?_
  refine gg_dup X dX1_init_26 rfl ?_
  refine gg_bipush X dX1_init_27 (v := 8) (by decide) ?_
  refine gg_call X (nw2 := []) (As := [.int 8]) (rest := [.ref q2, .ref h0]) (cf := (sm_cf cI 8)) (N := 2) (σ := z0) (c2 := 4) (s2 := 18) (wr := [(h0, .inr (1, [.int 0, .ref (a1 0), .null, .null, .null, .null])), ((a1 0), .inr (4, [.ref (a1 1)])), ((a1 1), .inl (cI, 8, .inl (fun _ => 0)))]) dX1_init_29 hL (fun sz => nX4_init rfl (by decide) (by decide) sz) gX1_init_X4_init rfl ⟨rfl, rfl⟩ (List.mem_of_getElem? (i := 13) rfl) (List.mem_of_getElem? (i := 14) rfl) (List.mem_of_getElem? (i := 7) rfl) rfl hyX4_init ⟨Nat.le_of_ble_eq_true rfl, Nat.le_of_ble_eq_true rfl⟩ rfl (Nat.le_of_ble_eq_true rfl) (fun w h => by cases h) [0] rfl 3 [0, 1, 2] rfl rfl (by decide) (by decide) rfl rfl (Nat.le_of_ble_eq_true rfl) (Nat.le_of_ble_eq_true rfl) (fun a3 ea3 => ?_)
  subst ea3
  refine gg_eq (ws2 := [(h0, .inr (1, [.int 0, .ref (a1 0), .null, .null, .null, .null])), ((a1 0), .inr (4, [.ref (a1 1)])), ((a1 1), .inl (cI, 8, .inl (fun _ => 0))), ((a3 0), .inr (4, [.ref (a3 1)])), ((a3 1), .inl (cI, 8, .inl (fun _ => 0)))]) rfl ?_
  refine gg_putF X (ty := (.object "LinenTunnel$Row")) dX1_init_32 0 2 tyX1 tyX1_ok nmX1 rfl rfl (by decide) (fun _ h => (List.mem_cons_of_mem _ (List.mem_append_left _ (List.mem_append_right _ h)))) (List.mem_of_getElem? (i := 9) rfl) rfl rfl rfl (by decide +kernel) rfl rfl (Nat.le_of_ble_eq_true rfl) (ws2 := [(h0, .inr (1, [.int 0, .ref (a1 0), .ref (a3 0), .null, .null, .null])), ((a1 0), .inr (4, [.ref (a1 1)])), ((a1 1), .inl (cI, 8, .inl (fun _ => 0))), ((a3 0), .inr (4, [.ref (a3 1)])), ((a3 1), .inl (cI, 8, .inl (fun _ => 0)))]) rfl ?_
  refine gg_aload_n X dX1_init_35 0 rfl ?_
  refine gg_new X (ci := 4) (M := 1) (c2 := 5) (s2 := 19) (fs := [.null]) dX1_init_36 tyX4 tyX4_ok rfl (fun _ h => (List.mem_cons_of_mem _ (List.mem_append_right _ h))) (List.mem_of_getElem? (i := 5) rfl) (List.mem_of_getElem? (i := 6) rfl) (List.mem_of_getElem? (i := 7) rfl) (fun j hj => by rcases (show j = 0 by omega) with rfl <;> rfl) rfl rfl (Nat.le_of_ble_eq_true rfl) (Nat.le_of_ble_eq_true rfl) (fun q4 => ?_)
  refine gg_eq (ws2 := [(h0, .inr (1, [.int 0, .ref (a1 0), .ref (a3 0), .null, .null, .null])), ((a1 0), .inr (4, [.ref (a1 1)])), ((a1 1), .inl (cI, 8, .inl (fun _ => 0))), ((a3 0), .inr (4, [.ref (a3 1)])), ((a3 1), .inl (cI, 8, .inl (fun _ => 0))), (q4, .inr (4, [.null]))]) rfl ?_
  refine gg_dup X dX1_init_39 rfl ?_
  refine gg_bipush X dX1_init_40 (v := 8) (by decide) ?_
  refine gg_call X (nw2 := []) (As := [.int 8]) (rest := [.ref q4, .ref h0]) (cf := (sm_cf cI 8)) (N := 2) (σ := z0) (c2 := 6) (s2 := 27) (wr := [(h0, .inr (1, [.int 0, .ref (a1 0), .ref (a3 0), .null, .null, .null])), ((a1 0), .inr (4, [.ref (a1 1)])), ((a1 1), .inl (cI, 8, .inl (fun _ => 0))), ((a3 0), .inr (4, [.ref (a3 1)])), ((a3 1), .inl (cI, 8, .inl (fun _ => 0)))]) dX1_init_42 hL (fun sz => nX4_init rfl (by decide) (by decide) sz) gX1_init_X4_init rfl ⟨rfl, rfl⟩ (List.mem_of_getElem? (i := 13) rfl) (List.mem_of_getElem? (i := 14) rfl) (List.mem_of_getElem? (i := 7) rfl) rfl hyX4_init ⟨Nat.le_of_ble_eq_true rfl, Nat.le_of_ble_eq_true rfl⟩ rfl (Nat.le_of_ble_eq_true rfl) (fun w h => by cases h) [0] rfl 5 [0, 1, 2, 3, 4] rfl rfl (by decide) (by decide) rfl rfl (Nat.le_of_ble_eq_true rfl) (Nat.le_of_ble_eq_true rfl) (fun a5 ea5 => ?_)
  subst ea5
  refine gg_eq (ws2 := [(h0, .inr (1, [.int 0, .ref (a1 0), .ref (a3 0), .null, .null, .null])), ((a1 0), .inr (4, [.ref (a1 1)])), ((a1 1), .inl (cI, 8, .inl (fun _ => 0))), ((a3 0), .inr (4, [.ref (a3 1)])), ((a3 1), .inl (cI, 8, .inl (fun _ => 0))), ((a5 0), .inr (4, [.ref (a5 1)])), ((a5 1), .inl (cI, 8, .inl (fun _ => 0)))]) rfl ?_
  refine gg_putF X (ty := (.object "LinenTunnel$Row")) dX1_init_45 0 3 tyX1 tyX1_ok nmX1 rfl rfl (by decide) (fun _ h => (List.mem_cons_of_mem _ (List.mem_append_left _ (List.mem_append_right _ h)))) (List.mem_of_getElem? (i := 10) rfl) rfl rfl rfl (by decide +kernel) rfl rfl (Nat.le_of_ble_eq_true rfl) (ws2 := [(h0, .inr (1, [.int 0, .ref (a1 0), .ref (a3 0), .ref (a5 0), .null, .null])), ((a1 0), .inr (4, [.ref (a1 1)])), ((a1 1), .inl (cI, 8, .inl (fun _ => 0))), ((a3 0), .inr (4, [.ref (a3 1)])), ((a3 1), .inl (cI, 8, .inl (fun _ => 0))), ((a5 0), .inr (4, [.ref (a5 1)])), ((a5 1), .inl (cI, 8, .inl (fun _ => 0)))]) rfl ?_
  refine gg_aload_n X dX1_init_48 0 rfl ?_
  refine gg_new X (ci := 4) (M := 1) (c2 := 7) (s2 := 28) (fs := [.null]) dX1_init_49 tyX4 tyX4_ok rfl (fun _ h => (List.mem_cons_of_mem _ (List.mem_append_right _ h))) (List.mem_of_getElem? (i := 5) rfl) (List.mem_of_getElem? (i := 6) rfl) (List.mem_of_getElem? (i := 7) rfl) (fun j hj => by rcases (show j = 0 by omega) with rfl <;> rfl) rfl rfl (Nat.le_of_ble_eq_true rfl) (Nat.le_of_ble_eq_true rfl) (fun q6 => ?_)
  refine gg_eq (ws2 := [(h0, .inr (1, [.int 0, .ref (a1 0), .ref (a3 0), .ref (a5 0), .null, .null])), ((a1 0), .inr (4, [.ref (a1 1)])), ((a1 1), .inl (cI, 8, .inl (fun _ => 0))), ((a3 0), .inr (4, [.ref (a3 1)])), ((a3 1), .inl (cI, 8, .inl (fun _ => 0))), ((a5 0), .inr (4, [.ref (a5 1)])), ((a5 1), .inl (cI, 8, .inl (fun _ => 0))), (q6, .inr (4, [.null]))]) rfl ?_
  refine gg_dup X dX1_init_52 rfl ?_
  refine gg_bipush X dX1_init_53 (v := 8) (by decide) ?_
  refine gg_call X (nw2 := []) (As := [.int 8]) (rest := [.ref q6, .ref h0]) (cf := (sm_cf cI 8)) (N := 2) (σ := z0) (c2 := 8) (s2 := 36) (wr := [(h0, .inr (1, [.int 0, .ref (a1 0), .ref (a3 0), .ref (a5 0), .null, .null])), ((a1 0), .inr (4, [.ref (a1 1)])), ((a1 1), .inl (cI, 8, .inl (fun _ => 0))), ((a3 0), .inr (4, [.ref (a3 1)])), ((a3 1), .inl (cI, 8, .inl (fun _ => 0))), ((a5 0), .inr (4, [.ref (a5 1)])), ((a5 1), .inl (cI, 8, .inl (fun _ => 0)))]) dX1_init_55 hL (fun sz => nX4_init rfl (by decide) (by decide) sz) gX1_init_X4_init rfl ⟨rfl, rfl⟩ (List.mem_of_getElem? (i := 13) rfl) (List.mem_of_getElem? (i := 14) rfl) (List.mem_of_getElem? (i := 7) rfl) rfl hyX4_init ⟨Nat.le_of_ble_eq_true rfl, Nat.le_of_ble_eq_true rfl⟩ rfl (Nat.le_of_ble_eq_true rfl) (fun w h => by cases h) [0] rfl 7 [0, 1, 2, 3, 4, 5, 6] rfl rfl (by decide) (by decide) rfl rfl (Nat.le_of_ble_eq_true rfl) (Nat.le_of_ble_eq_true rfl) (fun a7 ea7 => ?_)
  subst ea7
  refine gg_eq (ws2 := [(h0, .inr (1, [.int 0, .ref (a1 0), .ref (a3 0), .ref (a5 0), .null, .null])), ((a1 0), .inr (4, [.ref (a1 1)])), ((a1 1), .inl (cI, 8, .inl (fun _ => 0))), ((a3 0), .inr (4, [.ref (a3 1)])), ((a3 1), .inl (cI, 8, .inl (fun _ => 0))), ((a5 0), .inr (4, [.ref (a5 1)])), ((a5 1), .inl (cI, 8, .inl (fun _ => 0))), ((a7 0), .inr (4, [.ref (a7 1)])), ((a7 1), .inl (cI, 8, .inl (fun _ => 0)))]) rfl ?_
  refine gg_putF X (ty := (.object "LinenTunnel$Row")) dX1_init_58 0 4 tyX1 tyX1_ok nmX1 rfl rfl (by decide) (fun _ h => (List.mem_cons_of_mem _ (List.mem_append_left _ (List.mem_append_right _ h)))) (List.mem_of_getElem? (i := 11) rfl) rfl rfl rfl (by decide +kernel) rfl rfl (Nat.le_of_ble_eq_true rfl) (ws2 := [(h0, .inr (1, [.int 0, .ref (a1 0), .ref (a3 0), .ref (a5 0), .ref (a7 0), .null])), ((a1 0), .inr (4, [.ref (a1 1)])), ((a1 1), .inl (cI, 8, .inl (fun _ => 0))), ((a3 0), .inr (4, [.ref (a3 1)])), ((a3 1), .inl (cI, 8, .inl (fun _ => 0))), ((a5 0), .inr (4, [.ref (a5 1)])), ((a5 1), .inl (cI, 8, .inl (fun _ => 0))), ((a7 0), .inr (4, [.ref (a7 1)])), ((a7 1), .inl (cI, 8, .inl (fun _ => 0)))]) rfl ?_
  refine gg_aload_n X dX1_init_61 0 rfl ?_
  refine gg_new X (ci := 4) (M := 1) (c2 := 9) (s2 := 37) (fs := [.null]) dX1_init_62 tyX4 tyX4_ok rfl (fun _ h => (List.mem_cons_of_mem _ (List.mem_append_right _ h))) (List.mem_of_getElem? (i := 5) rfl) (List.mem_of_getElem? (i := 6) rfl) (List.mem_of_getElem? (i := 7) rfl) (fun j hj => by rcases (show j = 0 by omega) with rfl <;> rfl) rfl rfl (Nat.le_of_ble_eq_true rfl) (Nat.le_of_ble_eq_true rfl) (fun q8 => ?_)
  refine gg_eq (ws2 := [(h0, .inr (1, [.int 0, .ref (a1 0), .ref (a3 0), .ref (a5 0), .ref (a7 0), .null])), ((a1 0), .inr (4, [.ref (a1 1)])), ((a1 1), .inl (cI, 8, .inl (fun _ => 0))), ((a3 0), .inr (4, [.ref (a3 1)])), ((a3 1), .inl (cI, 8, .inl (fun _ => 0))), ((a5 0), .inr (4, [.ref (a5 1)])), ((a5 1), .inl (cI, 8, .inl (fun _ => 0))), ((a7 0), .inr (4, [.ref (a7 1)])), ((a7 1), .inl (cI, 8, .inl (fun _ => 0))), (q8, .inr (4, [.null]))]) rfl ?_
  refine gg_dup X dX1_init_65 rfl ?_
  refine gg_bipush X dX1_init_66 (v := 8) (by decide) ?_
  refine gg_call X (nw2 := []) (As := [.int 8]) (rest := [.ref q8, .ref h0]) (cf := (sm_cf cI 8)) (N := 2) (σ := z0) (c2 := 10) (s2 := 45) (wr := [(h0, .inr (1, [.int 0, .ref (a1 0), .ref (a3 0), .ref (a5 0), .ref (a7 0), .null])), ((a1 0), .inr (4, [.ref (a1 1)])), ((a1 1), .inl (cI, 8, .inl (fun _ => 0))), ((a3 0), .inr (4, [.ref (a3 1)])), ((a3 1), .inl (cI, 8, .inl (fun _ => 0))), ((a5 0), .inr (4, [.ref (a5 1)])), ((a5 1), .inl (cI, 8, .inl (fun _ => 0))), ((a7 0), .inr (4, [.ref (a7 1)])), ((a7 1), .inl (cI, 8, .inl (fun _ => 0)))]) dX1_init_68 hL (fun sz => nX4_init rfl (by decide) (by decide) sz) gX1_init_X4_init rfl ⟨rfl, rfl⟩ (List.mem_of_getElem? (i := 13) rfl) (List.mem_of_getElem? (i := 14) rfl) (List.mem_of_getElem? (i := 7) rfl) rfl hyX4_init ⟨Nat.le_of_ble_eq_true rfl, Nat.le_of_ble_eq_true rfl⟩ rfl (Nat.le_of_ble_eq_true rfl) (fun w h => by cases h) [0] rfl 9 [0, 1, 2, 3, 4, 5, 6, 7, 8] rfl rfl (by decide) (by decide) rfl rfl (Nat.le_of_ble_eq_true rfl) (Nat.le_of_ble_eq_true rfl) (fun a9 ea9 => ?_)
  subst ea9
  refine gg_eq (ws2 := [(h0, .inr (1, [.int 0, .ref (a1 0), .ref (a3 0), .ref (a5 0), .ref (a7 0), .null])), ((a1 0), .inr (4, [.ref (a1 1)])), ((a1 1), .inl (cI, 8, .inl (fun _ => 0))), ((a3 0), .inr (4, [.ref (a3 1)])), ((a3 1), .inl (cI, 8, .inl (fun _ => 0))), ((a5 0), .inr (4, [.ref (a5 1)])), ((a5 1), .inl (cI, 8, .inl (fun _ => 0))), ((a7 0), .inr (4, [.ref (a7 1)])), ((a7 1), .inl (cI, 8, .inl (fun _ => 0))), ((a9 0), .inr (4, [.ref (a9 1)])), ((a9 1), .inl (cI, 8, .inl (fun _ => 0)))]) rfl ?_
  refine gg_putF X (ty := (.object "LinenTunnel$Row")) dX1_init_71 0 5 tyX1 tyX1_ok nmX1 rfl rfl (by decide) (fun _ h => (List.mem_cons_of_mem _ (List.mem_append_left _ (List.mem_append_right _ h)))) (List.mem_of_getElem? (i := 12) rfl) rfl rfl rfl (by decide +kernel) rfl rfl (Nat.le_of_ble_eq_true rfl) (ws2 := [(h0, .inr (1, [.int 0, .ref (a1 0), .ref (a3 0), .ref (a5 0), .ref (a7 0), .ref (a9 0)])), ((a1 0), .inr (4, [.ref (a1 1)])), ((a1 1), .inl (cI, 8, .inl (fun _ => 0))), ((a3 0), .inr (4, [.ref (a3 1)])), ((a3 1), .inl (cI, 8, .inl (fun _ => 0))), ((a5 0), .inr (4, [.ref (a5 1)])), ((a5 1), .inl (cI, 8, .inl (fun _ => 0))), ((a7 0), .inr (4, [.ref (a7 1)])), ((a7 1), .inl (cI, 8, .inl (fun _ => 0))), ((a9 0), .inr (4, [.ref (a9 1)])), ((a9 1), .inl (cI, 8, .inl (fun _ => 0)))]) rfl ?_
  exact gg_ret X dX1_init_74 hQ (fun k => [h0, (a1 0), (a3 0), (a5 0), (a7 0), (a9 0), (a1 1), (a3 1), (a5 1), (a7 1), (a9 1)].getD k 0) rfl [0, 1, 3, 5, 7, 9, 2, 4, 6, 8, 10] (by decide) rfl
def ck_2 (cI : ClassId) : mm_F := fun a k f => match k with
  | 0 => .inr (2, [.int (f 0), .ref (a 1), .ref (a 2), .ref (a 3), .ref (a 4), .ref (a 5), .ref (a 6)])
  | 1 => .inr (4, [.ref (a 7)])
  | 2 => .inr (4, [.ref (a 8)])
  | 3 => .inr (4, [.ref (a 9)])
  | 4 => .inr (4, [.ref (a 10)])
  | 5 => .inr (4, [.ref (a 11)])
  | 6 => .inr (4, [.ref (a 12)])
  | 7 => .inl (cI, 100, .inl f)
  | 8 => .inl (cI, 100, .inl f)
  | 9 => .inl (cI, 100, .inl f)
  | 10 => .inl (cI, 100, .inl f)
  | 11 => .inl (cI, 100, .inl f)
  | _ => .inl (cI, 100, .inl f)
def sX2_init : mm_M := z0
abbrev rX2_init : Room := { frames := 2, cells := 12, slots := 606, locals := 33 }
theorem hyX2_init : yX2_init.cls ≠ "java/lang/invoke/MethodHandle" ∧ yX2_init.cls ≠ "java/lang/invoke/VarHandle" ∧ (parseMethodDescriptor yX2_init.desc).map (fun d => d.parameters.length) = some 0 := by decide +kernel
set_option maxRecDepth 100000 in
set_option maxHeartbeats 4000000 in
theorem nX2_init {l : Launch} {D : va_G} {cI : ClassId} {h0 : Nat} (sz : Nat) : Met l yX2_init wsX2_init rX2_init (gg_P [] D [(cI, .int)] [(h0, .inr (2, [.int 0, .null, .null, .null, .null, .null, .null]))] [.ref h0] sz) (gg_Q D [(h0, .inr (2, [.int 0, .null, .null, .null, .null, .null, .null]))] h0 (ck_2 cI) 13 sX2_init sz) 12 606 (va_A [(h0, .inr (2, [.int 0, .null, .null, .null, .null, .null, .null]))] sz) := by
  refine gg_met (y := yX2_init) (ws := wsX2_init) (rm := rX2_init) (D := D) (tys := [(cI, .int)]) (w0 := [(h0, .inr (2, [.int 0, .null, .null, .null, .null, .null, .null]))]) (mc := 12) (ms := 606) (av := [.ref h0]) (fun sz => gg_Q D [(h0, .inr (2, [.int 0, .null, .null, .null, .null, .null, .null]))] h0 (ck_2 cI) 13 sX2_init sz) (lv := [(0, .ref h0)]) (cc := cX2_init) (maxL := 1) (own := RX2) (by decide +kernel) rfl rfl rfl (Nat.le_of_ble_eq_true rfl) rfl ?_ sz
  intro K hL X hQ
  refine gg_aload_n X dX2_init_0 0 rfl ?_
  refine gg_obj X dX2_init_1 (List.mem_of_getElem? (i := 1) rfl) (List.mem_of_getElem? (i := 2) rfl) (List.mem_of_getElem? (i := 3) rfl) (Nat.le_of_ble_eq_true rfl) (Nat.le_of_ble_eq_true rfl) ?_
  refine gg_aload_n X dX2_init_4 0 rfl ?_
  refine gg_iconst X dX2_init_5 (v := 0) (by decide) ?_
  refine gg_put X (ty := .int) dX2_init_6 0 0 tyX2 tyX2_ok nmX2 rfl rfl (by decide) (fun _ h => (List.mem_cons_of_mem _ (List.mem_append_left _ (List.mem_append_right _ h)))) (List.mem_of_getElem? (i := 4) rfl) rfl rfl (by decide +kernel) rfl rfl (Nat.le_of_ble_eq_true rfl) (ws2 := [(h0, .inr (2, [.int 0, .null, .null, .null, .null, .null, .null]))]) rfl ?_
  refine gg_aload_n X dX2_init_9 0 rfl ?_
  refine gg_new X (ci := 4) (M := 1) (c2 := 1) (s2 := 1) (fs := [.null]) dX2_init_10 tyX4 tyX4_ok rfl (fun _ h => (List.mem_cons_of_mem _ (List.mem_append_right _ h))) (List.mem_of_getElem? (i := 5) rfl) (List.mem_of_getElem? (i := 6) rfl) (List.mem_of_getElem? (i := 7) rfl) (fun j hj => by rcases (show j = 0 by omega) with rfl <;> rfl) rfl rfl (Nat.le_of_ble_eq_true rfl) (Nat.le_of_ble_eq_true rfl) (fun q0 => ?_)
  refine gg_eq (ws2 := [(h0, .inr (2, [.int 0, .null, .null, .null, .null, .null, .null])), (q0, .inr (4, [.null]))]) rfl ?_
  refine gg_dup X dX2_init_13 rfl ?_
  refine gg_bipush X dX2_init_14 (v := 100) (by decide) ?_
  refine gg_call X (nw2 := []) (As := [.int 100]) (rest := [.ref q0, .ref h0]) (cf := (sm_cf cI 100)) (N := 2) (σ := z0) (c2 := 2) (s2 := 101) (wr := [(h0, .inr (2, [.int 0, .null, .null, .null, .null, .null, .null]))]) dX2_init_16 hL (fun sz => nX4_init rfl (by decide) (by decide) sz) gX2_init_X4_init rfl ⟨rfl, rfl⟩ (List.mem_of_getElem? (i := 14) rfl) (List.mem_of_getElem? (i := 15) rfl) (List.mem_of_getElem? (i := 7) rfl) rfl hyX4_init ⟨Nat.le_of_ble_eq_true rfl, Nat.le_of_ble_eq_true rfl⟩ rfl (Nat.le_of_ble_eq_true rfl) (fun w h => by cases h) [0] rfl 1 [0] rfl rfl (by decide) (by decide) rfl rfl (Nat.le_of_ble_eq_true rfl) (Nat.le_of_ble_eq_true rfl) (fun a1 ea1 => ?_)
  subst ea1
  refine gg_eq (ws2 := [(h0, .inr (2, [.int 0, .null, .null, .null, .null, .null, .null])), ((a1 0), .inr (4, [.ref (a1 1)])), ((a1 1), .inl (cI, 100, .inl (fun _ => 0)))]) rfl ?_
  refine gg_putF X (ty := (.object "LinenTunnel$Row")) dX2_init_19 0 1 tyX2 tyX2_ok nmX2 rfl rfl (by decide) (fun _ h => (List.mem_cons_of_mem _ (List.mem_append_left _ (List.mem_append_right _ h)))) (List.mem_of_getElem? (i := 8) rfl) rfl rfl rfl (by decide +kernel) rfl rfl (Nat.le_of_ble_eq_true rfl) (ws2 := [(h0, .inr (2, [.int 0, .ref (a1 0), .null, .null, .null, .null, .null])), ((a1 0), .inr (4, [.ref (a1 1)])), ((a1 1), .inl (cI, 100, .inl (fun _ => 0)))]) rfl ?_
  refine gg_aload_n X dX2_init_22 0 rfl ?_
  refine gg_new X (ci := 4) (M := 1) (c2 := 3) (s2 := 102) (fs := [.null]) dX2_init_23 tyX4 tyX4_ok rfl (fun _ h => (List.mem_cons_of_mem _ (List.mem_append_right _ h))) (List.mem_of_getElem? (i := 5) rfl) (List.mem_of_getElem? (i := 6) rfl) (List.mem_of_getElem? (i := 7) rfl) (fun j hj => by rcases (show j = 0 by omega) with rfl <;> rfl) rfl rfl (Nat.le_of_ble_eq_true rfl) (Nat.le_of_ble_eq_true rfl) (fun q2 => ?_)
  refine gg_eq (ws2 := [(h0, .inr (2, [.int 0, .ref (a1 0), .null, .null, .null, .null, .null])), ((a1 0), .inr (4, [.ref (a1 1)])), ((a1 1), .inl (cI, 100, .inl (fun _ => 0))), (q2, .inr (4, [.null]))]) rfl ?_
  refine gg_dup X dX2_init_26 rfl ?_
  refine gg_bipush X dX2_init_27 (v := 100) (by decide) ?_
  refine gg_call X (nw2 := []) (As := [.int 100]) (rest := [.ref q2, .ref h0]) (cf := (sm_cf cI 100)) (N := 2) (σ := z0) (c2 := 4) (s2 := 202) (wr := [(h0, .inr (2, [.int 0, .ref (a1 0), .null, .null, .null, .null, .null])), ((a1 0), .inr (4, [.ref (a1 1)])), ((a1 1), .inl (cI, 100, .inl (fun _ => 0)))]) dX2_init_29 hL (fun sz => nX4_init rfl (by decide) (by decide) sz) gX2_init_X4_init rfl ⟨rfl, rfl⟩ (List.mem_of_getElem? (i := 14) rfl) (List.mem_of_getElem? (i := 15) rfl) (List.mem_of_getElem? (i := 7) rfl) rfl hyX4_init ⟨Nat.le_of_ble_eq_true rfl, Nat.le_of_ble_eq_true rfl⟩ rfl (Nat.le_of_ble_eq_true rfl) (fun w h => by cases h) [0] rfl 3 [0, 1, 2] rfl rfl (by decide) (by decide) rfl rfl (Nat.le_of_ble_eq_true rfl) (Nat.le_of_ble_eq_true rfl) (fun a3 ea3 => ?_)
  subst ea3
  refine gg_eq (ws2 := [(h0, .inr (2, [.int 0, .ref (a1 0), .null, .null, .null, .null, .null])), ((a1 0), .inr (4, [.ref (a1 1)])), ((a1 1), .inl (cI, 100, .inl (fun _ => 0))), ((a3 0), .inr (4, [.ref (a3 1)])), ((a3 1), .inl (cI, 100, .inl (fun _ => 0)))]) rfl ?_
  refine gg_putF X (ty := (.object "LinenTunnel$Row")) dX2_init_32 0 2 tyX2 tyX2_ok nmX2 rfl rfl (by decide) (fun _ h => (List.mem_cons_of_mem _ (List.mem_append_left _ (List.mem_append_right _ h)))) (List.mem_of_getElem? (i := 9) rfl) rfl rfl rfl (by decide +kernel) rfl rfl (Nat.le_of_ble_eq_true rfl) (ws2 := [(h0, .inr (2, [.int 0, .ref (a1 0), .ref (a3 0), .null, .null, .null, .null])), ((a1 0), .inr (4, [.ref (a1 1)])), ((a1 1), .inl (cI, 100, .inl (fun _ => 0))), ((a3 0), .inr (4, [.ref (a3 1)])), ((a3 1), .inl (cI, 100, .inl (fun _ => 0)))]) rfl ?_
  refine gg_aload_n X dX2_init_35 0 rfl ?_
  refine gg_new X (ci := 4) (M := 1) (c2 := 5) (s2 := 203) (fs := [.null]) dX2_init_36 tyX4 tyX4_ok rfl (fun _ h => (List.mem_cons_of_mem _ (List.mem_append_right _ h))) (List.mem_of_getElem? (i := 5) rfl) (List.mem_of_getElem? (i := 6) rfl) (List.mem_of_getElem? (i := 7) rfl) (fun j hj => by rcases (show j = 0 by omega) with rfl <;> rfl) rfl rfl (Nat.le_of_ble_eq_true rfl) (Nat.le_of_ble_eq_true rfl) (fun q4 => ?_)
  refine gg_eq (ws2 := [(h0, .inr (2, [.int 0, .ref (a1 0), .ref (a3 0), .null, .null, .null, .null])), ((a1 0), .inr (4, [.ref (a1 1)])), ((a1 1), .inl (cI, 100, .inl (fun _ => 0))), ((a3 0), .inr (4, [.ref (a3 1)])), ((a3 1), .inl (cI, 100, .inl (fun _ => 0))), (q4, .inr (4, [.null]))]) rfl ?_
  refine gg_dup X dX2_init_39 rfl ?_
  refine gg_bipush X dX2_init_40 (v := 100) (by decide) ?_
  refine gg_call X (nw2 := []) (As := [.int 100]) (rest := [.ref q4, .ref h0]) (cf := (sm_cf cI 100)) (N := 2) (σ := z0) (c2 := 6) (s2 := 303) (wr := [(h0, .inr (2, [.int 0, .ref (a1 0), .ref (a3 0), .null, .null, .null, .null])), ((a1 0), .inr (4, [.ref (a1 1)])), ((a1 1), .inl (cI, 100, .inl (fun _ => 0))), ((a3 0), .inr (4, [.ref (a3 1)])), ((a3 1), .inl (cI, 100, .inl (fun _ => 0)))]) dX2_init_42 hL (fun sz => nX4_init rfl (by decide) (by decide) sz) gX2_init_X4_init rfl ⟨rfl, rfl⟩ (List.mem_of_getElem? (i := 14) rfl) (List.mem_of_getElem? (i := 15) rfl) (List.mem_of_getElem? (i := 7) rfl) rfl hyX4_init ⟨Nat.le_of_ble_eq_true rfl, Nat.le_of_ble_eq_true rfl⟩ rfl (Nat.le_of_ble_eq_true rfl) (fun w h => by cases h) [0] rfl 5 [0, 1, 2, 3, 4] rfl rfl (by decide) (by decide) rfl rfl (Nat.le_of_ble_eq_true rfl) (Nat.le_of_ble_eq_true rfl) (fun a5 ea5 => ?_)
  subst ea5
  refine gg_eq (ws2 := [(h0, .inr (2, [.int 0, .ref (a1 0), .ref (a3 0), .null, .null, .null, .null])), ((a1 0), .inr (4, [.ref (a1 1)])), ((a1 1), .inl (cI, 100, .inl (fun _ => 0))), ((a3 0), .inr (4, [.ref (a3 1)])), ((a3 1), .inl (cI, 100, .inl (fun _ => 0))), ((a5 0), .inr (4, [.ref (a5 1)])), ((a5 1), .inl (cI, 100, .inl (fun _ => 0)))]) rfl ?_
  refine gg_putF X (ty := (.object "LinenTunnel$Row")) dX2_init_45 0 3 tyX2 tyX2_ok nmX2 rfl rfl (by decide) (fun _ h => (List.mem_cons_of_mem _ (List.mem_append_left _ (List.mem_append_right _ h)))) (List.mem_of_getElem? (i := 10) rfl) rfl rfl rfl (by decide +kernel) rfl rfl (Nat.le_of_ble_eq_true rfl) (ws2 := [(h0, .inr (2, [.int 0, .ref (a1 0), .ref (a3 0), .ref (a5 0), .null, .null, .null])), ((a1 0), .inr (4, [.ref (a1 1)])), ((a1 1), .inl (cI, 100, .inl (fun _ => 0))), ((a3 0), .inr (4, [.ref (a3 1)])), ((a3 1), .inl (cI, 100, .inl (fun _ => 0))), ((a5 0), .inr (4, [.ref (a5 1)])), ((a5 1), .inl (cI, 100, .inl (fun _ => 0)))]) rfl ?_
  refine gg_aload_n X dX2_init_48 0 rfl ?_
  refine gg_new X (ci := 4) (M := 1) (c2 := 7) (s2 := 304) (fs := [.null]) dX2_init_49 tyX4 tyX4_ok rfl (fun _ h => (List.mem_cons_of_mem _ (List.mem_append_right _ h))) (List.mem_of_getElem? (i := 5) rfl) (List.mem_of_getElem? (i := 6) rfl) (List.mem_of_getElem? (i := 7) rfl) (fun j hj => by rcases (show j = 0 by omega) with rfl <;> rfl) rfl rfl (Nat.le_of_ble_eq_true rfl) (Nat.le_of_ble_eq_true rfl) (fun q6 => ?_)
  refine gg_eq (ws2 := [(h0, .inr (2, [.int 0, .ref (a1 0), .ref (a3 0), .ref (a5 0), .null, .null, .null])), ((a1 0), .inr (4, [.ref (a1 1)])), ((a1 1), .inl (cI, 100, .inl (fun _ => 0))), ((a3 0), .inr (4, [.ref (a3 1)])), ((a3 1), .inl (cI, 100, .inl (fun _ => 0))), ((a5 0), .inr (4, [.ref (a5 1)])), ((a5 1), .inl (cI, 100, .inl (fun _ => 0))), (q6, .inr (4, [.null]))]) rfl ?_
  refine gg_dup X dX2_init_52 rfl ?_
  refine gg_bipush X dX2_init_53 (v := 100) (by decide) ?_
  refine gg_call X (nw2 := []) (As := [.int 100]) (rest := [.ref q6, .ref h0]) (cf := (sm_cf cI 100)) (N := 2) (σ := z0) (c2 := 8) (s2 := 404) (wr := [(h0, .inr (2, [.int 0, .ref (a1 0), .ref (a3 0), .ref (a5 0), .null, .null, .null])), ((a1 0), .inr (4, [.ref (a1 1)])), ((a1 1), .inl (cI, 100, .inl (fun _ => 0))), ((a3 0), .inr (4, [.ref (a3 1)])), ((a3 1), .inl (cI, 100, .inl (fun _ => 0))), ((a5 0), .inr (4, [.ref (a5 1)])), ((a5 1), .inl (cI, 100, .inl (fun _ => 0)))]) dX2_init_55 hL (fun sz => nX4_init rfl (by decide) (by decide) sz) gX2_init_X4_init rfl ⟨rfl, rfl⟩ (List.mem_of_getElem? (i := 14) rfl) (List.mem_of_getElem? (i := 15) rfl) (List.mem_of_getElem? (i := 7) rfl) rfl hyX4_init ⟨Nat.le_of_ble_eq_true rfl, Nat.le_of_ble_eq_true rfl⟩ rfl (Nat.le_of_ble_eq_true rfl) (fun w h => by cases h) [0] rfl 7 [0, 1, 2, 3, 4, 5, 6] rfl rfl (by decide) (by decide) rfl rfl (Nat.le_of_ble_eq_true rfl) (Nat.le_of_ble_eq_true rfl) (fun a7 ea7 => ?_)
  subst ea7
  refine gg_eq (ws2 := [(h0, .inr (2, [.int 0, .ref (a1 0), .ref (a3 0), .ref (a5 0), .null, .null, .null])), ((a1 0), .inr (4, [.ref (a1 1)])), ((a1 1), .inl (cI, 100, .inl (fun _ => 0))), ((a3 0), .inr (4, [.ref (a3 1)])), ((a3 1), .inl (cI, 100, .inl (fun _ => 0))), ((a5 0), .inr (4, [.ref (a5 1)])), ((a5 1), .inl (cI, 100, .inl (fun _ => 0))), ((a7 0), .inr (4, [.ref (a7 1)])), ((a7 1), .inl (cI, 100, .inl (fun _ => 0)))]) rfl ?_
  refine gg_putF X (ty := (.object "LinenTunnel$Row")) dX2_init_58 0 4 tyX2 tyX2_ok nmX2 rfl rfl (by decide) (fun _ h => (List.mem_cons_of_mem _ (List.mem_append_left _ (List.mem_append_right _ h)))) (List.mem_of_getElem? (i := 11) rfl) rfl rfl rfl (by decide +kernel) rfl rfl (Nat.le_of_ble_eq_true rfl) (ws2 := [(h0, .inr (2, [.int 0, .ref (a1 0), .ref (a3 0), .ref (a5 0), .ref (a7 0), .null, .null])), ((a1 0), .inr (4, [.ref (a1 1)])), ((a1 1), .inl (cI, 100, .inl (fun _ => 0))), ((a3 0), .inr (4, [.ref (a3 1)])), ((a3 1), .inl (cI, 100, .inl (fun _ => 0))), ((a5 0), .inr (4, [.ref (a5 1)])), ((a5 1), .inl (cI, 100, .inl (fun _ => 0))), ((a7 0), .inr (4, [.ref (a7 1)])), ((a7 1), .inl (cI, 100, .inl (fun _ => 0)))]) rfl ?_
  refine gg_aload_n X dX2_init_61 0 rfl ?_
  refine gg_new X (ci := 4) (M := 1) (c2 := 9) (s2 := 405) (fs := [.null]) dX2_init_62 tyX4 tyX4_ok rfl (fun _ h => (List.mem_cons_of_mem _ (List.mem_append_right _ h))) (List.mem_of_getElem? (i := 5) rfl) (List.mem_of_getElem? (i := 6) rfl) (List.mem_of_getElem? (i := 7) rfl) (fun j hj => by rcases (show j = 0 by omega) with rfl <;> rfl) rfl rfl (Nat.le_of_ble_eq_true rfl) (Nat.le_of_ble_eq_true rfl) (fun q8 => ?_)
  refine gg_eq (ws2 := [(h0, .inr (2, [.int 0, .ref (a1 0), .ref (a3 0), .ref (a5 0), .ref (a7 0), .null, .null])), ((a1 0), .inr (4, [.ref (a1 1)])), ((a1 1), .inl (cI, 100, .inl (fun _ => 0))), ((a3 0), .inr (4, [.ref (a3 1)])), ((a3 1), .inl (cI, 100, .inl (fun _ => 0))), ((a5 0), .inr (4, [.ref (a5 1)])), ((a5 1), .inl (cI, 100, .inl (fun _ => 0))), ((a7 0), .inr (4, [.ref (a7 1)])), ((a7 1), .inl (cI, 100, .inl (fun _ => 0))), (q8, .inr (4, [.null]))]) rfl ?_
  refine gg_dup X dX2_init_65 rfl ?_
  refine gg_bipush X dX2_init_66 (v := 100) (by decide) ?_
  refine gg_call X (nw2 := []) (As := [.int 100]) (rest := [.ref q8, .ref h0]) (cf := (sm_cf cI 100)) (N := 2) (σ := z0) (c2 := 10) (s2 := 505) (wr := [(h0, .inr (2, [.int 0, .ref (a1 0), .ref (a3 0), .ref (a5 0), .ref (a7 0), .null, .null])), ((a1 0), .inr (4, [.ref (a1 1)])), ((a1 1), .inl (cI, 100, .inl (fun _ => 0))), ((a3 0), .inr (4, [.ref (a3 1)])), ((a3 1), .inl (cI, 100, .inl (fun _ => 0))), ((a5 0), .inr (4, [.ref (a5 1)])), ((a5 1), .inl (cI, 100, .inl (fun _ => 0))), ((a7 0), .inr (4, [.ref (a7 1)])), ((a7 1), .inl (cI, 100, .inl (fun _ => 0)))]) dX2_init_68 hL (fun sz => nX4_init rfl (by decide) (by decide) sz) gX2_init_X4_init rfl ⟨rfl, rfl⟩ (List.mem_of_getElem? (i := 14) rfl) (List.mem_of_getElem? (i := 15) rfl) (List.mem_of_getElem? (i := 7) rfl) rfl hyX4_init ⟨Nat.le_of_ble_eq_true rfl, Nat.le_of_ble_eq_true rfl⟩ rfl (Nat.le_of_ble_eq_true rfl) (fun w h => by cases h) [0] rfl 9 [0, 1, 2, 3, 4, 5, 6, 7, 8] rfl rfl (by decide) (by decide) rfl rfl (Nat.le_of_ble_eq_true rfl) (Nat.le_of_ble_eq_true rfl) (fun a9 ea9 => ?_)
  subst ea9
  refine gg_eq (ws2 := [(h0, .inr (2, [.int 0, .ref (a1 0), .ref (a3 0), .ref (a5 0), .ref (a7 0), .null, .null])), ((a1 0), .inr (4, [.ref (a1 1)])), ((a1 1), .inl (cI, 100, .inl (fun _ => 0))), ((a3 0), .inr (4, [.ref (a3 1)])), ((a3 1), .inl (cI, 100, .inl (fun _ => 0))), ((a5 0), .inr (4, [.ref (a5 1)])), ((a5 1), .inl (cI, 100, .inl (fun _ => 0))), ((a7 0), .inr (4, [.ref (a7 1)])), ((a7 1), .inl (cI, 100, .inl (fun _ => 0))), ((a9 0), .inr (4, [.ref (a9 1)])), ((a9 1), .inl (cI, 100, .inl (fun _ => 0)))]) rfl ?_
  refine gg_putF X (ty := (.object "LinenTunnel$Row")) dX2_init_71 0 5 tyX2 tyX2_ok nmX2 rfl rfl (by decide) (fun _ h => (List.mem_cons_of_mem _ (List.mem_append_left _ (List.mem_append_right _ h)))) (List.mem_of_getElem? (i := 12) rfl) rfl rfl rfl (by decide +kernel) rfl rfl (Nat.le_of_ble_eq_true rfl) (ws2 := [(h0, .inr (2, [.int 0, .ref (a1 0), .ref (a3 0), .ref (a5 0), .ref (a7 0), .ref (a9 0), .null])), ((a1 0), .inr (4, [.ref (a1 1)])), ((a1 1), .inl (cI, 100, .inl (fun _ => 0))), ((a3 0), .inr (4, [.ref (a3 1)])), ((a3 1), .inl (cI, 100, .inl (fun _ => 0))), ((a5 0), .inr (4, [.ref (a5 1)])), ((a5 1), .inl (cI, 100, .inl (fun _ => 0))), ((a7 0), .inr (4, [.ref (a7 1)])), ((a7 1), .inl (cI, 100, .inl (fun _ => 0))), ((a9 0), .inr (4, [.ref (a9 1)])), ((a9 1), .inl (cI, 100, .inl (fun _ => 0)))]) rfl ?_
  refine gg_aload_n X dX2_init_74 0 rfl ?_
  refine gg_new X (ci := 4) (M := 1) (c2 := 11) (s2 := 506) (fs := [.null]) dX2_init_75 tyX4 tyX4_ok rfl (fun _ h => (List.mem_cons_of_mem _ (List.mem_append_right _ h))) (List.mem_of_getElem? (i := 5) rfl) (List.mem_of_getElem? (i := 6) rfl) (List.mem_of_getElem? (i := 7) rfl) (fun j hj => by rcases (show j = 0 by omega) with rfl <;> rfl) rfl rfl (Nat.le_of_ble_eq_true rfl) (Nat.le_of_ble_eq_true rfl) (fun q10 => ?_)
  refine gg_eq (ws2 := [(h0, .inr (2, [.int 0, .ref (a1 0), .ref (a3 0), .ref (a5 0), .ref (a7 0), .ref (a9 0), .null])), ((a1 0), .inr (4, [.ref (a1 1)])), ((a1 1), .inl (cI, 100, .inl (fun _ => 0))), ((a3 0), .inr (4, [.ref (a3 1)])), ((a3 1), .inl (cI, 100, .inl (fun _ => 0))), ((a5 0), .inr (4, [.ref (a5 1)])), ((a5 1), .inl (cI, 100, .inl (fun _ => 0))), ((a7 0), .inr (4, [.ref (a7 1)])), ((a7 1), .inl (cI, 100, .inl (fun _ => 0))), ((a9 0), .inr (4, [.ref (a9 1)])), ((a9 1), .inl (cI, 100, .inl (fun _ => 0))), (q10, .inr (4, [.null]))]) rfl ?_
  refine gg_dup X dX2_init_78 rfl ?_
  refine gg_bipush X dX2_init_79 (v := 100) (by decide) ?_
  refine gg_call X (nw2 := []) (As := [.int 100]) (rest := [.ref q10, .ref h0]) (cf := (sm_cf cI 100)) (N := 2) (σ := z0) (c2 := 12) (s2 := 606) (wr := [(h0, .inr (2, [.int 0, .ref (a1 0), .ref (a3 0), .ref (a5 0), .ref (a7 0), .ref (a9 0), .null])), ((a1 0), .inr (4, [.ref (a1 1)])), ((a1 1), .inl (cI, 100, .inl (fun _ => 0))), ((a3 0), .inr (4, [.ref (a3 1)])), ((a3 1), .inl (cI, 100, .inl (fun _ => 0))), ((a5 0), .inr (4, [.ref (a5 1)])), ((a5 1), .inl (cI, 100, .inl (fun _ => 0))), ((a7 0), .inr (4, [.ref (a7 1)])), ((a7 1), .inl (cI, 100, .inl (fun _ => 0))), ((a9 0), .inr (4, [.ref (a9 1)])), ((a9 1), .inl (cI, 100, .inl (fun _ => 0)))]) dX2_init_81 hL (fun sz => nX4_init rfl (by decide) (by decide) sz) gX2_init_X4_init rfl ⟨rfl, rfl⟩ (List.mem_of_getElem? (i := 14) rfl) (List.mem_of_getElem? (i := 15) rfl) (List.mem_of_getElem? (i := 7) rfl) rfl hyX4_init ⟨Nat.le_of_ble_eq_true rfl, Nat.le_of_ble_eq_true rfl⟩ rfl (Nat.le_of_ble_eq_true rfl) (fun w h => by cases h) [0] rfl 11 [0, 1, 2, 3, 4, 5, 6, 7, 8, 9, 10] rfl rfl (by decide) (by decide) rfl rfl (Nat.le_of_ble_eq_true rfl) (Nat.le_of_ble_eq_true rfl) (fun a11 ea11 => ?_)
  subst ea11
  refine gg_eq (ws2 := [(h0, .inr (2, [.int 0, .ref (a1 0), .ref (a3 0), .ref (a5 0), .ref (a7 0), .ref (a9 0), .null])), ((a1 0), .inr (4, [.ref (a1 1)])), ((a1 1), .inl (cI, 100, .inl (fun _ => 0))), ((a3 0), .inr (4, [.ref (a3 1)])), ((a3 1), .inl (cI, 100, .inl (fun _ => 0))), ((a5 0), .inr (4, [.ref (a5 1)])), ((a5 1), .inl (cI, 100, .inl (fun _ => 0))), ((a7 0), .inr (4, [.ref (a7 1)])), ((a7 1), .inl (cI, 100, .inl (fun _ => 0))), ((a9 0), .inr (4, [.ref (a9 1)])), ((a9 1), .inl (cI, 100, .inl (fun _ => 0))), ((a11 0), .inr (4, [.ref (a11 1)])), ((a11 1), .inl (cI, 100, .inl (fun _ => 0)))]) rfl ?_
  refine gg_putF X (ty := (.object "LinenTunnel$Row")) dX2_init_84 0 6 tyX2 tyX2_ok nmX2 rfl rfl (by decide) (fun _ h => (List.mem_cons_of_mem _ (List.mem_append_left _ (List.mem_append_right _ h)))) (List.mem_of_getElem? (i := 13) rfl) rfl rfl rfl (by decide +kernel) rfl rfl (Nat.le_of_ble_eq_true rfl) (ws2 := [(h0, .inr (2, [.int 0, .ref (a1 0), .ref (a3 0), .ref (a5 0), .ref (a7 0), .ref (a9 0), .ref (a11 0)])), ((a1 0), .inr (4, [.ref (a1 1)])), ((a1 1), .inl (cI, 100, .inl (fun _ => 0))), ((a3 0), .inr (4, [.ref (a3 1)])), ((a3 1), .inl (cI, 100, .inl (fun _ => 0))), ((a5 0), .inr (4, [.ref (a5 1)])), ((a5 1), .inl (cI, 100, .inl (fun _ => 0))), ((a7 0), .inr (4, [.ref (a7 1)])), ((a7 1), .inl (cI, 100, .inl (fun _ => 0))), ((a9 0), .inr (4, [.ref (a9 1)])), ((a9 1), .inl (cI, 100, .inl (fun _ => 0))), ((a11 0), .inr (4, [.ref (a11 1)])), ((a11 1), .inl (cI, 100, .inl (fun _ => 0)))]) rfl ?_
  exact gg_ret X dX2_init_87 hQ (fun k => [h0, (a1 0), (a3 0), (a5 0), (a7 0), (a9 0), (a11 0), (a1 1), (a3 1), (a5 1), (a7 1), (a9 1), (a11 1)].getD k 0) rfl [0, 1, 3, 5, 7, 9, 11, 2, 4, 6, 8, 10, 12] (by decide) rfl
def ck_6 (cI : ClassId) (k0 : Nat) : mm_F := fun a k f => match k with
  | 0 => .inr (6, [.ref k0, .int (f 1), .ref (a 1), .ref (a 2), .ref (a 3)])
  | 1 => .inr (4, [.ref (a 4)])
  | 2 => .inr (4, [.ref (a 5)])
  | 3 => .inr (4, [.ref (a 6)])
  | 4 => .inl (cI, 12, .inl f)
  | 5 => .inl (cI, 12, .inl f)
  | _ => .inl (cI, 12, .inl f)
def sX6_init : mm_M := z0
abbrev rX6_init : Room := { frames := 2, cells := 6, slots := 39, locals := 33 }
theorem hyX6_init : yX6_init.cls ≠ "java/lang/invoke/MethodHandle" ∧ yX6_init.cls ≠ "java/lang/invoke/VarHandle" ∧ (parseMethodDescriptor yX6_init.desc).map (fun d => d.parameters.length) = some 1 := by decide +kernel
set_option maxRecDepth 100000 in
set_option maxHeartbeats 4000000 in
theorem nX6_init {l : Launch} {D : va_G} {cI : ClassId} {h0 : Nat} {k0 : Nat} (sz : Nat) : Met l yX6_init wsX6_init rX6_init (gg_P [] D [(cI, .int)] [(h0, .inr (6, [.null, .int 0, .null, .null, .null]))] [.ref h0, .ref k0] sz) (gg_Q D [(h0, .inr (6, [.null, .int 0, .null, .null, .null]))] h0 (ck_6 cI k0) 7 sX6_init sz) 6 39 (va_A [(h0, .inr (6, [.null, .int 0, .null, .null, .null]))] sz) := by
  refine gg_met (y := yX6_init) (ws := wsX6_init) (rm := rX6_init) (D := D) (tys := [(cI, .int)]) (w0 := [(h0, .inr (6, [.null, .int 0, .null, .null, .null]))]) (mc := 6) (ms := 39) (av := [.ref h0, .ref k0]) (fun sz => gg_Q D [(h0, .inr (6, [.null, .int 0, .null, .null, .null]))] h0 (ck_6 cI k0) 7 sX6_init sz) (lv := [(0, .ref h0), (1, .ref k0)]) (cc := cX6_init) (maxL := 2) (own := RX6) (by decide +kernel) rfl rfl rfl (Nat.le_of_ble_eq_true rfl) rfl ?_ sz
  intro K hL X hQ
  refine gg_aload_n X dX6_init_0 0 rfl ?_
  refine gg_obj X dX6_init_1 (List.mem_of_getElem? (i := 1) rfl) (List.mem_of_getElem? (i := 2) rfl) (List.mem_of_getElem? (i := 3) rfl) (Nat.le_of_ble_eq_true rfl) (Nat.le_of_ble_eq_true rfl) ?_
  refine gg_aload_n X dX6_init_4 0 rfl ?_
  refine gg_iconst X dX6_init_5 (v := 0) (by decide) ?_
  refine gg_put X (ty := .int) dX6_init_6 0 1 tyX6 tyX6_ok nmX6 rfl rfl (by decide) (fun _ h => (List.mem_cons_of_mem _ (List.mem_append_left _ (List.mem_append_right _ h)))) (List.mem_of_getElem? (i := 4) rfl) rfl rfl (by decide +kernel) rfl rfl (Nat.le_of_ble_eq_true rfl) (ws2 := [(h0, .inr (6, [.null, .int 0, .null, .null, .null]))]) rfl ?_
  refine gg_aload_n X dX6_init_9 0 rfl ?_
  refine gg_new X (ci := 4) (M := 1) (c2 := 1) (s2 := 1) (fs := [.null]) dX6_init_10 tyX4 tyX4_ok rfl (fun _ h => (List.mem_cons_of_mem _ (List.mem_append_right _ h))) (List.mem_of_getElem? (i := 5) rfl) (List.mem_of_getElem? (i := 6) rfl) (List.mem_of_getElem? (i := 7) rfl) (fun j hj => by rcases (show j = 0 by omega) with rfl <;> rfl) rfl rfl (Nat.le_of_ble_eq_true rfl) (Nat.le_of_ble_eq_true rfl) (fun q0 => ?_)
  refine gg_eq (ws2 := [(h0, .inr (6, [.null, .int 0, .null, .null, .null])), (q0, .inr (4, [.null]))]) rfl ?_
  refine gg_dup X dX6_init_13 rfl ?_
  refine gg_bipush X dX6_init_14 (v := 12) (by decide) ?_
  refine gg_call X (nw2 := []) (As := [.int 12]) (rest := [.ref q0, .ref h0]) (cf := (sm_cf cI 12)) (N := 2) (σ := z0) (c2 := 2) (s2 := 13) (wr := [(h0, .inr (6, [.null, .int 0, .null, .null, .null]))]) dX6_init_16 hL (fun sz => nX4_init rfl (by decide) (by decide) sz) gX6_init_X4_init rfl ⟨rfl, rfl⟩ (List.mem_of_getElem? (i := 12) rfl) (List.mem_of_getElem? (i := 13) rfl) (List.mem_of_getElem? (i := 7) rfl) rfl hyX4_init ⟨Nat.le_of_ble_eq_true rfl, Nat.le_of_ble_eq_true rfl⟩ rfl (Nat.le_of_ble_eq_true rfl) (fun w h => by cases h) [0] rfl 1 [0] rfl rfl (by decide) (by decide) rfl rfl (Nat.le_of_ble_eq_true rfl) (Nat.le_of_ble_eq_true rfl) (fun a1 ea1 => ?_)
  subst ea1
  refine gg_eq (ws2 := [(h0, .inr (6, [.null, .int 0, .null, .null, .null])), ((a1 0), .inr (4, [.ref (a1 1)])), ((a1 1), .inl (cI, 12, .inl (fun _ => 0)))]) rfl ?_
  refine gg_putF X (ty := (.object "LinenTunnel$Row")) dX6_init_19 0 2 tyX6 tyX6_ok nmX6 rfl rfl (by decide) (fun _ h => (List.mem_cons_of_mem _ (List.mem_append_left _ (List.mem_append_right _ h)))) (List.mem_of_getElem? (i := 8) rfl) rfl rfl rfl (by decide +kernel) rfl rfl (Nat.le_of_ble_eq_true rfl) (ws2 := [(h0, .inr (6, [.null, .int 0, .ref (a1 0), .null, .null])), ((a1 0), .inr (4, [.ref (a1 1)])), ((a1 1), .inl (cI, 12, .inl (fun _ => 0)))]) rfl ?_
  refine gg_aload_n X dX6_init_22 0 rfl ?_
  refine gg_new X (ci := 4) (M := 1) (c2 := 3) (s2 := 14) (fs := [.null]) dX6_init_23 tyX4 tyX4_ok rfl (fun _ h => (List.mem_cons_of_mem _ (List.mem_append_right _ h))) (List.mem_of_getElem? (i := 5) rfl) (List.mem_of_getElem? (i := 6) rfl) (List.mem_of_getElem? (i := 7) rfl) (fun j hj => by rcases (show j = 0 by omega) with rfl <;> rfl) rfl rfl (Nat.le_of_ble_eq_true rfl) (Nat.le_of_ble_eq_true rfl) (fun q2 => ?_)
  refine gg_eq (ws2 := [(h0, .inr (6, [.null, .int 0, .ref (a1 0), .null, .null])), ((a1 0), .inr (4, [.ref (a1 1)])), ((a1 1), .inl (cI, 12, .inl (fun _ => 0))), (q2, .inr (4, [.null]))]) rfl ?_
  refine gg_dup X dX6_init_26 rfl ?_
  refine gg_bipush X dX6_init_27 (v := 12) (by decide) ?_
  refine gg_call X (nw2 := []) (As := [.int 12]) (rest := [.ref q2, .ref h0]) (cf := (sm_cf cI 12)) (N := 2) (σ := z0) (c2 := 4) (s2 := 26) (wr := [(h0, .inr (6, [.null, .int 0, .ref (a1 0), .null, .null])), ((a1 0), .inr (4, [.ref (a1 1)])), ((a1 1), .inl (cI, 12, .inl (fun _ => 0)))]) dX6_init_29 hL (fun sz => nX4_init rfl (by decide) (by decide) sz) gX6_init_X4_init rfl ⟨rfl, rfl⟩ (List.mem_of_getElem? (i := 12) rfl) (List.mem_of_getElem? (i := 13) rfl) (List.mem_of_getElem? (i := 7) rfl) rfl hyX4_init ⟨Nat.le_of_ble_eq_true rfl, Nat.le_of_ble_eq_true rfl⟩ rfl (Nat.le_of_ble_eq_true rfl) (fun w h => by cases h) [0] rfl 3 [0, 1, 2] rfl rfl (by decide) (by decide) rfl rfl (Nat.le_of_ble_eq_true rfl) (Nat.le_of_ble_eq_true rfl) (fun a3 ea3 => ?_)
  subst ea3
  refine gg_eq (ws2 := [(h0, .inr (6, [.null, .int 0, .ref (a1 0), .null, .null])), ((a1 0), .inr (4, [.ref (a1 1)])), ((a1 1), .inl (cI, 12, .inl (fun _ => 0))), ((a3 0), .inr (4, [.ref (a3 1)])), ((a3 1), .inl (cI, 12, .inl (fun _ => 0)))]) rfl ?_
  refine gg_putF X (ty := (.object "LinenTunnel$Row")) dX6_init_32 0 3 tyX6 tyX6_ok nmX6 rfl rfl (by decide) (fun _ h => (List.mem_cons_of_mem _ (List.mem_append_left _ (List.mem_append_right _ h)))) (List.mem_of_getElem? (i := 9) rfl) rfl rfl rfl (by decide +kernel) rfl rfl (Nat.le_of_ble_eq_true rfl) (ws2 := [(h0, .inr (6, [.null, .int 0, .ref (a1 0), .ref (a3 0), .null])), ((a1 0), .inr (4, [.ref (a1 1)])), ((a1 1), .inl (cI, 12, .inl (fun _ => 0))), ((a3 0), .inr (4, [.ref (a3 1)])), ((a3 1), .inl (cI, 12, .inl (fun _ => 0)))]) rfl ?_
  refine gg_aload_n X dX6_init_35 0 rfl ?_
  refine gg_new X (ci := 4) (M := 1) (c2 := 5) (s2 := 27) (fs := [.null]) dX6_init_36 tyX4 tyX4_ok rfl (fun _ h => (List.mem_cons_of_mem _ (List.mem_append_right _ h))) (List.mem_of_getElem? (i := 5) rfl) (List.mem_of_getElem? (i := 6) rfl) (List.mem_of_getElem? (i := 7) rfl) (fun j hj => by rcases (show j = 0 by omega) with rfl <;> rfl) rfl rfl (Nat.le_of_ble_eq_true rfl) (Nat.le_of_ble_eq_true rfl) (fun q4 => ?_)
  refine gg_eq (ws2 := [(h0, .inr (6, [.null, .int 0, .ref (a1 0), .ref (a3 0), .null])), ((a1 0), .inr (4, [.ref (a1 1)])), ((a1 1), .inl (cI, 12, .inl (fun _ => 0))), ((a3 0), .inr (4, [.ref (a3 1)])), ((a3 1), .inl (cI, 12, .inl (fun _ => 0))), (q4, .inr (4, [.null]))]) rfl ?_
  refine gg_dup X dX6_init_39 rfl ?_
  refine gg_bipush X dX6_init_40 (v := 12) (by decide) ?_
  refine gg_call X (nw2 := []) (As := [.int 12]) (rest := [.ref q4, .ref h0]) (cf := (sm_cf cI 12)) (N := 2) (σ := z0) (c2 := 6) (s2 := 39) (wr := [(h0, .inr (6, [.null, .int 0, .ref (a1 0), .ref (a3 0), .null])), ((a1 0), .inr (4, [.ref (a1 1)])), ((a1 1), .inl (cI, 12, .inl (fun _ => 0))), ((a3 0), .inr (4, [.ref (a3 1)])), ((a3 1), .inl (cI, 12, .inl (fun _ => 0)))]) dX6_init_42 hL (fun sz => nX4_init rfl (by decide) (by decide) sz) gX6_init_X4_init rfl ⟨rfl, rfl⟩ (List.mem_of_getElem? (i := 12) rfl) (List.mem_of_getElem? (i := 13) rfl) (List.mem_of_getElem? (i := 7) rfl) rfl hyX4_init ⟨Nat.le_of_ble_eq_true rfl, Nat.le_of_ble_eq_true rfl⟩ rfl (Nat.le_of_ble_eq_true rfl) (fun w h => by cases h) [0] rfl 5 [0, 1, 2, 3, 4] rfl rfl (by decide) (by decide) rfl rfl (Nat.le_of_ble_eq_true rfl) (Nat.le_of_ble_eq_true rfl) (fun a5 ea5 => ?_)
  subst ea5
  refine gg_eq (ws2 := [(h0, .inr (6, [.null, .int 0, .ref (a1 0), .ref (a3 0), .null])), ((a1 0), .inr (4, [.ref (a1 1)])), ((a1 1), .inl (cI, 12, .inl (fun _ => 0))), ((a3 0), .inr (4, [.ref (a3 1)])), ((a3 1), .inl (cI, 12, .inl (fun _ => 0))), ((a5 0), .inr (4, [.ref (a5 1)])), ((a5 1), .inl (cI, 12, .inl (fun _ => 0)))]) rfl ?_
  refine gg_putF X (ty := (.object "LinenTunnel$Row")) dX6_init_45 0 4 tyX6 tyX6_ok nmX6 rfl rfl (by decide) (fun _ h => (List.mem_cons_of_mem _ (List.mem_append_left _ (List.mem_append_right _ h)))) (List.mem_of_getElem? (i := 10) rfl) rfl rfl rfl (by decide +kernel) rfl rfl (Nat.le_of_ble_eq_true rfl) (ws2 := [(h0, .inr (6, [.null, .int 0, .ref (a1 0), .ref (a3 0), .ref (a5 0)])), ((a1 0), .inr (4, [.ref (a1 1)])), ((a1 1), .inl (cI, 12, .inl (fun _ => 0))), ((a3 0), .inr (4, [.ref (a3 1)])), ((a3 1), .inl (cI, 12, .inl (fun _ => 0))), ((a5 0), .inr (4, [.ref (a5 1)])), ((a5 1), .inl (cI, 12, .inl (fun _ => 0)))]) rfl ?_
  refine gg_aload_n X dX6_init_48 0 rfl ?_
  refine gg_aload_n X dX6_init_49 1 rfl ?_
  refine gg_putF X (ty := (.object "LinenTunnel$Kinds")) dX6_init_50 0 0 tyX6 tyX6_ok nmX6 rfl rfl (by decide) (fun _ h => (List.mem_cons_of_mem _ (List.mem_append_left _ (List.mem_append_right _ h)))) (List.mem_of_getElem? (i := 11) rfl) rfl rfl rfl (by decide +kernel) rfl rfl (Nat.le_of_ble_eq_true rfl) (ws2 := [(h0, .inr (6, [.ref k0, .int 0, .ref (a1 0), .ref (a3 0), .ref (a5 0)])), ((a1 0), .inr (4, [.ref (a1 1)])), ((a1 1), .inl (cI, 12, .inl (fun _ => 0))), ((a3 0), .inr (4, [.ref (a3 1)])), ((a3 1), .inl (cI, 12, .inl (fun _ => 0))), ((a5 0), .inr (4, [.ref (a5 1)])), ((a5 1), .inl (cI, 12, .inl (fun _ => 0)))]) rfl ?_
  exact gg_ret X dX6_init_53 hQ (fun k => [h0, (a1 0), (a3 0), (a5 0), (a1 1), (a3 1), (a5 1)].getD k 0) rfl [0, 1, 3, 5, 2, 4, 6] (by decide) rfl
def ck_3 (cI : ClassId) (k0 : Nat) : mm_F := fun a k f => match k with
  | 0 => .inr (3, [.ref k0, .ref (a 1), .ref (a 2)])
  | 1 => .inr (4, [.ref (a 3)])
  | 2 => .inr (4, [.ref (a 4)])
  | 3 => .inl (cI, 64, .inl f)
  | _ => .inl (cI, 2048, .inl f)
def sX3_init : mm_M := z0
abbrev rX3_init : Room := { frames := 2, cells := 4, slots := 2114, locals := 33 }
theorem hyX3_init : yX3_init.cls ≠ "java/lang/invoke/MethodHandle" ∧ yX3_init.cls ≠ "java/lang/invoke/VarHandle" ∧ (parseMethodDescriptor yX3_init.desc).map (fun d => d.parameters.length) = some 1 := by decide +kernel
set_option maxRecDepth 100000 in
set_option maxHeartbeats 4000000 in
theorem nX3_init {l : Launch} {D : va_G} {cI : ClassId} {h0 : Nat} {k0 : Nat} (sz : Nat) : Met l yX3_init wsX3_init rX3_init (gg_P [] D [(cI, .int)] [(h0, .inr (3, [.null, .null, .null]))] [.ref h0, .ref k0] sz) (gg_Q D [(h0, .inr (3, [.null, .null, .null]))] h0 (ck_3 cI k0) 5 sX3_init sz) 4 2114 (va_A [(h0, .inr (3, [.null, .null, .null]))] sz) := by
  refine gg_met (y := yX3_init) (ws := wsX3_init) (rm := rX3_init) (D := D) (tys := [(cI, .int)]) (w0 := [(h0, .inr (3, [.null, .null, .null]))]) (mc := 4) (ms := 2114) (av := [.ref h0, .ref k0]) (fun sz => gg_Q D [(h0, .inr (3, [.null, .null, .null]))] h0 (ck_3 cI k0) 5 sX3_init sz) (lv := [(0, .ref h0), (1, .ref k0)]) (cc := cX3_init) (maxL := 2) (own := RX3) (by decide +kernel) rfl rfl rfl (Nat.le_of_ble_eq_true rfl) rfl ?_ sz
  intro K hL X hQ
  refine gg_aload_n X dX3_init_0 0 rfl ?_
  refine gg_obj X dX3_init_1 (List.mem_of_getElem? (i := 1) rfl) (List.mem_of_getElem? (i := 2) rfl) (List.mem_of_getElem? (i := 3) rfl) (Nat.le_of_ble_eq_true rfl) (Nat.le_of_ble_eq_true rfl) ?_
  refine gg_aload_n X dX3_init_4 0 rfl ?_
  refine gg_new X (ci := 4) (M := 1) (c2 := 1) (s2 := 1) (fs := [.null]) dX3_init_5 tyX4 tyX4_ok rfl (fun _ h => (List.mem_cons_of_mem _ (List.mem_append_left _ (List.mem_append_right _ h)))) (List.mem_of_getElem? (i := 4) rfl) (List.mem_of_getElem? (i := 5) rfl) (List.mem_of_getElem? (i := 6) rfl) (fun j hj => by rcases (show j = 0 by omega) with rfl <;> rfl) rfl rfl (Nat.le_of_ble_eq_true rfl) (Nat.le_of_ble_eq_true rfl) (fun q0 => ?_)
  refine gg_eq (ws2 := [(h0, .inr (3, [.null, .null, .null])), (q0, .inr (4, [.null]))]) rfl ?_
  refine gg_dup X dX3_init_8 rfl ?_
  refine gg_bipush X dX3_init_9 (v := 64) (by decide) ?_
  refine gg_call X (nw2 := []) (As := [.int 64]) (rest := [.ref q0, .ref h0]) (cf := (sm_cf cI 64)) (N := 2) (σ := z0) (c2 := 2) (s2 := 65) (wr := [(h0, .inr (3, [.null, .null, .null]))]) dX3_init_11 hL (fun sz => nX4_init rfl (by decide) (by decide) sz) gX3_init_X4_init rfl ⟨rfl, rfl⟩ (List.mem_of_getElem? (i := 10) rfl) (List.mem_of_getElem? (i := 11) rfl) (List.mem_of_getElem? (i := 6) rfl) rfl hyX4_init ⟨Nat.le_of_ble_eq_true rfl, Nat.le_of_ble_eq_true rfl⟩ rfl (Nat.le_of_ble_eq_true rfl) (fun w h => by cases h) [0] rfl 1 [0] rfl rfl (by decide) (by decide) rfl rfl (Nat.le_of_ble_eq_true rfl) (Nat.le_of_ble_eq_true rfl) (fun a1 ea1 => ?_)
  subst ea1
  refine gg_eq (ws2 := [(h0, .inr (3, [.null, .null, .null])), ((a1 0), .inr (4, [.ref (a1 1)])), ((a1 1), .inl (cI, 64, .inl (fun _ => 0)))]) rfl ?_
  refine gg_putF X (ty := (.object "LinenTunnel$Row")) dX3_init_14 0 1 tyX3 tyX3_ok nmX3 rfl rfl (by decide) (fun _ h => (List.mem_cons_of_mem _ (List.mem_append_right _ h))) (List.mem_of_getElem? (i := 7) rfl) rfl rfl rfl (by decide +kernel) rfl rfl (Nat.le_of_ble_eq_true rfl) (ws2 := [(h0, .inr (3, [.null, .ref (a1 0), .null])), ((a1 0), .inr (4, [.ref (a1 1)])), ((a1 1), .inl (cI, 64, .inl (fun _ => 0)))]) rfl ?_
  refine gg_aload_n X dX3_init_17 0 rfl ?_
  refine gg_new X (ci := 4) (M := 1) (c2 := 3) (s2 := 66) (fs := [.null]) dX3_init_18 tyX4 tyX4_ok rfl (fun _ h => (List.mem_cons_of_mem _ (List.mem_append_left _ (List.mem_append_right _ h)))) (List.mem_of_getElem? (i := 4) rfl) (List.mem_of_getElem? (i := 5) rfl) (List.mem_of_getElem? (i := 6) rfl) (fun j hj => by rcases (show j = 0 by omega) with rfl <;> rfl) rfl rfl (Nat.le_of_ble_eq_true rfl) (Nat.le_of_ble_eq_true rfl) (fun q2 => ?_)
  refine gg_eq (ws2 := [(h0, .inr (3, [.null, .ref (a1 0), .null])), ((a1 0), .inr (4, [.ref (a1 1)])), ((a1 1), .inl (cI, 64, .inl (fun _ => 0))), (q2, .inr (4, [.null]))]) rfl ?_
  refine gg_dup X dX3_init_21 rfl ?_
  refine gg_sipush X dX3_init_22 (v := 2048) (by decide) ?_
  refine gg_call X (nw2 := []) (As := [.int 2048]) (rest := [.ref q2, .ref h0]) (cf := (sm_cf cI 2048)) (N := 2) (σ := z0) (c2 := 4) (s2 := 2114) (wr := [(h0, .inr (3, [.null, .ref (a1 0), .null])), ((a1 0), .inr (4, [.ref (a1 1)])), ((a1 1), .inl (cI, 64, .inl (fun _ => 0)))]) dX3_init_25 hL (fun sz => nX4_init rfl (by decide) (by decide) sz) gX3_init_X4_init rfl ⟨rfl, rfl⟩ (List.mem_of_getElem? (i := 10) rfl) (List.mem_of_getElem? (i := 11) rfl) (List.mem_of_getElem? (i := 6) rfl) rfl hyX4_init ⟨Nat.le_of_ble_eq_true rfl, Nat.le_of_ble_eq_true rfl⟩ rfl (Nat.le_of_ble_eq_true rfl) (fun w h => by cases h) [0] rfl 3 [0, 1, 2] rfl rfl (by decide) (by decide) rfl rfl (Nat.le_of_ble_eq_true rfl) (Nat.le_of_ble_eq_true rfl) (fun a3 ea3 => ?_)
  subst ea3
  refine gg_eq (ws2 := [(h0, .inr (3, [.null, .ref (a1 0), .null])), ((a1 0), .inr (4, [.ref (a1 1)])), ((a1 1), .inl (cI, 64, .inl (fun _ => 0))), ((a3 0), .inr (4, [.ref (a3 1)])), ((a3 1), .inl (cI, 2048, .inl (fun _ => 0)))]) rfl ?_
  refine gg_putF X (ty := (.object "LinenTunnel$Row")) dX3_init_28 0 2 tyX3 tyX3_ok nmX3 rfl rfl (by decide) (fun _ h => (List.mem_cons_of_mem _ (List.mem_append_right _ h))) (List.mem_of_getElem? (i := 8) rfl) rfl rfl rfl (by decide +kernel) rfl rfl (Nat.le_of_ble_eq_true rfl) (ws2 := [(h0, .inr (3, [.null, .ref (a1 0), .ref (a3 0)])), ((a1 0), .inr (4, [.ref (a1 1)])), ((a1 1), .inl (cI, 64, .inl (fun _ => 0))), ((a3 0), .inr (4, [.ref (a3 1)])), ((a3 1), .inl (cI, 2048, .inl (fun _ => 0)))]) rfl ?_
  refine gg_aload_n X dX3_init_31 0 rfl ?_
  refine gg_aload_n X dX3_init_32 1 rfl ?_
  refine gg_putF X (ty := (.object "LinenTunnel$Waiting")) dX3_init_33 0 0 tyX3 tyX3_ok nmX3 rfl rfl (by decide) (fun _ h => (List.mem_cons_of_mem _ (List.mem_append_right _ h))) (List.mem_of_getElem? (i := 9) rfl) rfl rfl rfl (by decide +kernel) rfl rfl (Nat.le_of_ble_eq_true rfl) (ws2 := [(h0, .inr (3, [.ref k0, .ref (a1 0), .ref (a3 0)])), ((a1 0), .inr (4, [.ref (a1 1)])), ((a1 1), .inl (cI, 64, .inl (fun _ => 0))), ((a3 0), .inr (4, [.ref (a3 1)])), ((a3 1), .inl (cI, 2048, .inl (fun _ => 0)))]) rfl ?_
  exact gg_ret X dX3_init_36 hQ (fun k => [h0, (a1 0), (a3 0), (a1 1), (a3 1)].getD k 0) rfl [0, 1, 3, 2, 4] (by decide) rfl
def ck_0 (cI : ClassId) (k0 : Nat) (k1 : Nat) : mm_F := fun a k f => match k with
  | 0 => .inr (0, [.ref k0, .ref k1, .int (f 2), .int (f 3), .int (f 4), .int (f 5), .int (f 6), .int (f 7), .int (f 8), .ref (a 1), .ref (a 2), .ref (a 3), .ref (a 4), .ref (a 5), .ref (a 6), .ref (a 7)])
  | 1 => .inr (4, [.ref (a 8)])
  | 2 => .inr (4, [.ref (a 9)])
  | 3 => .inr (4, [.ref (a 10)])
  | 4 => .inr (4, [.ref (a 11)])
  | 5 => .inr (4, [.ref (a 12)])
  | 6 => .inr (4, [.ref (a 13)])
  | 7 => .inr (4, [.ref (a 14)])
  | 8 => .inl (cI, 67, .inl f)
  | 9 => .inl (cI, 10, .inl f)
  | 10 => .inl (cI, 4, .inl f)
  | 11 => .inl (cI, 3, .inl f)
  | 12 => .inl (cI, 12, .inl f)
  | 13 => .inl (cI, 84, .inl f)
  | _ => .inl (cI, 7, .inl f)
def sX0_init : mm_M := fun c j => if c = 0 then (if j = 2 then 4 else if j = 3 then 2 else if j = 4 then 1 else 0) else 0
abbrev rX0_init : Room := { frames := 2, cells := 14, slots := 194, locals := 33 }
theorem hyX0_init : yX0_init.cls ≠ "java/lang/invoke/MethodHandle" ∧ yX0_init.cls ≠ "java/lang/invoke/VarHandle" ∧ (parseMethodDescriptor yX0_init.desc).map (fun d => d.parameters.length) = some 2 := by decide +kernel
set_option maxRecDepth 100000 in
set_option maxHeartbeats 4000000 in
theorem nX0_init {l : Launch} {D : va_G} {cI : ClassId} {h0 : Nat} {k0 : Nat} {k1 : Nat} (sz : Nat) : Met l yX0_init wsX0_init rX0_init (gg_P [] D [(cI, .int)] [(h0, .inr (0, [.null, .null, .int 0, .int 0, .int 0, .int 0, .int 0, .int 0, .int 0, .null, .null, .null, .null, .null, .null, .null]))] [.ref h0, .ref k0, .ref k1] sz) (gg_Q D [(h0, .inr (0, [.null, .null, .int 0, .int 0, .int 0, .int 0, .int 0, .int 0, .int 0, .null, .null, .null, .null, .null, .null, .null]))] h0 (ck_0 cI k0 k1) 15 sX0_init sz) 14 194 (va_A [(h0, .inr (0, [.null, .null, .int 0, .int 0, .int 0, .int 0, .int 0, .int 0, .int 0, .null, .null, .null, .null, .null, .null, .null]))] sz) := by
  refine gg_met (y := yX0_init) (ws := wsX0_init) (rm := rX0_init) (D := D) (tys := [(cI, .int)]) (w0 := [(h0, .inr (0, [.null, .null, .int 0, .int 0, .int 0, .int 0, .int 0, .int 0, .int 0, .null, .null, .null, .null, .null, .null, .null]))]) (mc := 14) (ms := 194) (av := [.ref h0, .ref k0, .ref k1]) (fun sz => gg_Q D [(h0, .inr (0, [.null, .null, .int 0, .int 0, .int 0, .int 0, .int 0, .int 0, .int 0, .null, .null, .null, .null, .null, .null, .null]))] h0 (ck_0 cI k0 k1) 15 sX0_init sz) (lv := [(0, .ref h0), (1, .ref k0), (2, .ref k1)]) (cc := cX0_init) (maxL := 3) (own := RX0) (by decide +kernel) rfl rfl rfl (Nat.le_of_ble_eq_true rfl) rfl ?_ sz
  intro K hL X hQ
  refine gg_aload_n X dX0_init_0 0 rfl ?_
  refine gg_obj X dX0_init_1 (List.mem_of_getElem? (i := 1) rfl) (List.mem_of_getElem? (i := 2) rfl) (List.mem_of_getElem? (i := 3) rfl) (Nat.le_of_ble_eq_true rfl) (Nat.le_of_ble_eq_true rfl) ?_
  refine gg_aload_n X dX0_init_4 0 rfl ?_
  refine gg_iconst X dX0_init_5 (v := 4) (by decide) ?_
  refine gg_put X (ty := .int) dX0_init_6 0 2 tyX0 tyX0_ok nmX0 rfl rfl (by decide) (fun _ h => (List.mem_cons_of_mem _ (List.mem_append_left _ (List.mem_append_right _ h)))) (List.mem_of_getElem? (i := 4) rfl) rfl rfl (by decide +kernel) rfl rfl (Nat.le_of_ble_eq_true rfl) (ws2 := [(h0, .inr (0, [.null, .null, .int 4, .int 0, .int 0, .int 0, .int 0, .int 0, .int 0, .null, .null, .null, .null, .null, .null, .null]))]) rfl ?_
  refine gg_aload_n X dX0_init_9 0 rfl ?_
  refine gg_iconst X dX0_init_10 (v := 2) (by decide) ?_
  refine gg_put X (ty := .int) dX0_init_11 0 3 tyX0 tyX0_ok nmX0 rfl rfl (by decide) (fun _ h => (List.mem_cons_of_mem _ (List.mem_append_left _ (List.mem_append_right _ h)))) (List.mem_of_getElem? (i := 5) rfl) rfl rfl (by decide +kernel) rfl rfl (Nat.le_of_ble_eq_true rfl) (ws2 := [(h0, .inr (0, [.null, .null, .int 4, .int 2, .int 0, .int 0, .int 0, .int 0, .int 0, .null, .null, .null, .null, .null, .null, .null]))]) rfl ?_
  refine gg_aload_n X dX0_init_14 0 rfl ?_
  refine gg_iconst X dX0_init_15 (v := 1) (by decide) ?_
  refine gg_put X (ty := .int) dX0_init_16 0 4 tyX0 tyX0_ok nmX0 rfl rfl (by decide) (fun _ h => (List.mem_cons_of_mem _ (List.mem_append_left _ (List.mem_append_right _ h)))) (List.mem_of_getElem? (i := 6) rfl) rfl rfl (by decide +kernel) rfl rfl (Nat.le_of_ble_eq_true rfl) (ws2 := [(h0, .inr (0, [.null, .null, .int 4, .int 2, .int 1, .int 0, .int 0, .int 0, .int 0, .null, .null, .null, .null, .null, .null, .null]))]) rfl ?_
  refine gg_aload_n X dX0_init_19 0 rfl ?_
  refine gg_iconst X dX0_init_20 (v := 0) (by decide) ?_
  refine gg_put X (ty := .int) dX0_init_21 0 5 tyX0 tyX0_ok nmX0 rfl rfl (by decide) (fun _ h => (List.mem_cons_of_mem _ (List.mem_append_left _ (List.mem_append_right _ h)))) (List.mem_of_getElem? (i := 7) rfl) rfl rfl (by decide +kernel) rfl rfl (Nat.le_of_ble_eq_true rfl) (ws2 := [(h0, .inr (0, [.null, .null, .int 4, .int 2, .int 1, .int 0, .int 0, .int 0, .int 0, .null, .null, .null, .null, .null, .null, .null]))]) rfl ?_
  refine gg_aload_n X dX0_init_24 0 rfl ?_
  refine gg_iconst X dX0_init_25 (v := 0) (by decide) ?_
  refine gg_put X (ty := .int) dX0_init_26 0 6 tyX0 tyX0_ok nmX0 rfl rfl (by decide) (fun _ h => (List.mem_cons_of_mem _ (List.mem_append_left _ (List.mem_append_right _ h)))) (List.mem_of_getElem? (i := 8) rfl) rfl rfl (by decide +kernel) rfl rfl (Nat.le_of_ble_eq_true rfl) (ws2 := [(h0, .inr (0, [.null, .null, .int 4, .int 2, .int 1, .int 0, .int 0, .int 0, .int 0, .null, .null, .null, .null, .null, .null, .null]))]) rfl ?_
  refine gg_aload_n X dX0_init_29 0 rfl ?_
  refine gg_iconst X dX0_init_30 (v := 0) (by decide) ?_
  refine gg_put X (ty := .int) dX0_init_31 0 7 tyX0 tyX0_ok nmX0 rfl rfl (by decide) (fun _ h => (List.mem_cons_of_mem _ (List.mem_append_left _ (List.mem_append_right _ h)))) (List.mem_of_getElem? (i := 9) rfl) rfl rfl (by decide +kernel) rfl rfl (Nat.le_of_ble_eq_true rfl) (ws2 := [(h0, .inr (0, [.null, .null, .int 4, .int 2, .int 1, .int 0, .int 0, .int 0, .int 0, .null, .null, .null, .null, .null, .null, .null]))]) rfl ?_
  refine gg_aload_n X dX0_init_34 0 rfl ?_
  refine gg_iconst X dX0_init_35 (v := 0) (by decide) ?_
  refine gg_put X (ty := .int) dX0_init_36 0 8 tyX0 tyX0_ok nmX0 rfl rfl (by decide) (fun _ h => (List.mem_cons_of_mem _ (List.mem_append_left _ (List.mem_append_right _ h)))) (List.mem_of_getElem? (i := 10) rfl) rfl rfl (by decide +kernel) rfl rfl (Nat.le_of_ble_eq_true rfl) (ws2 := [(h0, .inr (0, [.null, .null, .int 4, .int 2, .int 1, .int 0, .int 0, .int 0, .int 0, .null, .null, .null, .null, .null, .null, .null]))]) rfl ?_
  refine gg_aload_n X dX0_init_39 0 rfl ?_
  refine gg_new X (ci := 4) (M := 1) (c2 := 1) (s2 := 1) (fs := [.null]) dX0_init_40 tyX4 tyX4_ok rfl (fun _ h => (List.mem_cons_of_mem _ (List.mem_append_right _ h))) (List.mem_of_getElem? (i := 11) rfl) (List.mem_of_getElem? (i := 12) rfl) (List.mem_of_getElem? (i := 13) rfl) (fun j hj => by rcases (show j = 0 by omega) with rfl <;> rfl) rfl rfl (Nat.le_of_ble_eq_true rfl) (Nat.le_of_ble_eq_true rfl) (fun q0 => ?_)
  refine gg_eq (ws2 := [(h0, .inr (0, [.null, .null, .int 4, .int 2, .int 1, .int 0, .int 0, .int 0, .int 0, .null, .null, .null, .null, .null, .null, .null])), (q0, .inr (4, [.null]))]) rfl ?_
  refine gg_dup X dX0_init_43 rfl ?_
  refine gg_bipush X dX0_init_44 (v := 67) (by decide) ?_
  refine gg_call X (nw2 := []) (As := [.int 67]) (rest := [.ref q0, .ref h0]) (cf := (sm_cf cI 67)) (N := 2) (σ := z0) (c2 := 2) (s2 := 68) (wr := [(h0, .inr (0, [.null, .null, .int 4, .int 2, .int 1, .int 0, .int 0, .int 0, .int 0, .null, .null, .null, .null, .null, .null, .null]))]) dX0_init_46 hL (fun sz => nX4_init rfl (by decide) (by decide) sz) gX0_init_X4_init rfl ⟨rfl, rfl⟩ (List.mem_of_getElem? (i := 23) rfl) (List.mem_of_getElem? (i := 24) rfl) (List.mem_of_getElem? (i := 13) rfl) rfl hyX4_init ⟨Nat.le_of_ble_eq_true rfl, Nat.le_of_ble_eq_true rfl⟩ rfl (Nat.le_of_ble_eq_true rfl) (fun w h => by cases h) [0] rfl 1 [0] rfl rfl (by decide) (by decide) rfl rfl (Nat.le_of_ble_eq_true rfl) (Nat.le_of_ble_eq_true rfl) (fun a1 ea1 => ?_)
  subst ea1
  refine gg_eq (ws2 := [(h0, .inr (0, [.null, .null, .int 4, .int 2, .int 1, .int 0, .int 0, .int 0, .int 0, .null, .null, .null, .null, .null, .null, .null])), ((a1 0), .inr (4, [.ref (a1 1)])), ((a1 1), .inl (cI, 67, .inl (fun _ => 0)))]) rfl ?_
  refine gg_putF X (ty := (.object "LinenTunnel$Row")) dX0_init_49 0 9 tyX0 tyX0_ok nmX0 rfl rfl (by decide) (fun _ h => (List.mem_cons_of_mem _ (List.mem_append_left _ (List.mem_append_right _ h)))) (List.mem_of_getElem? (i := 14) rfl) rfl rfl rfl (by decide +kernel) rfl rfl (Nat.le_of_ble_eq_true rfl) (ws2 := [(h0, .inr (0, [.null, .null, .int 4, .int 2, .int 1, .int 0, .int 0, .int 0, .int 0, .ref (a1 0), .null, .null, .null, .null, .null, .null])), ((a1 0), .inr (4, [.ref (a1 1)])), ((a1 1), .inl (cI, 67, .inl (fun _ => 0)))]) rfl ?_
  refine gg_aload_n X dX0_init_52 0 rfl ?_
  refine gg_new X (ci := 4) (M := 1) (c2 := 3) (s2 := 69) (fs := [.null]) dX0_init_53 tyX4 tyX4_ok rfl (fun _ h => (List.mem_cons_of_mem _ (List.mem_append_right _ h))) (List.mem_of_getElem? (i := 11) rfl) (List.mem_of_getElem? (i := 12) rfl) (List.mem_of_getElem? (i := 13) rfl) (fun j hj => by rcases (show j = 0 by omega) with rfl <;> rfl) rfl rfl (Nat.le_of_ble_eq_true rfl) (Nat.le_of_ble_eq_true rfl) (fun q2 => ?_)
  refine gg_eq (ws2 := [(h0, .inr (0, [.null, .null, .int 4, .int 2, .int 1, .int 0, .int 0, .int 0, .int 0, .ref (a1 0), .null, .null, .null, .null, .null, .null])), ((a1 0), .inr (4, [.ref (a1 1)])), ((a1 1), .inl (cI, 67, .inl (fun _ => 0))), (q2, .inr (4, [.null]))]) rfl ?_
  refine gg_dup X dX0_init_56 rfl ?_
  refine gg_bipush X dX0_init_57 (v := 10) (by decide) ?_
  refine gg_call X (nw2 := []) (As := [.int 10]) (rest := [.ref q2, .ref h0]) (cf := (sm_cf cI 10)) (N := 2) (σ := z0) (c2 := 4) (s2 := 79) (wr := [(h0, .inr (0, [.null, .null, .int 4, .int 2, .int 1, .int 0, .int 0, .int 0, .int 0, .ref (a1 0), .null, .null, .null, .null, .null, .null])), ((a1 0), .inr (4, [.ref (a1 1)])), ((a1 1), .inl (cI, 67, .inl (fun _ => 0)))]) dX0_init_59 hL (fun sz => nX4_init rfl (by decide) (by decide) sz) gX0_init_X4_init rfl ⟨rfl, rfl⟩ (List.mem_of_getElem? (i := 23) rfl) (List.mem_of_getElem? (i := 24) rfl) (List.mem_of_getElem? (i := 13) rfl) rfl hyX4_init ⟨Nat.le_of_ble_eq_true rfl, Nat.le_of_ble_eq_true rfl⟩ rfl (Nat.le_of_ble_eq_true rfl) (fun w h => by cases h) [0] rfl 3 [0, 1, 2] rfl rfl (by decide) (by decide) rfl rfl (Nat.le_of_ble_eq_true rfl) (Nat.le_of_ble_eq_true rfl) (fun a3 ea3 => ?_)
  subst ea3
  refine gg_eq (ws2 := [(h0, .inr (0, [.null, .null, .int 4, .int 2, .int 1, .int 0, .int 0, .int 0, .int 0, .ref (a1 0), .null, .null, .null, .null, .null, .null])), ((a1 0), .inr (4, [.ref (a1 1)])), ((a1 1), .inl (cI, 67, .inl (fun _ => 0))), ((a3 0), .inr (4, [.ref (a3 1)])), ((a3 1), .inl (cI, 10, .inl (fun _ => 0)))]) rfl ?_
  refine gg_putF X (ty := (.object "LinenTunnel$Row")) dX0_init_62 0 10 tyX0 tyX0_ok nmX0 rfl rfl (by decide) (fun _ h => (List.mem_cons_of_mem _ (List.mem_append_left _ (List.mem_append_right _ h)))) (List.mem_of_getElem? (i := 15) rfl) rfl rfl rfl (by decide +kernel) rfl rfl (Nat.le_of_ble_eq_true rfl) (ws2 := [(h0, .inr (0, [.null, .null, .int 4, .int 2, .int 1, .int 0, .int 0, .int 0, .int 0, .ref (a1 0), .ref (a3 0), .null, .null, .null, .null, .null])), ((a1 0), .inr (4, [.ref (a1 1)])), ((a1 1), .inl (cI, 67, .inl (fun _ => 0))), ((a3 0), .inr (4, [.ref (a3 1)])), ((a3 1), .inl (cI, 10, .inl (fun _ => 0)))]) rfl ?_
  refine gg_aload_n X dX0_init_65 0 rfl ?_
  refine gg_new X (ci := 4) (M := 1) (c2 := 5) (s2 := 80) (fs := [.null]) dX0_init_66 tyX4 tyX4_ok rfl (fun _ h => (List.mem_cons_of_mem _ (List.mem_append_right _ h))) (List.mem_of_getElem? (i := 11) rfl) (List.mem_of_getElem? (i := 12) rfl) (List.mem_of_getElem? (i := 13) rfl) (fun j hj => by rcases (show j = 0 by omega) with rfl <;> rfl) rfl rfl (Nat.le_of_ble_eq_true rfl) (Nat.le_of_ble_eq_true rfl) (fun q4 => ?_)
  refine gg_eq (ws2 := [(h0, .inr (0, [.null, .null, .int 4, .int 2, .int 1, .int 0, .int 0, .int 0, .int 0, .ref (a1 0), .ref (a3 0), .null, .null, .null, .null, .null])), ((a1 0), .inr (4, [.ref (a1 1)])), ((a1 1), .inl (cI, 67, .inl (fun _ => 0))), ((a3 0), .inr (4, [.ref (a3 1)])), ((a3 1), .inl (cI, 10, .inl (fun _ => 0))), (q4, .inr (4, [.null]))]) rfl ?_
  refine gg_dup X dX0_init_69 rfl ?_
  refine gg_iconst X dX0_init_70 (v := 4) (by decide) ?_
  refine gg_call X (nw2 := []) (As := [.int 4]) (rest := [.ref q4, .ref h0]) (cf := (sm_cf cI 4)) (N := 2) (σ := z0) (c2 := 6) (s2 := 84) (wr := [(h0, .inr (0, [.null, .null, .int 4, .int 2, .int 1, .int 0, .int 0, .int 0, .int 0, .ref (a1 0), .ref (a3 0), .null, .null, .null, .null, .null])), ((a1 0), .inr (4, [.ref (a1 1)])), ((a1 1), .inl (cI, 67, .inl (fun _ => 0))), ((a3 0), .inr (4, [.ref (a3 1)])), ((a3 1), .inl (cI, 10, .inl (fun _ => 0)))]) dX0_init_71 hL (fun sz => nX4_init rfl (by decide) (by decide) sz) gX0_init_X4_init rfl ⟨rfl, rfl⟩ (List.mem_of_getElem? (i := 23) rfl) (List.mem_of_getElem? (i := 24) rfl) (List.mem_of_getElem? (i := 13) rfl) rfl hyX4_init ⟨Nat.le_of_ble_eq_true rfl, Nat.le_of_ble_eq_true rfl⟩ rfl (Nat.le_of_ble_eq_true rfl) (fun w h => by cases h) [0] rfl 5 [0, 1, 2, 3, 4] rfl rfl (by decide) (by decide) rfl rfl (Nat.le_of_ble_eq_true rfl) (Nat.le_of_ble_eq_true rfl) (fun a5 ea5 => ?_)
  subst ea5
  refine gg_eq (ws2 := [(h0, .inr (0, [.null, .null, .int 4, .int 2, .int 1, .int 0, .int 0, .int 0, .int 0, .ref (a1 0), .ref (a3 0), .null, .null, .null, .null, .null])), ((a1 0), .inr (4, [.ref (a1 1)])), ((a1 1), .inl (cI, 67, .inl (fun _ => 0))), ((a3 0), .inr (4, [.ref (a3 1)])), ((a3 1), .inl (cI, 10, .inl (fun _ => 0))), ((a5 0), .inr (4, [.ref (a5 1)])), ((a5 1), .inl (cI, 4, .inl (fun _ => 0)))]) rfl ?_
  refine gg_putF X (ty := (.object "LinenTunnel$Row")) dX0_init_74 0 11 tyX0 tyX0_ok nmX0 rfl rfl (by decide) (fun _ h => (List.mem_cons_of_mem _ (List.mem_append_left _ (List.mem_append_right _ h)))) (List.mem_of_getElem? (i := 16) rfl) rfl rfl rfl (by decide +kernel) rfl rfl (Nat.le_of_ble_eq_true rfl) (ws2 := [(h0, .inr (0, [.null, .null, .int 4, .int 2, .int 1, .int 0, .int 0, .int 0, .int 0, .ref (a1 0), .ref (a3 0), .ref (a5 0), .null, .null, .null, .null])), ((a1 0), .inr (4, [.ref (a1 1)])), ((a1 1), .inl (cI, 67, .inl (fun _ => 0))), ((a3 0), .inr (4, [.ref (a3 1)])), ((a3 1), .inl (cI, 10, .inl (fun _ => 0))), ((a5 0), .inr (4, [.ref (a5 1)])), ((a5 1), .inl (cI, 4, .inl (fun _ => 0)))]) rfl ?_
  refine gg_aload_n X dX0_init_77 0 rfl ?_
  refine gg_new X (ci := 4) (M := 1) (c2 := 7) (s2 := 85) (fs := [.null]) dX0_init_78 tyX4 tyX4_ok rfl (fun _ h => (List.mem_cons_of_mem _ (List.mem_append_right _ h))) (List.mem_of_getElem? (i := 11) rfl) (List.mem_of_getElem? (i := 12) rfl) (List.mem_of_getElem? (i := 13) rfl) (fun j hj => by rcases (show j = 0 by omega) with rfl <;> rfl) rfl rfl (Nat.le_of_ble_eq_true rfl) (Nat.le_of_ble_eq_true rfl) (fun q6 => ?_)
  refine gg_eq (ws2 := [(h0, .inr (0, [.null, .null, .int 4, .int 2, .int 1, .int 0, .int 0, .int 0, .int 0, .ref (a1 0), .ref (a3 0), .ref (a5 0), .null, .null, .null, .null])), ((a1 0), .inr (4, [.ref (a1 1)])), ((a1 1), .inl (cI, 67, .inl (fun _ => 0))), ((a3 0), .inr (4, [.ref (a3 1)])), ((a3 1), .inl (cI, 10, .inl (fun _ => 0))), ((a5 0), .inr (4, [.ref (a5 1)])), ((a5 1), .inl (cI, 4, .inl (fun _ => 0))), (q6, .inr (4, [.null]))]) rfl ?_
  refine gg_dup X dX0_init_81 rfl ?_
  refine gg_iconst X dX0_init_82 (v := 3) (by decide) ?_
  refine gg_call X (nw2 := []) (As := [.int 3]) (rest := [.ref q6, .ref h0]) (cf := (sm_cf cI 3)) (N := 2) (σ := z0) (c2 := 8) (s2 := 88) (wr := [(h0, .inr (0, [.null, .null, .int 4, .int 2, .int 1, .int 0, .int 0, .int 0, .int 0, .ref (a1 0), .ref (a3 0), .ref (a5 0), .null, .null, .null, .null])), ((a1 0), .inr (4, [.ref (a1 1)])), ((a1 1), .inl (cI, 67, .inl (fun _ => 0))), ((a3 0), .inr (4, [.ref (a3 1)])), ((a3 1), .inl (cI, 10, .inl (fun _ => 0))), ((a5 0), .inr (4, [.ref (a5 1)])), ((a5 1), .inl (cI, 4, .inl (fun _ => 0)))]) dX0_init_83 hL (fun sz => nX4_init rfl (by decide) (by decide) sz) gX0_init_X4_init rfl ⟨rfl, rfl⟩ (List.mem_of_getElem? (i := 23) rfl) (List.mem_of_getElem? (i := 24) rfl) (List.mem_of_getElem? (i := 13) rfl) rfl hyX4_init ⟨Nat.le_of_ble_eq_true rfl, Nat.le_of_ble_eq_true rfl⟩ rfl (Nat.le_of_ble_eq_true rfl) (fun w h => by cases h) [0] rfl 7 [0, 1, 2, 3, 4, 5, 6] rfl rfl (by decide) (by decide) rfl rfl (Nat.le_of_ble_eq_true rfl) (Nat.le_of_ble_eq_true rfl) (fun a7 ea7 => ?_)
  subst ea7
  refine gg_eq (ws2 := [(h0, .inr (0, [.null, .null, .int 4, .int 2, .int 1, .int 0, .int 0, .int 0, .int 0, .ref (a1 0), .ref (a3 0), .ref (a5 0), .null, .null, .null, .null])), ((a1 0), .inr (4, [.ref (a1 1)])), ((a1 1), .inl (cI, 67, .inl (fun _ => 0))), ((a3 0), .inr (4, [.ref (a3 1)])), ((a3 1), .inl (cI, 10, .inl (fun _ => 0))), ((a5 0), .inr (4, [.ref (a5 1)])), ((a5 1), .inl (cI, 4, .inl (fun _ => 0))), ((a7 0), .inr (4, [.ref (a7 1)])), ((a7 1), .inl (cI, 3, .inl (fun _ => 0)))]) rfl ?_
  refine gg_putF X (ty := (.object "LinenTunnel$Row")) dX0_init_86 0 12 tyX0 tyX0_ok nmX0 rfl rfl (by decide) (fun _ h => (List.mem_cons_of_mem _ (List.mem_append_left _ (List.mem_append_right _ h)))) (List.mem_of_getElem? (i := 17) rfl) rfl rfl rfl (by decide +kernel) rfl rfl (Nat.le_of_ble_eq_true rfl) (ws2 := [(h0, .inr (0, [.null, .null, .int 4, .int 2, .int 1, .int 0, .int 0, .int 0, .int 0, .ref (a1 0), .ref (a3 0), .ref (a5 0), .ref (a7 0), .null, .null, .null])), ((a1 0), .inr (4, [.ref (a1 1)])), ((a1 1), .inl (cI, 67, .inl (fun _ => 0))), ((a3 0), .inr (4, [.ref (a3 1)])), ((a3 1), .inl (cI, 10, .inl (fun _ => 0))), ((a5 0), .inr (4, [.ref (a5 1)])), ((a5 1), .inl (cI, 4, .inl (fun _ => 0))), ((a7 0), .inr (4, [.ref (a7 1)])), ((a7 1), .inl (cI, 3, .inl (fun _ => 0)))]) rfl ?_
  refine gg_aload_n X dX0_init_89 0 rfl ?_
  refine gg_new X (ci := 4) (M := 1) (c2 := 9) (s2 := 89) (fs := [.null]) dX0_init_90 tyX4 tyX4_ok rfl (fun _ h => (List.mem_cons_of_mem _ (List.mem_append_right _ h))) (List.mem_of_getElem? (i := 11) rfl) (List.mem_of_getElem? (i := 12) rfl) (List.mem_of_getElem? (i := 13) rfl) (fun j hj => by rcases (show j = 0 by omega) with rfl <;> rfl) rfl rfl (Nat.le_of_ble_eq_true rfl) (Nat.le_of_ble_eq_true rfl) (fun q8 => ?_)
  refine gg_eq (ws2 := [(h0, .inr (0, [.null, .null, .int 4, .int 2, .int 1, .int 0, .int 0, .int 0, .int 0, .ref (a1 0), .ref (a3 0), .ref (a5 0), .ref (a7 0), .null, .null, .null])), ((a1 0), .inr (4, [.ref (a1 1)])), ((a1 1), .inl (cI, 67, .inl (fun _ => 0))), ((a3 0), .inr (4, [.ref (a3 1)])), ((a3 1), .inl (cI, 10, .inl (fun _ => 0))), ((a5 0), .inr (4, [.ref (a5 1)])), ((a5 1), .inl (cI, 4, .inl (fun _ => 0))), ((a7 0), .inr (4, [.ref (a7 1)])), ((a7 1), .inl (cI, 3, .inl (fun _ => 0))), (q8, .inr (4, [.null]))]) rfl ?_
  refine gg_dup X dX0_init_93 rfl ?_
  refine gg_bipush X dX0_init_94 (v := 12) (by decide) ?_
  refine gg_call X (nw2 := []) (As := [.int 12]) (rest := [.ref q8, .ref h0]) (cf := (sm_cf cI 12)) (N := 2) (σ := z0) (c2 := 10) (s2 := 101) (wr := [(h0, .inr (0, [.null, .null, .int 4, .int 2, .int 1, .int 0, .int 0, .int 0, .int 0, .ref (a1 0), .ref (a3 0), .ref (a5 0), .ref (a7 0), .null, .null, .null])), ((a1 0), .inr (4, [.ref (a1 1)])), ((a1 1), .inl (cI, 67, .inl (fun _ => 0))), ((a3 0), .inr (4, [.ref (a3 1)])), ((a3 1), .inl (cI, 10, .inl (fun _ => 0))), ((a5 0), .inr (4, [.ref (a5 1)])), ((a5 1), .inl (cI, 4, .inl (fun _ => 0))), ((a7 0), .inr (4, [.ref (a7 1)])), ((a7 1), .inl (cI, 3, .inl (fun _ => 0)))]) dX0_init_96 hL (fun sz => nX4_init rfl (by decide) (by decide) sz) gX0_init_X4_init rfl ⟨rfl, rfl⟩ (List.mem_of_getElem? (i := 23) rfl) (List.mem_of_getElem? (i := 24) rfl) (List.mem_of_getElem? (i := 13) rfl) rfl hyX4_init ⟨Nat.le_of_ble_eq_true rfl, Nat.le_of_ble_eq_true rfl⟩ rfl (Nat.le_of_ble_eq_true rfl) (fun w h => by cases h) [0] rfl 9 [0, 1, 2, 3, 4, 5, 6, 7, 8] rfl rfl (by decide) (by decide) rfl rfl (Nat.le_of_ble_eq_true rfl) (Nat.le_of_ble_eq_true rfl) (fun a9 ea9 => ?_)
  subst ea9
  refine gg_eq (ws2 := [(h0, .inr (0, [.null, .null, .int 4, .int 2, .int 1, .int 0, .int 0, .int 0, .int 0, .ref (a1 0), .ref (a3 0), .ref (a5 0), .ref (a7 0), .null, .null, .null])), ((a1 0), .inr (4, [.ref (a1 1)])), ((a1 1), .inl (cI, 67, .inl (fun _ => 0))), ((a3 0), .inr (4, [.ref (a3 1)])), ((a3 1), .inl (cI, 10, .inl (fun _ => 0))), ((a5 0), .inr (4, [.ref (a5 1)])), ((a5 1), .inl (cI, 4, .inl (fun _ => 0))), ((a7 0), .inr (4, [.ref (a7 1)])), ((a7 1), .inl (cI, 3, .inl (fun _ => 0))), ((a9 0), .inr (4, [.ref (a9 1)])), ((a9 1), .inl (cI, 12, .inl (fun _ => 0)))]) rfl ?_
  refine gg_putF X (ty := (.object "LinenTunnel$Row")) dX0_init_99 0 13 tyX0 tyX0_ok nmX0 rfl rfl (by decide) (fun _ h => (List.mem_cons_of_mem _ (List.mem_append_left _ (List.mem_append_right _ h)))) (List.mem_of_getElem? (i := 18) rfl) rfl rfl rfl (by decide +kernel) rfl rfl (Nat.le_of_ble_eq_true rfl) (ws2 := [(h0, .inr (0, [.null, .null, .int 4, .int 2, .int 1, .int 0, .int 0, .int 0, .int 0, .ref (a1 0), .ref (a3 0), .ref (a5 0), .ref (a7 0), .ref (a9 0), .null, .null])), ((a1 0), .inr (4, [.ref (a1 1)])), ((a1 1), .inl (cI, 67, .inl (fun _ => 0))), ((a3 0), .inr (4, [.ref (a3 1)])), ((a3 1), .inl (cI, 10, .inl (fun _ => 0))), ((a5 0), .inr (4, [.ref (a5 1)])), ((a5 1), .inl (cI, 4, .inl (fun _ => 0))), ((a7 0), .inr (4, [.ref (a7 1)])), ((a7 1), .inl (cI, 3, .inl (fun _ => 0))), ((a9 0), .inr (4, [.ref (a9 1)])), ((a9 1), .inl (cI, 12, .inl (fun _ => 0)))]) rfl ?_
  refine gg_aload_n X dX0_init_102 0 rfl ?_
  refine gg_new X (ci := 4) (M := 1) (c2 := 11) (s2 := 102) (fs := [.null]) dX0_init_103 tyX4 tyX4_ok rfl (fun _ h => (List.mem_cons_of_mem _ (List.mem_append_right _ h))) (List.mem_of_getElem? (i := 11) rfl) (List.mem_of_getElem? (i := 12) rfl) (List.mem_of_getElem? (i := 13) rfl) (fun j hj => by rcases (show j = 0 by omega) with rfl <;> rfl) rfl rfl (Nat.le_of_ble_eq_true rfl) (Nat.le_of_ble_eq_true rfl) (fun q10 => ?_)
  refine gg_eq (ws2 := [(h0, .inr (0, [.null, .null, .int 4, .int 2, .int 1, .int 0, .int 0, .int 0, .int 0, .ref (a1 0), .ref (a3 0), .ref (a5 0), .ref (a7 0), .ref (a9 0), .null, .null])), ((a1 0), .inr (4, [.ref (a1 1)])), ((a1 1), .inl (cI, 67, .inl (fun _ => 0))), ((a3 0), .inr (4, [.ref (a3 1)])), ((a3 1), .inl (cI, 10, .inl (fun _ => 0))), ((a5 0), .inr (4, [.ref (a5 1)])), ((a5 1), .inl (cI, 4, .inl (fun _ => 0))), ((a7 0), .inr (4, [.ref (a7 1)])), ((a7 1), .inl (cI, 3, .inl (fun _ => 0))), ((a9 0), .inr (4, [.ref (a9 1)])), ((a9 1), .inl (cI, 12, .inl (fun _ => 0))), (q10, .inr (4, [.null]))]) rfl ?_
  refine gg_dup X dX0_init_106 rfl ?_
  refine gg_bipush X dX0_init_107 (v := 84) (by decide) ?_
  refine gg_call X (nw2 := []) (As := [.int 84]) (rest := [.ref q10, .ref h0]) (cf := (sm_cf cI 84)) (N := 2) (σ := z0) (c2 := 12) (s2 := 186) (wr := [(h0, .inr (0, [.null, .null, .int 4, .int 2, .int 1, .int 0, .int 0, .int 0, .int 0, .ref (a1 0), .ref (a3 0), .ref (a5 0), .ref (a7 0), .ref (a9 0), .null, .null])), ((a1 0), .inr (4, [.ref (a1 1)])), ((a1 1), .inl (cI, 67, .inl (fun _ => 0))), ((a3 0), .inr (4, [.ref (a3 1)])), ((a3 1), .inl (cI, 10, .inl (fun _ => 0))), ((a5 0), .inr (4, [.ref (a5 1)])), ((a5 1), .inl (cI, 4, .inl (fun _ => 0))), ((a7 0), .inr (4, [.ref (a7 1)])), ((a7 1), .inl (cI, 3, .inl (fun _ => 0))), ((a9 0), .inr (4, [.ref (a9 1)])), ((a9 1), .inl (cI, 12, .inl (fun _ => 0)))]) dX0_init_109 hL (fun sz => nX4_init rfl (by decide) (by decide) sz) gX0_init_X4_init rfl ⟨rfl, rfl⟩ (List.mem_of_getElem? (i := 23) rfl) (List.mem_of_getElem? (i := 24) rfl) (List.mem_of_getElem? (i := 13) rfl) rfl hyX4_init ⟨Nat.le_of_ble_eq_true rfl, Nat.le_of_ble_eq_true rfl⟩ rfl (Nat.le_of_ble_eq_true rfl) (fun w h => by cases h) [0] rfl 11 [0, 1, 2, 3, 4, 5, 6, 7, 8, 9, 10] rfl rfl (by decide) (by decide) rfl rfl (Nat.le_of_ble_eq_true rfl) (Nat.le_of_ble_eq_true rfl) (fun a11 ea11 => ?_)
  subst ea11
  refine gg_eq (ws2 := [(h0, .inr (0, [.null, .null, .int 4, .int 2, .int 1, .int 0, .int 0, .int 0, .int 0, .ref (a1 0), .ref (a3 0), .ref (a5 0), .ref (a7 0), .ref (a9 0), .null, .null])), ((a1 0), .inr (4, [.ref (a1 1)])), ((a1 1), .inl (cI, 67, .inl (fun _ => 0))), ((a3 0), .inr (4, [.ref (a3 1)])), ((a3 1), .inl (cI, 10, .inl (fun _ => 0))), ((a5 0), .inr (4, [.ref (a5 1)])), ((a5 1), .inl (cI, 4, .inl (fun _ => 0))), ((a7 0), .inr (4, [.ref (a7 1)])), ((a7 1), .inl (cI, 3, .inl (fun _ => 0))), ((a9 0), .inr (4, [.ref (a9 1)])), ((a9 1), .inl (cI, 12, .inl (fun _ => 0))), ((a11 0), .inr (4, [.ref (a11 1)])), ((a11 1), .inl (cI, 84, .inl (fun _ => 0)))]) rfl ?_
  refine gg_putF X (ty := (.object "LinenTunnel$Row")) dX0_init_112 0 14 tyX0 tyX0_ok nmX0 rfl rfl (by decide) (fun _ h => (List.mem_cons_of_mem _ (List.mem_append_left _ (List.mem_append_right _ h)))) (List.mem_of_getElem? (i := 19) rfl) rfl rfl rfl (by decide +kernel) rfl rfl (Nat.le_of_ble_eq_true rfl) (ws2 := [(h0, .inr (0, [.null, .null, .int 4, .int 2, .int 1, .int 0, .int 0, .int 0, .int 0, .ref (a1 0), .ref (a3 0), .ref (a5 0), .ref (a7 0), .ref (a9 0), .ref (a11 0), .null])), ((a1 0), .inr (4, [.ref (a1 1)])), ((a1 1), .inl (cI, 67, .inl (fun _ => 0))), ((a3 0), .inr (4, [.ref (a3 1)])), ((a3 1), .inl (cI, 10, .inl (fun _ => 0))), ((a5 0), .inr (4, [.ref (a5 1)])), ((a5 1), .inl (cI, 4, .inl (fun _ => 0))), ((a7 0), .inr (4, [.ref (a7 1)])), ((a7 1), .inl (cI, 3, .inl (fun _ => 0))), ((a9 0), .inr (4, [.ref (a9 1)])), ((a9 1), .inl (cI, 12, .inl (fun _ => 0))), ((a11 0), .inr (4, [.ref (a11 1)])), ((a11 1), .inl (cI, 84, .inl (fun _ => 0)))]) rfl ?_
  refine gg_aload_n X dX0_init_115 0 rfl ?_
  refine gg_new X (ci := 4) (M := 1) (c2 := 13) (s2 := 187) (fs := [.null]) dX0_init_116 tyX4 tyX4_ok rfl (fun _ h => (List.mem_cons_of_mem _ (List.mem_append_right _ h))) (List.mem_of_getElem? (i := 11) rfl) (List.mem_of_getElem? (i := 12) rfl) (List.mem_of_getElem? (i := 13) rfl) (fun j hj => by rcases (show j = 0 by omega) with rfl <;> rfl) rfl rfl (Nat.le_of_ble_eq_true rfl) (Nat.le_of_ble_eq_true rfl) (fun q12 => ?_)
  refine gg_eq (ws2 := [(h0, .inr (0, [.null, .null, .int 4, .int 2, .int 1, .int 0, .int 0, .int 0, .int 0, .ref (a1 0), .ref (a3 0), .ref (a5 0), .ref (a7 0), .ref (a9 0), .ref (a11 0), .null])), ((a1 0), .inr (4, [.ref (a1 1)])), ((a1 1), .inl (cI, 67, .inl (fun _ => 0))), ((a3 0), .inr (4, [.ref (a3 1)])), ((a3 1), .inl (cI, 10, .inl (fun _ => 0))), ((a5 0), .inr (4, [.ref (a5 1)])), ((a5 1), .inl (cI, 4, .inl (fun _ => 0))), ((a7 0), .inr (4, [.ref (a7 1)])), ((a7 1), .inl (cI, 3, .inl (fun _ => 0))), ((a9 0), .inr (4, [.ref (a9 1)])), ((a9 1), .inl (cI, 12, .inl (fun _ => 0))), ((a11 0), .inr (4, [.ref (a11 1)])), ((a11 1), .inl (cI, 84, .inl (fun _ => 0))), (q12, .inr (4, [.null]))]) rfl ?_
  refine gg_dup X dX0_init_119 rfl ?_
  refine gg_bipush X dX0_init_120 (v := 7) (by decide) ?_
  refine gg_call X (nw2 := []) (As := [.int 7]) (rest := [.ref q12, .ref h0]) (cf := (sm_cf cI 7)) (N := 2) (σ := z0) (c2 := 14) (s2 := 194) (wr := [(h0, .inr (0, [.null, .null, .int 4, .int 2, .int 1, .int 0, .int 0, .int 0, .int 0, .ref (a1 0), .ref (a3 0), .ref (a5 0), .ref (a7 0), .ref (a9 0), .ref (a11 0), .null])), ((a1 0), .inr (4, [.ref (a1 1)])), ((a1 1), .inl (cI, 67, .inl (fun _ => 0))), ((a3 0), .inr (4, [.ref (a3 1)])), ((a3 1), .inl (cI, 10, .inl (fun _ => 0))), ((a5 0), .inr (4, [.ref (a5 1)])), ((a5 1), .inl (cI, 4, .inl (fun _ => 0))), ((a7 0), .inr (4, [.ref (a7 1)])), ((a7 1), .inl (cI, 3, .inl (fun _ => 0))), ((a9 0), .inr (4, [.ref (a9 1)])), ((a9 1), .inl (cI, 12, .inl (fun _ => 0))), ((a11 0), .inr (4, [.ref (a11 1)])), ((a11 1), .inl (cI, 84, .inl (fun _ => 0)))]) dX0_init_122 hL (fun sz => nX4_init rfl (by decide) (by decide) sz) gX0_init_X4_init rfl ⟨rfl, rfl⟩ (List.mem_of_getElem? (i := 23) rfl) (List.mem_of_getElem? (i := 24) rfl) (List.mem_of_getElem? (i := 13) rfl) rfl hyX4_init ⟨Nat.le_of_ble_eq_true rfl, Nat.le_of_ble_eq_true rfl⟩ rfl (Nat.le_of_ble_eq_true rfl) (fun w h => by cases h) [0] rfl 13 [0, 1, 2, 3, 4, 5, 6, 7, 8, 9, 10, 11, 12] rfl rfl (by decide) (by decide) rfl rfl (Nat.le_of_ble_eq_true rfl) (Nat.le_of_ble_eq_true rfl) (fun a13 ea13 => ?_)
  subst ea13
  refine gg_eq (ws2 := [(h0, .inr (0, [.null, .null, .int 4, .int 2, .int 1, .int 0, .int 0, .int 0, .int 0, .ref (a1 0), .ref (a3 0), .ref (a5 0), .ref (a7 0), .ref (a9 0), .ref (a11 0), .null])), ((a1 0), .inr (4, [.ref (a1 1)])), ((a1 1), .inl (cI, 67, .inl (fun _ => 0))), ((a3 0), .inr (4, [.ref (a3 1)])), ((a3 1), .inl (cI, 10, .inl (fun _ => 0))), ((a5 0), .inr (4, [.ref (a5 1)])), ((a5 1), .inl (cI, 4, .inl (fun _ => 0))), ((a7 0), .inr (4, [.ref (a7 1)])), ((a7 1), .inl (cI, 3, .inl (fun _ => 0))), ((a9 0), .inr (4, [.ref (a9 1)])), ((a9 1), .inl (cI, 12, .inl (fun _ => 0))), ((a11 0), .inr (4, [.ref (a11 1)])), ((a11 1), .inl (cI, 84, .inl (fun _ => 0))), ((a13 0), .inr (4, [.ref (a13 1)])), ((a13 1), .inl (cI, 7, .inl (fun _ => 0)))]) rfl ?_
  refine gg_putF X (ty := (.object "LinenTunnel$Row")) dX0_init_125 0 15 tyX0 tyX0_ok nmX0 rfl rfl (by decide) (fun _ h => (List.mem_cons_of_mem _ (List.mem_append_left _ (List.mem_append_right _ h)))) (List.mem_of_getElem? (i := 20) rfl) rfl rfl rfl (by decide +kernel) rfl rfl (Nat.le_of_ble_eq_true rfl) (ws2 := [(h0, .inr (0, [.null, .null, .int 4, .int 2, .int 1, .int 0, .int 0, .int 0, .int 0, .ref (a1 0), .ref (a3 0), .ref (a5 0), .ref (a7 0), .ref (a9 0), .ref (a11 0), .ref (a13 0)])), ((a1 0), .inr (4, [.ref (a1 1)])), ((a1 1), .inl (cI, 67, .inl (fun _ => 0))), ((a3 0), .inr (4, [.ref (a3 1)])), ((a3 1), .inl (cI, 10, .inl (fun _ => 0))), ((a5 0), .inr (4, [.ref (a5 1)])), ((a5 1), .inl (cI, 4, .inl (fun _ => 0))), ((a7 0), .inr (4, [.ref (a7 1)])), ((a7 1), .inl (cI, 3, .inl (fun _ => 0))), ((a9 0), .inr (4, [.ref (a9 1)])), ((a9 1), .inl (cI, 12, .inl (fun _ => 0))), ((a11 0), .inr (4, [.ref (a11 1)])), ((a11 1), .inl (cI, 84, .inl (fun _ => 0))), ((a13 0), .inr (4, [.ref (a13 1)])), ((a13 1), .inl (cI, 7, .inl (fun _ => 0)))]) rfl ?_
  refine gg_aload_n X dX0_init_128 0 rfl ?_
  refine gg_aload_n X dX0_init_129 1 rfl ?_
  refine gg_putF X (ty := (.object "LinenTunnel$Kinds")) dX0_init_130 0 0 tyX0 tyX0_ok nmX0 rfl rfl (by decide) (fun _ h => (List.mem_cons_of_mem _ (List.mem_append_left _ (List.mem_append_right _ h)))) (List.mem_of_getElem? (i := 21) rfl) rfl rfl rfl (by decide +kernel) rfl rfl (Nat.le_of_ble_eq_true rfl) (ws2 := [(h0, .inr (0, [.ref k0, .null, .int 4, .int 2, .int 1, .int 0, .int 0, .int 0, .int 0, .ref (a1 0), .ref (a3 0), .ref (a5 0), .ref (a7 0), .ref (a9 0), .ref (a11 0), .ref (a13 0)])), ((a1 0), .inr (4, [.ref (a1 1)])), ((a1 1), .inl (cI, 67, .inl (fun _ => 0))), ((a3 0), .inr (4, [.ref (a3 1)])), ((a3 1), .inl (cI, 10, .inl (fun _ => 0))), ((a5 0), .inr (4, [.ref (a5 1)])), ((a5 1), .inl (cI, 4, .inl (fun _ => 0))), ((a7 0), .inr (4, [.ref (a7 1)])), ((a7 1), .inl (cI, 3, .inl (fun _ => 0))), ((a9 0), .inr (4, [.ref (a9 1)])), ((a9 1), .inl (cI, 12, .inl (fun _ => 0))), ((a11 0), .inr (4, [.ref (a11 1)])), ((a11 1), .inl (cI, 84, .inl (fun _ => 0))), ((a13 0), .inr (4, [.ref (a13 1)])), ((a13 1), .inl (cI, 7, .inl (fun _ => 0)))]) rfl ?_
  refine gg_aload_n X dX0_init_133 0 rfl ?_
  refine gg_aload_n X dX0_init_134 2 rfl ?_
  refine gg_putF X (ty := (.object "LinenTunnel$Waiting")) dX0_init_135 0 1 tyX0 tyX0_ok nmX0 rfl rfl (by decide) (fun _ h => (List.mem_cons_of_mem _ (List.mem_append_left _ (List.mem_append_right _ h)))) (List.mem_of_getElem? (i := 22) rfl) rfl rfl rfl (by decide +kernel) rfl rfl (Nat.le_of_ble_eq_true rfl) (ws2 := [(h0, .inr (0, [.ref k0, .ref k1, .int 4, .int 2, .int 1, .int 0, .int 0, .int 0, .int 0, .ref (a1 0), .ref (a3 0), .ref (a5 0), .ref (a7 0), .ref (a9 0), .ref (a11 0), .ref (a13 0)])), ((a1 0), .inr (4, [.ref (a1 1)])), ((a1 1), .inl (cI, 67, .inl (fun _ => 0))), ((a3 0), .inr (4, [.ref (a3 1)])), ((a3 1), .inl (cI, 10, .inl (fun _ => 0))), ((a5 0), .inr (4, [.ref (a5 1)])), ((a5 1), .inl (cI, 4, .inl (fun _ => 0))), ((a7 0), .inr (4, [.ref (a7 1)])), ((a7 1), .inl (cI, 3, .inl (fun _ => 0))), ((a9 0), .inr (4, [.ref (a9 1)])), ((a9 1), .inl (cI, 12, .inl (fun _ => 0))), ((a11 0), .inr (4, [.ref (a11 1)])), ((a11 1), .inl (cI, 84, .inl (fun _ => 0))), ((a13 0), .inr (4, [.ref (a13 1)])), ((a13 1), .inl (cI, 7, .inl (fun _ => 0)))]) rfl ?_
  exact gg_ret X dX0_init_138 hQ (fun k => [h0, (a1 0), (a3 0), (a5 0), (a7 0), (a9 0), (a11 0), (a13 0), (a1 1), (a3 1), (a5 1), (a7 1), (a9 1), (a11 1), (a13 1)].getD k 0) rfl [0, 1, 3, 5, 7, 9, 11, 13, 2, 4, 6, 8, 10, 12, 14] (by decide) rfl
def ck_5 (cI : ClassId) : mm_F := fun a k f => match k with
  | 0 => .inr (5, [.ref (a 1), .ref (a 2), .ref (a 3)])
  | 1 => .inr (4, [.ref (a 4)])
  | 2 => .inr (4, [.ref (a 5)])
  | 3 => .inr (4, [.ref (a 6)])
  | 4 => .inl (cI, 4, .inl f)
  | 5 => .inl (cI, 4, .inl f)
  | _ => .inl (cI, 240, .inl f)
def sX5_init : mm_M := fun c j => if c = 4 then (if j < 4 then -1 else 0) else 0
abbrev rX5_init : Room := { frames := 2, cells := 6, slots := 251, locals := 33 }
theorem hyX5_init : yX5_init.cls ≠ "java/lang/invoke/MethodHandle" ∧ yX5_init.cls ≠ "java/lang/invoke/VarHandle" ∧ (parseMethodDescriptor yX5_init.desc).map (fun d => d.parameters.length) = some 0 := by decide +kernel
set_option maxRecDepth 100000 in
set_option maxHeartbeats 4000000 in
theorem nX5_init {l : Launch} {D : va_G} {cI : ClassId} {h0 : Nat} (sz : Nat) : Met l yX5_init wsX5_init rX5_init (gg_P [] D [(cI, .int)] [(h0, .inr (5, [.null, .null, .null]))] [.ref h0] sz) (gg_Q D [(h0, .inr (5, [.null, .null, .null]))] h0 (ck_5 cI) 7 sX5_init sz) 6 251 (va_A [(h0, .inr (5, [.null, .null, .null]))] sz) := by
  refine gg_met (y := yX5_init) (ws := wsX5_init) (rm := rX5_init) (D := D) (tys := [(cI, .int)]) (w0 := [(h0, .inr (5, [.null, .null, .null]))]) (mc := 6) (ms := 251) (av := [.ref h0]) (fun sz => gg_Q D [(h0, .inr (5, [.null, .null, .null]))] h0 (ck_5 cI) 7 sX5_init sz) (lv := [(0, .ref h0)]) (cc := cX5_init) (maxL := 1) (own := RX5) (by decide +kernel) rfl rfl rfl (Nat.le_of_ble_eq_true rfl) rfl ?_ sz
  intro K hL X hQ
  refine gg_aload_n X dX5_init_0 0 rfl ?_
  refine gg_obj X dX5_init_1 (List.mem_of_getElem? (i := 1) rfl) (List.mem_of_getElem? (i := 2) rfl) (List.mem_of_getElem? (i := 3) rfl) (Nat.le_of_ble_eq_true rfl) (Nat.le_of_ble_eq_true rfl) ?_
  refine gg_aload_n X dX5_init_4 0 rfl ?_
  refine gg_new X (ci := 4) (M := 1) (c2 := 1) (s2 := 1) (fs := [.null]) dX5_init_5 tyX4 tyX4_ok rfl (fun _ h => (List.mem_cons_of_mem _ (List.mem_append_left _ (List.mem_append_right _ h)))) (List.mem_of_getElem? (i := 4) rfl) (List.mem_of_getElem? (i := 5) rfl) (List.mem_of_getElem? (i := 6) rfl) (fun j hj => by rcases (show j = 0 by omega) with rfl <;> rfl) rfl rfl (Nat.le_of_ble_eq_true rfl) (Nat.le_of_ble_eq_true rfl) (fun q0 => ?_)
  refine gg_eq (ws2 := [(h0, .inr (5, [.null, .null, .null])), (q0, .inr (4, [.null]))]) rfl ?_
  refine gg_dup X dX5_init_8 rfl ?_
  refine gg_iconst X dX5_init_9 (v := 4) (by decide) ?_
  refine gg_call X (nw2 := []) (As := [.int 4]) (rest := [.ref q0, .ref h0]) (cf := (sm_cf cI 4)) (N := 2) (σ := z0) (c2 := 2) (s2 := 5) (wr := [(h0, .inr (5, [.null, .null, .null]))]) dX5_init_10 hL (fun sz => nX4_init rfl (by decide) (by decide) sz) gX5_init_X4_init rfl ⟨rfl, rfl⟩ (List.mem_of_getElem? (i := 10) rfl) (List.mem_of_getElem? (i := 11) rfl) (List.mem_of_getElem? (i := 6) rfl) rfl hyX4_init ⟨Nat.le_of_ble_eq_true rfl, Nat.le_of_ble_eq_true rfl⟩ rfl (Nat.le_of_ble_eq_true rfl) (fun w h => by cases h) [0] rfl 1 [0] rfl rfl (by decide) (by decide) rfl rfl (Nat.le_of_ble_eq_true rfl) (Nat.le_of_ble_eq_true rfl) (fun a1 ea1 => ?_)
  subst ea1
  refine gg_eq (ws2 := [(h0, .inr (5, [.null, .null, .null])), ((a1 0), .inr (4, [.ref (a1 1)])), ((a1 1), .inl (cI, 4, .inl (fun _ => 0)))]) rfl ?_
  refine gg_putF X (ty := (.object "LinenTunnel$Row")) dX5_init_13 0 0 tyX5 tyX5_ok nmX5 rfl rfl (by decide) (fun _ h => (List.mem_cons_of_mem _ (List.mem_append_right _ h))) (List.mem_of_getElem? (i := 7) rfl) rfl rfl rfl (by decide +kernel) rfl rfl (Nat.le_of_ble_eq_true rfl) (ws2 := [(h0, .inr (5, [.ref (a1 0), .null, .null])), ((a1 0), .inr (4, [.ref (a1 1)])), ((a1 1), .inl (cI, 4, .inl (fun _ => 0)))]) rfl ?_
  refine gg_aload_n X dX5_init_16 0 rfl ?_
  refine gg_new X (ci := 4) (M := 1) (c2 := 3) (s2 := 6) (fs := [.null]) dX5_init_17 tyX4 tyX4_ok rfl (fun _ h => (List.mem_cons_of_mem _ (List.mem_append_left _ (List.mem_append_right _ h)))) (List.mem_of_getElem? (i := 4) rfl) (List.mem_of_getElem? (i := 5) rfl) (List.mem_of_getElem? (i := 6) rfl) (fun j hj => by rcases (show j = 0 by omega) with rfl <;> rfl) rfl rfl (Nat.le_of_ble_eq_true rfl) (Nat.le_of_ble_eq_true rfl) (fun q2 => ?_)
  refine gg_eq (ws2 := [(h0, .inr (5, [.ref (a1 0), .null, .null])), ((a1 0), .inr (4, [.ref (a1 1)])), ((a1 1), .inl (cI, 4, .inl (fun _ => 0))), (q2, .inr (4, [.null]))]) rfl ?_
  refine gg_dup X dX5_init_20 rfl ?_
  refine gg_iconst X dX5_init_21 (v := 4) (by decide) ?_
  refine gg_call X (nw2 := []) (As := [.int 4]) (rest := [.ref q2, .ref h0]) (cf := (sm_cf cI 4)) (N := 2) (σ := z0) (c2 := 4) (s2 := 10) (wr := [(h0, .inr (5, [.ref (a1 0), .null, .null])), ((a1 0), .inr (4, [.ref (a1 1)])), ((a1 1), .inl (cI, 4, .inl (fun _ => 0)))]) dX5_init_22 hL (fun sz => nX4_init rfl (by decide) (by decide) sz) gX5_init_X4_init rfl ⟨rfl, rfl⟩ (List.mem_of_getElem? (i := 10) rfl) (List.mem_of_getElem? (i := 11) rfl) (List.mem_of_getElem? (i := 6) rfl) rfl hyX4_init ⟨Nat.le_of_ble_eq_true rfl, Nat.le_of_ble_eq_true rfl⟩ rfl (Nat.le_of_ble_eq_true rfl) (fun w h => by cases h) [0] rfl 3 [0, 1, 2] rfl rfl (by decide) (by decide) rfl rfl (Nat.le_of_ble_eq_true rfl) (Nat.le_of_ble_eq_true rfl) (fun a3 ea3 => ?_)
  subst ea3
  refine gg_eq (ws2 := [(h0, .inr (5, [.ref (a1 0), .null, .null])), ((a1 0), .inr (4, [.ref (a1 1)])), ((a1 1), .inl (cI, 4, .inl (fun _ => 0))), ((a3 0), .inr (4, [.ref (a3 1)])), ((a3 1), .inl (cI, 4, .inl (fun _ => 0)))]) rfl ?_
  refine gg_putF X (ty := (.object "LinenTunnel$Row")) dX5_init_25 0 1 tyX5 tyX5_ok nmX5 rfl rfl (by decide) (fun _ h => (List.mem_cons_of_mem _ (List.mem_append_right _ h))) (List.mem_of_getElem? (i := 8) rfl) rfl rfl rfl (by decide +kernel) rfl rfl (Nat.le_of_ble_eq_true rfl) (ws2 := [(h0, .inr (5, [.ref (a1 0), .ref (a3 0), .null])), ((a1 0), .inr (4, [.ref (a1 1)])), ((a1 1), .inl (cI, 4, .inl (fun _ => 0))), ((a3 0), .inr (4, [.ref (a3 1)])), ((a3 1), .inl (cI, 4, .inl (fun _ => 0)))]) rfl ?_
  refine gg_aload_n X dX5_init_28 0 rfl ?_
  refine gg_new X (ci := 4) (M := 1) (c2 := 5) (s2 := 11) (fs := [.null]) dX5_init_29 tyX4 tyX4_ok rfl (fun _ h => (List.mem_cons_of_mem _ (List.mem_append_left _ (List.mem_append_right _ h)))) (List.mem_of_getElem? (i := 4) rfl) (List.mem_of_getElem? (i := 5) rfl) (List.mem_of_getElem? (i := 6) rfl) (fun j hj => by rcases (show j = 0 by omega) with rfl <;> rfl) rfl rfl (Nat.le_of_ble_eq_true rfl) (Nat.le_of_ble_eq_true rfl) (fun q4 => ?_)
  refine gg_eq (ws2 := [(h0, .inr (5, [.ref (a1 0), .ref (a3 0), .null])), ((a1 0), .inr (4, [.ref (a1 1)])), ((a1 1), .inl (cI, 4, .inl (fun _ => 0))), ((a3 0), .inr (4, [.ref (a3 1)])), ((a3 1), .inl (cI, 4, .inl (fun _ => 0))), (q4, .inr (4, [.null]))]) rfl ?_
  refine gg_dup X dX5_init_32 rfl ?_
  refine gg_sipush X dX5_init_33 (v := 240) (by decide) ?_
  refine gg_call X (nw2 := []) (As := [.int 240]) (rest := [.ref q4, .ref h0]) (cf := (sm_cf cI 240)) (N := 2) (σ := z0) (c2 := 6) (s2 := 251) (wr := [(h0, .inr (5, [.ref (a1 0), .ref (a3 0), .null])), ((a1 0), .inr (4, [.ref (a1 1)])), ((a1 1), .inl (cI, 4, .inl (fun _ => 0))), ((a3 0), .inr (4, [.ref (a3 1)])), ((a3 1), .inl (cI, 4, .inl (fun _ => 0)))]) dX5_init_36 hL (fun sz => nX4_init rfl (by decide) (by decide) sz) gX5_init_X4_init rfl ⟨rfl, rfl⟩ (List.mem_of_getElem? (i := 10) rfl) (List.mem_of_getElem? (i := 11) rfl) (List.mem_of_getElem? (i := 6) rfl) rfl hyX4_init ⟨Nat.le_of_ble_eq_true rfl, Nat.le_of_ble_eq_true rfl⟩ rfl (Nat.le_of_ble_eq_true rfl) (fun w h => by cases h) [0] rfl 5 [0, 1, 2, 3, 4] rfl rfl (by decide) (by decide) rfl rfl (Nat.le_of_ble_eq_true rfl) (Nat.le_of_ble_eq_true rfl) (fun a5 ea5 => ?_)
  subst ea5
  refine gg_eq (ws2 := [(h0, .inr (5, [.ref (a1 0), .ref (a3 0), .null])), ((a1 0), .inr (4, [.ref (a1 1)])), ((a1 1), .inl (cI, 4, .inl (fun _ => 0))), ((a3 0), .inr (4, [.ref (a3 1)])), ((a3 1), .inl (cI, 4, .inl (fun _ => 0))), ((a5 0), .inr (4, [.ref (a5 1)])), ((a5 1), .inl (cI, 240, .inl (fun _ => 0)))]) rfl ?_
  refine gg_putF X (ty := (.object "LinenTunnel$Row")) dX5_init_39 0 2 tyX5 tyX5_ok nmX5 rfl rfl (by decide) (fun _ h => (List.mem_cons_of_mem _ (List.mem_append_right _ h))) (List.mem_of_getElem? (i := 9) rfl) rfl rfl rfl (by decide +kernel) rfl rfl (Nat.le_of_ble_eq_true rfl) (ws2 := [(h0, .inr (5, [.ref (a1 0), .ref (a3 0), .ref (a5 0)])), ((a1 0), .inr (4, [.ref (a1 1)])), ((a1 1), .inl (cI, 4, .inl (fun _ => 0))), ((a3 0), .inr (4, [.ref (a3 1)])), ((a3 1), .inl (cI, 4, .inl (fun _ => 0))), ((a5 0), .inr (4, [.ref (a5 1)])), ((a5 1), .inl (cI, 240, .inl (fun _ => 0)))]) rfl ?_
  refine gg_aload_n X dX5_init_42 0 rfl ?_
  refine gg_get X dX5_init_43 0 0 rfl rfl (by decide) (fun _ h => (List.mem_cons_of_mem _ (List.mem_append_right _ h))) (List.mem_of_getElem? (i := 7) rfl) rfl (v := .ref (a1 0)) rfl ?_
  refine gg_iconst X dX5_init_46 (v := -1) (by decide) ?_
  refine gg_apart X 1 2 rfl rfl (by decide) (fun hne => ?_)
  have hJ : mm_J 2 a1 := by
    intro i j hi hj h
    rcases (show i = 0 ∨ i = 1 by omega) with rfl | rfl <;> rcases (show j = 0 ∨ j = 1 by omega) with rfl | rfl
    · rfl
    · exact absurd h hne
    · exact absurd h.symm hne
    · rfl
  refine gg_fill X (As := [.int (-1)]) (rest := []) (cf := sm_cf cI 4) (aa := a1) (σ := z0) (wr := [(h0, .inr (5, [.ref (a1 0), .ref (a3 0), .ref (a5 0)])), ((a3 0), .inr (4, [.ref (a3 1)])), ((a3 1), .inl (cI, 4, .inl (fun _ => 0))), ((a5 0), .inr (4, [.ref (a5 1)])), ((a5 1), .inl (cI, 240, .inl (fun _ => 0)))]) dX5_init_47 hL hJ (fun sz => nX4_fill (by decide) hJ sz) gX5_init_X4_fill rfl ⟨rfl, rfl⟩ hyX4_fill ⟨Nat.le_of_ble_eq_true rfl, Nat.le_of_ble_eq_true rfl⟩ rfl (Nat.le_of_ble_eq_true rfl) rfl rfl 1 2 [0, 3, 4, 5, 6] (by decide) rfl rfl (by decide) (by decide) (Nat.le_of_ble_eq_true rfl) (Nat.le_of_ble_eq_true rfl) ?_
  refine gg_eq (ws2 := [(h0, .inr (5, [.ref (a1 0), .ref (a3 0), .ref (a5 0)])), ((a3 0), .inr (4, [.ref (a3 1)])), ((a3 1), .inl (cI, 4, .inl (fun _ => 0))), ((a5 0), .inr (4, [.ref (a5 1)])), ((a5 1), .inl (cI, 240, .inl (fun _ => 0))), ((a1 0), .inr (4, [.ref (a1 1)])), ((a1 1), .inl (cI, 4, .inl (fun i => if i < 4 then -1 else 0)))]) rfl ?_
  exact gg_ret X dX5_init_50 hQ (fun k => [h0, (a1 0), (a3 0), (a5 0), (a1 1), (a3 1), (a5 1)].getD k 0) rfl [0, 5, 1, 3, 6, 2, 4] (by decide) rfl
end
section
def dv_0 : mm_M := fun c j => if c = 30 then (if j < 4 then -1 else 0) else if c = 5 then (if j = 2 then 4 else if j = 3 then 2 else if j = 4 then 1 else 0) else 0
abbrev rX7_init : Room := { frames := 3, cells := 58, slots := 3289, locals := 55 }
theorem hyX7_init : yX7_init.cls ≠ "java/lang/invoke/MethodHandle" ∧ yX7_init.cls ≠ "java/lang/invoke/VarHandle" ∧ (parseMethodDescriptor yX7_init.desc).map (fun d => d.parameters.length) = some 0 := by decide +kernel
set_option maxRecDepth 100000 in
set_option maxHeartbeats 4000000 in
theorem nX7_init {l : Launch} {D : va_G} {cI : ClassId} {h0 : Nat} (sz : Nat) : Met l yX7_init wsX7_init rX7_init (gg_P mm_nw D [(cI, .int)] [(h0, .inr (7, [.null, .null, .null, .null, .null, .null, .int 0]))] [.ref h0] sz) (gg_Q D [(h0, .inr (7, [.null, .null, .null, .null, .null, .null, .int 0]))] h0 (dv_cf cI) 59 dv_0 sz) 58 3289 (va_A [(h0, .inr (7, [.null, .null, .null, .null, .null, .null, .int 0]))] sz) := by
  refine gg_met (y := yX7_init) (ws := wsX7_init) (rm := rX7_init) (D := D) (tys := [(cI, .int)]) (w0 := [(h0, .inr (7, [.null, .null, .null, .null, .null, .null, .int 0]))]) (mc := 58) (ms := 3289) (av := [.ref h0]) (fun sz => gg_Q D [(h0, .inr (7, [.null, .null, .null, .null, .null, .null, .int 0]))] h0 (dv_cf cI) 59 dv_0 sz) (lv := [(0, .ref h0)]) (cc := cX7_init) (maxL := 1) (own := RX7) (by decide +kernel) rfl rfl rfl (Nat.le_of_ble_eq_true rfl) rfl ?_ sz
  intro K hL X hQ
  refine gg_aload_n X dX7_init_0 0 rfl ?_
  refine gg_obj X dX7_init_1 (List.mem_of_getElem? (i := 1) rfl) (List.mem_of_getElem? (i := 2) rfl) (List.mem_of_getElem? (i := 3) rfl) (Nat.le_of_ble_eq_true rfl) (Nat.le_of_ble_eq_true rfl) ?_
  refine gg_aload_n X dX7_init_4 0 rfl ?_
  refine gg_new X (ci := 1) (M := 6) (c2 := 1) (s2 := 6) (fs := [.int 0, .null, .null, .null, .null, .null]) dX7_init_5 tyX1 tyX1_ok rfl (fun _ h => (List.mem_cons_of_mem _ (List.mem_append_left _ (List.mem_append_left _ (List.mem_append_left _ (List.mem_append_left _ (List.mem_append_left _ (List.mem_append_left _ (List.mem_append_left _ (List.mem_append_right _ h)))))))))) (List.mem_of_getElem? (i := 4) rfl) (List.mem_of_getElem? (i := 5) rfl) (List.mem_of_getElem? (i := 6) rfl) (fun j hj => by rcases (show j = 0 ∨ j = 1 ∨ j = 2 ∨ j = 3 ∨ j = 4 ∨ j = 5 by omega) with rfl | rfl | rfl | rfl | rfl | rfl <;> rfl) rfl rfl (Nat.le_of_ble_eq_true rfl) (Nat.le_of_ble_eq_true rfl) (fun q0 => ?_)
  refine gg_eq (ws2 := [(h0, .inr (7, [.null, .null, .null, .null, .null, .null, .int 0])), (q0, .inr (1, [.int 0, .null, .null, .null, .null, .null]))]) rfl ?_
  refine gg_dup X dX7_init_8 rfl ?_
  refine gg_callN X (nw2 := []) (As := []) (rest := [.ref q0, .ref h0]) (cf := (ck_1 cI)) (N := 11) (σ := sX1_init) (c2 := 11) (s2 := 51) (wr := [(h0, .inr (7, [.null, .null, .null, .null, .null, .null, .int 0]))]) dX7_init_9 hL (fun sz => nX1_init sz) gX7_init_X1_init_n11 rfl ⟨rfl, rfl⟩ (List.mem_of_getElem? (i := 28) rfl) (List.mem_of_getElem? (i := 29) rfl) (List.mem_of_getElem? (i := 6) rfl) rfl hyX1_init ⟨Nat.le_of_ble_eq_true rfl, Nat.le_of_ble_eq_true rfl⟩ rfl (Nat.le_of_ble_eq_true rfl) (fun w h => by cases h) [0] rfl 1 [0] rfl rfl (by decide) (by decide) rfl rfl (Nat.le_of_ble_eq_true rfl) (Nat.le_of_ble_eq_true rfl) (fun a1 ea1 => ?_)
  subst ea1
  refine gg_eq (ws2 := [(h0, .inr (7, [.null, .null, .null, .null, .null, .null, .int 0])), ((a1 0), .inr (1, [.int 0, .ref (a1 1), .ref (a1 2), .ref (a1 3), .ref (a1 4), .ref (a1 5)])), ((a1 1), .inr (4, [.ref (a1 6)])), ((a1 2), .inr (4, [.ref (a1 7)])), ((a1 3), .inr (4, [.ref (a1 8)])), ((a1 4), .inr (4, [.ref (a1 9)])), ((a1 5), .inr (4, [.ref (a1 10)])), ((a1 6), .inl (cI, 8, .inl (fun _ => 0))), ((a1 7), .inl (cI, 8, .inl (fun _ => 0))), ((a1 8), .inl (cI, 8, .inl (fun _ => 0))), ((a1 9), .inl (cI, 8, .inl (fun _ => 0))), ((a1 10), .inl (cI, 8, .inl (fun _ => 0)))]) rfl ?_
  refine gg_putF X (ty := (.object "LinenTunnel$Kinds")) dX7_init_12 0 0 tyX7 tyX7_ok nmX7 rfl rfl (by decide) (fun _ h => (List.mem_cons_of_mem _ (List.mem_append_left _ (List.mem_append_left _ (List.mem_append_left _ (List.mem_append_left _ (List.mem_append_left _ (List.mem_append_left _ (List.mem_append_right _ h))))))))) (List.mem_of_getElem? (i := 7) rfl) rfl rfl rfl (by decide +kernel) rfl rfl (Nat.le_of_ble_eq_true rfl) (ws2 := [(h0, .inr (7, [.ref (a1 0), .null, .null, .null, .null, .null, .int 0])), ((a1 0), .inr (1, [.int 0, .ref (a1 1), .ref (a1 2), .ref (a1 3), .ref (a1 4), .ref (a1 5)])), ((a1 1), .inr (4, [.ref (a1 6)])), ((a1 2), .inr (4, [.ref (a1 7)])), ((a1 3), .inr (4, [.ref (a1 8)])), ((a1 4), .inr (4, [.ref (a1 9)])), ((a1 5), .inr (4, [.ref (a1 10)])), ((a1 6), .inl (cI, 8, .inl (fun _ => 0))), ((a1 7), .inl (cI, 8, .inl (fun _ => 0))), ((a1 8), .inl (cI, 8, .inl (fun _ => 0))), ((a1 9), .inl (cI, 8, .inl (fun _ => 0))), ((a1 10), .inl (cI, 8, .inl (fun _ => 0)))]) rfl ?_
  refine gg_aload_n X dX7_init_15 0 rfl ?_
  refine gg_new X (ci := 2) (M := 7) (c2 := 12) (s2 := 58) (fs := [.int 0, .null, .null, .null, .null, .null, .null]) dX7_init_16 tyX2 tyX2_ok rfl (fun _ h => (List.mem_cons_of_mem _ (List.mem_append_left _ (List.mem_append_left _ (List.mem_append_left _ (List.mem_append_left _ (List.mem_append_left _ (List.mem_append_right _ h)))))))) (List.mem_of_getElem? (i := 8) rfl) (List.mem_of_getElem? (i := 9) rfl) (List.mem_of_getElem? (i := 10) rfl) (fun j hj => by rcases (show j = 0 ∨ j = 1 ∨ j = 2 ∨ j = 3 ∨ j = 4 ∨ j = 5 ∨ j = 6 by omega) with rfl | rfl | rfl | rfl | rfl | rfl | rfl <;> rfl) rfl rfl (Nat.le_of_ble_eq_true rfl) (Nat.le_of_ble_eq_true rfl) (fun q2 => ?_)
  refine gg_eq (ws2 := [(h0, .inr (7, [.ref (a1 0), .null, .null, .null, .null, .null, .int 0])), ((a1 0), .inr (1, [.int 0, .ref (a1 1), .ref (a1 2), .ref (a1 3), .ref (a1 4), .ref (a1 5)])), ((a1 1), .inr (4, [.ref (a1 6)])), ((a1 2), .inr (4, [.ref (a1 7)])), ((a1 3), .inr (4, [.ref (a1 8)])), ((a1 4), .inr (4, [.ref (a1 9)])), ((a1 5), .inr (4, [.ref (a1 10)])), ((a1 6), .inl (cI, 8, .inl (fun _ => 0))), ((a1 7), .inl (cI, 8, .inl (fun _ => 0))), ((a1 8), .inl (cI, 8, .inl (fun _ => 0))), ((a1 9), .inl (cI, 8, .inl (fun _ => 0))), ((a1 10), .inl (cI, 8, .inl (fun _ => 0))), (q2, .inr (2, [.int 0, .null, .null, .null, .null, .null, .null]))]) rfl ?_
  refine gg_dup X dX7_init_19 rfl ?_
  refine gg_callN X (nw2 := []) (As := []) (rest := [.ref q2, .ref h0]) (cf := (ck_2 cI)) (N := 13) (σ := sX2_init) (c2 := 24) (s2 := 664) (wr := [(h0, .inr (7, [.ref (a1 0), .null, .null, .null, .null, .null, .int 0])), ((a1 0), .inr (1, [.int 0, .ref (a1 1), .ref (a1 2), .ref (a1 3), .ref (a1 4), .ref (a1 5)])), ((a1 1), .inr (4, [.ref (a1 6)])), ((a1 2), .inr (4, [.ref (a1 7)])), ((a1 3), .inr (4, [.ref (a1 8)])), ((a1 4), .inr (4, [.ref (a1 9)])), ((a1 5), .inr (4, [.ref (a1 10)])), ((a1 6), .inl (cI, 8, .inl (fun _ => 0))), ((a1 7), .inl (cI, 8, .inl (fun _ => 0))), ((a1 8), .inl (cI, 8, .inl (fun _ => 0))), ((a1 9), .inl (cI, 8, .inl (fun _ => 0))), ((a1 10), .inl (cI, 8, .inl (fun _ => 0)))]) dX7_init_20 hL (fun sz => nX2_init sz) gX7_init_X2_init_n18 rfl ⟨rfl, rfl⟩ (List.mem_of_getElem? (i := 29) rfl) (List.mem_of_getElem? (i := 47) rfl) (List.mem_of_getElem? (i := 10) rfl) rfl hyX2_init ⟨Nat.le_of_ble_eq_true rfl, Nat.le_of_ble_eq_true rfl⟩ rfl (Nat.le_of_ble_eq_true rfl) (fun w h => by cases h) [0] rfl 12 [0, 1, 2, 3, 4, 5, 6, 7, 8, 9, 10, 11] rfl rfl (by decide) (by decide) rfl rfl (Nat.le_of_ble_eq_true rfl) (Nat.le_of_ble_eq_true rfl) (fun a3 ea3 => ?_)
  subst ea3
  refine gg_eq (ws2 := [(h0, .inr (7, [.ref (a1 0), .null, .null, .null, .null, .null, .int 0])), ((a1 0), .inr (1, [.int 0, .ref (a1 1), .ref (a1 2), .ref (a1 3), .ref (a1 4), .ref (a1 5)])), ((a1 1), .inr (4, [.ref (a1 6)])), ((a1 2), .inr (4, [.ref (a1 7)])), ((a1 3), .inr (4, [.ref (a1 8)])), ((a1 4), .inr (4, [.ref (a1 9)])), ((a1 5), .inr (4, [.ref (a1 10)])), ((a1 6), .inl (cI, 8, .inl (fun _ => 0))), ((a1 7), .inl (cI, 8, .inl (fun _ => 0))), ((a1 8), .inl (cI, 8, .inl (fun _ => 0))), ((a1 9), .inl (cI, 8, .inl (fun _ => 0))), ((a1 10), .inl (cI, 8, .inl (fun _ => 0))), ((a3 0), .inr (2, [.int 0, .ref (a3 1), .ref (a3 2), .ref (a3 3), .ref (a3 4), .ref (a3 5), .ref (a3 6)])), ((a3 1), .inr (4, [.ref (a3 7)])), ((a3 2), .inr (4, [.ref (a3 8)])), ((a3 3), .inr (4, [.ref (a3 9)])), ((a3 4), .inr (4, [.ref (a3 10)])), ((a3 5), .inr (4, [.ref (a3 11)])), ((a3 6), .inr (4, [.ref (a3 12)])), ((a3 7), .inl (cI, 100, .inl (fun _ => 0))), ((a3 8), .inl (cI, 100, .inl (fun _ => 0))), ((a3 9), .inl (cI, 100, .inl (fun _ => 0))), ((a3 10), .inl (cI, 100, .inl (fun _ => 0))), ((a3 11), .inl (cI, 100, .inl (fun _ => 0))), ((a3 12), .inl (cI, 100, .inl (fun _ => 0)))]) rfl ?_
  refine gg_putF X (ty := (.object "LinenTunnel$Linen")) dX7_init_23 0 1 tyX7 tyX7_ok nmX7 rfl rfl (by decide) (fun _ h => (List.mem_cons_of_mem _ (List.mem_append_left _ (List.mem_append_left _ (List.mem_append_left _ (List.mem_append_left _ (List.mem_append_left _ (List.mem_append_left _ (List.mem_append_right _ h))))))))) (List.mem_of_getElem? (i := 11) rfl) rfl rfl rfl (by decide +kernel) rfl rfl (Nat.le_of_ble_eq_true rfl) (ws2 := [(h0, .inr (7, [.ref (a1 0), .ref (a3 0), .null, .null, .null, .null, .int 0])), ((a1 0), .inr (1, [.int 0, .ref (a1 1), .ref (a1 2), .ref (a1 3), .ref (a1 4), .ref (a1 5)])), ((a1 1), .inr (4, [.ref (a1 6)])), ((a1 2), .inr (4, [.ref (a1 7)])), ((a1 3), .inr (4, [.ref (a1 8)])), ((a1 4), .inr (4, [.ref (a1 9)])), ((a1 5), .inr (4, [.ref (a1 10)])), ((a1 6), .inl (cI, 8, .inl (fun _ => 0))), ((a1 7), .inl (cI, 8, .inl (fun _ => 0))), ((a1 8), .inl (cI, 8, .inl (fun _ => 0))), ((a1 9), .inl (cI, 8, .inl (fun _ => 0))), ((a1 10), .inl (cI, 8, .inl (fun _ => 0))), ((a3 0), .inr (2, [.int 0, .ref (a3 1), .ref (a3 2), .ref (a3 3), .ref (a3 4), .ref (a3 5), .ref (a3 6)])), ((a3 1), .inr (4, [.ref (a3 7)])), ((a3 2), .inr (4, [.ref (a3 8)])), ((a3 3), .inr (4, [.ref (a3 9)])), ((a3 4), .inr (4, [.ref (a3 10)])), ((a3 5), .inr (4, [.ref (a3 11)])), ((a3 6), .inr (4, [.ref (a3 12)])), ((a3 7), .inl (cI, 100, .inl (fun _ => 0))), ((a3 8), .inl (cI, 100, .inl (fun _ => 0))), ((a3 9), .inl (cI, 100, .inl (fun _ => 0))), ((a3 10), .inl (cI, 100, .inl (fun _ => 0))), ((a3 11), .inl (cI, 100, .inl (fun _ => 0))), ((a3 12), .inl (cI, 100, .inl (fun _ => 0)))]) rfl ?_
  refine gg_aload_n X dX7_init_26 0 rfl ?_
  refine gg_new X (ci := 6) (M := 5) (c2 := 25) (s2 := 669) (fs := [.null, .int 0, .null, .null, .null]) dX7_init_27 tyX6 tyX6_ok rfl (fun _ h => (List.mem_cons_of_mem _ (List.mem_append_left _ (List.mem_append_left _ (List.mem_append_left _ (List.mem_append_left _ (List.mem_append_right _ h))))))) (List.mem_of_getElem? (i := 12) rfl) (List.mem_of_getElem? (i := 13) rfl) (List.mem_of_getElem? (i := 14) rfl) (fun j hj => by rcases (show j = 0 ∨ j = 1 ∨ j = 2 ∨ j = 3 ∨ j = 4 by omega) with rfl | rfl | rfl | rfl | rfl <;> rfl) rfl rfl (Nat.le_of_ble_eq_true rfl) (Nat.le_of_ble_eq_true rfl) (fun q4 => ?_)
  refine gg_eq (ws2 := [(h0, .inr (7, [.ref (a1 0), .ref (a3 0), .null, .null, .null, .null, .int 0])), ((a1 0), .inr (1, [.int 0, .ref (a1 1), .ref (a1 2), .ref (a1 3), .ref (a1 4), .ref (a1 5)])), ((a1 1), .inr (4, [.ref (a1 6)])), ((a1 2), .inr (4, [.ref (a1 7)])), ((a1 3), .inr (4, [.ref (a1 8)])), ((a1 4), .inr (4, [.ref (a1 9)])), ((a1 5), .inr (4, [.ref (a1 10)])), ((a1 6), .inl (cI, 8, .inl (fun _ => 0))), ((a1 7), .inl (cI, 8, .inl (fun _ => 0))), ((a1 8), .inl (cI, 8, .inl (fun _ => 0))), ((a1 9), .inl (cI, 8, .inl (fun _ => 0))), ((a1 10), .inl (cI, 8, .inl (fun _ => 0))), ((a3 0), .inr (2, [.int 0, .ref (a3 1), .ref (a3 2), .ref (a3 3), .ref (a3 4), .ref (a3 5), .ref (a3 6)])), ((a3 1), .inr (4, [.ref (a3 7)])), ((a3 2), .inr (4, [.ref (a3 8)])), ((a3 3), .inr (4, [.ref (a3 9)])), ((a3 4), .inr (4, [.ref (a3 10)])), ((a3 5), .inr (4, [.ref (a3 11)])), ((a3 6), .inr (4, [.ref (a3 12)])), ((a3 7), .inl (cI, 100, .inl (fun _ => 0))), ((a3 8), .inl (cI, 100, .inl (fun _ => 0))), ((a3 9), .inl (cI, 100, .inl (fun _ => 0))), ((a3 10), .inl (cI, 100, .inl (fun _ => 0))), ((a3 11), .inl (cI, 100, .inl (fun _ => 0))), ((a3 12), .inl (cI, 100, .inl (fun _ => 0))), (q4, .inr (6, [.null, .int 0, .null, .null, .null]))]) rfl ?_
  refine gg_dup X dX7_init_30 rfl ?_
  refine gg_aload_n X dX7_init_31 0 rfl ?_
  refine gg_get X dX7_init_32 0 0 rfl rfl (by decide) (fun _ h => (List.mem_cons_of_mem _ (List.mem_append_left _ (List.mem_append_left _ (List.mem_append_left _ (List.mem_append_left _ (List.mem_append_left _ (List.mem_append_left _ (List.mem_append_right _ h))))))))) (List.mem_of_getElem? (i := 7) rfl) rfl (v := .ref (a1 0)) rfl ?_
  refine gg_call X (nw2 := []) (As := [.ref (a1 0)]) (rest := [.ref q4, .ref h0]) (cf := (ck_6 cI (a1 0))) (N := 7) (σ := sX6_init) (c2 := 31) (s2 := 708) (wr := [(h0, .inr (7, [.ref (a1 0), .ref (a3 0), .null, .null, .null, .null, .int 0])), ((a1 0), .inr (1, [.int 0, .ref (a1 1), .ref (a1 2), .ref (a1 3), .ref (a1 4), .ref (a1 5)])), ((a1 1), .inr (4, [.ref (a1 6)])), ((a1 2), .inr (4, [.ref (a1 7)])), ((a1 3), .inr (4, [.ref (a1 8)])), ((a1 4), .inr (4, [.ref (a1 9)])), ((a1 5), .inr (4, [.ref (a1 10)])), ((a1 6), .inl (cI, 8, .inl (fun _ => 0))), ((a1 7), .inl (cI, 8, .inl (fun _ => 0))), ((a1 8), .inl (cI, 8, .inl (fun _ => 0))), ((a1 9), .inl (cI, 8, .inl (fun _ => 0))), ((a1 10), .inl (cI, 8, .inl (fun _ => 0))), ((a3 0), .inr (2, [.int 0, .ref (a3 1), .ref (a3 2), .ref (a3 3), .ref (a3 4), .ref (a3 5), .ref (a3 6)])), ((a3 1), .inr (4, [.ref (a3 7)])), ((a3 2), .inr (4, [.ref (a3 8)])), ((a3 3), .inr (4, [.ref (a3 9)])), ((a3 4), .inr (4, [.ref (a3 10)])), ((a3 5), .inr (4, [.ref (a3 11)])), ((a3 6), .inr (4, [.ref (a3 12)])), ((a3 7), .inl (cI, 100, .inl (fun _ => 0))), ((a3 8), .inl (cI, 100, .inl (fun _ => 0))), ((a3 9), .inl (cI, 100, .inl (fun _ => 0))), ((a3 10), .inl (cI, 100, .inl (fun _ => 0))), ((a3 11), .inl (cI, 100, .inl (fun _ => 0))), ((a3 12), .inl (cI, 100, .inl (fun _ => 0)))]) dX7_init_35 hL (fun sz => nX6_init sz) gX7_init_X6_init rfl ⟨rfl, rfl⟩ (List.mem_of_getElem? (i := 59) rfl) (List.mem_of_getElem? (i := 60) rfl) (List.mem_of_getElem? (i := 14) rfl) rfl hyX6_init ⟨Nat.le_of_ble_eq_true rfl, Nat.le_of_ble_eq_true rfl⟩ rfl (Nat.le_of_ble_eq_true rfl) (fun w h => by cases h) [0] rfl 25 [0, 1, 2, 3, 4, 5, 6, 7, 8, 9, 10, 11, 12, 13, 14, 15, 16, 17, 18, 19, 20, 21, 22, 23, 24] rfl rfl (by decide) (by decide) rfl rfl (Nat.le_of_ble_eq_true rfl) (Nat.le_of_ble_eq_true rfl) (fun a5 ea5 => ?_)
  subst ea5
  refine gg_eq (ws2 := [(h0, .inr (7, [.ref (a1 0), .ref (a3 0), .null, .null, .null, .null, .int 0])), ((a1 0), .inr (1, [.int 0, .ref (a1 1), .ref (a1 2), .ref (a1 3), .ref (a1 4), .ref (a1 5)])), ((a1 1), .inr (4, [.ref (a1 6)])), ((a1 2), .inr (4, [.ref (a1 7)])), ((a1 3), .inr (4, [.ref (a1 8)])), ((a1 4), .inr (4, [.ref (a1 9)])), ((a1 5), .inr (4, [.ref (a1 10)])), ((a1 6), .inl (cI, 8, .inl (fun _ => 0))), ((a1 7), .inl (cI, 8, .inl (fun _ => 0))), ((a1 8), .inl (cI, 8, .inl (fun _ => 0))), ((a1 9), .inl (cI, 8, .inl (fun _ => 0))), ((a1 10), .inl (cI, 8, .inl (fun _ => 0))), ((a3 0), .inr (2, [.int 0, .ref (a3 1), .ref (a3 2), .ref (a3 3), .ref (a3 4), .ref (a3 5), .ref (a3 6)])), ((a3 1), .inr (4, [.ref (a3 7)])), ((a3 2), .inr (4, [.ref (a3 8)])), ((a3 3), .inr (4, [.ref (a3 9)])), ((a3 4), .inr (4, [.ref (a3 10)])), ((a3 5), .inr (4, [.ref (a3 11)])), ((a3 6), .inr (4, [.ref (a3 12)])), ((a3 7), .inl (cI, 100, .inl (fun _ => 0))), ((a3 8), .inl (cI, 100, .inl (fun _ => 0))), ((a3 9), .inl (cI, 100, .inl (fun _ => 0))), ((a3 10), .inl (cI, 100, .inl (fun _ => 0))), ((a3 11), .inl (cI, 100, .inl (fun _ => 0))), ((a3 12), .inl (cI, 100, .inl (fun _ => 0))), ((a5 0), .inr (6, [.ref (a1 0), .int 0, .ref (a5 1), .ref (a5 2), .ref (a5 3)])), ((a5 1), .inr (4, [.ref (a5 4)])), ((a5 2), .inr (4, [.ref (a5 5)])), ((a5 3), .inr (4, [.ref (a5 6)])), ((a5 4), .inl (cI, 12, .inl (fun _ => 0))), ((a5 5), .inl (cI, 12, .inl (fun _ => 0))), ((a5 6), .inl (cI, 12, .inl (fun _ => 0)))]) rfl ?_
  refine gg_putF X (ty := (.object "LinenTunnel$Waiting")) dX7_init_38 0 2 tyX7 tyX7_ok nmX7 rfl rfl (by decide) (fun _ h => (List.mem_cons_of_mem _ (List.mem_append_left _ (List.mem_append_left _ (List.mem_append_left _ (List.mem_append_left _ (List.mem_append_left _ (List.mem_append_left _ (List.mem_append_right _ h))))))))) (List.mem_of_getElem? (i := 15) rfl) rfl rfl rfl (by decide +kernel) rfl rfl (Nat.le_of_ble_eq_true rfl) (ws2 := [(h0, .inr (7, [.ref (a1 0), .ref (a3 0), .ref (a5 0), .null, .null, .null, .int 0])), ((a1 0), .inr (1, [.int 0, .ref (a1 1), .ref (a1 2), .ref (a1 3), .ref (a1 4), .ref (a1 5)])), ((a1 1), .inr (4, [.ref (a1 6)])), ((a1 2), .inr (4, [.ref (a1 7)])), ((a1 3), .inr (4, [.ref (a1 8)])), ((a1 4), .inr (4, [.ref (a1 9)])), ((a1 5), .inr (4, [.ref (a1 10)])), ((a1 6), .inl (cI, 8, .inl (fun _ => 0))), ((a1 7), .inl (cI, 8, .inl (fun _ => 0))), ((a1 8), .inl (cI, 8, .inl (fun _ => 0))), ((a1 9), .inl (cI, 8, .inl (fun _ => 0))), ((a1 10), .inl (cI, 8, .inl (fun _ => 0))), ((a3 0), .inr (2, [.int 0, .ref (a3 1), .ref (a3 2), .ref (a3 3), .ref (a3 4), .ref (a3 5), .ref (a3 6)])), ((a3 1), .inr (4, [.ref (a3 7)])), ((a3 2), .inr (4, [.ref (a3 8)])), ((a3 3), .inr (4, [.ref (a3 9)])), ((a3 4), .inr (4, [.ref (a3 10)])), ((a3 5), .inr (4, [.ref (a3 11)])), ((a3 6), .inr (4, [.ref (a3 12)])), ((a3 7), .inl (cI, 100, .inl (fun _ => 0))), ((a3 8), .inl (cI, 100, .inl (fun _ => 0))), ((a3 9), .inl (cI, 100, .inl (fun _ => 0))), ((a3 10), .inl (cI, 100, .inl (fun _ => 0))), ((a3 11), .inl (cI, 100, .inl (fun _ => 0))), ((a3 12), .inl (cI, 100, .inl (fun _ => 0))), ((a5 0), .inr (6, [.ref (a1 0), .int 0, .ref (a5 1), .ref (a5 2), .ref (a5 3)])), ((a5 1), .inr (4, [.ref (a5 4)])), ((a5 2), .inr (4, [.ref (a5 5)])), ((a5 3), .inr (4, [.ref (a5 6)])), ((a5 4), .inl (cI, 12, .inl (fun _ => 0))), ((a5 5), .inl (cI, 12, .inl (fun _ => 0))), ((a5 6), .inl (cI, 12, .inl (fun _ => 0)))]) rfl ?_
  refine gg_aload_n X dX7_init_41 0 rfl ?_
  refine gg_new X (ci := 3) (M := 3) (c2 := 32) (s2 := 711) (fs := [.null, .null, .null]) dX7_init_42 tyX3 tyX3_ok rfl (fun _ h => (List.mem_cons_of_mem _ (List.mem_append_left _ (List.mem_append_left _ (List.mem_append_left _ (List.mem_append_right _ h)))))) (List.mem_of_getElem? (i := 16) rfl) (List.mem_of_getElem? (i := 17) rfl) (List.mem_of_getElem? (i := 18) rfl) (fun j hj => by rcases (show j = 0 ∨ j = 1 ∨ j = 2 by omega) with rfl | rfl | rfl <;> rfl) rfl rfl (Nat.le_of_ble_eq_true rfl) (Nat.le_of_ble_eq_true rfl) (fun q6 => ?_)
  refine gg_eq (ws2 := [(h0, .inr (7, [.ref (a1 0), .ref (a3 0), .ref (a5 0), .null, .null, .null, .int 0])), ((a1 0), .inr (1, [.int 0, .ref (a1 1), .ref (a1 2), .ref (a1 3), .ref (a1 4), .ref (a1 5)])), ((a1 1), .inr (4, [.ref (a1 6)])), ((a1 2), .inr (4, [.ref (a1 7)])), ((a1 3), .inr (4, [.ref (a1 8)])), ((a1 4), .inr (4, [.ref (a1 9)])), ((a1 5), .inr (4, [.ref (a1 10)])), ((a1 6), .inl (cI, 8, .inl (fun _ => 0))), ((a1 7), .inl (cI, 8, .inl (fun _ => 0))), ((a1 8), .inl (cI, 8, .inl (fun _ => 0))), ((a1 9), .inl (cI, 8, .inl (fun _ => 0))), ((a1 10), .inl (cI, 8, .inl (fun _ => 0))), ((a3 0), .inr (2, [.int 0, .ref (a3 1), .ref (a3 2), .ref (a3 3), .ref (a3 4), .ref (a3 5), .ref (a3 6)])), ((a3 1), .inr (4, [.ref (a3 7)])), ((a3 2), .inr (4, [.ref (a3 8)])), ((a3 3), .inr (4, [.ref (a3 9)])), ((a3 4), .inr (4, [.ref (a3 10)])), ((a3 5), .inr (4, [.ref (a3 11)])), ((a3 6), .inr (4, [.ref (a3 12)])), ((a3 7), .inl (cI, 100, .inl (fun _ => 0))), ((a3 8), .inl (cI, 100, .inl (fun _ => 0))), ((a3 9), .inl (cI, 100, .inl (fun _ => 0))), ((a3 10), .inl (cI, 100, .inl (fun _ => 0))), ((a3 11), .inl (cI, 100, .inl (fun _ => 0))), ((a3 12), .inl (cI, 100, .inl (fun _ => 0))), ((a5 0), .inr (6, [.ref (a1 0), .int 0, .ref (a5 1), .ref (a5 2), .ref (a5 3)])), ((a5 1), .inr (4, [.ref (a5 4)])), ((a5 2), .inr (4, [.ref (a5 5)])), ((a5 3), .inr (4, [.ref (a5 6)])), ((a5 4), .inl (cI, 12, .inl (fun _ => 0))), ((a5 5), .inl (cI, 12, .inl (fun _ => 0))), ((a5 6), .inl (cI, 12, .inl (fun _ => 0))), (q6, .inr (3, [.null, .null, .null]))]) rfl ?_
  refine gg_dup X dX7_init_45 rfl ?_
  refine gg_aload_n X dX7_init_46 0 rfl ?_
  refine gg_get X dX7_init_47 0 2 rfl rfl (by decide) (fun _ h => (List.mem_cons_of_mem _ (List.mem_append_left _ (List.mem_append_left _ (List.mem_append_left _ (List.mem_append_left _ (List.mem_append_left _ (List.mem_append_left _ (List.mem_append_right _ h))))))))) (List.mem_of_getElem? (i := 15) rfl) rfl (v := .ref (a5 0)) rfl ?_
  refine gg_call X (nw2 := []) (As := [.ref (a5 0)]) (rest := [.ref q6, .ref h0]) (cf := (ck_3 cI (a5 0))) (N := 5) (σ := sX3_init) (c2 := 36) (s2 := 2825) (wr := [(h0, .inr (7, [.ref (a1 0), .ref (a3 0), .ref (a5 0), .null, .null, .null, .int 0])), ((a1 0), .inr (1, [.int 0, .ref (a1 1), .ref (a1 2), .ref (a1 3), .ref (a1 4), .ref (a1 5)])), ((a1 1), .inr (4, [.ref (a1 6)])), ((a1 2), .inr (4, [.ref (a1 7)])), ((a1 3), .inr (4, [.ref (a1 8)])), ((a1 4), .inr (4, [.ref (a1 9)])), ((a1 5), .inr (4, [.ref (a1 10)])), ((a1 6), .inl (cI, 8, .inl (fun _ => 0))), ((a1 7), .inl (cI, 8, .inl (fun _ => 0))), ((a1 8), .inl (cI, 8, .inl (fun _ => 0))), ((a1 9), .inl (cI, 8, .inl (fun _ => 0))), ((a1 10), .inl (cI, 8, .inl (fun _ => 0))), ((a3 0), .inr (2, [.int 0, .ref (a3 1), .ref (a3 2), .ref (a3 3), .ref (a3 4), .ref (a3 5), .ref (a3 6)])), ((a3 1), .inr (4, [.ref (a3 7)])), ((a3 2), .inr (4, [.ref (a3 8)])), ((a3 3), .inr (4, [.ref (a3 9)])), ((a3 4), .inr (4, [.ref (a3 10)])), ((a3 5), .inr (4, [.ref (a3 11)])), ((a3 6), .inr (4, [.ref (a3 12)])), ((a3 7), .inl (cI, 100, .inl (fun _ => 0))), ((a3 8), .inl (cI, 100, .inl (fun _ => 0))), ((a3 9), .inl (cI, 100, .inl (fun _ => 0))), ((a3 10), .inl (cI, 100, .inl (fun _ => 0))), ((a3 11), .inl (cI, 100, .inl (fun _ => 0))), ((a3 12), .inl (cI, 100, .inl (fun _ => 0))), ((a5 0), .inr (6, [.ref (a1 0), .int 0, .ref (a5 1), .ref (a5 2), .ref (a5 3)])), ((a5 1), .inr (4, [.ref (a5 4)])), ((a5 2), .inr (4, [.ref (a5 5)])), ((a5 3), .inr (4, [.ref (a5 6)])), ((a5 4), .inl (cI, 12, .inl (fun _ => 0))), ((a5 5), .inl (cI, 12, .inl (fun _ => 0))), ((a5 6), .inl (cI, 12, .inl (fun _ => 0)))]) dX7_init_50 hL (fun sz => nX3_init sz) gX7_init_X3_init rfl ⟨rfl, rfl⟩ (List.mem_of_getElem? (i := 70) rfl) (List.mem_of_getElem? (i := 71) rfl) (List.mem_of_getElem? (i := 18) rfl) rfl hyX3_init ⟨Nat.le_of_ble_eq_true rfl, Nat.le_of_ble_eq_true rfl⟩ rfl (Nat.le_of_ble_eq_true rfl) (fun w h => by cases h) [0] rfl 32 [0, 1, 2, 3, 4, 5, 6, 7, 8, 9, 10, 11, 12, 13, 14, 15, 16, 17, 18, 19, 20, 21, 22, 23, 24, 25, 26, 27, 28, 29, 30, 31] rfl rfl (by decide) (by decide) rfl rfl (Nat.le_of_ble_eq_true rfl) (Nat.le_of_ble_eq_true rfl) (fun a7 ea7 => ?_)
  subst ea7
  refine gg_eq (ws2 := [(h0, .inr (7, [.ref (a1 0), .ref (a3 0), .ref (a5 0), .null, .null, .null, .int 0])), ((a1 0), .inr (1, [.int 0, .ref (a1 1), .ref (a1 2), .ref (a1 3), .ref (a1 4), .ref (a1 5)])), ((a1 1), .inr (4, [.ref (a1 6)])), ((a1 2), .inr (4, [.ref (a1 7)])), ((a1 3), .inr (4, [.ref (a1 8)])), ((a1 4), .inr (4, [.ref (a1 9)])), ((a1 5), .inr (4, [.ref (a1 10)])), ((a1 6), .inl (cI, 8, .inl (fun _ => 0))), ((a1 7), .inl (cI, 8, .inl (fun _ => 0))), ((a1 8), .inl (cI, 8, .inl (fun _ => 0))), ((a1 9), .inl (cI, 8, .inl (fun _ => 0))), ((a1 10), .inl (cI, 8, .inl (fun _ => 0))), ((a3 0), .inr (2, [.int 0, .ref (a3 1), .ref (a3 2), .ref (a3 3), .ref (a3 4), .ref (a3 5), .ref (a3 6)])), ((a3 1), .inr (4, [.ref (a3 7)])), ((a3 2), .inr (4, [.ref (a3 8)])), ((a3 3), .inr (4, [.ref (a3 9)])), ((a3 4), .inr (4, [.ref (a3 10)])), ((a3 5), .inr (4, [.ref (a3 11)])), ((a3 6), .inr (4, [.ref (a3 12)])), ((a3 7), .inl (cI, 100, .inl (fun _ => 0))), ((a3 8), .inl (cI, 100, .inl (fun _ => 0))), ((a3 9), .inl (cI, 100, .inl (fun _ => 0))), ((a3 10), .inl (cI, 100, .inl (fun _ => 0))), ((a3 11), .inl (cI, 100, .inl (fun _ => 0))), ((a3 12), .inl (cI, 100, .inl (fun _ => 0))), ((a5 0), .inr (6, [.ref (a1 0), .int 0, .ref (a5 1), .ref (a5 2), .ref (a5 3)])), ((a5 1), .inr (4, [.ref (a5 4)])), ((a5 2), .inr (4, [.ref (a5 5)])), ((a5 3), .inr (4, [.ref (a5 6)])), ((a5 4), .inl (cI, 12, .inl (fun _ => 0))), ((a5 5), .inl (cI, 12, .inl (fun _ => 0))), ((a5 6), .inl (cI, 12, .inl (fun _ => 0))), ((a7 0), .inr (3, [.ref (a5 0), .ref (a7 1), .ref (a7 2)])), ((a7 1), .inr (4, [.ref (a7 3)])), ((a7 2), .inr (4, [.ref (a7 4)])), ((a7 3), .inl (cI, 64, .inl (fun _ => 0))), ((a7 4), .inl (cI, 2048, .inl (fun _ => 0)))]) rfl ?_
  refine gg_putF X (ty := (.object "LinenTunnel$Planner")) dX7_init_53 0 3 tyX7 tyX7_ok nmX7 rfl rfl (by decide) (fun _ h => (List.mem_cons_of_mem _ (List.mem_append_left _ (List.mem_append_left _ (List.mem_append_left _ (List.mem_append_left _ (List.mem_append_left _ (List.mem_append_left _ (List.mem_append_right _ h))))))))) (List.mem_of_getElem? (i := 19) rfl) rfl rfl rfl (by decide +kernel) rfl rfl (Nat.le_of_ble_eq_true rfl) (ws2 := [(h0, .inr (7, [.ref (a1 0), .ref (a3 0), .ref (a5 0), .ref (a7 0), .null, .null, .int 0])), ((a1 0), .inr (1, [.int 0, .ref (a1 1), .ref (a1 2), .ref (a1 3), .ref (a1 4), .ref (a1 5)])), ((a1 1), .inr (4, [.ref (a1 6)])), ((a1 2), .inr (4, [.ref (a1 7)])), ((a1 3), .inr (4, [.ref (a1 8)])), ((a1 4), .inr (4, [.ref (a1 9)])), ((a1 5), .inr (4, [.ref (a1 10)])), ((a1 6), .inl (cI, 8, .inl (fun _ => 0))), ((a1 7), .inl (cI, 8, .inl (fun _ => 0))), ((a1 8), .inl (cI, 8, .inl (fun _ => 0))), ((a1 9), .inl (cI, 8, .inl (fun _ => 0))), ((a1 10), .inl (cI, 8, .inl (fun _ => 0))), ((a3 0), .inr (2, [.int 0, .ref (a3 1), .ref (a3 2), .ref (a3 3), .ref (a3 4), .ref (a3 5), .ref (a3 6)])), ((a3 1), .inr (4, [.ref (a3 7)])), ((a3 2), .inr (4, [.ref (a3 8)])), ((a3 3), .inr (4, [.ref (a3 9)])), ((a3 4), .inr (4, [.ref (a3 10)])), ((a3 5), .inr (4, [.ref (a3 11)])), ((a3 6), .inr (4, [.ref (a3 12)])), ((a3 7), .inl (cI, 100, .inl (fun _ => 0))), ((a3 8), .inl (cI, 100, .inl (fun _ => 0))), ((a3 9), .inl (cI, 100, .inl (fun _ => 0))), ((a3 10), .inl (cI, 100, .inl (fun _ => 0))), ((a3 11), .inl (cI, 100, .inl (fun _ => 0))), ((a3 12), .inl (cI, 100, .inl (fun _ => 0))), ((a5 0), .inr (6, [.ref (a1 0), .int 0, .ref (a5 1), .ref (a5 2), .ref (a5 3)])), ((a5 1), .inr (4, [.ref (a5 4)])), ((a5 2), .inr (4, [.ref (a5 5)])), ((a5 3), .inr (4, [.ref (a5 6)])), ((a5 4), .inl (cI, 12, .inl (fun _ => 0))), ((a5 5), .inl (cI, 12, .inl (fun _ => 0))), ((a5 6), .inl (cI, 12, .inl (fun _ => 0))), ((a7 0), .inr (3, [.ref (a5 0), .ref (a7 1), .ref (a7 2)])), ((a7 1), .inr (4, [.ref (a7 3)])), ((a7 2), .inr (4, [.ref (a7 4)])), ((a7 3), .inl (cI, 64, .inl (fun _ => 0))), ((a7 4), .inl (cI, 2048, .inl (fun _ => 0)))]) rfl ?_
  refine gg_aload_n X dX7_init_56 0 rfl ?_
  refine gg_new X (ci := 0) (M := 16) (c2 := 37) (s2 := 2841) (fs := [.null, .null, .int 0, .int 0, .int 0, .int 0, .int 0, .int 0, .int 0, .null, .null, .null, .null, .null, .null, .null]) dX7_init_57 tyX0 tyX0_ok rfl (fun _ h => (List.mem_cons_of_mem _ (List.mem_append_left _ (List.mem_append_left _ (List.mem_append_right _ h))))) (List.mem_of_getElem? (i := 20) rfl) (List.mem_of_getElem? (i := 21) rfl) (List.mem_of_getElem? (i := 22) rfl) (fun j hj => by rcases (show j = 0 ∨ j = 1 ∨ j = 2 ∨ j = 3 ∨ j = 4 ∨ j = 5 ∨ j = 6 ∨ j = 7 ∨ j = 8 ∨ j = 9 ∨ j = 10 ∨ j = 11 ∨ j = 12 ∨ j = 13 ∨ j = 14 ∨ j = 15 by omega) with rfl | rfl | rfl | rfl | rfl | rfl | rfl | rfl | rfl | rfl | rfl | rfl | rfl | rfl | rfl | rfl <;> rfl) rfl rfl (Nat.le_of_ble_eq_true rfl) (Nat.le_of_ble_eq_true rfl) (fun q8 => ?_)
  refine gg_eq (ws2 := [(h0, .inr (7, [.ref (a1 0), .ref (a3 0), .ref (a5 0), .ref (a7 0), .null, .null, .int 0])), ((a1 0), .inr (1, [.int 0, .ref (a1 1), .ref (a1 2), .ref (a1 3), .ref (a1 4), .ref (a1 5)])), ((a1 1), .inr (4, [.ref (a1 6)])), ((a1 2), .inr (4, [.ref (a1 7)])), ((a1 3), .inr (4, [.ref (a1 8)])), ((a1 4), .inr (4, [.ref (a1 9)])), ((a1 5), .inr (4, [.ref (a1 10)])), ((a1 6), .inl (cI, 8, .inl (fun _ => 0))), ((a1 7), .inl (cI, 8, .inl (fun _ => 0))), ((a1 8), .inl (cI, 8, .inl (fun _ => 0))), ((a1 9), .inl (cI, 8, .inl (fun _ => 0))), ((a1 10), .inl (cI, 8, .inl (fun _ => 0))), ((a3 0), .inr (2, [.int 0, .ref (a3 1), .ref (a3 2), .ref (a3 3), .ref (a3 4), .ref (a3 5), .ref (a3 6)])), ((a3 1), .inr (4, [.ref (a3 7)])), ((a3 2), .inr (4, [.ref (a3 8)])), ((a3 3), .inr (4, [.ref (a3 9)])), ((a3 4), .inr (4, [.ref (a3 10)])), ((a3 5), .inr (4, [.ref (a3 11)])), ((a3 6), .inr (4, [.ref (a3 12)])), ((a3 7), .inl (cI, 100, .inl (fun _ => 0))), ((a3 8), .inl (cI, 100, .inl (fun _ => 0))), ((a3 9), .inl (cI, 100, .inl (fun _ => 0))), ((a3 10), .inl (cI, 100, .inl (fun _ => 0))), ((a3 11), .inl (cI, 100, .inl (fun _ => 0))), ((a3 12), .inl (cI, 100, .inl (fun _ => 0))), ((a5 0), .inr (6, [.ref (a1 0), .int 0, .ref (a5 1), .ref (a5 2), .ref (a5 3)])), ((a5 1), .inr (4, [.ref (a5 4)])), ((a5 2), .inr (4, [.ref (a5 5)])), ((a5 3), .inr (4, [.ref (a5 6)])), ((a5 4), .inl (cI, 12, .inl (fun _ => 0))), ((a5 5), .inl (cI, 12, .inl (fun _ => 0))), ((a5 6), .inl (cI, 12, .inl (fun _ => 0))), ((a7 0), .inr (3, [.ref (a5 0), .ref (a7 1), .ref (a7 2)])), ((a7 1), .inr (4, [.ref (a7 3)])), ((a7 2), .inr (4, [.ref (a7 4)])), ((a7 3), .inl (cI, 64, .inl (fun _ => 0))), ((a7 4), .inl (cI, 2048, .inl (fun _ => 0))), (q8, .inr (0, [.null, .null, .int 0, .int 0, .int 0, .int 0, .int 0, .int 0, .int 0, .null, .null, .null, .null, .null, .null, .null]))]) rfl ?_
  refine gg_dup X dX7_init_60 rfl ?_
  refine gg_aload_n X dX7_init_61 0 rfl ?_
  refine gg_get X dX7_init_62 0 0 rfl rfl (by decide) (fun _ h => (List.mem_cons_of_mem _ (List.mem_append_left _ (List.mem_append_left _ (List.mem_append_left _ (List.mem_append_left _ (List.mem_append_left _ (List.mem_append_left _ (List.mem_append_right _ h))))))))) (List.mem_of_getElem? (i := 7) rfl) rfl (v := .ref (a1 0)) rfl ?_
  refine gg_aload_n X dX7_init_65 0 rfl ?_
  refine gg_get X dX7_init_66 0 2 rfl rfl (by decide) (fun _ h => (List.mem_cons_of_mem _ (List.mem_append_left _ (List.mem_append_left _ (List.mem_append_left _ (List.mem_append_left _ (List.mem_append_left _ (List.mem_append_left _ (List.mem_append_right _ h))))))))) (List.mem_of_getElem? (i := 15) rfl) rfl (v := .ref (a5 0)) rfl ?_
  refine gg_call X (nw2 := []) (As := [.ref (a1 0), .ref (a5 0)]) (rest := [.ref q8, .ref h0]) (cf := (ck_0 cI (a1 0) (a5 0))) (N := 15) (σ := sX0_init) (c2 := 51) (s2 := 3035) (wr := [(h0, .inr (7, [.ref (a1 0), .ref (a3 0), .ref (a5 0), .ref (a7 0), .null, .null, .int 0])), ((a1 0), .inr (1, [.int 0, .ref (a1 1), .ref (a1 2), .ref (a1 3), .ref (a1 4), .ref (a1 5)])), ((a1 1), .inr (4, [.ref (a1 6)])), ((a1 2), .inr (4, [.ref (a1 7)])), ((a1 3), .inr (4, [.ref (a1 8)])), ((a1 4), .inr (4, [.ref (a1 9)])), ((a1 5), .inr (4, [.ref (a1 10)])), ((a1 6), .inl (cI, 8, .inl (fun _ => 0))), ((a1 7), .inl (cI, 8, .inl (fun _ => 0))), ((a1 8), .inl (cI, 8, .inl (fun _ => 0))), ((a1 9), .inl (cI, 8, .inl (fun _ => 0))), ((a1 10), .inl (cI, 8, .inl (fun _ => 0))), ((a3 0), .inr (2, [.int 0, .ref (a3 1), .ref (a3 2), .ref (a3 3), .ref (a3 4), .ref (a3 5), .ref (a3 6)])), ((a3 1), .inr (4, [.ref (a3 7)])), ((a3 2), .inr (4, [.ref (a3 8)])), ((a3 3), .inr (4, [.ref (a3 9)])), ((a3 4), .inr (4, [.ref (a3 10)])), ((a3 5), .inr (4, [.ref (a3 11)])), ((a3 6), .inr (4, [.ref (a3 12)])), ((a3 7), .inl (cI, 100, .inl (fun _ => 0))), ((a3 8), .inl (cI, 100, .inl (fun _ => 0))), ((a3 9), .inl (cI, 100, .inl (fun _ => 0))), ((a3 10), .inl (cI, 100, .inl (fun _ => 0))), ((a3 11), .inl (cI, 100, .inl (fun _ => 0))), ((a3 12), .inl (cI, 100, .inl (fun _ => 0))), ((a5 0), .inr (6, [.ref (a1 0), .int 0, .ref (a5 1), .ref (a5 2), .ref (a5 3)])), ((a5 1), .inr (4, [.ref (a5 4)])), ((a5 2), .inr (4, [.ref (a5 5)])), ((a5 3), .inr (4, [.ref (a5 6)])), ((a5 4), .inl (cI, 12, .inl (fun _ => 0))), ((a5 5), .inl (cI, 12, .inl (fun _ => 0))), ((a5 6), .inl (cI, 12, .inl (fun _ => 0))), ((a7 0), .inr (3, [.ref (a5 0), .ref (a7 1), .ref (a7 2)])), ((a7 1), .inr (4, [.ref (a7 3)])), ((a7 2), .inr (4, [.ref (a7 4)])), ((a7 3), .inl (cI, 64, .inl (fun _ => 0))), ((a7 4), .inl (cI, 2048, .inl (fun _ => 0)))]) dX7_init_69 hL (fun sz => nX0_init sz) gX7_init_X0_init rfl ⟨rfl, rfl⟩ (List.mem_of_getElem? (i := 79) rfl) (List.mem_of_getElem? (i := 80) rfl) (List.mem_of_getElem? (i := 22) rfl) rfl hyX0_init ⟨Nat.le_of_ble_eq_true rfl, Nat.le_of_ble_eq_true rfl⟩ rfl (Nat.le_of_ble_eq_true rfl) (fun w h => by cases h) [0] rfl 37 [0, 1, 2, 3, 4, 5, 6, 7, 8, 9, 10, 11, 12, 13, 14, 15, 16, 17, 18, 19, 20, 21, 22, 23, 24, 25, 26, 27, 28, 29, 30, 31, 32, 33, 34, 35, 36] rfl rfl (by decide) (by decide) rfl rfl (Nat.le_of_ble_eq_true rfl) (Nat.le_of_ble_eq_true rfl) (fun a9 ea9 => ?_)
  subst ea9
  refine gg_eq (ws2 := [(h0, .inr (7, [.ref (a1 0), .ref (a3 0), .ref (a5 0), .ref (a7 0), .null, .null, .int 0])), ((a1 0), .inr (1, [.int 0, .ref (a1 1), .ref (a1 2), .ref (a1 3), .ref (a1 4), .ref (a1 5)])), ((a1 1), .inr (4, [.ref (a1 6)])), ((a1 2), .inr (4, [.ref (a1 7)])), ((a1 3), .inr (4, [.ref (a1 8)])), ((a1 4), .inr (4, [.ref (a1 9)])), ((a1 5), .inr (4, [.ref (a1 10)])), ((a1 6), .inl (cI, 8, .inl (fun _ => 0))), ((a1 7), .inl (cI, 8, .inl (fun _ => 0))), ((a1 8), .inl (cI, 8, .inl (fun _ => 0))), ((a1 9), .inl (cI, 8, .inl (fun _ => 0))), ((a1 10), .inl (cI, 8, .inl (fun _ => 0))), ((a3 0), .inr (2, [.int 0, .ref (a3 1), .ref (a3 2), .ref (a3 3), .ref (a3 4), .ref (a3 5), .ref (a3 6)])), ((a3 1), .inr (4, [.ref (a3 7)])), ((a3 2), .inr (4, [.ref (a3 8)])), ((a3 3), .inr (4, [.ref (a3 9)])), ((a3 4), .inr (4, [.ref (a3 10)])), ((a3 5), .inr (4, [.ref (a3 11)])), ((a3 6), .inr (4, [.ref (a3 12)])), ((a3 7), .inl (cI, 100, .inl (fun _ => 0))), ((a3 8), .inl (cI, 100, .inl (fun _ => 0))), ((a3 9), .inl (cI, 100, .inl (fun _ => 0))), ((a3 10), .inl (cI, 100, .inl (fun _ => 0))), ((a3 11), .inl (cI, 100, .inl (fun _ => 0))), ((a3 12), .inl (cI, 100, .inl (fun _ => 0))), ((a5 0), .inr (6, [.ref (a1 0), .int 0, .ref (a5 1), .ref (a5 2), .ref (a5 3)])), ((a5 1), .inr (4, [.ref (a5 4)])), ((a5 2), .inr (4, [.ref (a5 5)])), ((a5 3), .inr (4, [.ref (a5 6)])), ((a5 4), .inl (cI, 12, .inl (fun _ => 0))), ((a5 5), .inl (cI, 12, .inl (fun _ => 0))), ((a5 6), .inl (cI, 12, .inl (fun _ => 0))), ((a7 0), .inr (3, [.ref (a5 0), .ref (a7 1), .ref (a7 2)])), ((a7 1), .inr (4, [.ref (a7 3)])), ((a7 2), .inr (4, [.ref (a7 4)])), ((a7 3), .inl (cI, 64, .inl (fun _ => 0))), ((a7 4), .inl (cI, 2048, .inl (fun _ => 0))), ((a9 0), .inr (0, [.ref (a1 0), .ref (a5 0), .int 4, .int 2, .int 1, .int 0, .int 0, .int 0, .int 0, .ref (a9 1), .ref (a9 2), .ref (a9 3), .ref (a9 4), .ref (a9 5), .ref (a9 6), .ref (a9 7)])), ((a9 1), .inr (4, [.ref (a9 8)])), ((a9 2), .inr (4, [.ref (a9 9)])), ((a9 3), .inr (4, [.ref (a9 10)])), ((a9 4), .inr (4, [.ref (a9 11)])), ((a9 5), .inr (4, [.ref (a9 12)])), ((a9 6), .inr (4, [.ref (a9 13)])), ((a9 7), .inr (4, [.ref (a9 14)])), ((a9 8), .inl (cI, 67, .inl (fun _ => 0))), ((a9 9), .inl (cI, 10, .inl (fun _ => 0))), ((a9 10), .inl (cI, 4, .inl (fun _ => 0))), ((a9 11), .inl (cI, 3, .inl (fun _ => 0))), ((a9 12), .inl (cI, 12, .inl (fun _ => 0))), ((a9 13), .inl (cI, 84, .inl (fun _ => 0))), ((a9 14), .inl (cI, 7, .inl (fun _ => 0)))]) rfl ?_
  refine gg_putF X (ty := (.object "LinenTunnel$House")) dX7_init_72 0 4 tyX7 tyX7_ok nmX7 rfl rfl (by decide) (fun _ h => (List.mem_cons_of_mem _ (List.mem_append_left _ (List.mem_append_left _ (List.mem_append_left _ (List.mem_append_left _ (List.mem_append_left _ (List.mem_append_left _ (List.mem_append_right _ h))))))))) (List.mem_of_getElem? (i := 23) rfl) rfl rfl rfl (by decide +kernel) rfl rfl (Nat.le_of_ble_eq_true rfl) (ws2 := [(h0, .inr (7, [.ref (a1 0), .ref (a3 0), .ref (a5 0), .ref (a7 0), .ref (a9 0), .null, .int 0])), ((a1 0), .inr (1, [.int 0, .ref (a1 1), .ref (a1 2), .ref (a1 3), .ref (a1 4), .ref (a1 5)])), ((a1 1), .inr (4, [.ref (a1 6)])), ((a1 2), .inr (4, [.ref (a1 7)])), ((a1 3), .inr (4, [.ref (a1 8)])), ((a1 4), .inr (4, [.ref (a1 9)])), ((a1 5), .inr (4, [.ref (a1 10)])), ((a1 6), .inl (cI, 8, .inl (fun _ => 0))), ((a1 7), .inl (cI, 8, .inl (fun _ => 0))), ((a1 8), .inl (cI, 8, .inl (fun _ => 0))), ((a1 9), .inl (cI, 8, .inl (fun _ => 0))), ((a1 10), .inl (cI, 8, .inl (fun _ => 0))), ((a3 0), .inr (2, [.int 0, .ref (a3 1), .ref (a3 2), .ref (a3 3), .ref (a3 4), .ref (a3 5), .ref (a3 6)])), ((a3 1), .inr (4, [.ref (a3 7)])), ((a3 2), .inr (4, [.ref (a3 8)])), ((a3 3), .inr (4, [.ref (a3 9)])), ((a3 4), .inr (4, [.ref (a3 10)])), ((a3 5), .inr (4, [.ref (a3 11)])), ((a3 6), .inr (4, [.ref (a3 12)])), ((a3 7), .inl (cI, 100, .inl (fun _ => 0))), ((a3 8), .inl (cI, 100, .inl (fun _ => 0))), ((a3 9), .inl (cI, 100, .inl (fun _ => 0))), ((a3 10), .inl (cI, 100, .inl (fun _ => 0))), ((a3 11), .inl (cI, 100, .inl (fun _ => 0))), ((a3 12), .inl (cI, 100, .inl (fun _ => 0))), ((a5 0), .inr (6, [.ref (a1 0), .int 0, .ref (a5 1), .ref (a5 2), .ref (a5 3)])), ((a5 1), .inr (4, [.ref (a5 4)])), ((a5 2), .inr (4, [.ref (a5 5)])), ((a5 3), .inr (4, [.ref (a5 6)])), ((a5 4), .inl (cI, 12, .inl (fun _ => 0))), ((a5 5), .inl (cI, 12, .inl (fun _ => 0))), ((a5 6), .inl (cI, 12, .inl (fun _ => 0))), ((a7 0), .inr (3, [.ref (a5 0), .ref (a7 1), .ref (a7 2)])), ((a7 1), .inr (4, [.ref (a7 3)])), ((a7 2), .inr (4, [.ref (a7 4)])), ((a7 3), .inl (cI, 64, .inl (fun _ => 0))), ((a7 4), .inl (cI, 2048, .inl (fun _ => 0))), ((a9 0), .inr (0, [.ref (a1 0), .ref (a5 0), .int 4, .int 2, .int 1, .int 0, .int 0, .int 0, .int 0, .ref (a9 1), .ref (a9 2), .ref (a9 3), .ref (a9 4), .ref (a9 5), .ref (a9 6), .ref (a9 7)])), ((a9 1), .inr (4, [.ref (a9 8)])), ((a9 2), .inr (4, [.ref (a9 9)])), ((a9 3), .inr (4, [.ref (a9 10)])), ((a9 4), .inr (4, [.ref (a9 11)])), ((a9 5), .inr (4, [.ref (a9 12)])), ((a9 6), .inr (4, [.ref (a9 13)])), ((a9 7), .inr (4, [.ref (a9 14)])), ((a9 8), .inl (cI, 67, .inl (fun _ => 0))), ((a9 9), .inl (cI, 10, .inl (fun _ => 0))), ((a9 10), .inl (cI, 4, .inl (fun _ => 0))), ((a9 11), .inl (cI, 3, .inl (fun _ => 0))), ((a9 12), .inl (cI, 12, .inl (fun _ => 0))), ((a9 13), .inl (cI, 84, .inl (fun _ => 0))), ((a9 14), .inl (cI, 7, .inl (fun _ => 0)))]) rfl ?_
  refine gg_aload_n X dX7_init_75 0 rfl ?_
  refine gg_new X (ci := 5) (M := 3) (c2 := 52) (s2 := 3038) (fs := [.null, .null, .null]) dX7_init_76 tyX5 tyX5_ok rfl (fun _ h => (List.mem_cons_of_mem _ (List.mem_append_left _ (List.mem_append_right _ h)))) (List.mem_of_getElem? (i := 24) rfl) (List.mem_of_getElem? (i := 25) rfl) (List.mem_of_getElem? (i := 26) rfl) (fun j hj => by rcases (show j = 0 ∨ j = 1 ∨ j = 2 by omega) with rfl | rfl | rfl <;> rfl) rfl rfl (Nat.le_of_ble_eq_true rfl) (Nat.le_of_ble_eq_true rfl) (fun q10 => ?_)
  refine gg_eq (ws2 := [(h0, .inr (7, [.ref (a1 0), .ref (a3 0), .ref (a5 0), .ref (a7 0), .ref (a9 0), .null, .int 0])), ((a1 0), .inr (1, [.int 0, .ref (a1 1), .ref (a1 2), .ref (a1 3), .ref (a1 4), .ref (a1 5)])), ((a1 1), .inr (4, [.ref (a1 6)])), ((a1 2), .inr (4, [.ref (a1 7)])), ((a1 3), .inr (4, [.ref (a1 8)])), ((a1 4), .inr (4, [.ref (a1 9)])), ((a1 5), .inr (4, [.ref (a1 10)])), ((a1 6), .inl (cI, 8, .inl (fun _ => 0))), ((a1 7), .inl (cI, 8, .inl (fun _ => 0))), ((a1 8), .inl (cI, 8, .inl (fun _ => 0))), ((a1 9), .inl (cI, 8, .inl (fun _ => 0))), ((a1 10), .inl (cI, 8, .inl (fun _ => 0))), ((a3 0), .inr (2, [.int 0, .ref (a3 1), .ref (a3 2), .ref (a3 3), .ref (a3 4), .ref (a3 5), .ref (a3 6)])), ((a3 1), .inr (4, [.ref (a3 7)])), ((a3 2), .inr (4, [.ref (a3 8)])), ((a3 3), .inr (4, [.ref (a3 9)])), ((a3 4), .inr (4, [.ref (a3 10)])), ((a3 5), .inr (4, [.ref (a3 11)])), ((a3 6), .inr (4, [.ref (a3 12)])), ((a3 7), .inl (cI, 100, .inl (fun _ => 0))), ((a3 8), .inl (cI, 100, .inl (fun _ => 0))), ((a3 9), .inl (cI, 100, .inl (fun _ => 0))), ((a3 10), .inl (cI, 100, .inl (fun _ => 0))), ((a3 11), .inl (cI, 100, .inl (fun _ => 0))), ((a3 12), .inl (cI, 100, .inl (fun _ => 0))), ((a5 0), .inr (6, [.ref (a1 0), .int 0, .ref (a5 1), .ref (a5 2), .ref (a5 3)])), ((a5 1), .inr (4, [.ref (a5 4)])), ((a5 2), .inr (4, [.ref (a5 5)])), ((a5 3), .inr (4, [.ref (a5 6)])), ((a5 4), .inl (cI, 12, .inl (fun _ => 0))), ((a5 5), .inl (cI, 12, .inl (fun _ => 0))), ((a5 6), .inl (cI, 12, .inl (fun _ => 0))), ((a7 0), .inr (3, [.ref (a5 0), .ref (a7 1), .ref (a7 2)])), ((a7 1), .inr (4, [.ref (a7 3)])), ((a7 2), .inr (4, [.ref (a7 4)])), ((a7 3), .inl (cI, 64, .inl (fun _ => 0))), ((a7 4), .inl (cI, 2048, .inl (fun _ => 0))), ((a9 0), .inr (0, [.ref (a1 0), .ref (a5 0), .int 4, .int 2, .int 1, .int 0, .int 0, .int 0, .int 0, .ref (a9 1), .ref (a9 2), .ref (a9 3), .ref (a9 4), .ref (a9 5), .ref (a9 6), .ref (a9 7)])), ((a9 1), .inr (4, [.ref (a9 8)])), ((a9 2), .inr (4, [.ref (a9 9)])), ((a9 3), .inr (4, [.ref (a9 10)])), ((a9 4), .inr (4, [.ref (a9 11)])), ((a9 5), .inr (4, [.ref (a9 12)])), ((a9 6), .inr (4, [.ref (a9 13)])), ((a9 7), .inr (4, [.ref (a9 14)])), ((a9 8), .inl (cI, 67, .inl (fun _ => 0))), ((a9 9), .inl (cI, 10, .inl (fun _ => 0))), ((a9 10), .inl (cI, 4, .inl (fun _ => 0))), ((a9 11), .inl (cI, 3, .inl (fun _ => 0))), ((a9 12), .inl (cI, 12, .inl (fun _ => 0))), ((a9 13), .inl (cI, 84, .inl (fun _ => 0))), ((a9 14), .inl (cI, 7, .inl (fun _ => 0))), (q10, .inr (5, [.null, .null, .null]))]) rfl ?_
  refine gg_dup X dX7_init_79 rfl ?_
  refine gg_call X (nw2 := []) (As := []) (rest := [.ref q10, .ref h0]) (cf := (ck_5 cI)) (N := 7) (σ := sX5_init) (c2 := 58) (s2 := 3289) (wr := [(h0, .inr (7, [.ref (a1 0), .ref (a3 0), .ref (a5 0), .ref (a7 0), .ref (a9 0), .null, .int 0])), ((a1 0), .inr (1, [.int 0, .ref (a1 1), .ref (a1 2), .ref (a1 3), .ref (a1 4), .ref (a1 5)])), ((a1 1), .inr (4, [.ref (a1 6)])), ((a1 2), .inr (4, [.ref (a1 7)])), ((a1 3), .inr (4, [.ref (a1 8)])), ((a1 4), .inr (4, [.ref (a1 9)])), ((a1 5), .inr (4, [.ref (a1 10)])), ((a1 6), .inl (cI, 8, .inl (fun _ => 0))), ((a1 7), .inl (cI, 8, .inl (fun _ => 0))), ((a1 8), .inl (cI, 8, .inl (fun _ => 0))), ((a1 9), .inl (cI, 8, .inl (fun _ => 0))), ((a1 10), .inl (cI, 8, .inl (fun _ => 0))), ((a3 0), .inr (2, [.int 0, .ref (a3 1), .ref (a3 2), .ref (a3 3), .ref (a3 4), .ref (a3 5), .ref (a3 6)])), ((a3 1), .inr (4, [.ref (a3 7)])), ((a3 2), .inr (4, [.ref (a3 8)])), ((a3 3), .inr (4, [.ref (a3 9)])), ((a3 4), .inr (4, [.ref (a3 10)])), ((a3 5), .inr (4, [.ref (a3 11)])), ((a3 6), .inr (4, [.ref (a3 12)])), ((a3 7), .inl (cI, 100, .inl (fun _ => 0))), ((a3 8), .inl (cI, 100, .inl (fun _ => 0))), ((a3 9), .inl (cI, 100, .inl (fun _ => 0))), ((a3 10), .inl (cI, 100, .inl (fun _ => 0))), ((a3 11), .inl (cI, 100, .inl (fun _ => 0))), ((a3 12), .inl (cI, 100, .inl (fun _ => 0))), ((a5 0), .inr (6, [.ref (a1 0), .int 0, .ref (a5 1), .ref (a5 2), .ref (a5 3)])), ((a5 1), .inr (4, [.ref (a5 4)])), ((a5 2), .inr (4, [.ref (a5 5)])), ((a5 3), .inr (4, [.ref (a5 6)])), ((a5 4), .inl (cI, 12, .inl (fun _ => 0))), ((a5 5), .inl (cI, 12, .inl (fun _ => 0))), ((a5 6), .inl (cI, 12, .inl (fun _ => 0))), ((a7 0), .inr (3, [.ref (a5 0), .ref (a7 1), .ref (a7 2)])), ((a7 1), .inr (4, [.ref (a7 3)])), ((a7 2), .inr (4, [.ref (a7 4)])), ((a7 3), .inl (cI, 64, .inl (fun _ => 0))), ((a7 4), .inl (cI, 2048, .inl (fun _ => 0))), ((a9 0), .inr (0, [.ref (a1 0), .ref (a5 0), .int 4, .int 2, .int 1, .int 0, .int 0, .int 0, .int 0, .ref (a9 1), .ref (a9 2), .ref (a9 3), .ref (a9 4), .ref (a9 5), .ref (a9 6), .ref (a9 7)])), ((a9 1), .inr (4, [.ref (a9 8)])), ((a9 2), .inr (4, [.ref (a9 9)])), ((a9 3), .inr (4, [.ref (a9 10)])), ((a9 4), .inr (4, [.ref (a9 11)])), ((a9 5), .inr (4, [.ref (a9 12)])), ((a9 6), .inr (4, [.ref (a9 13)])), ((a9 7), .inr (4, [.ref (a9 14)])), ((a9 8), .inl (cI, 67, .inl (fun _ => 0))), ((a9 9), .inl (cI, 10, .inl (fun _ => 0))), ((a9 10), .inl (cI, 4, .inl (fun _ => 0))), ((a9 11), .inl (cI, 3, .inl (fun _ => 0))), ((a9 12), .inl (cI, 12, .inl (fun _ => 0))), ((a9 13), .inl (cI, 84, .inl (fun _ => 0))), ((a9 14), .inl (cI, 7, .inl (fun _ => 0)))]) dX7_init_80 hL (fun sz => nX5_init sz) gX7_init_X5_init rfl ⟨rfl, rfl⟩ (List.mem_of_getElem? (i := 101) rfl) (List.mem_of_getElem? (i := 102) rfl) (List.mem_of_getElem? (i := 26) rfl) rfl hyX5_init ⟨Nat.le_of_ble_eq_true rfl, Nat.le_of_ble_eq_true rfl⟩ rfl (Nat.le_of_ble_eq_true rfl) (fun w h => by cases h) [0] rfl 52 [0, 1, 2, 3, 4, 5, 6, 7, 8, 9, 10, 11, 12, 13, 14, 15, 16, 17, 18, 19, 20, 21, 22, 23, 24, 25, 26, 27, 28, 29, 30, 31, 32, 33, 34, 35, 36, 37, 38, 39, 40, 41, 42, 43, 44, 45, 46, 47, 48, 49, 50, 51] rfl rfl (by decide) (by decide) rfl rfl (Nat.le_of_ble_eq_true rfl) (Nat.le_of_ble_eq_true rfl) (fun a11 ea11 => ?_)
  subst ea11
  refine gg_eq (ws2 := [(h0, .inr (7, [.ref (a1 0), .ref (a3 0), .ref (a5 0), .ref (a7 0), .ref (a9 0), .null, .int 0])), ((a1 0), .inr (1, [.int 0, .ref (a1 1), .ref (a1 2), .ref (a1 3), .ref (a1 4), .ref (a1 5)])), ((a1 1), .inr (4, [.ref (a1 6)])), ((a1 2), .inr (4, [.ref (a1 7)])), ((a1 3), .inr (4, [.ref (a1 8)])), ((a1 4), .inr (4, [.ref (a1 9)])), ((a1 5), .inr (4, [.ref (a1 10)])), ((a1 6), .inl (cI, 8, .inl (fun _ => 0))), ((a1 7), .inl (cI, 8, .inl (fun _ => 0))), ((a1 8), .inl (cI, 8, .inl (fun _ => 0))), ((a1 9), .inl (cI, 8, .inl (fun _ => 0))), ((a1 10), .inl (cI, 8, .inl (fun _ => 0))), ((a3 0), .inr (2, [.int 0, .ref (a3 1), .ref (a3 2), .ref (a3 3), .ref (a3 4), .ref (a3 5), .ref (a3 6)])), ((a3 1), .inr (4, [.ref (a3 7)])), ((a3 2), .inr (4, [.ref (a3 8)])), ((a3 3), .inr (4, [.ref (a3 9)])), ((a3 4), .inr (4, [.ref (a3 10)])), ((a3 5), .inr (4, [.ref (a3 11)])), ((a3 6), .inr (4, [.ref (a3 12)])), ((a3 7), .inl (cI, 100, .inl (fun _ => 0))), ((a3 8), .inl (cI, 100, .inl (fun _ => 0))), ((a3 9), .inl (cI, 100, .inl (fun _ => 0))), ((a3 10), .inl (cI, 100, .inl (fun _ => 0))), ((a3 11), .inl (cI, 100, .inl (fun _ => 0))), ((a3 12), .inl (cI, 100, .inl (fun _ => 0))), ((a5 0), .inr (6, [.ref (a1 0), .int 0, .ref (a5 1), .ref (a5 2), .ref (a5 3)])), ((a5 1), .inr (4, [.ref (a5 4)])), ((a5 2), .inr (4, [.ref (a5 5)])), ((a5 3), .inr (4, [.ref (a5 6)])), ((a5 4), .inl (cI, 12, .inl (fun _ => 0))), ((a5 5), .inl (cI, 12, .inl (fun _ => 0))), ((a5 6), .inl (cI, 12, .inl (fun _ => 0))), ((a7 0), .inr (3, [.ref (a5 0), .ref (a7 1), .ref (a7 2)])), ((a7 1), .inr (4, [.ref (a7 3)])), ((a7 2), .inr (4, [.ref (a7 4)])), ((a7 3), .inl (cI, 64, .inl (fun _ => 0))), ((a7 4), .inl (cI, 2048, .inl (fun _ => 0))), ((a9 0), .inr (0, [.ref (a1 0), .ref (a5 0), .int 4, .int 2, .int 1, .int 0, .int 0, .int 0, .int 0, .ref (a9 1), .ref (a9 2), .ref (a9 3), .ref (a9 4), .ref (a9 5), .ref (a9 6), .ref (a9 7)])), ((a9 1), .inr (4, [.ref (a9 8)])), ((a9 2), .inr (4, [.ref (a9 9)])), ((a9 3), .inr (4, [.ref (a9 10)])), ((a9 4), .inr (4, [.ref (a9 11)])), ((a9 5), .inr (4, [.ref (a9 12)])), ((a9 6), .inr (4, [.ref (a9 13)])), ((a9 7), .inr (4, [.ref (a9 14)])), ((a9 8), .inl (cI, 67, .inl (fun _ => 0))), ((a9 9), .inl (cI, 10, .inl (fun _ => 0))), ((a9 10), .inl (cI, 4, .inl (fun _ => 0))), ((a9 11), .inl (cI, 3, .inl (fun _ => 0))), ((a9 12), .inl (cI, 12, .inl (fun _ => 0))), ((a9 13), .inl (cI, 84, .inl (fun _ => 0))), ((a9 14), .inl (cI, 7, .inl (fun _ => 0))), ((a11 0), .inr (5, [.ref (a11 1), .ref (a11 2), .ref (a11 3)])), ((a11 1), .inr (4, [.ref (a11 4)])), ((a11 2), .inr (4, [.ref (a11 5)])), ((a11 3), .inr (4, [.ref (a11 6)])), ((a11 4), .inl (cI, 4, .inl (fun i => if i < 4 then -1 else 0))), ((a11 5), .inl (cI, 4, .inl (fun _ => 0))), ((a11 6), .inl (cI, 240, .inl (fun _ => 0)))]) rfl ?_
  refine gg_putF X (ty := (.object "LinenTunnel$Sheets")) dX7_init_83 0 5 tyX7 tyX7_ok nmX7 rfl rfl (by decide) (fun _ h => (List.mem_cons_of_mem _ (List.mem_append_left _ (List.mem_append_left _ (List.mem_append_left _ (List.mem_append_left _ (List.mem_append_left _ (List.mem_append_left _ (List.mem_append_right _ h))))))))) (List.mem_of_getElem? (i := 27) rfl) rfl rfl rfl (by decide +kernel) rfl rfl (Nat.le_of_ble_eq_true rfl) (ws2 := [(h0, .inr (7, [.ref (a1 0), .ref (a3 0), .ref (a5 0), .ref (a7 0), .ref (a9 0), .ref (a11 0), .int 0])), ((a1 0), .inr (1, [.int 0, .ref (a1 1), .ref (a1 2), .ref (a1 3), .ref (a1 4), .ref (a1 5)])), ((a1 1), .inr (4, [.ref (a1 6)])), ((a1 2), .inr (4, [.ref (a1 7)])), ((a1 3), .inr (4, [.ref (a1 8)])), ((a1 4), .inr (4, [.ref (a1 9)])), ((a1 5), .inr (4, [.ref (a1 10)])), ((a1 6), .inl (cI, 8, .inl (fun _ => 0))), ((a1 7), .inl (cI, 8, .inl (fun _ => 0))), ((a1 8), .inl (cI, 8, .inl (fun _ => 0))), ((a1 9), .inl (cI, 8, .inl (fun _ => 0))), ((a1 10), .inl (cI, 8, .inl (fun _ => 0))), ((a3 0), .inr (2, [.int 0, .ref (a3 1), .ref (a3 2), .ref (a3 3), .ref (a3 4), .ref (a3 5), .ref (a3 6)])), ((a3 1), .inr (4, [.ref (a3 7)])), ((a3 2), .inr (4, [.ref (a3 8)])), ((a3 3), .inr (4, [.ref (a3 9)])), ((a3 4), .inr (4, [.ref (a3 10)])), ((a3 5), .inr (4, [.ref (a3 11)])), ((a3 6), .inr (4, [.ref (a3 12)])), ((a3 7), .inl (cI, 100, .inl (fun _ => 0))), ((a3 8), .inl (cI, 100, .inl (fun _ => 0))), ((a3 9), .inl (cI, 100, .inl (fun _ => 0))), ((a3 10), .inl (cI, 100, .inl (fun _ => 0))), ((a3 11), .inl (cI, 100, .inl (fun _ => 0))), ((a3 12), .inl (cI, 100, .inl (fun _ => 0))), ((a5 0), .inr (6, [.ref (a1 0), .int 0, .ref (a5 1), .ref (a5 2), .ref (a5 3)])), ((a5 1), .inr (4, [.ref (a5 4)])), ((a5 2), .inr (4, [.ref (a5 5)])), ((a5 3), .inr (4, [.ref (a5 6)])), ((a5 4), .inl (cI, 12, .inl (fun _ => 0))), ((a5 5), .inl (cI, 12, .inl (fun _ => 0))), ((a5 6), .inl (cI, 12, .inl (fun _ => 0))), ((a7 0), .inr (3, [.ref (a5 0), .ref (a7 1), .ref (a7 2)])), ((a7 1), .inr (4, [.ref (a7 3)])), ((a7 2), .inr (4, [.ref (a7 4)])), ((a7 3), .inl (cI, 64, .inl (fun _ => 0))), ((a7 4), .inl (cI, 2048, .inl (fun _ => 0))), ((a9 0), .inr (0, [.ref (a1 0), .ref (a5 0), .int 4, .int 2, .int 1, .int 0, .int 0, .int 0, .int 0, .ref (a9 1), .ref (a9 2), .ref (a9 3), .ref (a9 4), .ref (a9 5), .ref (a9 6), .ref (a9 7)])), ((a9 1), .inr (4, [.ref (a9 8)])), ((a9 2), .inr (4, [.ref (a9 9)])), ((a9 3), .inr (4, [.ref (a9 10)])), ((a9 4), .inr (4, [.ref (a9 11)])), ((a9 5), .inr (4, [.ref (a9 12)])), ((a9 6), .inr (4, [.ref (a9 13)])), ((a9 7), .inr (4, [.ref (a9 14)])), ((a9 8), .inl (cI, 67, .inl (fun _ => 0))), ((a9 9), .inl (cI, 10, .inl (fun _ => 0))), ((a9 10), .inl (cI, 4, .inl (fun _ => 0))), ((a9 11), .inl (cI, 3, .inl (fun _ => 0))), ((a9 12), .inl (cI, 12, .inl (fun _ => 0))), ((a9 13), .inl (cI, 84, .inl (fun _ => 0))), ((a9 14), .inl (cI, 7, .inl (fun _ => 0))), ((a11 0), .inr (5, [.ref (a11 1), .ref (a11 2), .ref (a11 3)])), ((a11 1), .inr (4, [.ref (a11 4)])), ((a11 2), .inr (4, [.ref (a11 5)])), ((a11 3), .inr (4, [.ref (a11 6)])), ((a11 4), .inl (cI, 4, .inl (fun i => if i < 4 then -1 else 0))), ((a11 5), .inl (cI, 4, .inl (fun _ => 0))), ((a11 6), .inl (cI, 240, .inl (fun _ => 0)))]) rfl ?_
  refine gg_aload_n X dX7_init_86 0 rfl ?_
  refine gg_iconst X dX7_init_87 (v := 0) (by decide) ?_
  refine gg_put X (ty := .int) dX7_init_88 0 6 tyX7 tyX7_ok nmX7 rfl rfl (by decide) (fun _ h => (List.mem_cons_of_mem _ (List.mem_append_left _ (List.mem_append_left _ (List.mem_append_left _ (List.mem_append_left _ (List.mem_append_left _ (List.mem_append_left _ (List.mem_append_right _ h))))))))) (List.mem_of_getElem? (i := 28) rfl) rfl rfl (by decide +kernel) rfl rfl (Nat.le_of_ble_eq_true rfl) (ws2 := [(h0, .inr (7, [.ref (a1 0), .ref (a3 0), .ref (a5 0), .ref (a7 0), .ref (a9 0), .ref (a11 0), .int 0])), ((a1 0), .inr (1, [.int 0, .ref (a1 1), .ref (a1 2), .ref (a1 3), .ref (a1 4), .ref (a1 5)])), ((a1 1), .inr (4, [.ref (a1 6)])), ((a1 2), .inr (4, [.ref (a1 7)])), ((a1 3), .inr (4, [.ref (a1 8)])), ((a1 4), .inr (4, [.ref (a1 9)])), ((a1 5), .inr (4, [.ref (a1 10)])), ((a1 6), .inl (cI, 8, .inl (fun _ => 0))), ((a1 7), .inl (cI, 8, .inl (fun _ => 0))), ((a1 8), .inl (cI, 8, .inl (fun _ => 0))), ((a1 9), .inl (cI, 8, .inl (fun _ => 0))), ((a1 10), .inl (cI, 8, .inl (fun _ => 0))), ((a3 0), .inr (2, [.int 0, .ref (a3 1), .ref (a3 2), .ref (a3 3), .ref (a3 4), .ref (a3 5), .ref (a3 6)])), ((a3 1), .inr (4, [.ref (a3 7)])), ((a3 2), .inr (4, [.ref (a3 8)])), ((a3 3), .inr (4, [.ref (a3 9)])), ((a3 4), .inr (4, [.ref (a3 10)])), ((a3 5), .inr (4, [.ref (a3 11)])), ((a3 6), .inr (4, [.ref (a3 12)])), ((a3 7), .inl (cI, 100, .inl (fun _ => 0))), ((a3 8), .inl (cI, 100, .inl (fun _ => 0))), ((a3 9), .inl (cI, 100, .inl (fun _ => 0))), ((a3 10), .inl (cI, 100, .inl (fun _ => 0))), ((a3 11), .inl (cI, 100, .inl (fun _ => 0))), ((a3 12), .inl (cI, 100, .inl (fun _ => 0))), ((a5 0), .inr (6, [.ref (a1 0), .int 0, .ref (a5 1), .ref (a5 2), .ref (a5 3)])), ((a5 1), .inr (4, [.ref (a5 4)])), ((a5 2), .inr (4, [.ref (a5 5)])), ((a5 3), .inr (4, [.ref (a5 6)])), ((a5 4), .inl (cI, 12, .inl (fun _ => 0))), ((a5 5), .inl (cI, 12, .inl (fun _ => 0))), ((a5 6), .inl (cI, 12, .inl (fun _ => 0))), ((a7 0), .inr (3, [.ref (a5 0), .ref (a7 1), .ref (a7 2)])), ((a7 1), .inr (4, [.ref (a7 3)])), ((a7 2), .inr (4, [.ref (a7 4)])), ((a7 3), .inl (cI, 64, .inl (fun _ => 0))), ((a7 4), .inl (cI, 2048, .inl (fun _ => 0))), ((a9 0), .inr (0, [.ref (a1 0), .ref (a5 0), .int 4, .int 2, .int 1, .int 0, .int 0, .int 0, .int 0, .ref (a9 1), .ref (a9 2), .ref (a9 3), .ref (a9 4), .ref (a9 5), .ref (a9 6), .ref (a9 7)])), ((a9 1), .inr (4, [.ref (a9 8)])), ((a9 2), .inr (4, [.ref (a9 9)])), ((a9 3), .inr (4, [.ref (a9 10)])), ((a9 4), .inr (4, [.ref (a9 11)])), ((a9 5), .inr (4, [.ref (a9 12)])), ((a9 6), .inr (4, [.ref (a9 13)])), ((a9 7), .inr (4, [.ref (a9 14)])), ((a9 8), .inl (cI, 67, .inl (fun _ => 0))), ((a9 9), .inl (cI, 10, .inl (fun _ => 0))), ((a9 10), .inl (cI, 4, .inl (fun _ => 0))), ((a9 11), .inl (cI, 3, .inl (fun _ => 0))), ((a9 12), .inl (cI, 12, .inl (fun _ => 0))), ((a9 13), .inl (cI, 84, .inl (fun _ => 0))), ((a9 14), .inl (cI, 7, .inl (fun _ => 0))), ((a11 0), .inr (5, [.ref (a11 1), .ref (a11 2), .ref (a11 3)])), ((a11 1), .inr (4, [.ref (a11 4)])), ((a11 2), .inr (4, [.ref (a11 5)])), ((a11 3), .inr (4, [.ref (a11 6)])), ((a11 4), .inl (cI, 4, .inl (fun i => if i < 4 then -1 else 0))), ((a11 5), .inl (cI, 4, .inl (fun _ => 0))), ((a11 6), .inl (cI, 240, .inl (fun _ => 0)))]) rfl ?_
  exact gg_ret X dX7_init_91 hQ (fun k => [h0, (a1 0), (a3 0), (a5 0), (a7 0), (a9 0), (a11 0), (a1 6), (a1 7), (a1 8), (a1 9), (a1 10), (a3 7), (a3 8), (a3 9), (a3 10), (a3 11), (a3 12), (a5 4), (a5 5), (a5 6), (a7 3), (a7 4), (a9 8), (a9 9), (a9 10), (a9 11), (a9 12), (a9 13), (a9 14), (a11 4), (a11 5), (a11 6), (a1 1), (a1 2), (a1 3), (a1 4), (a1 5), (a3 1), (a3 2), (a3 3), (a3 4), (a3 5), (a3 6), (a5 1), (a5 2), (a5 3), (a7 1), (a7 2), (a9 1), (a9 2), (a9 3), (a9 4), (a9 5), (a9 6), (a9 7), (a11 1), (a11 2), (a11 3)].getD k 0) rfl [0, 1, 12, 25, 32, 37, 52, 7, 8, 9, 10, 11, 19, 20, 21, 22, 23, 24, 29, 30, 31, 35, 36, 45, 46, 47, 48, 49, 50, 51, 56, 57, 58, 2, 3, 4, 5, 6, 13, 14, 15, 16, 17, 18, 26, 27, 28, 33, 34, 38, 39, 40, 41, 42, 43, 44, 53, 54, 55] (by decide) rfl
def md_0 : mm_M := fun c j => if c = 0 then (if j = 18 then 4 else if j = 19 then 2 else if j = 20 then 1 else 0) else 0
abbrev rX8_init : Room := { frames := 1, cells := 28, slots := 4520, locals := 12 }
theorem hyX8_init : yX8_init.cls ≠ "java/lang/invoke/MethodHandle" ∧ yX8_init.cls ≠ "java/lang/invoke/VarHandle" ∧ (parseMethodDescriptor yX8_init.desc).map (fun d => d.parameters.length) = some 0 := by decide +kernel
set_option maxRecDepth 100000 in
set_option maxHeartbeats 4000000 in
theorem nX8_init {l : Launch} {D : va_G} {cI cZ : ClassId} {h0 : Nat} (sz : Nat) : Met l yX8_init wsX8_init rX8_init (gg_P [] D [(cI, .int), (cZ, .boolean)] [(h0, .inr (8, [.int 0, .null, .null, .null, .null, .null, .int 0, .null, .null, .null, .null, .null, .null, .int 0, .null, .null, .null, .null, .int 0, .int 0, .int 0, .int 0, .null, .null, .null, .null, .null, .null, .int 0, .null, .null, .null, .null, .null, .null, .null, .int 0]))] [.ref h0] sz) (gg_Q D [(h0, .inr (8, [.int 0, .null, .null, .null, .null, .null, .int 0, .null, .null, .null, .null, .null, .null, .int 0, .null, .null, .null, .null, .int 0, .int 0, .int 0, .int 0, .null, .null, .null, .null, .null, .null, .int 0, .null, .null, .null, .null, .null, .null, .null, .int 0]))] h0 (md_cf cI cZ) 29 md_0 sz) 28 4520 (va_A [(h0, .inr (8, [.int 0, .null, .null, .null, .null, .null, .int 0, .null, .null, .null, .null, .null, .null, .int 0, .null, .null, .null, .null, .int 0, .int 0, .int 0, .int 0, .null, .null, .null, .null, .null, .null, .int 0, .null, .null, .null, .null, .null, .null, .null, .int 0]))] sz) := by
  refine gg_met (y := yX8_init) (ws := wsX8_init) (rm := rX8_init) (D := D) (tys := [(cI, .int), (cZ, .boolean)]) (w0 := [(h0, .inr (8, [.int 0, .null, .null, .null, .null, .null, .int 0, .null, .null, .null, .null, .null, .null, .int 0, .null, .null, .null, .null, .int 0, .int 0, .int 0, .int 0, .null, .null, .null, .null, .null, .null, .int 0, .null, .null, .null, .null, .null, .null, .null, .int 0]))]) (mc := 28) (ms := 4520) (av := [.ref h0]) (fun sz => gg_Q D [(h0, .inr (8, [.int 0, .null, .null, .null, .null, .null, .int 0, .null, .null, .null, .null, .null, .null, .int 0, .null, .null, .null, .null, .int 0, .int 0, .int 0, .int 0, .null, .null, .null, .null, .null, .null, .int 0, .null, .null, .null, .null, .null, .null, .null, .int 0]))] h0 (md_cf cI cZ) 29 md_0 sz) (lv := [(0, .ref h0)]) (cc := cX8_init) (maxL := 1) (own := RX8) (by decide +kernel) rfl rfl rfl (Nat.le_of_ble_eq_true rfl) rfl ?_ sz
  intro K hL X hQ
  refine gg_aload_n X dX8_init_0 0 rfl ?_
  refine gg_obj X dX8_init_1 (List.mem_of_getElem? (i := 1) rfl) (List.mem_of_getElem? (i := 2) rfl) (List.mem_of_getElem? (i := 3) rfl) (Nat.le_of_ble_eq_true rfl) (Nat.le_of_ble_eq_true rfl) ?_
  refine gg_aload_n X dX8_init_4 0 rfl ?_
  refine gg_bipush X dX8_init_5 (v := 8) (by decide) ?_
  refine gg_newa X (atype := .int) (ty := .int) (M := 8) (c2 := 1) (s2 := 8) dX8_init_7 rfl (fun C h => by cases h) 0 rfl (List.mem_of_getElem? (i := 4) rfl) rfl (by decide) (by decide) (by decide) rfl rfl (Nat.le_of_ble_eq_true rfl) (Nat.le_of_ble_eq_true rfl) (fun q0 => ?_)
  refine gg_eq (ws2 := [(h0, .inr (8, [.int 0, .null, .null, .null, .null, .null, .int 0, .null, .null, .null, .null, .null, .null, .int 0, .null, .null, .null, .null, .int 0, .int 0, .int 0, .int 0, .null, .null, .null, .null, .null, .null, .int 0, .null, .null, .null, .null, .null, .null, .null, .int 0])), (q0, .inl (cI, 8, .inl (fun _ => 0)))]) rfl ?_
  refine gg_putF X (ty := (.array .int)) dX8_init_9 0 1 tyX8 tyX8_ok nmX8 rfl rfl (by decide) (fun _ h => (List.mem_cons_of_mem _ (List.mem_append_right _ h))) (List.mem_of_getElem? (i := 5) rfl) rfl rfl rfl (by decide +kernel) rfl rfl (Nat.le_of_ble_eq_true rfl) (ws2 := [(h0, .inr (8, [.int 0, .ref q0, .null, .null, .null, .null, .int 0, .null, .null, .null, .null, .null, .null, .int 0, .null, .null, .null, .null, .int 0, .int 0, .int 0, .int 0, .null, .null, .null, .null, .null, .null, .int 0, .null, .null, .null, .null, .null, .null, .null, .int 0])), (q0, .inl (cI, 8, .inl (fun _ => 0)))]) rfl ?_
  refine gg_aload_n X dX8_init_12 0 rfl ?_
  refine gg_bipush X dX8_init_13 (v := 8) (by decide) ?_
  refine gg_newa X (atype := .int) (ty := .int) (M := 8) (c2 := 2) (s2 := 16) dX8_init_15 rfl (fun C h => by cases h) 0 rfl (List.mem_of_getElem? (i := 4) rfl) rfl (by decide) (by decide) (by decide) rfl rfl (Nat.le_of_ble_eq_true rfl) (Nat.le_of_ble_eq_true rfl) (fun q1 => ?_)
  refine gg_eq (ws2 := [(h0, .inr (8, [.int 0, .ref q0, .null, .null, .null, .null, .int 0, .null, .null, .null, .null, .null, .null, .int 0, .null, .null, .null, .null, .int 0, .int 0, .int 0, .int 0, .null, .null, .null, .null, .null, .null, .int 0, .null, .null, .null, .null, .null, .null, .null, .int 0])), (q0, .inl (cI, 8, .inl (fun _ => 0))), (q1, .inl (cI, 8, .inl (fun _ => 0)))]) rfl ?_
  refine gg_putF X (ty := (.array .int)) dX8_init_17 0 2 tyX8 tyX8_ok nmX8 rfl rfl (by decide) (fun _ h => (List.mem_cons_of_mem _ (List.mem_append_right _ h))) (List.mem_of_getElem? (i := 6) rfl) rfl rfl rfl (by decide +kernel) rfl rfl (Nat.le_of_ble_eq_true rfl) (ws2 := [(h0, .inr (8, [.int 0, .ref q0, .ref q1, .null, .null, .null, .int 0, .null, .null, .null, .null, .null, .null, .int 0, .null, .null, .null, .null, .int 0, .int 0, .int 0, .int 0, .null, .null, .null, .null, .null, .null, .int 0, .null, .null, .null, .null, .null, .null, .null, .int 0])), (q0, .inl (cI, 8, .inl (fun _ => 0))), (q1, .inl (cI, 8, .inl (fun _ => 0)))]) rfl ?_
  refine gg_aload_n X dX8_init_20 0 rfl ?_
  refine gg_bipush X dX8_init_21 (v := 8) (by decide) ?_
  refine gg_newa X (atype := .boolean) (ty := .boolean) (M := 8) (c2 := 3) (s2 := 24) dX8_init_23 rfl (fun C h => by cases h) 1 rfl (List.mem_of_getElem? (i := 7) rfl) rfl (by decide) (by decide) (by decide) rfl rfl (Nat.le_of_ble_eq_true rfl) (Nat.le_of_ble_eq_true rfl) (fun q2 => ?_)
  refine gg_eq (ws2 := [(h0, .inr (8, [.int 0, .ref q0, .ref q1, .null, .null, .null, .int 0, .null, .null, .null, .null, .null, .null, .int 0, .null, .null, .null, .null, .int 0, .int 0, .int 0, .int 0, .null, .null, .null, .null, .null, .null, .int 0, .null, .null, .null, .null, .null, .null, .null, .int 0])), (q0, .inl (cI, 8, .inl (fun _ => 0))), (q1, .inl (cI, 8, .inl (fun _ => 0))), (q2, .inl (cZ, 8, .inl (fun _ => 0)))]) rfl ?_
  refine gg_putF X (ty := (.array .boolean)) dX8_init_25 0 3 tyX8 tyX8_ok nmX8 rfl rfl (by decide) (fun _ h => (List.mem_cons_of_mem _ (List.mem_append_right _ h))) (List.mem_of_getElem? (i := 8) rfl) rfl rfl rfl (by decide +kernel) rfl rfl (Nat.le_of_ble_eq_true rfl) (ws2 := [(h0, .inr (8, [.int 0, .ref q0, .ref q1, .ref q2, .null, .null, .int 0, .null, .null, .null, .null, .null, .null, .int 0, .null, .null, .null, .null, .int 0, .int 0, .int 0, .int 0, .null, .null, .null, .null, .null, .null, .int 0, .null, .null, .null, .null, .null, .null, .null, .int 0])), (q0, .inl (cI, 8, .inl (fun _ => 0))), (q1, .inl (cI, 8, .inl (fun _ => 0))), (q2, .inl (cZ, 8, .inl (fun _ => 0)))]) rfl ?_
  refine gg_aload_n X dX8_init_28 0 rfl ?_
  refine gg_bipush X dX8_init_29 (v := 8) (by decide) ?_
  refine gg_newa X (atype := .int) (ty := .int) (M := 8) (c2 := 4) (s2 := 32) dX8_init_31 rfl (fun C h => by cases h) 0 rfl (List.mem_of_getElem? (i := 4) rfl) rfl (by decide) (by decide) (by decide) rfl rfl (Nat.le_of_ble_eq_true rfl) (Nat.le_of_ble_eq_true rfl) (fun q3 => ?_)
  refine gg_eq (ws2 := [(h0, .inr (8, [.int 0, .ref q0, .ref q1, .ref q2, .null, .null, .int 0, .null, .null, .null, .null, .null, .null, .int 0, .null, .null, .null, .null, .int 0, .int 0, .int 0, .int 0, .null, .null, .null, .null, .null, .null, .int 0, .null, .null, .null, .null, .null, .null, .null, .int 0])), (q0, .inl (cI, 8, .inl (fun _ => 0))), (q1, .inl (cI, 8, .inl (fun _ => 0))), (q2, .inl (cZ, 8, .inl (fun _ => 0))), (q3, .inl (cI, 8, .inl (fun _ => 0)))]) rfl ?_
  refine gg_putF X (ty := (.array .int)) dX8_init_33 0 4 tyX8 tyX8_ok nmX8 rfl rfl (by decide) (fun _ h => (List.mem_cons_of_mem _ (List.mem_append_right _ h))) (List.mem_of_getElem? (i := 9) rfl) rfl rfl rfl (by decide +kernel) rfl rfl (Nat.le_of_ble_eq_true rfl) (ws2 := [(h0, .inr (8, [.int 0, .ref q0, .ref q1, .ref q2, .ref q3, .null, .int 0, .null, .null, .null, .null, .null, .null, .int 0, .null, .null, .null, .null, .int 0, .int 0, .int 0, .int 0, .null, .null, .null, .null, .null, .null, .int 0, .null, .null, .null, .null, .null, .null, .null, .int 0])), (q0, .inl (cI, 8, .inl (fun _ => 0))), (q1, .inl (cI, 8, .inl (fun _ => 0))), (q2, .inl (cZ, 8, .inl (fun _ => 0))), (q3, .inl (cI, 8, .inl (fun _ => 0)))]) rfl ?_
  refine gg_aload_n X dX8_init_36 0 rfl ?_
  refine gg_bipush X dX8_init_37 (v := 8) (by decide) ?_
  refine gg_newa X (atype := .int) (ty := .int) (M := 8) (c2 := 5) (s2 := 40) dX8_init_39 rfl (fun C h => by cases h) 0 rfl (List.mem_of_getElem? (i := 4) rfl) rfl (by decide) (by decide) (by decide) rfl rfl (Nat.le_of_ble_eq_true rfl) (Nat.le_of_ble_eq_true rfl) (fun q4 => ?_)
  refine gg_eq (ws2 := [(h0, .inr (8, [.int 0, .ref q0, .ref q1, .ref q2, .ref q3, .null, .int 0, .null, .null, .null, .null, .null, .null, .int 0, .null, .null, .null, .null, .int 0, .int 0, .int 0, .int 0, .null, .null, .null, .null, .null, .null, .int 0, .null, .null, .null, .null, .null, .null, .null, .int 0])), (q0, .inl (cI, 8, .inl (fun _ => 0))), (q1, .inl (cI, 8, .inl (fun _ => 0))), (q2, .inl (cZ, 8, .inl (fun _ => 0))), (q3, .inl (cI, 8, .inl (fun _ => 0))), (q4, .inl (cI, 8, .inl (fun _ => 0)))]) rfl ?_
  refine gg_putF X (ty := (.array .int)) dX8_init_41 0 5 tyX8 tyX8_ok nmX8 rfl rfl (by decide) (fun _ h => (List.mem_cons_of_mem _ (List.mem_append_right _ h))) (List.mem_of_getElem? (i := 10) rfl) rfl rfl rfl (by decide +kernel) rfl rfl (Nat.le_of_ble_eq_true rfl) (ws2 := [(h0, .inr (8, [.int 0, .ref q0, .ref q1, .ref q2, .ref q3, .ref q4, .int 0, .null, .null, .null, .null, .null, .null, .int 0, .null, .null, .null, .null, .int 0, .int 0, .int 0, .int 0, .null, .null, .null, .null, .null, .null, .int 0, .null, .null, .null, .null, .null, .null, .null, .int 0])), (q0, .inl (cI, 8, .inl (fun _ => 0))), (q1, .inl (cI, 8, .inl (fun _ => 0))), (q2, .inl (cZ, 8, .inl (fun _ => 0))), (q3, .inl (cI, 8, .inl (fun _ => 0))), (q4, .inl (cI, 8, .inl (fun _ => 0)))]) rfl ?_
  refine gg_aload_n X dX8_init_44 0 rfl ?_
  refine gg_bipush X dX8_init_45 (v := 100) (by decide) ?_
  refine gg_newa X (atype := .int) (ty := .int) (M := 100) (c2 := 6) (s2 := 140) dX8_init_47 rfl (fun C h => by cases h) 0 rfl (List.mem_of_getElem? (i := 4) rfl) rfl (by decide) (by decide) (by decide) rfl rfl (Nat.le_of_ble_eq_true rfl) (Nat.le_of_ble_eq_true rfl) (fun q5 => ?_)
  refine gg_eq (ws2 := [(h0, .inr (8, [.int 0, .ref q0, .ref q1, .ref q2, .ref q3, .ref q4, .int 0, .null, .null, .null, .null, .null, .null, .int 0, .null, .null, .null, .null, .int 0, .int 0, .int 0, .int 0, .null, .null, .null, .null, .null, .null, .int 0, .null, .null, .null, .null, .null, .null, .null, .int 0])), (q0, .inl (cI, 8, .inl (fun _ => 0))), (q1, .inl (cI, 8, .inl (fun _ => 0))), (q2, .inl (cZ, 8, .inl (fun _ => 0))), (q3, .inl (cI, 8, .inl (fun _ => 0))), (q4, .inl (cI, 8, .inl (fun _ => 0))), (q5, .inl (cI, 100, .inl (fun _ => 0)))]) rfl ?_
  refine gg_putF X (ty := (.array .int)) dX8_init_49 0 7 tyX8 tyX8_ok nmX8 rfl rfl (by decide) (fun _ h => (List.mem_cons_of_mem _ (List.mem_append_right _ h))) (List.mem_of_getElem? (i := 11) rfl) rfl rfl rfl (by decide +kernel) rfl rfl (Nat.le_of_ble_eq_true rfl) (ws2 := [(h0, .inr (8, [.int 0, .ref q0, .ref q1, .ref q2, .ref q3, .ref q4, .int 0, .ref q5, .null, .null, .null, .null, .null, .int 0, .null, .null, .null, .null, .int 0, .int 0, .int 0, .int 0, .null, .null, .null, .null, .null, .null, .int 0, .null, .null, .null, .null, .null, .null, .null, .int 0])), (q0, .inl (cI, 8, .inl (fun _ => 0))), (q1, .inl (cI, 8, .inl (fun _ => 0))), (q2, .inl (cZ, 8, .inl (fun _ => 0))), (q3, .inl (cI, 8, .inl (fun _ => 0))), (q4, .inl (cI, 8, .inl (fun _ => 0))), (q5, .inl (cI, 100, .inl (fun _ => 0)))]) rfl ?_
  refine gg_aload_n X dX8_init_52 0 rfl ?_
  refine gg_bipush X dX8_init_53 (v := 100) (by decide) ?_
  refine gg_newa X (atype := .int) (ty := .int) (M := 100) (c2 := 7) (s2 := 240) dX8_init_55 rfl (fun C h => by cases h) 0 rfl (List.mem_of_getElem? (i := 4) rfl) rfl (by decide) (by decide) (by decide) rfl rfl (Nat.le_of_ble_eq_true rfl) (Nat.le_of_ble_eq_true rfl) (fun q6 => ?_)
  refine gg_eq (ws2 := [(h0, .inr (8, [.int 0, .ref q0, .ref q1, .ref q2, .ref q3, .ref q4, .int 0, .ref q5, .null, .null, .null, .null, .null, .int 0, .null, .null, .null, .null, .int 0, .int 0, .int 0, .int 0, .null, .null, .null, .null, .null, .null, .int 0, .null, .null, .null, .null, .null, .null, .null, .int 0])), (q0, .inl (cI, 8, .inl (fun _ => 0))), (q1, .inl (cI, 8, .inl (fun _ => 0))), (q2, .inl (cZ, 8, .inl (fun _ => 0))), (q3, .inl (cI, 8, .inl (fun _ => 0))), (q4, .inl (cI, 8, .inl (fun _ => 0))), (q5, .inl (cI, 100, .inl (fun _ => 0))), (q6, .inl (cI, 100, .inl (fun _ => 0)))]) rfl ?_
  refine gg_putF X (ty := (.array .int)) dX8_init_57 0 8 tyX8 tyX8_ok nmX8 rfl rfl (by decide) (fun _ h => (List.mem_cons_of_mem _ (List.mem_append_right _ h))) (List.mem_of_getElem? (i := 12) rfl) rfl rfl rfl (by decide +kernel) rfl rfl (Nat.le_of_ble_eq_true rfl) (ws2 := [(h0, .inr (8, [.int 0, .ref q0, .ref q1, .ref q2, .ref q3, .ref q4, .int 0, .ref q5, .ref q6, .null, .null, .null, .null, .int 0, .null, .null, .null, .null, .int 0, .int 0, .int 0, .int 0, .null, .null, .null, .null, .null, .null, .int 0, .null, .null, .null, .null, .null, .null, .null, .int 0])), (q0, .inl (cI, 8, .inl (fun _ => 0))), (q1, .inl (cI, 8, .inl (fun _ => 0))), (q2, .inl (cZ, 8, .inl (fun _ => 0))), (q3, .inl (cI, 8, .inl (fun _ => 0))), (q4, .inl (cI, 8, .inl (fun _ => 0))), (q5, .inl (cI, 100, .inl (fun _ => 0))), (q6, .inl (cI, 100, .inl (fun _ => 0)))]) rfl ?_
  refine gg_aload_n X dX8_init_60 0 rfl ?_
  refine gg_bipush X dX8_init_61 (v := 100) (by decide) ?_
  refine gg_newa X (atype := .boolean) (ty := .boolean) (M := 100) (c2 := 8) (s2 := 340) dX8_init_63 rfl (fun C h => by cases h) 1 rfl (List.mem_of_getElem? (i := 7) rfl) rfl (by decide) (by decide) (by decide) rfl rfl (Nat.le_of_ble_eq_true rfl) (Nat.le_of_ble_eq_true rfl) (fun q7 => ?_)
  refine gg_eq (ws2 := [(h0, .inr (8, [.int 0, .ref q0, .ref q1, .ref q2, .ref q3, .ref q4, .int 0, .ref q5, .ref q6, .null, .null, .null, .null, .int 0, .null, .null, .null, .null, .int 0, .int 0, .int 0, .int 0, .null, .null, .null, .null, .null, .null, .int 0, .null, .null, .null, .null, .null, .null, .null, .int 0])), (q0, .inl (cI, 8, .inl (fun _ => 0))), (q1, .inl (cI, 8, .inl (fun _ => 0))), (q2, .inl (cZ, 8, .inl (fun _ => 0))), (q3, .inl (cI, 8, .inl (fun _ => 0))), (q4, .inl (cI, 8, .inl (fun _ => 0))), (q5, .inl (cI, 100, .inl (fun _ => 0))), (q6, .inl (cI, 100, .inl (fun _ => 0))), (q7, .inl (cZ, 100, .inl (fun _ => 0)))]) rfl ?_
  refine gg_putF X (ty := (.array .boolean)) dX8_init_65 0 9 tyX8 tyX8_ok nmX8 rfl rfl (by decide) (fun _ h => (List.mem_cons_of_mem _ (List.mem_append_right _ h))) (List.mem_of_getElem? (i := 13) rfl) rfl rfl rfl (by decide +kernel) rfl rfl (Nat.le_of_ble_eq_true rfl) (ws2 := [(h0, .inr (8, [.int 0, .ref q0, .ref q1, .ref q2, .ref q3, .ref q4, .int 0, .ref q5, .ref q6, .ref q7, .null, .null, .null, .int 0, .null, .null, .null, .null, .int 0, .int 0, .int 0, .int 0, .null, .null, .null, .null, .null, .null, .int 0, .null, .null, .null, .null, .null, .null, .null, .int 0])), (q0, .inl (cI, 8, .inl (fun _ => 0))), (q1, .inl (cI, 8, .inl (fun _ => 0))), (q2, .inl (cZ, 8, .inl (fun _ => 0))), (q3, .inl (cI, 8, .inl (fun _ => 0))), (q4, .inl (cI, 8, .inl (fun _ => 0))), (q5, .inl (cI, 100, .inl (fun _ => 0))), (q6, .inl (cI, 100, .inl (fun _ => 0))), (q7, .inl (cZ, 100, .inl (fun _ => 0)))]) rfl ?_
  refine gg_aload_n X dX8_init_68 0 rfl ?_
  refine gg_bipush X dX8_init_69 (v := 100) (by decide) ?_
  refine gg_newa X (atype := .int) (ty := .int) (M := 100) (c2 := 9) (s2 := 440) dX8_init_71 rfl (fun C h => by cases h) 0 rfl (List.mem_of_getElem? (i := 4) rfl) rfl (by decide) (by decide) (by decide) rfl rfl (Nat.le_of_ble_eq_true rfl) (Nat.le_of_ble_eq_true rfl) (fun q8 => ?_)
  refine gg_eq (ws2 := [(h0, .inr (8, [.int 0, .ref q0, .ref q1, .ref q2, .ref q3, .ref q4, .int 0, .ref q5, .ref q6, .ref q7, .null, .null, .null, .int 0, .null, .null, .null, .null, .int 0, .int 0, .int 0, .int 0, .null, .null, .null, .null, .null, .null, .int 0, .null, .null, .null, .null, .null, .null, .null, .int 0])), (q0, .inl (cI, 8, .inl (fun _ => 0))), (q1, .inl (cI, 8, .inl (fun _ => 0))), (q2, .inl (cZ, 8, .inl (fun _ => 0))), (q3, .inl (cI, 8, .inl (fun _ => 0))), (q4, .inl (cI, 8, .inl (fun _ => 0))), (q5, .inl (cI, 100, .inl (fun _ => 0))), (q6, .inl (cI, 100, .inl (fun _ => 0))), (q7, .inl (cZ, 100, .inl (fun _ => 0))), (q8, .inl (cI, 100, .inl (fun _ => 0)))]) rfl ?_
  refine gg_putF X (ty := (.array .int)) dX8_init_73 0 10 tyX8 tyX8_ok nmX8 rfl rfl (by decide) (fun _ h => (List.mem_cons_of_mem _ (List.mem_append_right _ h))) (List.mem_of_getElem? (i := 14) rfl) rfl rfl rfl (by decide +kernel) rfl rfl (Nat.le_of_ble_eq_true rfl) (ws2 := [(h0, .inr (8, [.int 0, .ref q0, .ref q1, .ref q2, .ref q3, .ref q4, .int 0, .ref q5, .ref q6, .ref q7, .ref q8, .null, .null, .int 0, .null, .null, .null, .null, .int 0, .int 0, .int 0, .int 0, .null, .null, .null, .null, .null, .null, .int 0, .null, .null, .null, .null, .null, .null, .null, .int 0])), (q0, .inl (cI, 8, .inl (fun _ => 0))), (q1, .inl (cI, 8, .inl (fun _ => 0))), (q2, .inl (cZ, 8, .inl (fun _ => 0))), (q3, .inl (cI, 8, .inl (fun _ => 0))), (q4, .inl (cI, 8, .inl (fun _ => 0))), (q5, .inl (cI, 100, .inl (fun _ => 0))), (q6, .inl (cI, 100, .inl (fun _ => 0))), (q7, .inl (cZ, 100, .inl (fun _ => 0))), (q8, .inl (cI, 100, .inl (fun _ => 0)))]) rfl ?_
  refine gg_aload_n X dX8_init_76 0 rfl ?_
  refine gg_bipush X dX8_init_77 (v := 100) (by decide) ?_
  refine gg_newa X (atype := .int) (ty := .int) (M := 100) (c2 := 10) (s2 := 540) dX8_init_79 rfl (fun C h => by cases h) 0 rfl (List.mem_of_getElem? (i := 4) rfl) rfl (by decide) (by decide) (by decide) rfl rfl (Nat.le_of_ble_eq_true rfl) (Nat.le_of_ble_eq_true rfl) (fun q9 => ?_)
  refine gg_eq (ws2 := [(h0, .inr (8, [.int 0, .ref q0, .ref q1, .ref q2, .ref q3, .ref q4, .int 0, .ref q5, .ref q6, .ref q7, .ref q8, .null, .null, .int 0, .null, .null, .null, .null, .int 0, .int 0, .int 0, .int 0, .null, .null, .null, .null, .null, .null, .int 0, .null, .null, .null, .null, .null, .null, .null, .int 0])), (q0, .inl (cI, 8, .inl (fun _ => 0))), (q1, .inl (cI, 8, .inl (fun _ => 0))), (q2, .inl (cZ, 8, .inl (fun _ => 0))), (q3, .inl (cI, 8, .inl (fun _ => 0))), (q4, .inl (cI, 8, .inl (fun _ => 0))), (q5, .inl (cI, 100, .inl (fun _ => 0))), (q6, .inl (cI, 100, .inl (fun _ => 0))), (q7, .inl (cZ, 100, .inl (fun _ => 0))), (q8, .inl (cI, 100, .inl (fun _ => 0))), (q9, .inl (cI, 100, .inl (fun _ => 0)))]) rfl ?_
  refine gg_putF X (ty := (.array .int)) dX8_init_81 0 11 tyX8 tyX8_ok nmX8 rfl rfl (by decide) (fun _ h => (List.mem_cons_of_mem _ (List.mem_append_right _ h))) (List.mem_of_getElem? (i := 15) rfl) rfl rfl rfl (by decide +kernel) rfl rfl (Nat.le_of_ble_eq_true rfl) (ws2 := [(h0, .inr (8, [.int 0, .ref q0, .ref q1, .ref q2, .ref q3, .ref q4, .int 0, .ref q5, .ref q6, .ref q7, .ref q8, .ref q9, .null, .int 0, .null, .null, .null, .null, .int 0, .int 0, .int 0, .int 0, .null, .null, .null, .null, .null, .null, .int 0, .null, .null, .null, .null, .null, .null, .null, .int 0])), (q0, .inl (cI, 8, .inl (fun _ => 0))), (q1, .inl (cI, 8, .inl (fun _ => 0))), (q2, .inl (cZ, 8, .inl (fun _ => 0))), (q3, .inl (cI, 8, .inl (fun _ => 0))), (q4, .inl (cI, 8, .inl (fun _ => 0))), (q5, .inl (cI, 100, .inl (fun _ => 0))), (q6, .inl (cI, 100, .inl (fun _ => 0))), (q7, .inl (cZ, 100, .inl (fun _ => 0))), (q8, .inl (cI, 100, .inl (fun _ => 0))), (q9, .inl (cI, 100, .inl (fun _ => 0)))]) rfl ?_
  refine gg_aload_n X dX8_init_84 0 rfl ?_
  refine gg_bipush X dX8_init_85 (v := 100) (by decide) ?_
  refine gg_newa X (atype := .int) (ty := .int) (M := 100) (c2 := 11) (s2 := 640) dX8_init_87 rfl (fun C h => by cases h) 0 rfl (List.mem_of_getElem? (i := 4) rfl) rfl (by decide) (by decide) (by decide) rfl rfl (Nat.le_of_ble_eq_true rfl) (Nat.le_of_ble_eq_true rfl) (fun q10 => ?_)
  refine gg_eq (ws2 := [(h0, .inr (8, [.int 0, .ref q0, .ref q1, .ref q2, .ref q3, .ref q4, .int 0, .ref q5, .ref q6, .ref q7, .ref q8, .ref q9, .null, .int 0, .null, .null, .null, .null, .int 0, .int 0, .int 0, .int 0, .null, .null, .null, .null, .null, .null, .int 0, .null, .null, .null, .null, .null, .null, .null, .int 0])), (q0, .inl (cI, 8, .inl (fun _ => 0))), (q1, .inl (cI, 8, .inl (fun _ => 0))), (q2, .inl (cZ, 8, .inl (fun _ => 0))), (q3, .inl (cI, 8, .inl (fun _ => 0))), (q4, .inl (cI, 8, .inl (fun _ => 0))), (q5, .inl (cI, 100, .inl (fun _ => 0))), (q6, .inl (cI, 100, .inl (fun _ => 0))), (q7, .inl (cZ, 100, .inl (fun _ => 0))), (q8, .inl (cI, 100, .inl (fun _ => 0))), (q9, .inl (cI, 100, .inl (fun _ => 0))), (q10, .inl (cI, 100, .inl (fun _ => 0)))]) rfl ?_
  refine gg_putF X (ty := (.array .int)) dX8_init_89 0 12 tyX8 tyX8_ok nmX8 rfl rfl (by decide) (fun _ h => (List.mem_cons_of_mem _ (List.mem_append_right _ h))) (List.mem_of_getElem? (i := 16) rfl) rfl rfl rfl (by decide +kernel) rfl rfl (Nat.le_of_ble_eq_true rfl) (ws2 := [(h0, .inr (8, [.int 0, .ref q0, .ref q1, .ref q2, .ref q3, .ref q4, .int 0, .ref q5, .ref q6, .ref q7, .ref q8, .ref q9, .ref q10, .int 0, .null, .null, .null, .null, .int 0, .int 0, .int 0, .int 0, .null, .null, .null, .null, .null, .null, .int 0, .null, .null, .null, .null, .null, .null, .null, .int 0])), (q0, .inl (cI, 8, .inl (fun _ => 0))), (q1, .inl (cI, 8, .inl (fun _ => 0))), (q2, .inl (cZ, 8, .inl (fun _ => 0))), (q3, .inl (cI, 8, .inl (fun _ => 0))), (q4, .inl (cI, 8, .inl (fun _ => 0))), (q5, .inl (cI, 100, .inl (fun _ => 0))), (q6, .inl (cI, 100, .inl (fun _ => 0))), (q7, .inl (cZ, 100, .inl (fun _ => 0))), (q8, .inl (cI, 100, .inl (fun _ => 0))), (q9, .inl (cI, 100, .inl (fun _ => 0))), (q10, .inl (cI, 100, .inl (fun _ => 0)))]) rfl ?_
  refine gg_aload_n X dX8_init_92 0 rfl ?_
  refine gg_bipush X dX8_init_93 (v := 12) (by decide) ?_
  refine gg_newa X (atype := .int) (ty := .int) (M := 12) (c2 := 12) (s2 := 652) dX8_init_95 rfl (fun C h => by cases h) 0 rfl (List.mem_of_getElem? (i := 4) rfl) rfl (by decide) (by decide) (by decide) rfl rfl (Nat.le_of_ble_eq_true rfl) (Nat.le_of_ble_eq_true rfl) (fun q11 => ?_)
  refine gg_eq (ws2 := [(h0, .inr (8, [.int 0, .ref q0, .ref q1, .ref q2, .ref q3, .ref q4, .int 0, .ref q5, .ref q6, .ref q7, .ref q8, .ref q9, .ref q10, .int 0, .null, .null, .null, .null, .int 0, .int 0, .int 0, .int 0, .null, .null, .null, .null, .null, .null, .int 0, .null, .null, .null, .null, .null, .null, .null, .int 0])), (q0, .inl (cI, 8, .inl (fun _ => 0))), (q1, .inl (cI, 8, .inl (fun _ => 0))), (q2, .inl (cZ, 8, .inl (fun _ => 0))), (q3, .inl (cI, 8, .inl (fun _ => 0))), (q4, .inl (cI, 8, .inl (fun _ => 0))), (q5, .inl (cI, 100, .inl (fun _ => 0))), (q6, .inl (cI, 100, .inl (fun _ => 0))), (q7, .inl (cZ, 100, .inl (fun _ => 0))), (q8, .inl (cI, 100, .inl (fun _ => 0))), (q9, .inl (cI, 100, .inl (fun _ => 0))), (q10, .inl (cI, 100, .inl (fun _ => 0))), (q11, .inl (cI, 12, .inl (fun _ => 0)))]) rfl ?_
  refine gg_putF X (ty := (.array .int)) dX8_init_97 0 14 tyX8 tyX8_ok nmX8 rfl rfl (by decide) (fun _ h => (List.mem_cons_of_mem _ (List.mem_append_right _ h))) (List.mem_of_getElem? (i := 17) rfl) rfl rfl rfl (by decide +kernel) rfl rfl (Nat.le_of_ble_eq_true rfl) (ws2 := [(h0, .inr (8, [.int 0, .ref q0, .ref q1, .ref q2, .ref q3, .ref q4, .int 0, .ref q5, .ref q6, .ref q7, .ref q8, .ref q9, .ref q10, .int 0, .ref q11, .null, .null, .null, .int 0, .int 0, .int 0, .int 0, .null, .null, .null, .null, .null, .null, .int 0, .null, .null, .null, .null, .null, .null, .null, .int 0])), (q0, .inl (cI, 8, .inl (fun _ => 0))), (q1, .inl (cI, 8, .inl (fun _ => 0))), (q2, .inl (cZ, 8, .inl (fun _ => 0))), (q3, .inl (cI, 8, .inl (fun _ => 0))), (q4, .inl (cI, 8, .inl (fun _ => 0))), (q5, .inl (cI, 100, .inl (fun _ => 0))), (q6, .inl (cI, 100, .inl (fun _ => 0))), (q7, .inl (cZ, 100, .inl (fun _ => 0))), (q8, .inl (cI, 100, .inl (fun _ => 0))), (q9, .inl (cI, 100, .inl (fun _ => 0))), (q10, .inl (cI, 100, .inl (fun _ => 0))), (q11, .inl (cI, 12, .inl (fun _ => 0)))]) rfl ?_
  refine gg_aload_n X dX8_init_100 0 rfl ?_
  refine gg_bipush X dX8_init_101 (v := 12) (by decide) ?_
  refine gg_newa X (atype := .int) (ty := .int) (M := 12) (c2 := 13) (s2 := 664) dX8_init_103 rfl (fun C h => by cases h) 0 rfl (List.mem_of_getElem? (i := 4) rfl) rfl (by decide) (by decide) (by decide) rfl rfl (Nat.le_of_ble_eq_true rfl) (Nat.le_of_ble_eq_true rfl) (fun q12 => ?_)
  refine gg_eq (ws2 := [(h0, .inr (8, [.int 0, .ref q0, .ref q1, .ref q2, .ref q3, .ref q4, .int 0, .ref q5, .ref q6, .ref q7, .ref q8, .ref q9, .ref q10, .int 0, .ref q11, .null, .null, .null, .int 0, .int 0, .int 0, .int 0, .null, .null, .null, .null, .null, .null, .int 0, .null, .null, .null, .null, .null, .null, .null, .int 0])), (q0, .inl (cI, 8, .inl (fun _ => 0))), (q1, .inl (cI, 8, .inl (fun _ => 0))), (q2, .inl (cZ, 8, .inl (fun _ => 0))), (q3, .inl (cI, 8, .inl (fun _ => 0))), (q4, .inl (cI, 8, .inl (fun _ => 0))), (q5, .inl (cI, 100, .inl (fun _ => 0))), (q6, .inl (cI, 100, .inl (fun _ => 0))), (q7, .inl (cZ, 100, .inl (fun _ => 0))), (q8, .inl (cI, 100, .inl (fun _ => 0))), (q9, .inl (cI, 100, .inl (fun _ => 0))), (q10, .inl (cI, 100, .inl (fun _ => 0))), (q11, .inl (cI, 12, .inl (fun _ => 0))), (q12, .inl (cI, 12, .inl (fun _ => 0)))]) rfl ?_
  refine gg_putF X (ty := (.array .int)) dX8_init_105 0 15 tyX8 tyX8_ok nmX8 rfl rfl (by decide) (fun _ h => (List.mem_cons_of_mem _ (List.mem_append_right _ h))) (List.mem_of_getElem? (i := 18) rfl) rfl rfl rfl (by decide +kernel) rfl rfl (Nat.le_of_ble_eq_true rfl) (ws2 := [(h0, .inr (8, [.int 0, .ref q0, .ref q1, .ref q2, .ref q3, .ref q4, .int 0, .ref q5, .ref q6, .ref q7, .ref q8, .ref q9, .ref q10, .int 0, .ref q11, .ref q12, .null, .null, .int 0, .int 0, .int 0, .int 0, .null, .null, .null, .null, .null, .null, .int 0, .null, .null, .null, .null, .null, .null, .null, .int 0])), (q0, .inl (cI, 8, .inl (fun _ => 0))), (q1, .inl (cI, 8, .inl (fun _ => 0))), (q2, .inl (cZ, 8, .inl (fun _ => 0))), (q3, .inl (cI, 8, .inl (fun _ => 0))), (q4, .inl (cI, 8, .inl (fun _ => 0))), (q5, .inl (cI, 100, .inl (fun _ => 0))), (q6, .inl (cI, 100, .inl (fun _ => 0))), (q7, .inl (cZ, 100, .inl (fun _ => 0))), (q8, .inl (cI, 100, .inl (fun _ => 0))), (q9, .inl (cI, 100, .inl (fun _ => 0))), (q10, .inl (cI, 100, .inl (fun _ => 0))), (q11, .inl (cI, 12, .inl (fun _ => 0))), (q12, .inl (cI, 12, .inl (fun _ => 0)))]) rfl ?_
  refine gg_aload_n X dX8_init_108 0 rfl ?_
  refine gg_sipush X dX8_init_109 (v := 240) (by decide) ?_
  refine gg_newa X (atype := .int) (ty := .int) (M := 240) (c2 := 14) (s2 := 904) dX8_init_112 rfl (fun C h => by cases h) 0 rfl (List.mem_of_getElem? (i := 4) rfl) rfl (by decide) (by decide) (by decide) rfl rfl (Nat.le_of_ble_eq_true rfl) (Nat.le_of_ble_eq_true rfl) (fun q13 => ?_)
  refine gg_eq (ws2 := [(h0, .inr (8, [.int 0, .ref q0, .ref q1, .ref q2, .ref q3, .ref q4, .int 0, .ref q5, .ref q6, .ref q7, .ref q8, .ref q9, .ref q10, .int 0, .ref q11, .ref q12, .null, .null, .int 0, .int 0, .int 0, .int 0, .null, .null, .null, .null, .null, .null, .int 0, .null, .null, .null, .null, .null, .null, .null, .int 0])), (q0, .inl (cI, 8, .inl (fun _ => 0))), (q1, .inl (cI, 8, .inl (fun _ => 0))), (q2, .inl (cZ, 8, .inl (fun _ => 0))), (q3, .inl (cI, 8, .inl (fun _ => 0))), (q4, .inl (cI, 8, .inl (fun _ => 0))), (q5, .inl (cI, 100, .inl (fun _ => 0))), (q6, .inl (cI, 100, .inl (fun _ => 0))), (q7, .inl (cZ, 100, .inl (fun _ => 0))), (q8, .inl (cI, 100, .inl (fun _ => 0))), (q9, .inl (cI, 100, .inl (fun _ => 0))), (q10, .inl (cI, 100, .inl (fun _ => 0))), (q11, .inl (cI, 12, .inl (fun _ => 0))), (q12, .inl (cI, 12, .inl (fun _ => 0))), (q13, .inl (cI, 240, .inl (fun _ => 0)))]) rfl ?_
  refine gg_putF X (ty := (.array .int)) dX8_init_114 0 16 tyX8 tyX8_ok nmX8 rfl rfl (by decide) (fun _ h => (List.mem_cons_of_mem _ (List.mem_append_right _ h))) (List.mem_of_getElem? (i := 19) rfl) rfl rfl rfl (by decide +kernel) rfl rfl (Nat.le_of_ble_eq_true rfl) (ws2 := [(h0, .inr (8, [.int 0, .ref q0, .ref q1, .ref q2, .ref q3, .ref q4, .int 0, .ref q5, .ref q6, .ref q7, .ref q8, .ref q9, .ref q10, .int 0, .ref q11, .ref q12, .ref q13, .null, .int 0, .int 0, .int 0, .int 0, .null, .null, .null, .null, .null, .null, .int 0, .null, .null, .null, .null, .null, .null, .null, .int 0])), (q0, .inl (cI, 8, .inl (fun _ => 0))), (q1, .inl (cI, 8, .inl (fun _ => 0))), (q2, .inl (cZ, 8, .inl (fun _ => 0))), (q3, .inl (cI, 8, .inl (fun _ => 0))), (q4, .inl (cI, 8, .inl (fun _ => 0))), (q5, .inl (cI, 100, .inl (fun _ => 0))), (q6, .inl (cI, 100, .inl (fun _ => 0))), (q7, .inl (cZ, 100, .inl (fun _ => 0))), (q8, .inl (cI, 100, .inl (fun _ => 0))), (q9, .inl (cI, 100, .inl (fun _ => 0))), (q10, .inl (cI, 100, .inl (fun _ => 0))), (q11, .inl (cI, 12, .inl (fun _ => 0))), (q12, .inl (cI, 12, .inl (fun _ => 0))), (q13, .inl (cI, 240, .inl (fun _ => 0)))]) rfl ?_
  refine gg_aload_n X dX8_init_117 0 rfl ?_
  refine gg_bipush X dX8_init_118 (v := 12) (by decide) ?_
  refine gg_newa X (atype := .int) (ty := .int) (M := 12) (c2 := 15) (s2 := 916) dX8_init_120 rfl (fun C h => by cases h) 0 rfl (List.mem_of_getElem? (i := 4) rfl) rfl (by decide) (by decide) (by decide) rfl rfl (Nat.le_of_ble_eq_true rfl) (Nat.le_of_ble_eq_true rfl) (fun q14 => ?_)
  refine gg_eq (ws2 := [(h0, .inr (8, [.int 0, .ref q0, .ref q1, .ref q2, .ref q3, .ref q4, .int 0, .ref q5, .ref q6, .ref q7, .ref q8, .ref q9, .ref q10, .int 0, .ref q11, .ref q12, .ref q13, .null, .int 0, .int 0, .int 0, .int 0, .null, .null, .null, .null, .null, .null, .int 0, .null, .null, .null, .null, .null, .null, .null, .int 0])), (q0, .inl (cI, 8, .inl (fun _ => 0))), (q1, .inl (cI, 8, .inl (fun _ => 0))), (q2, .inl (cZ, 8, .inl (fun _ => 0))), (q3, .inl (cI, 8, .inl (fun _ => 0))), (q4, .inl (cI, 8, .inl (fun _ => 0))), (q5, .inl (cI, 100, .inl (fun _ => 0))), (q6, .inl (cI, 100, .inl (fun _ => 0))), (q7, .inl (cZ, 100, .inl (fun _ => 0))), (q8, .inl (cI, 100, .inl (fun _ => 0))), (q9, .inl (cI, 100, .inl (fun _ => 0))), (q10, .inl (cI, 100, .inl (fun _ => 0))), (q11, .inl (cI, 12, .inl (fun _ => 0))), (q12, .inl (cI, 12, .inl (fun _ => 0))), (q13, .inl (cI, 240, .inl (fun _ => 0))), (q14, .inl (cI, 12, .inl (fun _ => 0)))]) rfl ?_
  refine gg_putF X (ty := (.array .int)) dX8_init_122 0 17 tyX8 tyX8_ok nmX8 rfl rfl (by decide) (fun _ h => (List.mem_cons_of_mem _ (List.mem_append_right _ h))) (List.mem_of_getElem? (i := 20) rfl) rfl rfl rfl (by decide +kernel) rfl rfl (Nat.le_of_ble_eq_true rfl) (ws2 := [(h0, .inr (8, [.int 0, .ref q0, .ref q1, .ref q2, .ref q3, .ref q4, .int 0, .ref q5, .ref q6, .ref q7, .ref q8, .ref q9, .ref q10, .int 0, .ref q11, .ref q12, .ref q13, .ref q14, .int 0, .int 0, .int 0, .int 0, .null, .null, .null, .null, .null, .null, .int 0, .null, .null, .null, .null, .null, .null, .null, .int 0])), (q0, .inl (cI, 8, .inl (fun _ => 0))), (q1, .inl (cI, 8, .inl (fun _ => 0))), (q2, .inl (cZ, 8, .inl (fun _ => 0))), (q3, .inl (cI, 8, .inl (fun _ => 0))), (q4, .inl (cI, 8, .inl (fun _ => 0))), (q5, .inl (cI, 100, .inl (fun _ => 0))), (q6, .inl (cI, 100, .inl (fun _ => 0))), (q7, .inl (cZ, 100, .inl (fun _ => 0))), (q8, .inl (cI, 100, .inl (fun _ => 0))), (q9, .inl (cI, 100, .inl (fun _ => 0))), (q10, .inl (cI, 100, .inl (fun _ => 0))), (q11, .inl (cI, 12, .inl (fun _ => 0))), (q12, .inl (cI, 12, .inl (fun _ => 0))), (q13, .inl (cI, 240, .inl (fun _ => 0))), (q14, .inl (cI, 12, .inl (fun _ => 0)))]) rfl ?_
  refine gg_aload_n X dX8_init_125 0 rfl ?_
  refine gg_iconst X dX8_init_126 (v := 4) (by decide) ?_
  refine gg_put X (ty := .int) dX8_init_127 0 18 tyX8 tyX8_ok nmX8 rfl rfl (by decide) (fun _ h => (List.mem_cons_of_mem _ (List.mem_append_right _ h))) (List.mem_of_getElem? (i := 21) rfl) rfl rfl (by decide +kernel) rfl rfl (Nat.le_of_ble_eq_true rfl) (ws2 := [(h0, .inr (8, [.int 0, .ref q0, .ref q1, .ref q2, .ref q3, .ref q4, .int 0, .ref q5, .ref q6, .ref q7, .ref q8, .ref q9, .ref q10, .int 0, .ref q11, .ref q12, .ref q13, .ref q14, .int 4, .int 0, .int 0, .int 0, .null, .null, .null, .null, .null, .null, .int 0, .null, .null, .null, .null, .null, .null, .null, .int 0])), (q0, .inl (cI, 8, .inl (fun _ => 0))), (q1, .inl (cI, 8, .inl (fun _ => 0))), (q2, .inl (cZ, 8, .inl (fun _ => 0))), (q3, .inl (cI, 8, .inl (fun _ => 0))), (q4, .inl (cI, 8, .inl (fun _ => 0))), (q5, .inl (cI, 100, .inl (fun _ => 0))), (q6, .inl (cI, 100, .inl (fun _ => 0))), (q7, .inl (cZ, 100, .inl (fun _ => 0))), (q8, .inl (cI, 100, .inl (fun _ => 0))), (q9, .inl (cI, 100, .inl (fun _ => 0))), (q10, .inl (cI, 100, .inl (fun _ => 0))), (q11, .inl (cI, 12, .inl (fun _ => 0))), (q12, .inl (cI, 12, .inl (fun _ => 0))), (q13, .inl (cI, 240, .inl (fun _ => 0))), (q14, .inl (cI, 12, .inl (fun _ => 0)))]) rfl ?_
  refine gg_aload_n X dX8_init_130 0 rfl ?_
  refine gg_iconst X dX8_init_131 (v := 2) (by decide) ?_
  refine gg_put X (ty := .int) dX8_init_132 0 19 tyX8 tyX8_ok nmX8 rfl rfl (by decide) (fun _ h => (List.mem_cons_of_mem _ (List.mem_append_right _ h))) (List.mem_of_getElem? (i := 22) rfl) rfl rfl (by decide +kernel) rfl rfl (Nat.le_of_ble_eq_true rfl) (ws2 := [(h0, .inr (8, [.int 0, .ref q0, .ref q1, .ref q2, .ref q3, .ref q4, .int 0, .ref q5, .ref q6, .ref q7, .ref q8, .ref q9, .ref q10, .int 0, .ref q11, .ref q12, .ref q13, .ref q14, .int 4, .int 2, .int 0, .int 0, .null, .null, .null, .null, .null, .null, .int 0, .null, .null, .null, .null, .null, .null, .null, .int 0])), (q0, .inl (cI, 8, .inl (fun _ => 0))), (q1, .inl (cI, 8, .inl (fun _ => 0))), (q2, .inl (cZ, 8, .inl (fun _ => 0))), (q3, .inl (cI, 8, .inl (fun _ => 0))), (q4, .inl (cI, 8, .inl (fun _ => 0))), (q5, .inl (cI, 100, .inl (fun _ => 0))), (q6, .inl (cI, 100, .inl (fun _ => 0))), (q7, .inl (cZ, 100, .inl (fun _ => 0))), (q8, .inl (cI, 100, .inl (fun _ => 0))), (q9, .inl (cI, 100, .inl (fun _ => 0))), (q10, .inl (cI, 100, .inl (fun _ => 0))), (q11, .inl (cI, 12, .inl (fun _ => 0))), (q12, .inl (cI, 12, .inl (fun _ => 0))), (q13, .inl (cI, 240, .inl (fun _ => 0))), (q14, .inl (cI, 12, .inl (fun _ => 0)))]) rfl ?_
  refine gg_aload_n X dX8_init_135 0 rfl ?_
  refine gg_iconst X dX8_init_136 (v := 1) (by decide) ?_
  refine gg_put X (ty := .int) dX8_init_137 0 20 tyX8 tyX8_ok nmX8 rfl rfl (by decide) (fun _ h => (List.mem_cons_of_mem _ (List.mem_append_right _ h))) (List.mem_of_getElem? (i := 23) rfl) rfl rfl (by decide +kernel) rfl rfl (Nat.le_of_ble_eq_true rfl) (ws2 := [(h0, .inr (8, [.int 0, .ref q0, .ref q1, .ref q2, .ref q3, .ref q4, .int 0, .ref q5, .ref q6, .ref q7, .ref q8, .ref q9, .ref q10, .int 0, .ref q11, .ref q12, .ref q13, .ref q14, .int 4, .int 2, .int 1, .int 0, .null, .null, .null, .null, .null, .null, .int 0, .null, .null, .null, .null, .null, .null, .null, .int 0])), (q0, .inl (cI, 8, .inl (fun _ => 0))), (q1, .inl (cI, 8, .inl (fun _ => 0))), (q2, .inl (cZ, 8, .inl (fun _ => 0))), (q3, .inl (cI, 8, .inl (fun _ => 0))), (q4, .inl (cI, 8, .inl (fun _ => 0))), (q5, .inl (cI, 100, .inl (fun _ => 0))), (q6, .inl (cI, 100, .inl (fun _ => 0))), (q7, .inl (cZ, 100, .inl (fun _ => 0))), (q8, .inl (cI, 100, .inl (fun _ => 0))), (q9, .inl (cI, 100, .inl (fun _ => 0))), (q10, .inl (cI, 100, .inl (fun _ => 0))), (q11, .inl (cI, 12, .inl (fun _ => 0))), (q12, .inl (cI, 12, .inl (fun _ => 0))), (q13, .inl (cI, 240, .inl (fun _ => 0))), (q14, .inl (cI, 12, .inl (fun _ => 0)))]) rfl ?_
  refine gg_aload_n X dX8_init_140 0 rfl ?_
  refine gg_sipush X dX8_init_141 (v := 3072) (by decide) ?_
  refine gg_newa X (atype := .int) (ty := .int) (M := 3072) (c2 := 16) (s2 := 3988) dX8_init_144 rfl (fun C h => by cases h) 0 rfl (List.mem_of_getElem? (i := 4) rfl) rfl (by decide) (by decide) (by decide) rfl rfl (Nat.le_of_ble_eq_true rfl) (Nat.le_of_ble_eq_true rfl) (fun q15 => ?_)
  refine gg_eq (ws2 := [(h0, .inr (8, [.int 0, .ref q0, .ref q1, .ref q2, .ref q3, .ref q4, .int 0, .ref q5, .ref q6, .ref q7, .ref q8, .ref q9, .ref q10, .int 0, .ref q11, .ref q12, .ref q13, .ref q14, .int 4, .int 2, .int 1, .int 0, .null, .null, .null, .null, .null, .null, .int 0, .null, .null, .null, .null, .null, .null, .null, .int 0])), (q0, .inl (cI, 8, .inl (fun _ => 0))), (q1, .inl (cI, 8, .inl (fun _ => 0))), (q2, .inl (cZ, 8, .inl (fun _ => 0))), (q3, .inl (cI, 8, .inl (fun _ => 0))), (q4, .inl (cI, 8, .inl (fun _ => 0))), (q5, .inl (cI, 100, .inl (fun _ => 0))), (q6, .inl (cI, 100, .inl (fun _ => 0))), (q7, .inl (cZ, 100, .inl (fun _ => 0))), (q8, .inl (cI, 100, .inl (fun _ => 0))), (q9, .inl (cI, 100, .inl (fun _ => 0))), (q10, .inl (cI, 100, .inl (fun _ => 0))), (q11, .inl (cI, 12, .inl (fun _ => 0))), (q12, .inl (cI, 12, .inl (fun _ => 0))), (q13, .inl (cI, 240, .inl (fun _ => 0))), (q14, .inl (cI, 12, .inl (fun _ => 0))), (q15, .inl (cI, 3072, .inl (fun _ => 0)))]) rfl ?_
  refine gg_putF X (ty := (.array .int)) dX8_init_146 0 22 tyX8 tyX8_ok nmX8 rfl rfl (by decide) (fun _ h => (List.mem_cons_of_mem _ (List.mem_append_right _ h))) (List.mem_of_getElem? (i := 24) rfl) rfl rfl rfl (by decide +kernel) rfl rfl (Nat.le_of_ble_eq_true rfl) (ws2 := [(h0, .inr (8, [.int 0, .ref q0, .ref q1, .ref q2, .ref q3, .ref q4, .int 0, .ref q5, .ref q6, .ref q7, .ref q8, .ref q9, .ref q10, .int 0, .ref q11, .ref q12, .ref q13, .ref q14, .int 4, .int 2, .int 1, .int 0, .ref q15, .null, .null, .null, .null, .null, .int 0, .null, .null, .null, .null, .null, .null, .null, .int 0])), (q0, .inl (cI, 8, .inl (fun _ => 0))), (q1, .inl (cI, 8, .inl (fun _ => 0))), (q2, .inl (cZ, 8, .inl (fun _ => 0))), (q3, .inl (cI, 8, .inl (fun _ => 0))), (q4, .inl (cI, 8, .inl (fun _ => 0))), (q5, .inl (cI, 100, .inl (fun _ => 0))), (q6, .inl (cI, 100, .inl (fun _ => 0))), (q7, .inl (cZ, 100, .inl (fun _ => 0))), (q8, .inl (cI, 100, .inl (fun _ => 0))), (q9, .inl (cI, 100, .inl (fun _ => 0))), (q10, .inl (cI, 100, .inl (fun _ => 0))), (q11, .inl (cI, 12, .inl (fun _ => 0))), (q12, .inl (cI, 12, .inl (fun _ => 0))), (q13, .inl (cI, 240, .inl (fun _ => 0))), (q14, .inl (cI, 12, .inl (fun _ => 0))), (q15, .inl (cI, 3072, .inl (fun _ => 0)))]) rfl ?_
  refine gg_aload_n X dX8_init_149 0 rfl ?_
  refine gg_bipush X dX8_init_150 (v := 100) (by decide) ?_
  refine gg_newa X (atype := .int) (ty := .int) (M := 100) (c2 := 17) (s2 := 4088) dX8_init_152 rfl (fun C h => by cases h) 0 rfl (List.mem_of_getElem? (i := 4) rfl) rfl (by decide) (by decide) (by decide) rfl rfl (Nat.le_of_ble_eq_true rfl) (Nat.le_of_ble_eq_true rfl) (fun q16 => ?_)
  refine gg_eq (ws2 := [(h0, .inr (8, [.int 0, .ref q0, .ref q1, .ref q2, .ref q3, .ref q4, .int 0, .ref q5, .ref q6, .ref q7, .ref q8, .ref q9, .ref q10, .int 0, .ref q11, .ref q12, .ref q13, .ref q14, .int 4, .int 2, .int 1, .int 0, .ref q15, .null, .null, .null, .null, .null, .int 0, .null, .null, .null, .null, .null, .null, .null, .int 0])), (q0, .inl (cI, 8, .inl (fun _ => 0))), (q1, .inl (cI, 8, .inl (fun _ => 0))), (q2, .inl (cZ, 8, .inl (fun _ => 0))), (q3, .inl (cI, 8, .inl (fun _ => 0))), (q4, .inl (cI, 8, .inl (fun _ => 0))), (q5, .inl (cI, 100, .inl (fun _ => 0))), (q6, .inl (cI, 100, .inl (fun _ => 0))), (q7, .inl (cZ, 100, .inl (fun _ => 0))), (q8, .inl (cI, 100, .inl (fun _ => 0))), (q9, .inl (cI, 100, .inl (fun _ => 0))), (q10, .inl (cI, 100, .inl (fun _ => 0))), (q11, .inl (cI, 12, .inl (fun _ => 0))), (q12, .inl (cI, 12, .inl (fun _ => 0))), (q13, .inl (cI, 240, .inl (fun _ => 0))), (q14, .inl (cI, 12, .inl (fun _ => 0))), (q15, .inl (cI, 3072, .inl (fun _ => 0))), (q16, .inl (cI, 100, .inl (fun _ => 0)))]) rfl ?_
  refine gg_putF X (ty := (.array .int)) dX8_init_154 0 23 tyX8 tyX8_ok nmX8 rfl rfl (by decide) (fun _ h => (List.mem_cons_of_mem _ (List.mem_append_right _ h))) (List.mem_of_getElem? (i := 25) rfl) rfl rfl rfl (by decide +kernel) rfl rfl (Nat.le_of_ble_eq_true rfl) (ws2 := [(h0, .inr (8, [.int 0, .ref q0, .ref q1, .ref q2, .ref q3, .ref q4, .int 0, .ref q5, .ref q6, .ref q7, .ref q8, .ref q9, .ref q10, .int 0, .ref q11, .ref q12, .ref q13, .ref q14, .int 4, .int 2, .int 1, .int 0, .ref q15, .ref q16, .null, .null, .null, .null, .int 0, .null, .null, .null, .null, .null, .null, .null, .int 0])), (q0, .inl (cI, 8, .inl (fun _ => 0))), (q1, .inl (cI, 8, .inl (fun _ => 0))), (q2, .inl (cZ, 8, .inl (fun _ => 0))), (q3, .inl (cI, 8, .inl (fun _ => 0))), (q4, .inl (cI, 8, .inl (fun _ => 0))), (q5, .inl (cI, 100, .inl (fun _ => 0))), (q6, .inl (cI, 100, .inl (fun _ => 0))), (q7, .inl (cZ, 100, .inl (fun _ => 0))), (q8, .inl (cI, 100, .inl (fun _ => 0))), (q9, .inl (cI, 100, .inl (fun _ => 0))), (q10, .inl (cI, 100, .inl (fun _ => 0))), (q11, .inl (cI, 12, .inl (fun _ => 0))), (q12, .inl (cI, 12, .inl (fun _ => 0))), (q13, .inl (cI, 240, .inl (fun _ => 0))), (q14, .inl (cI, 12, .inl (fun _ => 0))), (q15, .inl (cI, 3072, .inl (fun _ => 0))), (q16, .inl (cI, 100, .inl (fun _ => 0)))]) rfl ?_
  refine gg_aload_n X dX8_init_157 0 rfl ?_
  refine gg_bipush X dX8_init_158 (v := 10) (by decide) ?_
  refine gg_newa X (atype := .int) (ty := .int) (M := 10) (c2 := 18) (s2 := 4098) dX8_init_160 rfl (fun C h => by cases h) 0 rfl (List.mem_of_getElem? (i := 4) rfl) rfl (by decide) (by decide) (by decide) rfl rfl (Nat.le_of_ble_eq_true rfl) (Nat.le_of_ble_eq_true rfl) (fun q17 => ?_)
  refine gg_eq (ws2 := [(h0, .inr (8, [.int 0, .ref q0, .ref q1, .ref q2, .ref q3, .ref q4, .int 0, .ref q5, .ref q6, .ref q7, .ref q8, .ref q9, .ref q10, .int 0, .ref q11, .ref q12, .ref q13, .ref q14, .int 4, .int 2, .int 1, .int 0, .ref q15, .ref q16, .null, .null, .null, .null, .int 0, .null, .null, .null, .null, .null, .null, .null, .int 0])), (q0, .inl (cI, 8, .inl (fun _ => 0))), (q1, .inl (cI, 8, .inl (fun _ => 0))), (q2, .inl (cZ, 8, .inl (fun _ => 0))), (q3, .inl (cI, 8, .inl (fun _ => 0))), (q4, .inl (cI, 8, .inl (fun _ => 0))), (q5, .inl (cI, 100, .inl (fun _ => 0))), (q6, .inl (cI, 100, .inl (fun _ => 0))), (q7, .inl (cZ, 100, .inl (fun _ => 0))), (q8, .inl (cI, 100, .inl (fun _ => 0))), (q9, .inl (cI, 100, .inl (fun _ => 0))), (q10, .inl (cI, 100, .inl (fun _ => 0))), (q11, .inl (cI, 12, .inl (fun _ => 0))), (q12, .inl (cI, 12, .inl (fun _ => 0))), (q13, .inl (cI, 240, .inl (fun _ => 0))), (q14, .inl (cI, 12, .inl (fun _ => 0))), (q15, .inl (cI, 3072, .inl (fun _ => 0))), (q16, .inl (cI, 100, .inl (fun _ => 0))), (q17, .inl (cI, 10, .inl (fun _ => 0)))]) rfl ?_
  refine gg_putF X (ty := (.array .int)) dX8_init_162 0 24 tyX8 tyX8_ok nmX8 rfl rfl (by decide) (fun _ h => (List.mem_cons_of_mem _ (List.mem_append_right _ h))) (List.mem_of_getElem? (i := 26) rfl) rfl rfl rfl (by decide +kernel) rfl rfl (Nat.le_of_ble_eq_true rfl) (ws2 := [(h0, .inr (8, [.int 0, .ref q0, .ref q1, .ref q2, .ref q3, .ref q4, .int 0, .ref q5, .ref q6, .ref q7, .ref q8, .ref q9, .ref q10, .int 0, .ref q11, .ref q12, .ref q13, .ref q14, .int 4, .int 2, .int 1, .int 0, .ref q15, .ref q16, .ref q17, .null, .null, .null, .int 0, .null, .null, .null, .null, .null, .null, .null, .int 0])), (q0, .inl (cI, 8, .inl (fun _ => 0))), (q1, .inl (cI, 8, .inl (fun _ => 0))), (q2, .inl (cZ, 8, .inl (fun _ => 0))), (q3, .inl (cI, 8, .inl (fun _ => 0))), (q4, .inl (cI, 8, .inl (fun _ => 0))), (q5, .inl (cI, 100, .inl (fun _ => 0))), (q6, .inl (cI, 100, .inl (fun _ => 0))), (q7, .inl (cZ, 100, .inl (fun _ => 0))), (q8, .inl (cI, 100, .inl (fun _ => 0))), (q9, .inl (cI, 100, .inl (fun _ => 0))), (q10, .inl (cI, 100, .inl (fun _ => 0))), (q11, .inl (cI, 12, .inl (fun _ => 0))), (q12, .inl (cI, 12, .inl (fun _ => 0))), (q13, .inl (cI, 240, .inl (fun _ => 0))), (q14, .inl (cI, 12, .inl (fun _ => 0))), (q15, .inl (cI, 3072, .inl (fun _ => 0))), (q16, .inl (cI, 100, .inl (fun _ => 0))), (q17, .inl (cI, 10, .inl (fun _ => 0)))]) rfl ?_
  refine gg_aload_n X dX8_init_165 0 rfl ?_
  refine gg_iconst X dX8_init_166 (v := 4) (by decide) ?_
  refine gg_newa X (atype := .int) (ty := .int) (M := 4) (c2 := 19) (s2 := 4102) dX8_init_167 rfl (fun C h => by cases h) 0 rfl (List.mem_of_getElem? (i := 4) rfl) rfl (by decide) (by decide) (by decide) rfl rfl (Nat.le_of_ble_eq_true rfl) (Nat.le_of_ble_eq_true rfl) (fun q18 => ?_)
  refine gg_eq (ws2 := [(h0, .inr (8, [.int 0, .ref q0, .ref q1, .ref q2, .ref q3, .ref q4, .int 0, .ref q5, .ref q6, .ref q7, .ref q8, .ref q9, .ref q10, .int 0, .ref q11, .ref q12, .ref q13, .ref q14, .int 4, .int 2, .int 1, .int 0, .ref q15, .ref q16, .ref q17, .null, .null, .null, .int 0, .null, .null, .null, .null, .null, .null, .null, .int 0])), (q0, .inl (cI, 8, .inl (fun _ => 0))), (q1, .inl (cI, 8, .inl (fun _ => 0))), (q2, .inl (cZ, 8, .inl (fun _ => 0))), (q3, .inl (cI, 8, .inl (fun _ => 0))), (q4, .inl (cI, 8, .inl (fun _ => 0))), (q5, .inl (cI, 100, .inl (fun _ => 0))), (q6, .inl (cI, 100, .inl (fun _ => 0))), (q7, .inl (cZ, 100, .inl (fun _ => 0))), (q8, .inl (cI, 100, .inl (fun _ => 0))), (q9, .inl (cI, 100, .inl (fun _ => 0))), (q10, .inl (cI, 100, .inl (fun _ => 0))), (q11, .inl (cI, 12, .inl (fun _ => 0))), (q12, .inl (cI, 12, .inl (fun _ => 0))), (q13, .inl (cI, 240, .inl (fun _ => 0))), (q14, .inl (cI, 12, .inl (fun _ => 0))), (q15, .inl (cI, 3072, .inl (fun _ => 0))), (q16, .inl (cI, 100, .inl (fun _ => 0))), (q17, .inl (cI, 10, .inl (fun _ => 0))), (q18, .inl (cI, 4, .inl (fun _ => 0)))]) rfl ?_
  refine gg_putF X (ty := (.array .int)) dX8_init_169 0 25 tyX8 tyX8_ok nmX8 rfl rfl (by decide) (fun _ h => (List.mem_cons_of_mem _ (List.mem_append_right _ h))) (List.mem_of_getElem? (i := 27) rfl) rfl rfl rfl (by decide +kernel) rfl rfl (Nat.le_of_ble_eq_true rfl) (ws2 := [(h0, .inr (8, [.int 0, .ref q0, .ref q1, .ref q2, .ref q3, .ref q4, .int 0, .ref q5, .ref q6, .ref q7, .ref q8, .ref q9, .ref q10, .int 0, .ref q11, .ref q12, .ref q13, .ref q14, .int 4, .int 2, .int 1, .int 0, .ref q15, .ref q16, .ref q17, .ref q18, .null, .null, .int 0, .null, .null, .null, .null, .null, .null, .null, .int 0])), (q0, .inl (cI, 8, .inl (fun _ => 0))), (q1, .inl (cI, 8, .inl (fun _ => 0))), (q2, .inl (cZ, 8, .inl (fun _ => 0))), (q3, .inl (cI, 8, .inl (fun _ => 0))), (q4, .inl (cI, 8, .inl (fun _ => 0))), (q5, .inl (cI, 100, .inl (fun _ => 0))), (q6, .inl (cI, 100, .inl (fun _ => 0))), (q7, .inl (cZ, 100, .inl (fun _ => 0))), (q8, .inl (cI, 100, .inl (fun _ => 0))), (q9, .inl (cI, 100, .inl (fun _ => 0))), (q10, .inl (cI, 100, .inl (fun _ => 0))), (q11, .inl (cI, 12, .inl (fun _ => 0))), (q12, .inl (cI, 12, .inl (fun _ => 0))), (q13, .inl (cI, 240, .inl (fun _ => 0))), (q14, .inl (cI, 12, .inl (fun _ => 0))), (q15, .inl (cI, 3072, .inl (fun _ => 0))), (q16, .inl (cI, 100, .inl (fun _ => 0))), (q17, .inl (cI, 10, .inl (fun _ => 0))), (q18, .inl (cI, 4, .inl (fun _ => 0)))]) rfl ?_
  refine gg_aload_n X dX8_init_172 0 rfl ?_
  refine gg_iconst X dX8_init_173 (v := 3) (by decide) ?_
  refine gg_newa X (atype := .int) (ty := .int) (M := 3) (c2 := 20) (s2 := 4105) dX8_init_174 rfl (fun C h => by cases h) 0 rfl (List.mem_of_getElem? (i := 4) rfl) rfl (by decide) (by decide) (by decide) rfl rfl (Nat.le_of_ble_eq_true rfl) (Nat.le_of_ble_eq_true rfl) (fun q19 => ?_)
  refine gg_eq (ws2 := [(h0, .inr (8, [.int 0, .ref q0, .ref q1, .ref q2, .ref q3, .ref q4, .int 0, .ref q5, .ref q6, .ref q7, .ref q8, .ref q9, .ref q10, .int 0, .ref q11, .ref q12, .ref q13, .ref q14, .int 4, .int 2, .int 1, .int 0, .ref q15, .ref q16, .ref q17, .ref q18, .null, .null, .int 0, .null, .null, .null, .null, .null, .null, .null, .int 0])), (q0, .inl (cI, 8, .inl (fun _ => 0))), (q1, .inl (cI, 8, .inl (fun _ => 0))), (q2, .inl (cZ, 8, .inl (fun _ => 0))), (q3, .inl (cI, 8, .inl (fun _ => 0))), (q4, .inl (cI, 8, .inl (fun _ => 0))), (q5, .inl (cI, 100, .inl (fun _ => 0))), (q6, .inl (cI, 100, .inl (fun _ => 0))), (q7, .inl (cZ, 100, .inl (fun _ => 0))), (q8, .inl (cI, 100, .inl (fun _ => 0))), (q9, .inl (cI, 100, .inl (fun _ => 0))), (q10, .inl (cI, 100, .inl (fun _ => 0))), (q11, .inl (cI, 12, .inl (fun _ => 0))), (q12, .inl (cI, 12, .inl (fun _ => 0))), (q13, .inl (cI, 240, .inl (fun _ => 0))), (q14, .inl (cI, 12, .inl (fun _ => 0))), (q15, .inl (cI, 3072, .inl (fun _ => 0))), (q16, .inl (cI, 100, .inl (fun _ => 0))), (q17, .inl (cI, 10, .inl (fun _ => 0))), (q18, .inl (cI, 4, .inl (fun _ => 0))), (q19, .inl (cI, 3, .inl (fun _ => 0)))]) rfl ?_
  refine gg_putF X (ty := (.array .int)) dX8_init_176 0 26 tyX8 tyX8_ok nmX8 rfl rfl (by decide) (fun _ h => (List.mem_cons_of_mem _ (List.mem_append_right _ h))) (List.mem_of_getElem? (i := 28) rfl) rfl rfl rfl (by decide +kernel) rfl rfl (Nat.le_of_ble_eq_true rfl) (ws2 := [(h0, .inr (8, [.int 0, .ref q0, .ref q1, .ref q2, .ref q3, .ref q4, .int 0, .ref q5, .ref q6, .ref q7, .ref q8, .ref q9, .ref q10, .int 0, .ref q11, .ref q12, .ref q13, .ref q14, .int 4, .int 2, .int 1, .int 0, .ref q15, .ref q16, .ref q17, .ref q18, .ref q19, .null, .int 0, .null, .null, .null, .null, .null, .null, .null, .int 0])), (q0, .inl (cI, 8, .inl (fun _ => 0))), (q1, .inl (cI, 8, .inl (fun _ => 0))), (q2, .inl (cZ, 8, .inl (fun _ => 0))), (q3, .inl (cI, 8, .inl (fun _ => 0))), (q4, .inl (cI, 8, .inl (fun _ => 0))), (q5, .inl (cI, 100, .inl (fun _ => 0))), (q6, .inl (cI, 100, .inl (fun _ => 0))), (q7, .inl (cZ, 100, .inl (fun _ => 0))), (q8, .inl (cI, 100, .inl (fun _ => 0))), (q9, .inl (cI, 100, .inl (fun _ => 0))), (q10, .inl (cI, 100, .inl (fun _ => 0))), (q11, .inl (cI, 12, .inl (fun _ => 0))), (q12, .inl (cI, 12, .inl (fun _ => 0))), (q13, .inl (cI, 240, .inl (fun _ => 0))), (q14, .inl (cI, 12, .inl (fun _ => 0))), (q15, .inl (cI, 3072, .inl (fun _ => 0))), (q16, .inl (cI, 100, .inl (fun _ => 0))), (q17, .inl (cI, 10, .inl (fun _ => 0))), (q18, .inl (cI, 4, .inl (fun _ => 0))), (q19, .inl (cI, 3, .inl (fun _ => 0)))]) rfl ?_
  refine gg_aload_n X dX8_init_179 0 rfl ?_
  refine gg_bipush X dX8_init_180 (v := 7) (by decide) ?_
  refine gg_newa X (atype := .int) (ty := .int) (M := 7) (c2 := 21) (s2 := 4112) dX8_init_182 rfl (fun C h => by cases h) 0 rfl (List.mem_of_getElem? (i := 4) rfl) rfl (by decide) (by decide) (by decide) rfl rfl (Nat.le_of_ble_eq_true rfl) (Nat.le_of_ble_eq_true rfl) (fun q20 => ?_)
  refine gg_eq (ws2 := [(h0, .inr (8, [.int 0, .ref q0, .ref q1, .ref q2, .ref q3, .ref q4, .int 0, .ref q5, .ref q6, .ref q7, .ref q8, .ref q9, .ref q10, .int 0, .ref q11, .ref q12, .ref q13, .ref q14, .int 4, .int 2, .int 1, .int 0, .ref q15, .ref q16, .ref q17, .ref q18, .ref q19, .null, .int 0, .null, .null, .null, .null, .null, .null, .null, .int 0])), (q0, .inl (cI, 8, .inl (fun _ => 0))), (q1, .inl (cI, 8, .inl (fun _ => 0))), (q2, .inl (cZ, 8, .inl (fun _ => 0))), (q3, .inl (cI, 8, .inl (fun _ => 0))), (q4, .inl (cI, 8, .inl (fun _ => 0))), (q5, .inl (cI, 100, .inl (fun _ => 0))), (q6, .inl (cI, 100, .inl (fun _ => 0))), (q7, .inl (cZ, 100, .inl (fun _ => 0))), (q8, .inl (cI, 100, .inl (fun _ => 0))), (q9, .inl (cI, 100, .inl (fun _ => 0))), (q10, .inl (cI, 100, .inl (fun _ => 0))), (q11, .inl (cI, 12, .inl (fun _ => 0))), (q12, .inl (cI, 12, .inl (fun _ => 0))), (q13, .inl (cI, 240, .inl (fun _ => 0))), (q14, .inl (cI, 12, .inl (fun _ => 0))), (q15, .inl (cI, 3072, .inl (fun _ => 0))), (q16, .inl (cI, 100, .inl (fun _ => 0))), (q17, .inl (cI, 10, .inl (fun _ => 0))), (q18, .inl (cI, 4, .inl (fun _ => 0))), (q19, .inl (cI, 3, .inl (fun _ => 0))), (q20, .inl (cI, 7, .inl (fun _ => 0)))]) rfl ?_
  refine gg_putF X (ty := (.array .int)) dX8_init_184 0 27 tyX8 tyX8_ok nmX8 rfl rfl (by decide) (fun _ h => (List.mem_cons_of_mem _ (List.mem_append_right _ h))) (List.mem_of_getElem? (i := 29) rfl) rfl rfl rfl (by decide +kernel) rfl rfl (Nat.le_of_ble_eq_true rfl) (ws2 := [(h0, .inr (8, [.int 0, .ref q0, .ref q1, .ref q2, .ref q3, .ref q4, .int 0, .ref q5, .ref q6, .ref q7, .ref q8, .ref q9, .ref q10, .int 0, .ref q11, .ref q12, .ref q13, .ref q14, .int 4, .int 2, .int 1, .int 0, .ref q15, .ref q16, .ref q17, .ref q18, .ref q19, .ref q20, .int 0, .null, .null, .null, .null, .null, .null, .null, .int 0])), (q0, .inl (cI, 8, .inl (fun _ => 0))), (q1, .inl (cI, 8, .inl (fun _ => 0))), (q2, .inl (cZ, 8, .inl (fun _ => 0))), (q3, .inl (cI, 8, .inl (fun _ => 0))), (q4, .inl (cI, 8, .inl (fun _ => 0))), (q5, .inl (cI, 100, .inl (fun _ => 0))), (q6, .inl (cI, 100, .inl (fun _ => 0))), (q7, .inl (cZ, 100, .inl (fun _ => 0))), (q8, .inl (cI, 100, .inl (fun _ => 0))), (q9, .inl (cI, 100, .inl (fun _ => 0))), (q10, .inl (cI, 100, .inl (fun _ => 0))), (q11, .inl (cI, 12, .inl (fun _ => 0))), (q12, .inl (cI, 12, .inl (fun _ => 0))), (q13, .inl (cI, 240, .inl (fun _ => 0))), (q14, .inl (cI, 12, .inl (fun _ => 0))), (q15, .inl (cI, 3072, .inl (fun _ => 0))), (q16, .inl (cI, 100, .inl (fun _ => 0))), (q17, .inl (cI, 10, .inl (fun _ => 0))), (q18, .inl (cI, 4, .inl (fun _ => 0))), (q19, .inl (cI, 3, .inl (fun _ => 0))), (q20, .inl (cI, 7, .inl (fun _ => 0)))]) rfl ?_
  refine gg_aload_n X dX8_init_187 0 rfl ?_
  refine gg_bipush X dX8_init_188 (v := 84) (by decide) ?_
  refine gg_newa X (atype := .int) (ty := .int) (M := 84) (c2 := 22) (s2 := 4196) dX8_init_190 rfl (fun C h => by cases h) 0 rfl (List.mem_of_getElem? (i := 4) rfl) rfl (by decide) (by decide) (by decide) rfl rfl (Nat.le_of_ble_eq_true rfl) (Nat.le_of_ble_eq_true rfl) (fun q21 => ?_)
  refine gg_eq (ws2 := [(h0, .inr (8, [.int 0, .ref q0, .ref q1, .ref q2, .ref q3, .ref q4, .int 0, .ref q5, .ref q6, .ref q7, .ref q8, .ref q9, .ref q10, .int 0, .ref q11, .ref q12, .ref q13, .ref q14, .int 4, .int 2, .int 1, .int 0, .ref q15, .ref q16, .ref q17, .ref q18, .ref q19, .ref q20, .int 0, .null, .null, .null, .null, .null, .null, .null, .int 0])), (q0, .inl (cI, 8, .inl (fun _ => 0))), (q1, .inl (cI, 8, .inl (fun _ => 0))), (q2, .inl (cZ, 8, .inl (fun _ => 0))), (q3, .inl (cI, 8, .inl (fun _ => 0))), (q4, .inl (cI, 8, .inl (fun _ => 0))), (q5, .inl (cI, 100, .inl (fun _ => 0))), (q6, .inl (cI, 100, .inl (fun _ => 0))), (q7, .inl (cZ, 100, .inl (fun _ => 0))), (q8, .inl (cI, 100, .inl (fun _ => 0))), (q9, .inl (cI, 100, .inl (fun _ => 0))), (q10, .inl (cI, 100, .inl (fun _ => 0))), (q11, .inl (cI, 12, .inl (fun _ => 0))), (q12, .inl (cI, 12, .inl (fun _ => 0))), (q13, .inl (cI, 240, .inl (fun _ => 0))), (q14, .inl (cI, 12, .inl (fun _ => 0))), (q15, .inl (cI, 3072, .inl (fun _ => 0))), (q16, .inl (cI, 100, .inl (fun _ => 0))), (q17, .inl (cI, 10, .inl (fun _ => 0))), (q18, .inl (cI, 4, .inl (fun _ => 0))), (q19, .inl (cI, 3, .inl (fun _ => 0))), (q20, .inl (cI, 7, .inl (fun _ => 0))), (q21, .inl (cI, 84, .inl (fun _ => 0)))]) rfl ?_
  refine gg_putF X (ty := (.array .int)) dX8_init_192 0 29 tyX8 tyX8_ok nmX8 rfl rfl (by decide) (fun _ h => (List.mem_cons_of_mem _ (List.mem_append_right _ h))) (List.mem_of_getElem? (i := 30) rfl) rfl rfl rfl (by decide +kernel) rfl rfl (Nat.le_of_ble_eq_true rfl) (ws2 := [(h0, .inr (8, [.int 0, .ref q0, .ref q1, .ref q2, .ref q3, .ref q4, .int 0, .ref q5, .ref q6, .ref q7, .ref q8, .ref q9, .ref q10, .int 0, .ref q11, .ref q12, .ref q13, .ref q14, .int 4, .int 2, .int 1, .int 0, .ref q15, .ref q16, .ref q17, .ref q18, .ref q19, .ref q20, .int 0, .ref q21, .null, .null, .null, .null, .null, .null, .int 0])), (q0, .inl (cI, 8, .inl (fun _ => 0))), (q1, .inl (cI, 8, .inl (fun _ => 0))), (q2, .inl (cZ, 8, .inl (fun _ => 0))), (q3, .inl (cI, 8, .inl (fun _ => 0))), (q4, .inl (cI, 8, .inl (fun _ => 0))), (q5, .inl (cI, 100, .inl (fun _ => 0))), (q6, .inl (cI, 100, .inl (fun _ => 0))), (q7, .inl (cZ, 100, .inl (fun _ => 0))), (q8, .inl (cI, 100, .inl (fun _ => 0))), (q9, .inl (cI, 100, .inl (fun _ => 0))), (q10, .inl (cI, 100, .inl (fun _ => 0))), (q11, .inl (cI, 12, .inl (fun _ => 0))), (q12, .inl (cI, 12, .inl (fun _ => 0))), (q13, .inl (cI, 240, .inl (fun _ => 0))), (q14, .inl (cI, 12, .inl (fun _ => 0))), (q15, .inl (cI, 3072, .inl (fun _ => 0))), (q16, .inl (cI, 100, .inl (fun _ => 0))), (q17, .inl (cI, 10, .inl (fun _ => 0))), (q18, .inl (cI, 4, .inl (fun _ => 0))), (q19, .inl (cI, 3, .inl (fun _ => 0))), (q20, .inl (cI, 7, .inl (fun _ => 0))), (q21, .inl (cI, 84, .inl (fun _ => 0)))]) rfl ?_
  refine gg_aload_n X dX8_init_195 0 rfl ?_
  refine gg_bipush X dX8_init_196 (v := 12) (by decide) ?_
  refine gg_newa X (atype := .int) (ty := .int) (M := 12) (c2 := 23) (s2 := 4208) dX8_init_198 rfl (fun C h => by cases h) 0 rfl (List.mem_of_getElem? (i := 4) rfl) rfl (by decide) (by decide) (by decide) rfl rfl (Nat.le_of_ble_eq_true rfl) (Nat.le_of_ble_eq_true rfl) (fun q22 => ?_)
  refine gg_eq (ws2 := [(h0, .inr (8, [.int 0, .ref q0, .ref q1, .ref q2, .ref q3, .ref q4, .int 0, .ref q5, .ref q6, .ref q7, .ref q8, .ref q9, .ref q10, .int 0, .ref q11, .ref q12, .ref q13, .ref q14, .int 4, .int 2, .int 1, .int 0, .ref q15, .ref q16, .ref q17, .ref q18, .ref q19, .ref q20, .int 0, .ref q21, .null, .null, .null, .null, .null, .null, .int 0])), (q0, .inl (cI, 8, .inl (fun _ => 0))), (q1, .inl (cI, 8, .inl (fun _ => 0))), (q2, .inl (cZ, 8, .inl (fun _ => 0))), (q3, .inl (cI, 8, .inl (fun _ => 0))), (q4, .inl (cI, 8, .inl (fun _ => 0))), (q5, .inl (cI, 100, .inl (fun _ => 0))), (q6, .inl (cI, 100, .inl (fun _ => 0))), (q7, .inl (cZ, 100, .inl (fun _ => 0))), (q8, .inl (cI, 100, .inl (fun _ => 0))), (q9, .inl (cI, 100, .inl (fun _ => 0))), (q10, .inl (cI, 100, .inl (fun _ => 0))), (q11, .inl (cI, 12, .inl (fun _ => 0))), (q12, .inl (cI, 12, .inl (fun _ => 0))), (q13, .inl (cI, 240, .inl (fun _ => 0))), (q14, .inl (cI, 12, .inl (fun _ => 0))), (q15, .inl (cI, 3072, .inl (fun _ => 0))), (q16, .inl (cI, 100, .inl (fun _ => 0))), (q17, .inl (cI, 10, .inl (fun _ => 0))), (q18, .inl (cI, 4, .inl (fun _ => 0))), (q19, .inl (cI, 3, .inl (fun _ => 0))), (q20, .inl (cI, 7, .inl (fun _ => 0))), (q21, .inl (cI, 84, .inl (fun _ => 0))), (q22, .inl (cI, 12, .inl (fun _ => 0)))]) rfl ?_
  refine gg_putF X (ty := (.array .int)) dX8_init_200 0 30 tyX8 tyX8_ok nmX8 rfl rfl (by decide) (fun _ h => (List.mem_cons_of_mem _ (List.mem_append_right _ h))) (List.mem_of_getElem? (i := 31) rfl) rfl rfl rfl (by decide +kernel) rfl rfl (Nat.le_of_ble_eq_true rfl) (ws2 := [(h0, .inr (8, [.int 0, .ref q0, .ref q1, .ref q2, .ref q3, .ref q4, .int 0, .ref q5, .ref q6, .ref q7, .ref q8, .ref q9, .ref q10, .int 0, .ref q11, .ref q12, .ref q13, .ref q14, .int 4, .int 2, .int 1, .int 0, .ref q15, .ref q16, .ref q17, .ref q18, .ref q19, .ref q20, .int 0, .ref q21, .ref q22, .null, .null, .null, .null, .null, .int 0])), (q0, .inl (cI, 8, .inl (fun _ => 0))), (q1, .inl (cI, 8, .inl (fun _ => 0))), (q2, .inl (cZ, 8, .inl (fun _ => 0))), (q3, .inl (cI, 8, .inl (fun _ => 0))), (q4, .inl (cI, 8, .inl (fun _ => 0))), (q5, .inl (cI, 100, .inl (fun _ => 0))), (q6, .inl (cI, 100, .inl (fun _ => 0))), (q7, .inl (cZ, 100, .inl (fun _ => 0))), (q8, .inl (cI, 100, .inl (fun _ => 0))), (q9, .inl (cI, 100, .inl (fun _ => 0))), (q10, .inl (cI, 100, .inl (fun _ => 0))), (q11, .inl (cI, 12, .inl (fun _ => 0))), (q12, .inl (cI, 12, .inl (fun _ => 0))), (q13, .inl (cI, 240, .inl (fun _ => 0))), (q14, .inl (cI, 12, .inl (fun _ => 0))), (q15, .inl (cI, 3072, .inl (fun _ => 0))), (q16, .inl (cI, 100, .inl (fun _ => 0))), (q17, .inl (cI, 10, .inl (fun _ => 0))), (q18, .inl (cI, 4, .inl (fun _ => 0))), (q19, .inl (cI, 3, .inl (fun _ => 0))), (q20, .inl (cI, 7, .inl (fun _ => 0))), (q21, .inl (cI, 84, .inl (fun _ => 0))), (q22, .inl (cI, 12, .inl (fun _ => 0)))]) rfl ?_
  refine gg_aload_n X dX8_init_203 0 rfl ?_
  refine gg_iconst X dX8_init_204 (v := 4) (by decide) ?_
  refine gg_newa X (atype := .boolean) (ty := .boolean) (M := 4) (c2 := 24) (s2 := 4212) dX8_init_205 rfl (fun C h => by cases h) 1 rfl (List.mem_of_getElem? (i := 7) rfl) rfl (by decide) (by decide) (by decide) rfl rfl (Nat.le_of_ble_eq_true rfl) (Nat.le_of_ble_eq_true rfl) (fun q23 => ?_)
  refine gg_eq (ws2 := [(h0, .inr (8, [.int 0, .ref q0, .ref q1, .ref q2, .ref q3, .ref q4, .int 0, .ref q5, .ref q6, .ref q7, .ref q8, .ref q9, .ref q10, .int 0, .ref q11, .ref q12, .ref q13, .ref q14, .int 4, .int 2, .int 1, .int 0, .ref q15, .ref q16, .ref q17, .ref q18, .ref q19, .ref q20, .int 0, .ref q21, .ref q22, .null, .null, .null, .null, .null, .int 0])), (q0, .inl (cI, 8, .inl (fun _ => 0))), (q1, .inl (cI, 8, .inl (fun _ => 0))), (q2, .inl (cZ, 8, .inl (fun _ => 0))), (q3, .inl (cI, 8, .inl (fun _ => 0))), (q4, .inl (cI, 8, .inl (fun _ => 0))), (q5, .inl (cI, 100, .inl (fun _ => 0))), (q6, .inl (cI, 100, .inl (fun _ => 0))), (q7, .inl (cZ, 100, .inl (fun _ => 0))), (q8, .inl (cI, 100, .inl (fun _ => 0))), (q9, .inl (cI, 100, .inl (fun _ => 0))), (q10, .inl (cI, 100, .inl (fun _ => 0))), (q11, .inl (cI, 12, .inl (fun _ => 0))), (q12, .inl (cI, 12, .inl (fun _ => 0))), (q13, .inl (cI, 240, .inl (fun _ => 0))), (q14, .inl (cI, 12, .inl (fun _ => 0))), (q15, .inl (cI, 3072, .inl (fun _ => 0))), (q16, .inl (cI, 100, .inl (fun _ => 0))), (q17, .inl (cI, 10, .inl (fun _ => 0))), (q18, .inl (cI, 4, .inl (fun _ => 0))), (q19, .inl (cI, 3, .inl (fun _ => 0))), (q20, .inl (cI, 7, .inl (fun _ => 0))), (q21, .inl (cI, 84, .inl (fun _ => 0))), (q22, .inl (cI, 12, .inl (fun _ => 0))), (q23, .inl (cZ, 4, .inl (fun _ => 0)))]) rfl ?_
  refine gg_putF X (ty := (.array .boolean)) dX8_init_207 0 31 tyX8 tyX8_ok nmX8 rfl rfl (by decide) (fun _ h => (List.mem_cons_of_mem _ (List.mem_append_right _ h))) (List.mem_of_getElem? (i := 32) rfl) rfl rfl rfl (by decide +kernel) rfl rfl (Nat.le_of_ble_eq_true rfl) (ws2 := [(h0, .inr (8, [.int 0, .ref q0, .ref q1, .ref q2, .ref q3, .ref q4, .int 0, .ref q5, .ref q6, .ref q7, .ref q8, .ref q9, .ref q10, .int 0, .ref q11, .ref q12, .ref q13, .ref q14, .int 4, .int 2, .int 1, .int 0, .ref q15, .ref q16, .ref q17, .ref q18, .ref q19, .ref q20, .int 0, .ref q21, .ref q22, .ref q23, .null, .null, .null, .null, .int 0])), (q0, .inl (cI, 8, .inl (fun _ => 0))), (q1, .inl (cI, 8, .inl (fun _ => 0))), (q2, .inl (cZ, 8, .inl (fun _ => 0))), (q3, .inl (cI, 8, .inl (fun _ => 0))), (q4, .inl (cI, 8, .inl (fun _ => 0))), (q5, .inl (cI, 100, .inl (fun _ => 0))), (q6, .inl (cI, 100, .inl (fun _ => 0))), (q7, .inl (cZ, 100, .inl (fun _ => 0))), (q8, .inl (cI, 100, .inl (fun _ => 0))), (q9, .inl (cI, 100, .inl (fun _ => 0))), (q10, .inl (cI, 100, .inl (fun _ => 0))), (q11, .inl (cI, 12, .inl (fun _ => 0))), (q12, .inl (cI, 12, .inl (fun _ => 0))), (q13, .inl (cI, 240, .inl (fun _ => 0))), (q14, .inl (cI, 12, .inl (fun _ => 0))), (q15, .inl (cI, 3072, .inl (fun _ => 0))), (q16, .inl (cI, 100, .inl (fun _ => 0))), (q17, .inl (cI, 10, .inl (fun _ => 0))), (q18, .inl (cI, 4, .inl (fun _ => 0))), (q19, .inl (cI, 3, .inl (fun _ => 0))), (q20, .inl (cI, 7, .inl (fun _ => 0))), (q21, .inl (cI, 84, .inl (fun _ => 0))), (q22, .inl (cI, 12, .inl (fun _ => 0))), (q23, .inl (cZ, 4, .inl (fun _ => 0)))]) rfl ?_
  refine gg_aload_n X dX8_init_210 0 rfl ?_
  refine gg_iconst X dX8_init_211 (v := 4) (by decide) ?_
  refine gg_newa X (atype := .int) (ty := .int) (M := 4) (c2 := 25) (s2 := 4216) dX8_init_212 rfl (fun C h => by cases h) 0 rfl (List.mem_of_getElem? (i := 4) rfl) rfl (by decide) (by decide) (by decide) rfl rfl (Nat.le_of_ble_eq_true rfl) (Nat.le_of_ble_eq_true rfl) (fun q24 => ?_)
  refine gg_eq (ws2 := [(h0, .inr (8, [.int 0, .ref q0, .ref q1, .ref q2, .ref q3, .ref q4, .int 0, .ref q5, .ref q6, .ref q7, .ref q8, .ref q9, .ref q10, .int 0, .ref q11, .ref q12, .ref q13, .ref q14, .int 4, .int 2, .int 1, .int 0, .ref q15, .ref q16, .ref q17, .ref q18, .ref q19, .ref q20, .int 0, .ref q21, .ref q22, .ref q23, .null, .null, .null, .null, .int 0])), (q0, .inl (cI, 8, .inl (fun _ => 0))), (q1, .inl (cI, 8, .inl (fun _ => 0))), (q2, .inl (cZ, 8, .inl (fun _ => 0))), (q3, .inl (cI, 8, .inl (fun _ => 0))), (q4, .inl (cI, 8, .inl (fun _ => 0))), (q5, .inl (cI, 100, .inl (fun _ => 0))), (q6, .inl (cI, 100, .inl (fun _ => 0))), (q7, .inl (cZ, 100, .inl (fun _ => 0))), (q8, .inl (cI, 100, .inl (fun _ => 0))), (q9, .inl (cI, 100, .inl (fun _ => 0))), (q10, .inl (cI, 100, .inl (fun _ => 0))), (q11, .inl (cI, 12, .inl (fun _ => 0))), (q12, .inl (cI, 12, .inl (fun _ => 0))), (q13, .inl (cI, 240, .inl (fun _ => 0))), (q14, .inl (cI, 12, .inl (fun _ => 0))), (q15, .inl (cI, 3072, .inl (fun _ => 0))), (q16, .inl (cI, 100, .inl (fun _ => 0))), (q17, .inl (cI, 10, .inl (fun _ => 0))), (q18, .inl (cI, 4, .inl (fun _ => 0))), (q19, .inl (cI, 3, .inl (fun _ => 0))), (q20, .inl (cI, 7, .inl (fun _ => 0))), (q21, .inl (cI, 84, .inl (fun _ => 0))), (q22, .inl (cI, 12, .inl (fun _ => 0))), (q23, .inl (cZ, 4, .inl (fun _ => 0))), (q24, .inl (cI, 4, .inl (fun _ => 0)))]) rfl ?_
  refine gg_putF X (ty := (.array .int)) dX8_init_214 0 32 tyX8 tyX8_ok nmX8 rfl rfl (by decide) (fun _ h => (List.mem_cons_of_mem _ (List.mem_append_right _ h))) (List.mem_of_getElem? (i := 33) rfl) rfl rfl rfl (by decide +kernel) rfl rfl (Nat.le_of_ble_eq_true rfl) (ws2 := [(h0, .inr (8, [.int 0, .ref q0, .ref q1, .ref q2, .ref q3, .ref q4, .int 0, .ref q5, .ref q6, .ref q7, .ref q8, .ref q9, .ref q10, .int 0, .ref q11, .ref q12, .ref q13, .ref q14, .int 4, .int 2, .int 1, .int 0, .ref q15, .ref q16, .ref q17, .ref q18, .ref q19, .ref q20, .int 0, .ref q21, .ref q22, .ref q23, .ref q24, .null, .null, .null, .int 0])), (q0, .inl (cI, 8, .inl (fun _ => 0))), (q1, .inl (cI, 8, .inl (fun _ => 0))), (q2, .inl (cZ, 8, .inl (fun _ => 0))), (q3, .inl (cI, 8, .inl (fun _ => 0))), (q4, .inl (cI, 8, .inl (fun _ => 0))), (q5, .inl (cI, 100, .inl (fun _ => 0))), (q6, .inl (cI, 100, .inl (fun _ => 0))), (q7, .inl (cZ, 100, .inl (fun _ => 0))), (q8, .inl (cI, 100, .inl (fun _ => 0))), (q9, .inl (cI, 100, .inl (fun _ => 0))), (q10, .inl (cI, 100, .inl (fun _ => 0))), (q11, .inl (cI, 12, .inl (fun _ => 0))), (q12, .inl (cI, 12, .inl (fun _ => 0))), (q13, .inl (cI, 240, .inl (fun _ => 0))), (q14, .inl (cI, 12, .inl (fun _ => 0))), (q15, .inl (cI, 3072, .inl (fun _ => 0))), (q16, .inl (cI, 100, .inl (fun _ => 0))), (q17, .inl (cI, 10, .inl (fun _ => 0))), (q18, .inl (cI, 4, .inl (fun _ => 0))), (q19, .inl (cI, 3, .inl (fun _ => 0))), (q20, .inl (cI, 7, .inl (fun _ => 0))), (q21, .inl (cI, 84, .inl (fun _ => 0))), (q22, .inl (cI, 12, .inl (fun _ => 0))), (q23, .inl (cZ, 4, .inl (fun _ => 0))), (q24, .inl (cI, 4, .inl (fun _ => 0)))]) rfl ?_
  refine gg_aload_n X dX8_init_217 0 rfl ?_
  refine gg_iconst X dX8_init_218 (v := 4) (by decide) ?_
  refine gg_newa X (atype := .int) (ty := .int) (M := 4) (c2 := 26) (s2 := 4220) dX8_init_219 rfl (fun C h => by cases h) 0 rfl (List.mem_of_getElem? (i := 4) rfl) rfl (by decide) (by decide) (by decide) rfl rfl (Nat.le_of_ble_eq_true rfl) (Nat.le_of_ble_eq_true rfl) (fun q25 => ?_)
  refine gg_eq (ws2 := [(h0, .inr (8, [.int 0, .ref q0, .ref q1, .ref q2, .ref q3, .ref q4, .int 0, .ref q5, .ref q6, .ref q7, .ref q8, .ref q9, .ref q10, .int 0, .ref q11, .ref q12, .ref q13, .ref q14, .int 4, .int 2, .int 1, .int 0, .ref q15, .ref q16, .ref q17, .ref q18, .ref q19, .ref q20, .int 0, .ref q21, .ref q22, .ref q23, .ref q24, .null, .null, .null, .int 0])), (q0, .inl (cI, 8, .inl (fun _ => 0))), (q1, .inl (cI, 8, .inl (fun _ => 0))), (q2, .inl (cZ, 8, .inl (fun _ => 0))), (q3, .inl (cI, 8, .inl (fun _ => 0))), (q4, .inl (cI, 8, .inl (fun _ => 0))), (q5, .inl (cI, 100, .inl (fun _ => 0))), (q6, .inl (cI, 100, .inl (fun _ => 0))), (q7, .inl (cZ, 100, .inl (fun _ => 0))), (q8, .inl (cI, 100, .inl (fun _ => 0))), (q9, .inl (cI, 100, .inl (fun _ => 0))), (q10, .inl (cI, 100, .inl (fun _ => 0))), (q11, .inl (cI, 12, .inl (fun _ => 0))), (q12, .inl (cI, 12, .inl (fun _ => 0))), (q13, .inl (cI, 240, .inl (fun _ => 0))), (q14, .inl (cI, 12, .inl (fun _ => 0))), (q15, .inl (cI, 3072, .inl (fun _ => 0))), (q16, .inl (cI, 100, .inl (fun _ => 0))), (q17, .inl (cI, 10, .inl (fun _ => 0))), (q18, .inl (cI, 4, .inl (fun _ => 0))), (q19, .inl (cI, 3, .inl (fun _ => 0))), (q20, .inl (cI, 7, .inl (fun _ => 0))), (q21, .inl (cI, 84, .inl (fun _ => 0))), (q22, .inl (cI, 12, .inl (fun _ => 0))), (q23, .inl (cZ, 4, .inl (fun _ => 0))), (q24, .inl (cI, 4, .inl (fun _ => 0))), (q25, .inl (cI, 4, .inl (fun _ => 0)))]) rfl ?_
  refine gg_putF X (ty := (.array .int)) dX8_init_221 0 33 tyX8 tyX8_ok nmX8 rfl rfl (by decide) (fun _ h => (List.mem_cons_of_mem _ (List.mem_append_right _ h))) (List.mem_of_getElem? (i := 34) rfl) rfl rfl rfl (by decide +kernel) rfl rfl (Nat.le_of_ble_eq_true rfl) (ws2 := [(h0, .inr (8, [.int 0, .ref q0, .ref q1, .ref q2, .ref q3, .ref q4, .int 0, .ref q5, .ref q6, .ref q7, .ref q8, .ref q9, .ref q10, .int 0, .ref q11, .ref q12, .ref q13, .ref q14, .int 4, .int 2, .int 1, .int 0, .ref q15, .ref q16, .ref q17, .ref q18, .ref q19, .ref q20, .int 0, .ref q21, .ref q22, .ref q23, .ref q24, .ref q25, .null, .null, .int 0])), (q0, .inl (cI, 8, .inl (fun _ => 0))), (q1, .inl (cI, 8, .inl (fun _ => 0))), (q2, .inl (cZ, 8, .inl (fun _ => 0))), (q3, .inl (cI, 8, .inl (fun _ => 0))), (q4, .inl (cI, 8, .inl (fun _ => 0))), (q5, .inl (cI, 100, .inl (fun _ => 0))), (q6, .inl (cI, 100, .inl (fun _ => 0))), (q7, .inl (cZ, 100, .inl (fun _ => 0))), (q8, .inl (cI, 100, .inl (fun _ => 0))), (q9, .inl (cI, 100, .inl (fun _ => 0))), (q10, .inl (cI, 100, .inl (fun _ => 0))), (q11, .inl (cI, 12, .inl (fun _ => 0))), (q12, .inl (cI, 12, .inl (fun _ => 0))), (q13, .inl (cI, 240, .inl (fun _ => 0))), (q14, .inl (cI, 12, .inl (fun _ => 0))), (q15, .inl (cI, 3072, .inl (fun _ => 0))), (q16, .inl (cI, 100, .inl (fun _ => 0))), (q17, .inl (cI, 10, .inl (fun _ => 0))), (q18, .inl (cI, 4, .inl (fun _ => 0))), (q19, .inl (cI, 3, .inl (fun _ => 0))), (q20, .inl (cI, 7, .inl (fun _ => 0))), (q21, .inl (cI, 84, .inl (fun _ => 0))), (q22, .inl (cI, 12, .inl (fun _ => 0))), (q23, .inl (cZ, 4, .inl (fun _ => 0))), (q24, .inl (cI, 4, .inl (fun _ => 0))), (q25, .inl (cI, 4, .inl (fun _ => 0)))]) rfl ?_
  refine gg_aload_n X dX8_init_224 0 rfl ?_
  refine gg_sipush X dX8_init_225 (v := 240) (by decide) ?_
  refine gg_newa X (atype := .int) (ty := .int) (M := 240) (c2 := 27) (s2 := 4460) dX8_init_228 rfl (fun C h => by cases h) 0 rfl (List.mem_of_getElem? (i := 4) rfl) rfl (by decide) (by decide) (by decide) rfl rfl (Nat.le_of_ble_eq_true rfl) (Nat.le_of_ble_eq_true rfl) (fun q26 => ?_)
  refine gg_eq (ws2 := [(h0, .inr (8, [.int 0, .ref q0, .ref q1, .ref q2, .ref q3, .ref q4, .int 0, .ref q5, .ref q6, .ref q7, .ref q8, .ref q9, .ref q10, .int 0, .ref q11, .ref q12, .ref q13, .ref q14, .int 4, .int 2, .int 1, .int 0, .ref q15, .ref q16, .ref q17, .ref q18, .ref q19, .ref q20, .int 0, .ref q21, .ref q22, .ref q23, .ref q24, .ref q25, .null, .null, .int 0])), (q0, .inl (cI, 8, .inl (fun _ => 0))), (q1, .inl (cI, 8, .inl (fun _ => 0))), (q2, .inl (cZ, 8, .inl (fun _ => 0))), (q3, .inl (cI, 8, .inl (fun _ => 0))), (q4, .inl (cI, 8, .inl (fun _ => 0))), (q5, .inl (cI, 100, .inl (fun _ => 0))), (q6, .inl (cI, 100, .inl (fun _ => 0))), (q7, .inl (cZ, 100, .inl (fun _ => 0))), (q8, .inl (cI, 100, .inl (fun _ => 0))), (q9, .inl (cI, 100, .inl (fun _ => 0))), (q10, .inl (cI, 100, .inl (fun _ => 0))), (q11, .inl (cI, 12, .inl (fun _ => 0))), (q12, .inl (cI, 12, .inl (fun _ => 0))), (q13, .inl (cI, 240, .inl (fun _ => 0))), (q14, .inl (cI, 12, .inl (fun _ => 0))), (q15, .inl (cI, 3072, .inl (fun _ => 0))), (q16, .inl (cI, 100, .inl (fun _ => 0))), (q17, .inl (cI, 10, .inl (fun _ => 0))), (q18, .inl (cI, 4, .inl (fun _ => 0))), (q19, .inl (cI, 3, .inl (fun _ => 0))), (q20, .inl (cI, 7, .inl (fun _ => 0))), (q21, .inl (cI, 84, .inl (fun _ => 0))), (q22, .inl (cI, 12, .inl (fun _ => 0))), (q23, .inl (cZ, 4, .inl (fun _ => 0))), (q24, .inl (cI, 4, .inl (fun _ => 0))), (q25, .inl (cI, 4, .inl (fun _ => 0))), (q26, .inl (cI, 240, .inl (fun _ => 0)))]) rfl ?_
  refine gg_putF X (ty := (.array .int)) dX8_init_230 0 34 tyX8 tyX8_ok nmX8 rfl rfl (by decide) (fun _ h => (List.mem_cons_of_mem _ (List.mem_append_right _ h))) (List.mem_of_getElem? (i := 35) rfl) rfl rfl rfl (by decide +kernel) rfl rfl (Nat.le_of_ble_eq_true rfl) (ws2 := [(h0, .inr (8, [.int 0, .ref q0, .ref q1, .ref q2, .ref q3, .ref q4, .int 0, .ref q5, .ref q6, .ref q7, .ref q8, .ref q9, .ref q10, .int 0, .ref q11, .ref q12, .ref q13, .ref q14, .int 4, .int 2, .int 1, .int 0, .ref q15, .ref q16, .ref q17, .ref q18, .ref q19, .ref q20, .int 0, .ref q21, .ref q22, .ref q23, .ref q24, .ref q25, .ref q26, .null, .int 0])), (q0, .inl (cI, 8, .inl (fun _ => 0))), (q1, .inl (cI, 8, .inl (fun _ => 0))), (q2, .inl (cZ, 8, .inl (fun _ => 0))), (q3, .inl (cI, 8, .inl (fun _ => 0))), (q4, .inl (cI, 8, .inl (fun _ => 0))), (q5, .inl (cI, 100, .inl (fun _ => 0))), (q6, .inl (cI, 100, .inl (fun _ => 0))), (q7, .inl (cZ, 100, .inl (fun _ => 0))), (q8, .inl (cI, 100, .inl (fun _ => 0))), (q9, .inl (cI, 100, .inl (fun _ => 0))), (q10, .inl (cI, 100, .inl (fun _ => 0))), (q11, .inl (cI, 12, .inl (fun _ => 0))), (q12, .inl (cI, 12, .inl (fun _ => 0))), (q13, .inl (cI, 240, .inl (fun _ => 0))), (q14, .inl (cI, 12, .inl (fun _ => 0))), (q15, .inl (cI, 3072, .inl (fun _ => 0))), (q16, .inl (cI, 100, .inl (fun _ => 0))), (q17, .inl (cI, 10, .inl (fun _ => 0))), (q18, .inl (cI, 4, .inl (fun _ => 0))), (q19, .inl (cI, 3, .inl (fun _ => 0))), (q20, .inl (cI, 7, .inl (fun _ => 0))), (q21, .inl (cI, 84, .inl (fun _ => 0))), (q22, .inl (cI, 12, .inl (fun _ => 0))), (q23, .inl (cZ, 4, .inl (fun _ => 0))), (q24, .inl (cI, 4, .inl (fun _ => 0))), (q25, .inl (cI, 4, .inl (fun _ => 0))), (q26, .inl (cI, 240, .inl (fun _ => 0)))]) rfl ?_
  refine gg_aload_n X dX8_init_233 0 rfl ?_
  refine gg_bipush X dX8_init_234 (v := 60) (by decide) ?_
  refine gg_newa X (atype := .int) (ty := .int) (M := 60) (c2 := 28) (s2 := 4520) dX8_init_236 rfl (fun C h => by cases h) 0 rfl (List.mem_of_getElem? (i := 4) rfl) rfl (by decide) (by decide) (by decide) rfl rfl (Nat.le_of_ble_eq_true rfl) (Nat.le_of_ble_eq_true rfl) (fun q27 => ?_)
  refine gg_eq (ws2 := [(h0, .inr (8, [.int 0, .ref q0, .ref q1, .ref q2, .ref q3, .ref q4, .int 0, .ref q5, .ref q6, .ref q7, .ref q8, .ref q9, .ref q10, .int 0, .ref q11, .ref q12, .ref q13, .ref q14, .int 4, .int 2, .int 1, .int 0, .ref q15, .ref q16, .ref q17, .ref q18, .ref q19, .ref q20, .int 0, .ref q21, .ref q22, .ref q23, .ref q24, .ref q25, .ref q26, .null, .int 0])), (q0, .inl (cI, 8, .inl (fun _ => 0))), (q1, .inl (cI, 8, .inl (fun _ => 0))), (q2, .inl (cZ, 8, .inl (fun _ => 0))), (q3, .inl (cI, 8, .inl (fun _ => 0))), (q4, .inl (cI, 8, .inl (fun _ => 0))), (q5, .inl (cI, 100, .inl (fun _ => 0))), (q6, .inl (cI, 100, .inl (fun _ => 0))), (q7, .inl (cZ, 100, .inl (fun _ => 0))), (q8, .inl (cI, 100, .inl (fun _ => 0))), (q9, .inl (cI, 100, .inl (fun _ => 0))), (q10, .inl (cI, 100, .inl (fun _ => 0))), (q11, .inl (cI, 12, .inl (fun _ => 0))), (q12, .inl (cI, 12, .inl (fun _ => 0))), (q13, .inl (cI, 240, .inl (fun _ => 0))), (q14, .inl (cI, 12, .inl (fun _ => 0))), (q15, .inl (cI, 3072, .inl (fun _ => 0))), (q16, .inl (cI, 100, .inl (fun _ => 0))), (q17, .inl (cI, 10, .inl (fun _ => 0))), (q18, .inl (cI, 4, .inl (fun _ => 0))), (q19, .inl (cI, 3, .inl (fun _ => 0))), (q20, .inl (cI, 7, .inl (fun _ => 0))), (q21, .inl (cI, 84, .inl (fun _ => 0))), (q22, .inl (cI, 12, .inl (fun _ => 0))), (q23, .inl (cZ, 4, .inl (fun _ => 0))), (q24, .inl (cI, 4, .inl (fun _ => 0))), (q25, .inl (cI, 4, .inl (fun _ => 0))), (q26, .inl (cI, 240, .inl (fun _ => 0))), (q27, .inl (cI, 60, .inl (fun _ => 0)))]) rfl ?_
  refine gg_putF X (ty := (.array .int)) dX8_init_238 0 35 tyX8 tyX8_ok nmX8 rfl rfl (by decide) (fun _ h => (List.mem_cons_of_mem _ (List.mem_append_right _ h))) (List.mem_of_getElem? (i := 36) rfl) rfl rfl rfl (by decide +kernel) rfl rfl (Nat.le_of_ble_eq_true rfl) (ws2 := [(h0, .inr (8, [.int 0, .ref q0, .ref q1, .ref q2, .ref q3, .ref q4, .int 0, .ref q5, .ref q6, .ref q7, .ref q8, .ref q9, .ref q10, .int 0, .ref q11, .ref q12, .ref q13, .ref q14, .int 4, .int 2, .int 1, .int 0, .ref q15, .ref q16, .ref q17, .ref q18, .ref q19, .ref q20, .int 0, .ref q21, .ref q22, .ref q23, .ref q24, .ref q25, .ref q26, .ref q27, .int 0])), (q0, .inl (cI, 8, .inl (fun _ => 0))), (q1, .inl (cI, 8, .inl (fun _ => 0))), (q2, .inl (cZ, 8, .inl (fun _ => 0))), (q3, .inl (cI, 8, .inl (fun _ => 0))), (q4, .inl (cI, 8, .inl (fun _ => 0))), (q5, .inl (cI, 100, .inl (fun _ => 0))), (q6, .inl (cI, 100, .inl (fun _ => 0))), (q7, .inl (cZ, 100, .inl (fun _ => 0))), (q8, .inl (cI, 100, .inl (fun _ => 0))), (q9, .inl (cI, 100, .inl (fun _ => 0))), (q10, .inl (cI, 100, .inl (fun _ => 0))), (q11, .inl (cI, 12, .inl (fun _ => 0))), (q12, .inl (cI, 12, .inl (fun _ => 0))), (q13, .inl (cI, 240, .inl (fun _ => 0))), (q14, .inl (cI, 12, .inl (fun _ => 0))), (q15, .inl (cI, 3072, .inl (fun _ => 0))), (q16, .inl (cI, 100, .inl (fun _ => 0))), (q17, .inl (cI, 10, .inl (fun _ => 0))), (q18, .inl (cI, 4, .inl (fun _ => 0))), (q19, .inl (cI, 3, .inl (fun _ => 0))), (q20, .inl (cI, 7, .inl (fun _ => 0))), (q21, .inl (cI, 84, .inl (fun _ => 0))), (q22, .inl (cI, 12, .inl (fun _ => 0))), (q23, .inl (cZ, 4, .inl (fun _ => 0))), (q24, .inl (cI, 4, .inl (fun _ => 0))), (q25, .inl (cI, 4, .inl (fun _ => 0))), (q26, .inl (cI, 240, .inl (fun _ => 0))), (q27, .inl (cI, 60, .inl (fun _ => 0)))]) rfl ?_
  exact gg_ret X dX8_init_241 hQ (fun k => [h0, q0, q1, q2, q3, q4, q5, q6, q7, q8, q9, q10, q11, q12, q13, q14, q15, q16, q17, q18, q19, q20, q21, q22, q23, q24, q25, q26, q27].getD k 0) rfl [0, 1, 2, 3, 4, 5, 6, 7, 8, 9, 10, 11, 12, 13, 14, 15, 16, 17, 18, 19, 20, 21, 22, 23, 24, 25, 26, 27, 28] (by decide) rfl
end
section
set_option maxRecDepth 20000 in
theorem gT_X7_init : GoodIn lw_tbl wsX7_init := goodIn_r _ [56, 57, 58, 59, 60, 61, 43, 275, 100, 101, 45, 276, 137, 138, 46, 277, 171, 172, 47, 278, 189, 190, 48, 279, 251, 252, 49, 280, 281, 63, 64, 65, 77, 66, 67, 44, 79, 80, 82, 83, 85, 68, 69, 70, 71, 76, 72, 103, 104, 105, 108, 106, 110, 112, 114, 116, 118, 120, 107, 139, 140, 141, 142, 146, 143, 150, 153, 156, 145, 144, 173, 174, 175, 176, 177, 180, 181, 179, 178, 191, 192, 193, 194, 199, 201, 203, 205, 207, 208, 209, 195, 210, 211, 212, 213, 214, 215, 216, 197, 198, 196, 253, 254, 255, 256, 257, 263, 265, 267, 258, 259, 260, 261, 262, 87, 89, 91, 93, 95, 97, 282, 284, 286, 288, 290, 292, 294, 122, 124, 126, 128, 130, 132, 134, 160, 162, 164, 166, 168, 182, 184, 186, 218, 220, 222, 224, 226, 228, 230, 232, 234, 236, 238, 240, 242, 244, 246, 248, 268, 270, 272, 73] (by decide +kernel) (by decide +kernel)
set_option maxRecDepth 20000 in
theorem gT_X8_init : GoodIn lw_tbl wsX8_init := goodIn_r _ [706, 707, 58, 59, 76, 709, 710, 820, 711, 712, 713, 715, 716, 717, 718, 719, 720, 722, 723, 724, 725, 726, 727, 728, 730, 731, 732, 733, 734, 735, 737, 738, 739, 740, 741, 742, 743, 745, 747, 749, 751, 753, 755, 757, 759, 761, 763, 765, 767, 769, 771, 773, 775, 777, 779, 781, 783, 785, 787, 789, 791, 793, 795, 797, 799, 801, 803, 805, 807, 809, 811, 813, 815, 817] (by decide +kernel) (by decide +kernel)
set_option maxRecDepth 20000 in
theorem uT_0 : ∀ w ∈ u_ws RX0 TX0 16, w ∈ lw_tbl := fun w h => (goodIn_r (big := lw_tbl) (u_ws RX0 TX0 16) [218, 220, 222, 224, 226, 228, 230, 232, 234, 236, 238, 240, 242, 244, 246, 248] (by decide +kernel) (by decide +kernel) w h).1
set_option maxRecDepth 20000 in
theorem uT_1 : ∀ w ∈ u_ws RX1 TX1 6, w ∈ lw_tbl := fun w h => (goodIn_r (big := lw_tbl) (u_ws RX1 TX1 6) [87, 89, 91, 93, 95, 97] (by decide +kernel) (by decide +kernel) w h).1
set_option maxRecDepth 20000 in
theorem uT_2 : ∀ w ∈ u_ws RX2 TX2 7, w ∈ lw_tbl := fun w h => (goodIn_r (big := lw_tbl) (u_ws RX2 TX2 7) [122, 124, 126, 128, 130, 132, 134] (by decide +kernel) (by decide +kernel) w h).1
set_option maxRecDepth 20000 in
theorem uT_3 : ∀ w ∈ u_ws RX3 TX3 3, w ∈ lw_tbl := fun w h => (goodIn_r (big := lw_tbl) (u_ws RX3 TX3 3) [182, 184, 186] (by decide +kernel) (by decide +kernel) w h).1
set_option maxRecDepth 20000 in
theorem uT_4 : ∀ w ∈ u_ws RX4 TX4 1, w ∈ lw_tbl := fun w h => (goodIn_r (big := lw_tbl) (u_ws RX4 TX4 1) [73] (by decide +kernel) (by decide +kernel) w h).1
set_option maxRecDepth 20000 in
theorem uT_5 : ∀ w ∈ u_ws RX5 TX5 3, w ∈ lw_tbl := fun w h => (goodIn_r (big := lw_tbl) (u_ws RX5 TX5 3) [268, 270, 272] (by decide +kernel) (by decide +kernel) w h).1
set_option maxRecDepth 20000 in
theorem uT_6 : ∀ w ∈ u_ws RX6 TX6 5, w ∈ lw_tbl := fun w h => (goodIn_r (big := lw_tbl) (u_ws RX6 TX6 5) [160, 162, 164, 166, 168] (by decide +kernel) (by decide +kernel) w h).1
set_option maxRecDepth 20000 in
theorem uT_7 : ∀ w ∈ u_ws RX7 TX7 7, w ∈ lw_tbl := fun w h => (goodIn_r (big := lw_tbl) (u_ws RX7 TX7 7) [282, 284, 286, 288, 290, 292, 294] (by decide +kernel) (by decide +kernel) w h).1
set_option maxRecDepth 20000 in
theorem uT_8 : ∀ w ∈ u_ws RX8 TX8 37, w ∈ lw_tbl := fun w h => (goodIn_r (big := lw_tbl) (u_ws RX8 TX8 37) [745, 747, 749, 751, 753, 755, 757, 759, 761, 763, 765, 767, 769, 771, 773, 775, 777, 779, 781, 783, 785, 787, 789, 791, 793, 795, 797, 799, 801, 803, 805, 807, 809, 811, 813, 815, 817] (by decide +kernel) (by decide +kernel) w h).1
set_option maxRecDepth 20000 in
theorem nT_nw : mm_nw = [78, 81, 84, 86, 109, 111, 113, 115, 117, 119, 121, 147, 148, 149, 151, 152, 154, 155, 157, 158, 159, 200, 202, 204, 206, 217, 264, 266, 62, 102].filterMap (fun i => lw_tbl[i]?) := by decide +kernel
theorem nT_in : ∀ w ∈ mm_nw, w ∈ lw_tbl := by
  intro w hw
  rw [nT_nw] at hw
  obtain ⟨i, -, hi⟩ := List.mem_filterMap.mp hw
  exact List.mem_of_getElem? hi
theorem nT_nst : ∀ w ∈ mm_nw, mm_nst w = true := by
  have h : mm_nw.all mm_nst = true := by decide +kernel
  exact fun w hw => List.all_eq_true.mp h w hw
set_option maxRecDepth 20000 in
theorem wT_1 : (Cond.classLink RL 7 RX7 : Cond) ∈ lw_tbl := List.mem_of_getElem? (i := 52) (by decide +kernel)
set_option maxRecDepth 20000 in
theorem wT_2 : (Cond.methodLink RL 9 yX7_init : Cond) ∈ lw_tbl := List.mem_of_getElem? (i := 54) (by decide +kernel)
set_option maxRecDepth 20000 in
theorem wT_3 : (Cond.instanceMethod yX7_init : Cond) ∈ lw_tbl := List.mem_of_getElem? (i := 55) (by decide +kernel)
set_option maxRecDepth 20000 in
theorem wT_4 : (Cond.classLink RL 10 RX8 : Cond) ∈ lw_tbl := List.mem_of_getElem? (i := 702) (by decide +kernel)
set_option maxRecDepth 20000 in
theorem wT_5 : (Cond.methodLink RL 12 yX8_init : Cond) ∈ lw_tbl := List.mem_of_getElem? (i := 704) (by decide +kernel)
set_option maxRecDepth 20000 in
theorem wT_6 : (Cond.instanceMethod yX8_init : Cond) ∈ lw_tbl := List.mem_of_getElem? (i := 705) (by decide +kernel)
set_option maxRecDepth 20000 in
theorem wI_0 : (Cond.instantiable RX0 16 : Cond) ∈ lw_tbl := List.mem_of_getElem? (i := 190) (by decide +kernel)
set_option maxRecDepth 20000 in
theorem wI_1 : (Cond.instantiable RX1 6 : Cond) ∈ lw_tbl := List.mem_of_getElem? (i := 61) (by decide +kernel)
set_option maxRecDepth 20000 in
theorem wI_2 : (Cond.instantiable RX2 7 : Cond) ∈ lw_tbl := List.mem_of_getElem? (i := 101) (by decide +kernel)
set_option maxRecDepth 20000 in
theorem wI_3 : (Cond.instantiable RX3 3 : Cond) ∈ lw_tbl := List.mem_of_getElem? (i := 172) (by decide +kernel)
set_option maxRecDepth 20000 in
theorem wI_4 : (Cond.instantiable RX4 1 : Cond) ∈ lw_tbl := List.mem_of_getElem? (i := 67) (by decide +kernel)
set_option maxRecDepth 20000 in
theorem wI_5 : (Cond.instantiable RX5 3 : Cond) ∈ lw_tbl := List.mem_of_getElem? (i := 252) (by decide +kernel)
set_option maxRecDepth 20000 in
theorem wI_6 : (Cond.instantiable RX6 5 : Cond) ∈ lw_tbl := List.mem_of_getElem? (i := 138) (by decide +kernel)
set_option maxRecDepth 20000 in
theorem wI_7 : (Cond.instantiable RX7 7 : Cond) ∈ lw_tbl := List.mem_of_getElem? (i := 53) (by decide +kernel)
set_option maxRecDepth 20000 in
theorem wI_8 : (Cond.instantiable RX8 37 : Cond) ∈ lw_tbl := List.mem_of_getElem? (i := 703) (by decide +kernel)
set_option maxRecDepth 20000 in
theorem wZ_7 : (Cond.initialized RX7 : Cond) ∈ lw_tbl := List.mem_of_getElem? (i := 42) (by decide +kernel)
set_option maxRecDepth 20000 in
theorem wZ_8 : (Cond.initialized RX8 : Cond) ∈ lw_tbl := List.mem_of_getElem? (i := 50) (by decide +kernel)
set_option maxRecDepth 20000 in
theorem wA_I : (Cond.arrayClass .int : Cond) ∈ lw_tbl := List.mem_of_getElem? (i := 76) (by decide +kernel)
set_option maxRecDepth 20000 in
theorem wA_Z : (Cond.arrayClass .boolean : Cond) ∈ lw_tbl := List.mem_of_getElem? (i := 820) (by decide +kernel)
end
section
/-! ===== the law's beginning: both objects are made; what that takes of the heap ===== -/
def lw_P (b : Addr) (xs : List Int32) (args : Array Value) (s : State) : Prop := args = #[.ref b] ∧ s.IntsAt b xs ∧ xs.length ≤ 3072 ∧ (Jvm.Cond.and given_1 narrow_1).before args s = true
theorem lw_pre_spec {args : Array Value} {s : State} (h : (Jvm.Cond.and given_1 narrow_1).before args s = true) (hr : rest_1_c.before args s = true) : ∃ (b : Addr) (xs : List Int32), lw_P b xs args s := by
  have hs := flat_of_before _ h
  have hq := flat_of_before _ hr
  have hc : (Cond.count 1).before args s = true := hs _ (by decide +kernel)
  have harr : (Cond.arrayOf (.arg 0) .int).before args s = true := hs _ (by decide +kernel)
  have hle : (Cond.le (.length (.arg 0)) (.int 3072)).before args s = true := hs _ (by decide +kernel)
  have hlen : (Cond.isInt (.length (.arg 0))).before args s = true := hq _ (by decide +kernel)
  have hall : (Cond.all (.arg 0) (.isInt (.elem (.arg 0) (.index 0)))).before args s = true := hq _ (by decide +kernel)
  obtain ⟨b, xs, hb, hx⟩ := State.ints_of_pre rfl harr hlen hall
  have hsm : xs.length < 2 ^ 31 := hx.choose_spec.2.2.2
  have hev : (Term.length (.arg 0)).eval args s none [] s = some (.int xs.length.toInt32) := hx.length_eval hb
  have hv := Cond.le_ints hev (show (Term.int 3072).eval args s none [] s = some (.int 3072) from rfl)
  have hd : xs.length.toInt32 ≤ 3072 := by
    simpa [Cond.before, Cond.holds, hv] using hle
  have hN : xs.length ≤ 3072 := (Int32.ofNat_le_ofNat hsm (by decide)).mp (show Int32.ofNat xs.length ≤ Int32.ofNat 3072 from hd)
  exact ⟨b, xs, Cond.one_arg hc (show args[0]? = some (.ref b) from hb), hx, hN, h⟩
abbrev rmL : Room := { frames := 10, cells := 88, slots := 7853, locals := 350 }
theorem rf_one : ∀ (l : List Nat) (i x : Nat), l[i]? = some x → x ≤ l.sum
  | [], i, x, h => by simp at h
  | z :: l, 0, x, h => by
    have : z = x := by simpa using h
    subst this
    simp
  | z :: l, i + 1, x, h => by
    have := rf_one l i x (by simpa using h)
    simp
    omega
theorem rf_two : ∀ (l : List Nat) (i j x y : Nat), l[i]? = some x → l[j]? = some y → i ≠ j → x + y ≤ l.sum
  | [], i, j, x, y, h, _, _ => by simp at h
  | z :: l, 0, 0, x, y, _, _, h => absurd rfl h
  | z :: l, 0, j + 1, x, y, h1, h2, _ => by
    have e : z = x := by simpa using h1
    have := rf_one l j y (by simpa using h2)
    subst e
    simp
    omega
  | z :: l, i + 1, 0, x, y, h1, h2, _ => by
    have e : z = y := by simpa using h2
    have := rf_one l i x (by simpa using h1)
    subst e
    simp
    omega
  | z :: l, i + 1, j + 1, x, y, h1, h2, h => by
    have := rf_two l i j x y (by simpa using h1) (by simpa using h2) (by omega)
    simp
    omega
theorem rf_book {s T : State} {locs : List Loc} {cells slots a b : Nat} {ca cb : Cell} (hX : s.sameButNew (T.setVm s.vm) locs cells slots) (ha : T.heap[a]? = some ca) (hb : T.heap[b]? = some cb) (hn : a ≠ b) (h1 : s.heap.size ≤ a) (h2 : s.heap.size ≤ b) : s.slotsUsed + (ca.slots.size + cb.slots.size) ≤ T.slotsUsed := by
  obtain ⟨-, -, -, h4, -, -⟩ := hX
  have h4 : T.slotsUsed = s.slotsUsed + ((T.heap.toList.drop s.heap.size).map (·.slots.size)).sum := h4
  have e1 : ((T.heap.toList.drop s.heap.size).map (·.slots.size))[a - s.heap.size]? = some ca.slots.size := by
    rw [List.getElem?_map, List.getElem?_drop, show s.heap.size + (a - s.heap.size) = a by omega, Array.getElem?_toList, ha]
    rfl
  have e2 : ((T.heap.toList.drop s.heap.size).map (·.slots.size))[b - s.heap.size]? = some cb.slots.size := by
    rw [List.getElem?_map, List.getElem?_drop, show s.heap.size + (b - s.heap.size) = b by omega, Array.getElem?_toList, hb]
    rfl
  have := rf_two _ _ _ _ _ e1 e2 (by omega)
  omega
theorem rf_K {s : State} {args : Array Value} (hts : ∀ w ∈ lw_tbl, w.before args s = true) : ∃ (D : va_G) (cI cZ : ClassId), va_K D vwCl [(cI, .int), (cZ, .boolean)] s := by
  obtain ⟨c0, i0, h0⟩ := u_known (C := RX0) (T := TX0) (N := 16) (n := 16) hts uT_0 (hts _ wI_0)
  obtain ⟨c1, i1, h1⟩ := u_known (C := RX1) (T := TX1) (N := 6) (n := 6) hts uT_1 (hts _ wI_1)
  obtain ⟨c2, i2, h2⟩ := u_known (C := RX2) (T := TX2) (N := 7) (n := 7) hts uT_2 (hts _ wI_2)
  obtain ⟨c3, i3, h3⟩ := u_known (C := RX3) (T := TX3) (N := 3) (n := 3) hts uT_3 (hts _ wI_3)
  obtain ⟨c4, i4, h4⟩ := u_known (C := RX4) (T := TX4) (N := 1) (n := 1) hts uT_4 (hts _ wI_4)
  obtain ⟨c5, i5, h5⟩ := u_known (C := RX5) (T := TX5) (N := 3) (n := 3) hts uT_5 (hts _ wI_5)
  obtain ⟨c6, i6, h6⟩ := u_known (C := RX6) (T := TX6) (N := 5) (n := 5) hts uT_6 (hts _ wI_6)
  obtain ⟨c7, i7, h7⟩ := u_known (C := RX7) (T := TX7) (N := 7) (n := 7) hts uT_7 (hts _ wI_7)
  obtain ⟨c8, i8, h8⟩ := u_known (C := RX8) (T := TX8) (N := 37) (n := 37) hts uT_8 (hts _ wI_8)
  obtain ⟨cI, kI, pI, f1, f2, f3⟩ := Cond.arrayClass_spec (hts _ wA_I)
  obtain ⟨cZ, kZ, pZ, g1, g2, g3⟩ := Cond.arrayClass_spec (hts _ wA_Z)
  refine ⟨(fun k => match k with | 0 => c0 | 1 => c1 | 2 => c2 | 3 => c3 | 4 => c4 | 5 => c5 | 6 => c6 | 7 => c7 | _ => c8, fun k => match k with | 0 => i0 | 1 => i1 | 2 => i2 | 3 => i3 | 4 => i4 | 5 => i5 | 6 => i6 | 7 => i7 | _ => i8), cI, cZ, ?_, ?_⟩
  · intro k q hq
    match k, hq with
    | 0, hq => cases hq; exact h0
    | 1, hq => cases hq; exact h1
    | 2, hq => cases hq; exact h2
    | 3, hq => cases hq; exact h3
    | 4, hq => cases hq; exact h4
    | 5, hq => cases hq; exact h5
    | 6, hq => cases hq; exact h6
    | 7, hq => cases hq; exact h7
    | 8, hq => cases hq; exact h8
    | k + 9, hq => simp [vwCl] at hq
  · intro k q hq
    match k, hq with
    | 0, hq => cases hq; exact ⟨fun n z => ⟨fun k h => (by cases h), kI, f2, pI, f3⟩, f1⟩
    | 1, hq => cases hq; exact ⟨fun n z => ⟨fun k h => (by cases h), kZ, g2, pZ, g3⟩, g1⟩
    | k + 2, hq => simp at hq
set_option maxHeartbeats 4000000 in
set_option maxRecDepth 100000 in
theorem rf_run {p : Program} {e : Env} {s : State} {m : MethodId} {below : List Frame} {meth : Method} {c : Code} (l : Launch) {b : Nat} (hx : p.tables.exec = Jvm.exec) (hb : c.code = code) (hml : c.maxLocals = 4) (hown : s.vm.findClass RL = some m.cls) (hts : ∀ w ∈ lw_tbl, w.before #[Value.ref b] s = true) :
    W p l e rmL s m #[Value.ref b] below meth c s.heap [] 0 0 (fun t => s.slotsUsed + 5120 ≤ t.slotsUsed) (entryFrame m ([Value.ref b] : List Value).toArray 4) := by
  obtain ⟨D, cI, cZ, hK⟩ := rf_K hts
  have hl := lv_entry ([.ref b]) (n := 4) (Nat.le_of_ble_eq_true rfl)
  rw [lg_entry_eq]
  generalize (lg_sl ([.ref b]) ++ List.replicate (4 - (lg_sl ([.ref b])).length) Slot.unset).toArray = ls at hl ⊢
  have hl : lv_has ls 4 [(0, .ref b)] := hl
  have hN : mm_N mm_nw s := fun w hw => ⟨nT_nst w hw, by
    have h0 := hts w (nT_in w hw)
    have h1 := nT_nst w hw
    refine va_Nw.of ?_ h0
    cases w <;> first | rfl | cases h1⟩
  obtain ⟨K, hKe⟩ : ∃ K : mm_K, K = (p, l, e, rmL, s, m, #[Value.ref b], below, meth, c, 4, (fun q => s.heap.size ≤ q), (fun t => s.slotsUsed + 5120 ≤ t.slotsUsed)) := ⟨_, rfl⟩
  have X : gg_D (fun _ => True) mm_nw K rmL cL_law 4 lw_tbl RL D [(cI, .int), (cZ, .boolean)] := by
    rw [hKe]
    exact ⟨⟨hx, hb, hml, hts, hown, hK, fun q hq => hq, hN, trivial⟩, rfl, rfl⟩
  have hL : mm_L K l := by rw [hKe]; rfl
  have go : gg_G K D [] 0 0 0 [(0, .ref b)] [] := by
    refine gg_new X (ci := 7) (M := 7) (c2 := 1) (s2 := 7) (fs := [.null, .null, .null, .null, .null, .null, .int 0]) dL_law_0 tyX7 tyX7_ok rfl uT_7 wT_1 wI_7 wZ_7 (fun j hj => by rcases (show j = 0 ∨ j = 1 ∨ j = 2 ∨ j = 3 ∨ j = 4 ∨ j = 5 ∨ j = 6 by omega) with rfl | rfl | rfl | rfl | rfl | rfl | rfl <;> rfl) rfl rfl (Nat.le_of_ble_eq_true rfl) (Nat.le_of_ble_eq_true rfl) (fun q => ?_)
    refine gg_eq (ws2 := [(q, .inr (7, [.null, .null, .null, .null, .null, .null, .int 0]))]) rfl ?_
    refine gg_dup X dL_law_3 rfl ?_
    refine gg_call X (nw2 := mm_nw) (tys2 := [(cI, .int)]) (As := []) (rest := [.ref q]) (cf := dv_cf cI) (N := 59) (σ := dv_0) (c2 := 59) (s2 := 3296) (wr := []) dL_law_4 hL (fun sz => nX7_init sz) gT_X7_init rfl ⟨rfl, rfl⟩ wT_2 wT_3 wZ_7 rfl hyX7_init ⟨Nat.le_of_ble_eq_true rfl, Nat.le_of_ble_eq_true rfl⟩ rfl (Nat.le_of_ble_eq_true rfl) (fun w h => h) [0] rfl 0 [] rfl rfl (by decide) (by decide) rfl rfl (Nat.le_of_ble_eq_true rfl) (Nat.le_of_ble_eq_true rfl) (fun a ea => ?_)
    refine gg_eq (ws2 := mm_W (dv_cf cI) 59 a dv_0) rfl ?_
    refine gg_astore_n X dL_law_7 (by decide) (lv2 := [(1, .ref q), (0, .ref b)]) rfl ?_
    refine gg_new X (ci := 8) (M := 37) (c2 := 60) (s2 := 3333) (fs := [.int 0, .null, .null, .null, .null, .null, .int 0, .null, .null, .null, .null, .null, .null, .int 0, .null, .null, .null, .null, .int 0, .int 0, .int 0, .int 0, .null, .null, .null, .null, .null, .null, .int 0, .null, .null, .null, .null, .null, .null, .null, .int 0]) dL_law_8 tyX8 tyX8_ok rfl uT_8 wT_4 wI_8 wZ_8 (fun j hj => by rcases (show j = 0 ∨ j = 1 ∨ j = 2 ∨ j = 3 ∨ j = 4 ∨ j = 5 ∨ j = 6 ∨ j = 7 ∨ j = 8 ∨ j = 9 ∨ j = 10 ∨ j = 11 ∨ j = 12 ∨ j = 13 ∨ j = 14 ∨ j = 15 ∨ j = 16 ∨ j = 17 ∨ j = 18 ∨ j = 19 ∨ j = 20 ∨ j = 21 ∨ j = 22 ∨ j = 23 ∨ j = 24 ∨ j = 25 ∨ j = 26 ∨ j = 27 ∨ j = 28 ∨ j = 29 ∨ j = 30 ∨ j = 31 ∨ j = 32 ∨ j = 33 ∨ j = 34 ∨ j = 35 ∨ j = 36 by omega) with rfl | rfl | rfl | rfl | rfl | rfl | rfl | rfl | rfl | rfl | rfl | rfl | rfl | rfl | rfl | rfl | rfl | rfl | rfl | rfl | rfl | rfl | rfl | rfl | rfl | rfl | rfl | rfl | rfl | rfl | rfl | rfl | rfl | rfl | rfl | rfl | rfl <;> rfl) rfl rfl (Nat.le_of_ble_eq_true rfl) (Nat.le_of_ble_eq_true rfl) (fun r => ?_)
    refine gg_dup X dL_law_11 rfl ?_
    refine gg_call X (nw2 := []) (tys2 := [(cI, .int), (cZ, .boolean)]) (As := []) (rest := [.ref r]) (cf := md_cf cI cZ) (N := 29) (σ := md_0) (c2 := 88) (s2 := 7853) (wr := mm_W (dv_cf cI) 59 a dv_0) dL_law_12 hL (fun sz => nX8_init sz) gT_X8_init rfl ⟨rfl, rfl⟩ wT_5 wT_6 wZ_8 rfl hyX8_init ⟨Nat.le_of_ble_eq_true rfl, Nat.le_of_ble_eq_true rfl⟩ rfl (Nat.le_of_ble_eq_true rfl) (fun w h => by cases h) [0, 1] rfl 59 (List.range 59) rfl rfl (by decide) (by decide) rfl rfl (Nat.le_of_ble_eq_true rfl) (Nat.le_of_ble_eq_true rfl) (fun a2 ea2 => ?_)
    refine gg_astore_n X dL_law_15 (by decide) (lv2 := [(2, .ref r), (1, .ref q), (0, .ref b)]) rfl ?_
    subst hKe
    intro H locs ls2 hP hD hS hl2 T hT Y
    refine ⟨_, Steps.refl _, ?_⟩
    show s.slotsUsed + 5120 ≤ T.slotsUsed
    have k1 : (mm_W (dv_cf cI) 59 a dv_0 ++ mm_W (md_cf cI cZ) 29 a2 md_0)[22]? = some (a 22, .inl (cI, 2048, .inl (dv_0 22))) := rfl
    have k2 : (mm_W (dv_cf cI) 59 a dv_0 ++ mm_W (md_cf cI cZ) 29 a2 md_0)[75]? = some (a2 16, .inl (cI, 3072, .inl (md_0 16))) := rfl
    have c1 := hP 22 _ k1
    have c2 := hP 75 _ k2
    have n1 := hD.2 22 _ k1
    have n2 := hD.2 75 _ k2
    have ne : a 22 ≠ a2 16 := fun h => absurd (hD.1 22 75 _ _ k1 k2 h) (by decide)
    have c1 : T.heap[a 22]? = some (vp_cell cI (2048, .inl (dv_0 22))) := by rw [hT]; exact c1
    have c2 : T.heap[a2 16]? = some (vp_cell cI (3072, .inl (md_0 16))) := by rw [hT]; exact c2
    have := rf_book Y.same c1 c2 ne n1 n2
    rw [vp_cell_i, vp_cell_i, arrV_size, arrV_size] at this
    omega
  subst hKe
  have hP0 : va_P D vwCl ([] : va_W) s.heap := fun k q h => by simp at h
  have hD0 : va_D (fun q : Nat => s.heap.size ≤ q) ([] : va_W) := ⟨fun i j p q h => by simp at h, fun k q h => by simp at h⟩
  exact go s.heap [] ls hP0 hD0 va_S.rf hl
/-- the first step of an invocation -/
theorem rf_enter {p : Program} {l : Launch} {e : Env} {s : State} {m : MethodId} {args : Array Value} {below : List Frame} {ws : List Cond} {rm : Room} (ha : l.admits e) (hc : FairCas e.choices) (hk : FairClock e.choices) (hf : s.frames = .invoking m args :: below) (happ : (headSpec ws rm).appliesLoose x e.platform s = true) (hw : Cond.code x code maxLocals ret ∈ ws) :
    ∃ (meth : Method) (c : Code) (s₁ : State), BodyLoose p l x (headSpec ws rm) code maxLocals ret e s m args below meth c s₁ ∧ c.maxLocals = maxLocals ∧ ∀ s₂, Steps p.tables e below (s₁.setTop (entryFrame m args maxLocals)) s₂ → Steps p.tables e below s s₂ := by
  obtain ⟨hrun, hable, halone, hname, hhears, hinit, hroom, hpre⟩ := (Spec.appliesLoose_iff hf).mp happ
  obtain ⟨meth, c, hmeth, hcode, hbytes, hlocals, hret, hlocks, -, -⟩ := Cond.code_spec hname (atoms_spec (ws := ws) hpre _ hw)
  have hcur := State.cur_lt_of_frames hf
  have hf1 : (s.setFrames (.java (entryFrame m args maxLocals) :: below)).frames = .java (entryFrame m args maxLocals) :: below := State.frames_setFrames _ hcur
  have ht1 := State.topJava?_of_frames hf1
  have hplain : (s.setFrames (.java (entryFrame m args maxLocals) :: below)).plainMethod m := State.plainMethod.of_named (s := s) (plainFor_of_name (by decide)) hname hmeth
  have hAt : At (s.setFrames (.java (entryFrame m args maxLocals) :: below)) m c below :=
    ⟨by rw [ht1]; rfl, ⟨[], by rw [hf1]; rfl⟩, hrun, by simpa using hable, by simpa using halone, by rw [State.code?_eq]; simp [State.setFrames, hmeth, hcode], hplain⟩
  have hstep : (stepThread p.tables e s).1 = (s.setFrames (.java (entryFrame m args maxLocals) :: below)).setTop (entryFrame m args maxLocals) := by
    have hfull : e.platform.stackFull (s.setFrames below).me (s.setFrames below).frames c.maxLocals = false := by
      obtain ⟨-, h1, -, h2⟩ := State.hasRoom_stack hroom
      rw [hf, List.length_cons] at h1
      rw [State.localsInUse_invoking hf hmeth hcode] at h2
      have hq := stackUse_le_stackWeight below
      rw [State.frames_setFrames _ hcur]
      simp only [vmFrameWords] at h2
      exact Platform.stackFull_eq_false (by rw [State.stackLimits_setFrames]; omega) (by rw [State.stackLimits_setFrames]; omega)
    rw [stepThread_invoking hf, (doInvoke_java (s := s.setFrames below) (e := e) (meth := meth) (code := c) hmeth hcode hlocks hfull).1, State.setTop_self ht1]
    simp only [State.pushFrame, State.frames_setFrames _ hcur, State.setFrames_setFrames, hlocals, entryFrame]
  refine ⟨meth, c, _, ⟨ha, hc, hk, by cases p <;> rfl, hf, hname, hhears, hinit, hroom, hpre, hmeth, hret, hlocks, hbytes, rfl, hAt⟩, hlocals, fun s₂ hs => ?_⟩
  exact Steps.head (tb := p.tables) (e := e) ⟨hrun, hable, halone⟩ ⟨[.invoking m args], hf, by simp, by simp⟩ (hstep ▸ hs)
/-- an end is no place within -/
theorem rf_apart {t : State} {below : List Frame} {o : Outcome} (h1 : Ended t below o) (h2 : Within t below) : False := by
  obtain ⟨above, hf, hne, hthr⟩ := h2
  have hlen : t.frames.length = above.length + below.length := by rw [hf, List.length_append]
  have hpos : 0 < above.length := List.length_pos_iff.mpr hne
  cases o with
  | threw a =>
    have h1 : t.frames = .throwing a :: below := h1
    rw [h1] at hf
    exact hthr a (List.append_cancel_right (as := above) (bs := below) (cs := [Frame.throwing a]) (by rw [← hf]; rfl))
  | returned v =>
    have key : t.frames.length = below.length := by
      cases below with
      | nil =>
        have h : v = none ∧ t.frames = [] := h1
        rw [h.2]
      | cons fr r =>
        cases fr <;> first
          | (obtain ⟨c, i, len, -, -, h⟩ := h1; rw [h]; rfl)
          | (have h : v = none ∧ t.frames = _ := h1; rw [h.2])
          | (have h : t.frames = _ := h1; rw [h]; rfl)
    omega
/-- THE STATEMENT AS IT IS PRINTED IS FALSE: wherever there is a start, there is one at which the law's run makes more slots than the frame allows -/
theorem p32_false (hw : WitnessClaimed_1) : ¬ Claimed_1_1 := by
  intro hC
  obtain ⟨p, e, s, m, args, below, hL, hW, hadm, hleast, hcas, hclk, hf, hfit, hheap, happ, hcalls, hrest, hpre⟩ := hw
  obtain ⟨a1, a2, a3, a4, hp, a6, a7, a8, arest⟩ := hadm
  obtain ⟨pl, hpl⟩ : ∃ pl : Platform, pl = { e.platform with maxSlots := e.platform.maxSlots + 10000 } := ⟨_, rfl⟩
  obtain ⟨e2, he2⟩ : ∃ e2 : Env, e2 = { e with platform := pl } := ⟨_, rfl⟩
  have hadm2 : launch0.admits e2 := by
    subst he2
    subst hpl
    refine ⟨a1, a2, a3, a4, ?_, a6, a7, Nat.le_trans a8 (Nat.le_add_right _ _), arest⟩
    exact congrArg (fun P : Platform => { P with maxSlots := e.platform.maxSlots + 10000 }) hp
  have hroom : ∀ k, k ≤ 10000 → s.hasRoom e2.platform { frames := 10, cells := 88, slots := 4630 + k, locals := 350 } = true := by
    intro k hk
    have h := ((Spec.applies_iff hf).mp happ).2.2.2.2.2.2.1
    subst he2
    subst hpl
    have h : s.hasRoom e.platform ({ frames := 10, cells := 88, slots := 4630, locals := 350 } : Room) = true := h
    unfold State.hasRoom at h ⊢
    simp only [Bool.and_eq_true] at h ⊢
    refine ⟨⟨⟨h.1.1.1, h.1.1.2⟩, ?_⟩, h.2⟩
    have h4 := of_decide_eq_true h.1.2
    refine decide_eq_true ?_
    show s.slotsUsed + (4630 + k) ≤ e.platform.maxSlots + 10000
    have h4 : s.slotsUsed + 4630 ≤ e.platform.maxSlots := h4
    omega
  have happ1 : (headSpec (Jvm.Cond.code x code maxLocals ret :: tables_1) room_1).applies x e2.platform s = true := by
    obtain ⟨b1, b2, b3, b4, b5, b6, b7, b8⟩ := (Spec.applies_iff hf).mp happ
    exact (Spec.applies_iff hf).mpr ⟨b1, b2, b3, b4, b5, b6, hroom 0 (by omega), b8⟩
  have happ2 : (headSpec (Jvm.Cond.code x code maxLocals ret :: tables_1) rmL).appliesLoose x e2.platform s = true := by
    obtain ⟨b1, b2, b3, b4, b5, b6, b7, b8⟩ := (Spec.appliesLoose_iff hf).mp ((Spec.applies_iff_loose hf).mp happ1).1
    exact (Spec.appliesLoose_iff hf).mpr ⟨b1, b2, b3, b4, b5, b6, hroom 3223 (by omega), b8⟩
  have hcas2 : FairCas e2.choices := by subst he2; exact hcas
  have hclk2 : FairClock e2.choices := by subst he2; exact hclk
  obtain ⟨n, o, h1, h2, h3, h4⟩ := hC launch0 rfl hL hW p e2 hadm2 hcas2 hclk2 s m args below hf hfit hheap happ1 ⟨hcalls, hrest, hpre⟩
  obtain ⟨-, -, -, hsame⟩ := h4
  obtain ⟨-, -, -, q4, q5, -⟩ := hsame
  have hend : (stepsAlone p.tables e2 n s).slotsUsed ≤ s.slotsUsed + 4630 := by
    have q4 : (stepsAlone p.tables e2 n s).slotsUsed = s.slotsUsed + _ := q4
    rw [q4]
    exact Nat.add_le_add_left q5 _
  obtain ⟨b, xs, hPre⟩ := lw_pre_spec hpre hrest
  obtain ⟨rfl, -, -, -⟩ := hPre
  obtain ⟨meth, c, s₁, B, hml, hgo⟩ := rf_enter (p := p) (l := launch0) hadm2 hcas2 hclk2 hf happ2 List.mem_cons_self
  have hts0 : ∀ c ∈ (Jvm.Cond.code x code maxLocals ret :: tables_1), c.before #[Value.ref b] s = true := atoms_spec (ws := Jvm.Cond.code x code maxLocals ret :: tables_1) B.pre
  have hts : ∀ w ∈ lw_tbl, w.before #[Value.ref b] s = true := k2_hts_sels lw_privs (fun w hw => hts0 w (List.mem_cons_of_mem _ hw)) lw_privs_ok
  have hown : s.vm.findClass RL = some m.cls := findClass_of_methodNamed B.named
  have X₀ : Stand p launch0 e2 rmL s m #[Value.ref b] below meth c s₁ [] 0 0 := Stand.of_body B
  have hh0 : s₁.heap = s.heap := by rw [B.state]; rfl
  obtain ⟨T, hT, hQ⟩ := rf_run launch0 B.exec B.bytes hml hown hts s₁ hh0 X₀
  obtain ⟨k, hk, hkw⟩ := hgo T hT
  have hkn : k ≤ n := by
    rcases Nat.lt_or_ge n k with h | h
    · exact absurd (hkw n h) (fun z => rf_apart h3 z)
    · exact h
  obtain ⟨r, hr⟩ : ∃ r, n = k + r := ⟨n - k, by omega⟩
  have hgrow := (stepsAlone_heap_grows p.tables e2 r T).2
  rw [hr, stepsAlone_add, hk] at hend
  omega
end
