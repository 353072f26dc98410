section
-- ===== PART A: goes FIRST, ahead of the names: the tables' words, and 'selects' of the private methods out of them =====
/-- a private method of a class that the tables say can be made, by its rows of tables_1 -/
def lw_okq (q : MethodName × Nat) : Prop := (q.1.cls ≠ "java/lang/invoke/MethodHandle" ∧ q.1.cls ≠ "java/lang/invoke/VarHandle") ∧ Cond.instantiable q.1.cls q.2 ∈ tables_1 ∧ Cond.privateMethod q.1 ∈ tables_1 ∧ Cond.instanceMethod q.1 ∈ tables_1
theorem lw_p0 : lw_okq (⟨"SeaGames", "isHand", "(I)Z"⟩, 12) := ⟨⟨by decide +kernel, by decide +kernel⟩, List.mem_of_getElem? (i := 15) (by decide +kernel), List.mem_of_getElem? (i := 244) (by decide +kernel), List.mem_of_getElem? (i := 245) (by decide +kernel)⟩
theorem lw_p1 : lw_okq (⟨"SeaGames", "playTrulyTo", "(I)V"⟩, 12) := ⟨⟨by decide +kernel, by decide +kernel⟩, List.mem_of_getElem? (i := 15) (by decide +kernel), List.mem_of_getElem? (i := 277) (by decide +kernel), List.mem_of_getElem? (i := 278) (by decide +kernel)⟩
theorem lw_p2 : lw_okq (⟨"SeaGames", "setBoardAhead", "(LSeaGames$Track;I)V"⟩, 12) := ⟨⟨by decide +kernel, by decide +kernel⟩, List.mem_of_getElem? (i := 15) (by decide +kernel), List.mem_of_getElem? (i := 281) (by decide +kernel), List.mem_of_getElem? (i := 282) (by decide +kernel)⟩
theorem lw_p3 : lw_okq (⟨"SeaGames$Board", "wayToBall", "(I)I"⟩, 1) := ⟨⟨by decide +kernel, by decide +kernel⟩, List.mem_of_getElem? (i := 94) (by decide +kernel), List.mem_of_getElem? (i := 317) (by decide +kernel), List.mem_of_getElem? (i := 318) (by decide +kernel)⟩
theorem lw_p4 : lw_okq (⟨"SeaGames$Board", "kick", "(LSeaGames$Play;II)V"⟩, 1) := ⟨⟨by decide +kernel, by decide +kernel⟩, List.mem_of_getElem? (i := 94) (by decide +kernel), List.mem_of_getElem? (i := 332) (by decide +kernel), List.mem_of_getElem? (i := 333) (by decide +kernel)⟩
theorem lw_p5 : lw_okq (⟨"SeaGames$Board", "moveBall", "(LSeaGames$Play;I)Z"⟩, 1) := ⟨⟨by decide +kernel, by decide +kernel⟩, List.mem_of_getElem? (i := 94) (by decide +kernel), List.mem_of_getElem? (i := 336) (by decide +kernel), List.mem_of_getElem? (i := 337) (by decide +kernel)⟩
theorem lw_p6 : lw_okq (⟨"SeaGames$Board", "isFree", "(LSeaGames$Play;I)Z"⟩, 1) := ⟨⟨by decide +kernel, by decide +kernel⟩, List.mem_of_getElem? (i := 94) (by decide +kernel), List.mem_of_getElem? (i := 340) (by decide +kernel), List.mem_of_getElem? (i := 341) (by decide +kernel)⟩
theorem lw_p7 : lw_okq (⟨"SeaGames$Board", "go", "(LSeaGames$Play;II)V"⟩, 1) := ⟨⟨by decide +kernel, by decide +kernel⟩, List.mem_of_getElem? (i := 94) (by decide +kernel), List.mem_of_getElem? (i := 344) (by decide +kernel), List.mem_of_getElem? (i := 345) (by decide +kernel)⟩
theorem lw_p8 : lw_okq (⟨"SeaGames$Board", "spinBall", "(LSeaGames$Play;I)V"⟩, 1) := ⟨⟨by decide +kernel, by decide +kernel⟩, List.mem_of_getElem? (i := 94) (by decide +kernel), List.mem_of_getElem? (i := 348) (by decide +kernel), List.mem_of_getElem? (i := 349) (by decide +kernel)⟩
theorem lw_p9 : lw_okq (⟨"SeaGames$Board", "givePoint", "(LSeaGames$Play;)V"⟩, 1) := ⟨⟨by decide +kernel, by decide +kernel⟩, List.mem_of_getElem? (i := 94) (by decide +kernel), List.mem_of_getElem? (i := 352) (by decide +kernel), List.mem_of_getElem? (i := 353) (by decide +kernel)⟩
theorem lw_p10 : lw_okq (⟨"SeaGames$Lines", "isKnown", "(IIIII)Z"⟩, 3) := ⟨⟨by decide +kernel, by decide +kernel⟩, List.mem_of_getElem? (i := 63) (by decide +kernel), List.mem_of_getElem? (i := 419) (by decide +kernel), List.mem_of_getElem? (i := 420) (by decide +kernel)⟩
theorem lw_p11 : lw_okq (⟨"SeaGames$Lines", "guessed", "(IIIII)I"⟩, 3) := ⟨⟨by decide +kernel, by decide +kernel⟩, List.mem_of_getElem? (i := 63) (by decide +kernel), List.mem_of_getElem? (i := 426) (by decide +kernel), List.mem_of_getElem? (i := 427) (by decide +kernel)⟩
theorem lw_p12 : lw_okq (⟨"SeaGames", "showFrom", "(III)V"⟩, 12) := ⟨⟨by decide +kernel, by decide +kernel⟩, List.mem_of_getElem? (i := 15) (by decide +kernel), List.mem_of_getElem? (i := 434) (by decide +kernel), List.mem_of_getElem? (i := 435) (by decide +kernel)⟩
theorem lw_p13 : lw_okq (⟨"SeaGames$Lines", "backBy", "(IIIII)I"⟩, 3) := ⟨⟨by decide +kernel, by decide +kernel⟩, List.mem_of_getElem? (i := 63) (by decide +kernel), List.mem_of_getElem? (i := 447) (by decide +kernel), List.mem_of_getElem? (i := 448) (by decide +kernel)⟩
theorem lw_p14 : lw_okq (⟨"SeaGames", "costOf", "(II)I"⟩, 12) := ⟨⟨by decide +kernel, by decide +kernel⟩, List.mem_of_getElem? (i := 15) (by decide +kernel), List.mem_of_getElem? (i := 475) (by decide +kernel), List.mem_of_getElem? (i := 476) (by decide +kernel)⟩
theorem lw_p15 : lw_okq (⟨"SeaGames", "seesThen", "(III)Z"⟩, 12) := ⟨⟨by decide +kernel, by decide +kernel⟩, List.mem_of_getElem? (i := 15) (by decide +kernel), List.mem_of_getElem? (i := 487) (by decide +kernel), List.mem_of_getElem? (i := 488) (by decide +kernel)⟩
def lw_privs_1 : List (MethodName × Nat) := [(⟨"SeaGames", "isHand", "(I)Z"⟩, 12), (⟨"SeaGames", "playTrulyTo", "(I)V"⟩, 12), (⟨"SeaGames", "setBoardAhead", "(LSeaGames$Track;I)V"⟩, 12), (⟨"SeaGames$Board", "wayToBall", "(I)I"⟩, 1), (⟨"SeaGames$Board", "kick", "(LSeaGames$Play;II)V"⟩, 1), (⟨"SeaGames$Board", "moveBall", "(LSeaGames$Play;I)Z"⟩, 1), (⟨"SeaGames$Board", "isFree", "(LSeaGames$Play;I)Z"⟩, 1), (⟨"SeaGames$Board", "go", "(LSeaGames$Play;II)V"⟩, 1), (⟨"SeaGames$Board", "spinBall", "(LSeaGames$Play;I)V"⟩, 1), (⟨"SeaGames$Board", "givePoint", "(LSeaGames$Play;)V"⟩, 1), (⟨"SeaGames$Lines", "isKnown", "(IIIII)Z"⟩, 3), (⟨"SeaGames$Lines", "guessed", "(IIIII)I"⟩, 3), (⟨"SeaGames", "showFrom", "(III)V"⟩, 12), (⟨"SeaGames$Lines", "backBy", "(IIIII)I"⟩, 3), (⟨"SeaGames", "costOf", "(II)I"⟩, 12), (⟨"SeaGames", "seesThen", "(III)Z"⟩, 12)]
theorem lw_r1 : ∀ q ∈ lw_privs_1, lw_okq q := List.forall_mem_cons.mpr ⟨lw_p0, List.forall_mem_cons.mpr ⟨lw_p1, List.forall_mem_cons.mpr ⟨lw_p2, List.forall_mem_cons.mpr ⟨lw_p3, List.forall_mem_cons.mpr ⟨lw_p4, List.forall_mem_cons.mpr ⟨lw_p5, List.forall_mem_cons.mpr ⟨lw_p6, List.forall_mem_cons.mpr ⟨lw_p7, List.forall_mem_cons.mpr ⟨lw_p8, List.forall_mem_cons.mpr ⟨lw_p9, List.forall_mem_cons.mpr ⟨lw_p10, List.forall_mem_cons.mpr ⟨lw_p11, List.forall_mem_cons.mpr ⟨lw_p12, List.forall_mem_cons.mpr ⟨lw_p13, List.forall_mem_cons.mpr ⟨lw_p14, List.forall_mem_cons.mpr ⟨lw_p15, fun _ h => absurd h List.not_mem_nil⟩⟩⟩⟩⟩⟩⟩⟩⟩⟩⟩⟩⟩⟩⟩⟩
theorem lw_p16 : lw_okq (⟨"SeaGames", "thinkTo", "(III)V"⟩, 12) := ⟨⟨by decide +kernel, by decide +kernel⟩, List.mem_of_getElem? (i := 15) (by decide +kernel), List.mem_of_getElem? (i := 496) (by decide +kernel), List.mem_of_getElem? (i := 497) (by decide +kernel)⟩
theorem lw_p17 : lw_okq (⟨"SeaGames$Crowd", "leastOf", "(I)I"⟩, 7) := ⟨⟨by decide +kernel, by decide +kernel⟩, List.mem_of_getElem? (i := 116) (by decide +kernel), List.mem_of_getElem? (i := 563) (by decide +kernel), List.mem_of_getElem? (i := 564) (by decide +kernel)⟩
theorem lw_p18 : lw_okq (⟨"SeaGames$Crowd", "firstOf", "(I)I"⟩, 7) := ⟨⟨by decide +kernel, by decide +kernel⟩, List.mem_of_getElem? (i := 116) (by decide +kernel), List.mem_of_getElem? (i := 567) (by decide +kernel), List.mem_of_getElem? (i := 568) (by decide +kernel)⟩
theorem lw_p19 : lw_okq (⟨"SeaGames$Crowd", "costOfPair", "(II)I"⟩, 7) := ⟨⟨by decide +kernel, by decide +kernel⟩, List.mem_of_getElem? (i := 116) (by decide +kernel), List.mem_of_getElem? (i := 573) (by decide +kernel), List.mem_of_getElem? (i := 574) (by decide +kernel)⟩
theorem lw_p20 : lw_okq (⟨"SeaGames$Crowd", "leastMate", "(II)I"⟩, 7) := ⟨⟨by decide +kernel, by decide +kernel⟩, List.mem_of_getElem? (i := 116) (by decide +kernel), List.mem_of_getElem? (i := 579) (by decide +kernel), List.mem_of_getElem? (i := 580) (by decide +kernel)⟩
theorem lw_p21 : lw_okq (⟨"SeaGames", "slotsKept", "()I"⟩, 12) := ⟨⟨by decide +kernel, by decide +kernel⟩, List.mem_of_getElem? (i := 15) (by decide +kernel), List.mem_of_getElem? (i := 659) (by decide +kernel), List.mem_of_getElem? (i := 660) (by decide +kernel)⟩
theorem lw_p22 : lw_okq (⟨"SeaGamesModel", "noHand", "(I)Z"⟩, 36) := ⟨⟨by decide +kernel, by decide +kernel⟩, List.mem_of_getElem? (i := 663) (by decide +kernel), List.mem_of_getElem? (i := 797) (by decide +kernel), List.mem_of_getElem? (i := 798) (by decide +kernel)⟩
theorem lw_p23 : lw_okq (⟨"SeaGamesModel", "noWhat", "(II)Z"⟩, 36) := ⟨⟨by decide +kernel, by decide +kernel⟩, List.mem_of_getElem? (i := 663) (by decide +kernel), List.mem_of_getElem? (i := 818) (by decide +kernel), List.mem_of_getElem? (i := 819) (by decide +kernel)⟩
theorem lw_p24 : lw_okq (⟨"SeaGamesModel", "liveNow", "(I)V"⟩, 36) := ⟨⟨by decide +kernel, by decide +kernel⟩, List.mem_of_getElem? (i := 663) (by decide +kernel), List.mem_of_getElem? (i := 823) (by decide +kernel), List.mem_of_getElem? (i := 824) (by decide +kernel)⟩
theorem lw_p25 : lw_okq (⟨"SeaGamesModel", "live", "(III)V"⟩, 36) := ⟨⟨by decide +kernel, by decide +kernel⟩, List.mem_of_getElem? (i := 663) (by decide +kernel), List.mem_of_getElem? (i := 827) (by decide +kernel), List.mem_of_getElem? (i := 828) (by decide +kernel)⟩
theorem lw_p26 : lw_okq (⟨"SeaGamesModel", "start", "(I)V"⟩, 36) := ⟨⟨by decide +kernel, by decide +kernel⟩, List.mem_of_getElem? (i := 663) (by decide +kernel), List.mem_of_getElem? (i := 831) (by decide +kernel), List.mem_of_getElem? (i := 832) (by decide +kernel)⟩
theorem lw_p27 : lw_okq (⟨"SeaGamesModel", "step", "(II[III)V"⟩, 36) := ⟨⟨by decide +kernel, by decide +kernel⟩, List.mem_of_getElem? (i := 663) (by decide +kernel), List.mem_of_getElem? (i := 835) (by decide +kernel), List.mem_of_getElem? (i := 836) (by decide +kernel)⟩
theorem lw_p28 : lw_okq (⟨"SeaGamesModel", "isLeft", "(III)Z"⟩, 36) := ⟨⟨by decide +kernel, by decide +kernel⟩, List.mem_of_getElem? (i := 663) (by decide +kernel), List.mem_of_getElem? (i := 839) (by decide +kernel), List.mem_of_getElem? (i := 840) (by decide +kernel)⟩
theorem lw_p29 : lw_okq (⟨"SeaGamesModel", "thinks", "(I)I"⟩, 36) := ⟨⟨by decide +kernel, by decide +kernel⟩, List.mem_of_getElem? (i := 663) (by decide +kernel), List.mem_of_getElem? (i := 843) (by decide +kernel), List.mem_of_getElem? (i := 844) (by decide +kernel)⟩
theorem lw_p30 : lw_okq (⟨"SeaGamesModel", "besideBall", "(I)I"⟩, 36) := ⟨⟨by decide +kernel, by decide +kernel⟩, List.mem_of_getElem? (i := 663) (by decide +kernel), List.mem_of_getElem? (i := 847) (by decide +kernel), List.mem_of_getElem? (i := 848) (by decide +kernel)⟩
theorem lw_p31 : lw_okq (⟨"SeaGamesModel", "by", "(II)I"⟩, 36) := ⟨⟨by decide +kernel, by decide +kernel⟩, List.mem_of_getElem? (i := 663) (by decide +kernel), List.mem_of_getElem? (i := 851) (by decide +kernel), List.mem_of_getElem? (i := 852) (by decide +kernel)⟩
def lw_privs_2 : List (MethodName × Nat) := [(⟨"SeaGames", "thinkTo", "(III)V"⟩, 12), (⟨"SeaGames$Crowd", "leastOf", "(I)I"⟩, 7), (⟨"SeaGames$Crowd", "firstOf", "(I)I"⟩, 7), (⟨"SeaGames$Crowd", "costOfPair", "(II)I"⟩, 7), (⟨"SeaGames$Crowd", "leastMate", "(II)I"⟩, 7), (⟨"SeaGames", "slotsKept", "()I"⟩, 12), (⟨"SeaGamesModel", "noHand", "(I)Z"⟩, 36), (⟨"SeaGamesModel", "noWhat", "(II)Z"⟩, 36), (⟨"SeaGamesModel", "liveNow", "(I)V"⟩, 36), (⟨"SeaGamesModel", "live", "(III)V"⟩, 36), (⟨"SeaGamesModel", "start", "(I)V"⟩, 36), (⟨"SeaGamesModel", "step", "(II[III)V"⟩, 36), (⟨"SeaGamesModel", "isLeft", "(III)Z"⟩, 36), (⟨"SeaGamesModel", "thinks", "(I)I"⟩, 36), (⟨"SeaGamesModel", "besideBall", "(I)I"⟩, 36), (⟨"SeaGamesModel", "by", "(II)I"⟩, 36)]
theorem lw_r2 : ∀ q ∈ lw_privs_2, lw_okq q := List.forall_mem_cons.mpr ⟨lw_p16, List.forall_mem_cons.mpr ⟨lw_p17, List.forall_mem_cons.mpr ⟨lw_p18, List.forall_mem_cons.mpr ⟨lw_p19, List.forall_mem_cons.mpr ⟨lw_p20, List.forall_mem_cons.mpr ⟨lw_p21, List.forall_mem_cons.mpr ⟨lw_p22, List.forall_mem_cons.mpr ⟨lw_p23, List.forall_mem_cons.mpr ⟨lw_p24, List.forall_mem_cons.mpr ⟨lw_p25, List.forall_mem_cons.mpr ⟨lw_p26, List.forall_mem_cons.mpr ⟨lw_p27, List.forall_mem_cons.mpr ⟨lw_p28, List.forall_mem_cons.mpr ⟨lw_p29, List.forall_mem_cons.mpr ⟨lw_p30, List.forall_mem_cons.mpr ⟨lw_p31, fun _ h => absurd h List.not_mem_nil⟩⟩⟩⟩⟩⟩⟩⟩⟩⟩⟩⟩⟩⟩⟩⟩
theorem lw_p32 : lw_okq (⟨"SeaGamesModel", "act", "(III)V"⟩, 36) := ⟨⟨by decide +kernel, by decide +kernel⟩, List.mem_of_getElem? (i := 663) (by decide +kernel), List.mem_of_getElem? (i := 858) (by decide +kernel), List.mem_of_getElem? (i := 859) (by decide +kernel)⟩
theorem lw_p33 : lw_okq (⟨"SeaGamesModel", "isFree", "(I)Z"⟩, 36) := ⟨⟨by decide +kernel, by decide +kernel⟩, List.mem_of_getElem? (i := 663) (by decide +kernel), List.mem_of_getElem? (i := 863) (by decide +kernel), List.mem_of_getElem? (i := 864) (by decide +kernel)⟩
theorem lw_p34 : lw_okq (⟨"SeaGamesModel", "seen", "(I)I"⟩, 36) := ⟨⟨by decide +kernel, by decide +kernel⟩, List.mem_of_getElem? (i := 663) (by decide +kernel), List.mem_of_getElem? (i := 868) (by decide +kernel), List.mem_of_getElem? (i := 869) (by decide +kernel)⟩
theorem lw_p35 : lw_okq (⟨"SeaGamesModel", "knownAt", "(IIII)I"⟩, 36) := ⟨⟨by decide +kernel, by decide +kernel⟩, List.mem_of_getElem? (i := 663) (by decide +kernel), List.mem_of_getElem? (i := 888) (by decide +kernel), List.mem_of_getElem? (i := 889) (by decide +kernel)⟩
theorem lw_p36 : lw_okq (⟨"SeaGamesModel", "take", "(III[I)V"⟩, 36) := ⟨⟨by decide +kernel, by decide +kernel⟩, List.mem_of_getElem? (i := 663) (by decide +kernel), List.mem_of_getElem? (i := 897) (by decide +kernel), List.mem_of_getElem? (i := 898) (by decide +kernel)⟩
theorem lw_p37 : lw_okq (⟨"SeaGamesModel", "show", "(II)V"⟩, 36) := ⟨⟨by decide +kernel, by decide +kernel⟩, List.mem_of_getElem? (i := 663) (by decide +kernel), List.mem_of_getElem? (i := 905) (by decide +kernel), List.mem_of_getElem? (i := 906) (by decide +kernel)⟩
theorem lw_p38 : lw_okq (⟨"SeaGamesModel", "backOf", "(III)I"⟩, 36) := ⟨⟨by decide +kernel, by decide +kernel⟩, List.mem_of_getElem? (i := 663) (by decide +kernel), List.mem_of_getElem? (i := 913) (by decide +kernel), List.mem_of_getElem? (i := 914) (by decide +kernel)⟩
theorem lw_p39 : lw_okq (⟨"SeaGamesModel", "write", "([II)V"⟩, 36) := ⟨⟨by decide +kernel, by decide +kernel⟩, List.mem_of_getElem? (i := 663) (by decide +kernel), List.mem_of_getElem? (i := 925) (by decide +kernel), List.mem_of_getElem? (i := 926) (by decide +kernel)⟩
theorem lw_p40 : lw_okq (⟨"SeaGamesModel", "priceOf", "(II)I"⟩, 36) := ⟨⟨by decide +kernel, by decide +kernel⟩, List.mem_of_getElem? (i := 663) (by decide +kernel), List.mem_of_getElem? (i := 936) (by decide +kernel), List.mem_of_getElem? (i := 937) (by decide +kernel)⟩
theorem lw_p41 : lw_okq (⟨"SeaGamesModel", "isSeen", "(II)Z"⟩, 36) := ⟨⟨by decide +kernel, by decide +kernel⟩, List.mem_of_getElem? (i := 663) (by decide +kernel), List.mem_of_getElem? (i := 948) (by decide +kernel), List.mem_of_getElem? (i := 949) (by decide +kernel)⟩
theorem lw_p42 : lw_okq (⟨"SeaGamesModel", "guess", "(III)V"⟩, 36) := ⟨⟨by decide +kernel, by decide +kernel⟩, List.mem_of_getElem? (i := 663) (by decide +kernel), List.mem_of_getElem? (i := 956) (by decide +kernel), List.mem_of_getElem? (i := 957) (by decide +kernel)⟩
theorem lw_p43 : lw_okq (⟨"SeaGamesModel", "match", "()I"⟩, 36) := ⟨⟨by decide +kernel, by decide +kernel⟩, List.mem_of_getElem? (i := 663) (by decide +kernel), List.mem_of_getElem? (i := 977) (by decide +kernel), List.mem_of_getElem? (i := 978) (by decide +kernel)⟩
theorem lw_p44 : lw_okq (⟨"SeaGamesModel", "costs", "(II)I"⟩, 36) := ⟨⟨by decide +kernel, by decide +kernel⟩, List.mem_of_getElem? (i := 663) (by decide +kernel), List.mem_of_getElem? (i := 984) (by decide +kernel), List.mem_of_getElem? (i := 985) (by decide +kernel)⟩
theorem lw_p45 : lw_okq (⟨"SeaGamesModel", "copy", "(II)V"⟩, 36) := ⟨⟨by decide +kernel, by decide +kernel⟩, List.mem_of_getElem? (i := 663) (by decide +kernel), List.mem_of_getElem? (i := 1008) (by decide +kernel), List.mem_of_getElem? (i := 1009) (by decide +kernel)⟩
theorem lw_p46 : lw_okq (⟨"SeaGamesModel", "presses", "()I"⟩, 36) := ⟨⟨by decide +kernel, by decide +kernel⟩, List.mem_of_getElem? (i := 663) (by decide +kernel), List.mem_of_getElem? (i := 1012) (by decide +kernel), List.mem_of_getElem? (i := 1013) (by decide +kernel)⟩
def lw_privs_3 : List (MethodName × Nat) := [(⟨"SeaGamesModel", "act", "(III)V"⟩, 36), (⟨"SeaGamesModel", "isFree", "(I)Z"⟩, 36), (⟨"SeaGamesModel", "seen", "(I)I"⟩, 36), (⟨"SeaGamesModel", "knownAt", "(IIII)I"⟩, 36), (⟨"SeaGamesModel", "take", "(III[I)V"⟩, 36), (⟨"SeaGamesModel", "show", "(II)V"⟩, 36), (⟨"SeaGamesModel", "backOf", "(III)I"⟩, 36), (⟨"SeaGamesModel", "write", "([II)V"⟩, 36), (⟨"SeaGamesModel", "priceOf", "(II)I"⟩, 36), (⟨"SeaGamesModel", "isSeen", "(II)Z"⟩, 36), (⟨"SeaGamesModel", "guess", "(III)V"⟩, 36), (⟨"SeaGamesModel", "match", "()I"⟩, 36), (⟨"SeaGamesModel", "costs", "(II)I"⟩, 36), (⟨"SeaGamesModel", "copy", "(II)V"⟩, 36), (⟨"SeaGamesModel", "presses", "()I"⟩, 36)]
theorem lw_r3 : ∀ q ∈ lw_privs_3, lw_okq q := List.forall_mem_cons.mpr ⟨lw_p32, List.forall_mem_cons.mpr ⟨lw_p33, List.forall_mem_cons.mpr ⟨lw_p34, List.forall_mem_cons.mpr ⟨lw_p35, List.forall_mem_cons.mpr ⟨lw_p36, List.forall_mem_cons.mpr ⟨lw_p37, List.forall_mem_cons.mpr ⟨lw_p38, List.forall_mem_cons.mpr ⟨lw_p39, List.forall_mem_cons.mpr ⟨lw_p40, List.forall_mem_cons.mpr ⟨lw_p41, List.forall_mem_cons.mpr ⟨lw_p42, List.forall_mem_cons.mpr ⟨lw_p43, List.forall_mem_cons.mpr ⟨lw_p44, List.forall_mem_cons.mpr ⟨lw_p45, List.forall_mem_cons.mpr ⟨lw_p46, fun _ h => absurd h List.not_mem_nil⟩⟩⟩⟩⟩⟩⟩⟩⟩⟩⟩⟩⟩⟩⟩
def lw_privs : List (MethodName × Nat) := lw_privs_1 ++ (lw_privs_2 ++ (lw_privs_3))
def lw_tbl : List Cond := k2_sels lw_privs ++ tables_1
theorem lw_privs_ok : ∀ q ∈ lw_privs, lw_okq q := by
  show ∀ q ∈ lw_privs_1 ++ (lw_privs_2 ++ (lw_privs_3)), lw_okq q
  exact List.forall_mem_append.mpr ⟨lw_r1, List.forall_mem_append.mpr ⟨lw_r2, lw_r3⟩⟩
-- ===== end of PART A; then your names; then what follows =====
end
section
/-! ===== BEGIN words of one list among another's, by their places ===== -/
theorem goodIn_r {big : List Cond} (ws : List Cond) (ps : List Nat) (hp : ws = ps.filterMap (fun i => big[i]?)) (h : ws.all goodWord = true) : GoodIn big ws := by
  intro w hw
  have h1 := List.all_eq_true.mp h w hw
  rw [hp] at hw
  obtain ⟨i, -, hi⟩ := List.mem_filterMap.mp hw
  have hm : w ∈ big := by first | exact List.mem_of_getElem? hi | exact List.getElem?_mem hi
  exact ⟨hm, good_of_word h1⟩
theorem goodIn_app {big a b : List Cond} (ha : GoodIn big a) (hb : GoodIn big b) : GoodIn big (a ++ b) := fun w h => (List.mem_append.mp h).elim (ha w) (hb w)
theorem goodIn_ca {big a b : List Cond} {c : Cond} (ha : GoodIn big (c :: a)) (hb : GoodIn big b) : GoodIn big (c :: (a ++ b)) := fun w h => (List.mem_cons.mp h).elim (fun e => ha w (List.mem_cons.mpr (Or.inl e))) (fun h => (List.mem_append.mp h).elim (fun h => ha w (List.mem_cons.mpr (Or.inr h))) (hb w))
theorem goodIn_sub {big ws : List Cond} (hm : ∀ w ∈ ws, w ∈ big) (h : ws.all goodWord = true) : GoodIn big ws := fun w hw => ⟨hm w hw, good_of_word (List.all_eq_true.mp h w hw)⟩
/-! ===== END ===== -/

/-! ===== BEGIN printed: names, fields, word lists, decode rows ===== -/
def RX0 : String := "SeaGames$Board"
def TX0 : u_T := fun k => match k with
  | _ => ("SeaGames$Board", "now", "[I", true)
def tyX0 : Nat → FieldType := fun k => match k with
  | _ => .array .int
abbrev wsX00 : List Cond := u_ws RX0 TX0 1
theorem nmX0 : ∀ a, a < 1 → ∀ b, b < 1 → a ≠ b → (TX0 a).2.1 ≠ (TX0 b).2.1 := by decide +kernel
theorem tyX0_ok : ∀ k, k < 1 → parseFieldDescriptor (TX0 k).2.2.1 = some (tyX0 k) := by decide +kernel
abbrev cX0_init : ByteArray := prog_2_method_1_code
def yX0_init : MethodName := ⟨RX0, "<init>", "()V"⟩
abbrev cX0_start : ByteArray := prog_2_method_2_code
def yX0_start : MethodName := ⟨RX0, "start", "(LSeaGames$Play;)V"⟩
abbrev cX0_advance : ByteArray := prog_2_method_3_code
def yX0_advance : MethodName := ⟨RX0, "advance", "(LSeaGames$Play;II[I)V"⟩
abbrev cX0_machinePress : ByteArray := prog_2_method_4_code
def yX0_machinePress : MethodName := ⟨RX0, "machinePress", "(I)I"⟩
abbrev cX0_isLike : ByteArray := prog_2_method_5_code
def yX0_isLike : MethodName := ⟨RX0, "isLike", "(LSeaGames$Board;)Z"⟩
abbrev cX0_isFree : ByteArray := prog_2_method_6_code
def yX0_isFree : MethodName := ⟨RX0, "isFree", "(LSeaGames$Play;I)Z"⟩
abbrev cX0_moveBall : ByteArray := prog_2_method_7_code
def yX0_moveBall : MethodName := ⟨RX0, "moveBall", "(LSeaGames$Play;I)Z"⟩
abbrev cX0_go : ByteArray := prog_2_method_8_code
def yX0_go : MethodName := ⟨RX0, "go", "(LSeaGames$Play;II)V"⟩
abbrev cX0_kick : ByteArray := prog_2_method_9_code
def yX0_kick : MethodName := ⟨RX0, "kick", "(LSeaGames$Play;II)V"⟩
abbrev cX0_wayToBall : ByteArray := prog_2_method_10_code
def yX0_wayToBall : MethodName := ⟨RX0, "wayToBall", "(I)I"⟩
abbrev cX0_spinBall : ByteArray := prog_2_method_11_code
def yX0_spinBall : MethodName := ⟨RX0, "spinBall", "(LSeaGames$Play;I)V"⟩
abbrev cX0_givePoint : ByteArray := prog_2_method_12_code
def yX0_givePoint : MethodName := ⟨RX0, "givePoint", "(LSeaGames$Play;)V"⟩
def RX1 : String := "SeaGames$Crowd"
def TX1 : u_T := fun k => match k with
  | 0 => ("SeaGames$Crowd", "size", "I", false)
  | 1 => ("SeaGames$Crowd", "mates", "[I", true)
  | 2 => ("SeaGames$Crowd", "skills", "[I", true)
  | 3 => ("SeaGames$Crowd", "shores", "[I", true)
  | 4 => ("SeaGames$Crowd", "fars", "[I", true)
  | 5 => ("SeaGames$Crowd", "least", "[I", true)
  | _ => ("SeaGames$Crowd", "paired", "Z", false)
def tyX1 : Nat → FieldType := fun k => match k with
  | 0 => .int
  | 1 => .array .int
  | 2 => .array .int
  | 3 => .array .int
  | 4 => .array .int
  | 5 => .array .int
  | _ => .boolean
abbrev wsX10 : List Cond := u_ws RX1 TX1 7
theorem nmX1 : ∀ a, a < 7 → ∀ b, b < 7 → a ≠ b → (TX1 a).2.1 ≠ (TX1 b).2.1 := by decide +kernel
theorem tyX1_ok : ∀ k, k < 7 → parseFieldDescriptor (TX1 k).2.2.1 = some (tyX1 k) := by decide +kernel
abbrev cX1_init : ByteArray := prog_3_method_1_code
def yX1_init : MethodName := ⟨RX1, "<init>", "()V"⟩
abbrev cX1_join : ByteArray := prog_3_method_2_code
def yX1_join : MethodName := ⟨RX1, "join", "(II)I"⟩
abbrev cX1_setFar : ByteArray := prog_3_method_3_code
def yX1_setFar : MethodName := ⟨RX1, "setFar", "(III)I"⟩
abbrev cX1_leastCost : ByteArray := prog_3_method_4_code
def yX1_leastCost : MethodName := ⟨RX1, "leastCost", "()I"⟩
abbrev cX1_pairUp : ByteArray := prog_3_method_5_code
def yX1_pairUp : MethodName := ⟨RX1, "pairUp", "()V"⟩
abbrev cX1_costOfPair : ByteArray := prog_3_method_6_code
def yX1_costOfPair : MethodName := ⟨RX1, "costOfPair", "(II)I"⟩
abbrev cX1_firstOf : ByteArray := prog_3_method_7_code
def yX1_firstOf : MethodName := ⟨RX1, "firstOf", "(I)I"⟩
abbrev cX1_leastOf : ByteArray := prog_3_method_8_code
def yX1_leastOf : MethodName := ⟨RX1, "leastOf", "(I)I"⟩
abbrev cX1_leastMate : ByteArray := prog_3_method_9_code
def yX1_leastMate : MethodName := ⟨RX1, "leastMate", "(II)I"⟩
def RX2 : String := "SeaGames$Deal"
def TX2 : u_T := fun k => match k with
  | 0 => ("SeaGames$Deal", "above", "J", false)
  | 1 => ("SeaGames$Deal", "below", "J", false)
  | 2 => ("SeaGames$Deal", "amongHits", "[J", true)
  | _ => ("SeaGames$Deal", "amongOthers", "[J", true)
def tyX2 : Nat → FieldType := fun k => match k with
  | 0 => .long
  | 1 => .long
  | 2 => .array .long
  | _ => .array .long
abbrev wsX20 : List Cond := u_ws RX2 TX2 4
theorem nmX2 : ∀ a, a < 4 → ∀ b, b < 4 → a ≠ b → (TX2 a).2.1 ≠ (TX2 b).2.1 := by decide +kernel
theorem tyX2_ok : ∀ k, k < 4 → parseFieldDescriptor (TX2 k).2.2.1 = some (tyX2 k) := by decide +kernel
abbrev cX2_init : ByteArray := prog_4_method_1_code
def yX2_init : MethodName := ⟨RX2, "<init>", "()V"⟩
abbrev cX2_reckon : ByteArray := prog_4_method_2_code
def yX2_reckon : MethodName := ⟨RX2, "reckon", "(IIII)V"⟩
abbrev cX2_fillChoices : ByteArray := prog_4_method_3_code
def yX2_fillChoices : MethodName := ⟨RX2, "fillChoices", "([JI)V"⟩
abbrev cX2_commonOf : ByteArray := prog_4_method_4_code
def yX2_commonOf : MethodName := ⟨RX2, "commonOf", "(JJ)J"⟩
def RX3 : String := "SeaGames$Fog"
def TX3 : u_T := fun k => match k with
  | _ => ("SeaGames$Fog", "masks", "[I", true)
def tyX3 : Nat → FieldType := fun k => match k with
  | _ => .array .int
abbrev wsX30 : List Cond := u_ws RX3 TX3 1
theorem nmX3 : ∀ a, a < 1 → ∀ b, b < 1 → a ≠ b → (TX3 a).2.1 ≠ (TX3 b).2.1 := by decide +kernel
theorem tyX3_ok : ∀ k, k < 1 → parseFieldDescriptor (TX3 k).2.2.1 = some (tyX3 k) := by decide +kernel
abbrev cX3_init : ByteArray := prog_5_method_1_code
def yX3_init : MethodName := ⟨RX3, "<init>", "()V"⟩
abbrev cX3_setOnly : ByteArray := prog_5_method_2_code
def yX3_setOnly : MethodName := ⟨RX3, "setOnly", "(I)V"⟩
abbrev cX3_has : ByteArray := prog_5_method_3_code
def yX3_has : MethodName := ⟨RX3, "has", "(I)Z"⟩
abbrev cX3_size : ByteArray := prog_5_method_4_code
def yX3_size : MethodName := ⟨RX3, "size", "(I)I"⟩
abbrev cX3_spread : ByteArray := prog_5_method_5_code
def yX3_spread : MethodName := ⟨RX3, "spread", "(II)V"⟩
abbrev cX3_removeSeen : ByteArray := prog_5_method_6_code
def yX3_removeSeen : MethodName := ⟨RX3, "removeSeen", "(III)V"⟩
def RX4 : String := "SeaGames$Lines"
def TX4 : u_T := fun k => match k with
  | 0 => ("SeaGames$Lines", "play", "LSeaGames$Play;", true)
  | 1 => ("SeaGames$Lines", "waits", "[I", true)
  | _ => ("SeaGames$Lines", "lostRow", "[Z", true)
def tyX4 : Nat → FieldType := fun k => match k with
  | 0 => .object "SeaGames$Play"
  | 1 => .array .int
  | _ => .array .boolean
abbrev wsX40 : List Cond := u_ws RX4 TX4 3
theorem nmX4 : ∀ a, a < 3 → ∀ b, b < 3 → a ≠ b → (TX4 a).2.1 ≠ (TX4 b).2.1 := by decide +kernel
theorem tyX4_ok : ∀ k, k < 3 → parseFieldDescriptor (TX4 k).2.2.1 = some (tyX4 k) := by decide +kernel
abbrev cX4_init : ByteArray := prog_6_method_1_code
def yX4_init : MethodName := ⟨RX4, "<init>", "(LSeaGames$Play;)V"⟩
abbrev cX4_clear : ByteArray := prog_6_method_2_code
def yX4_clear : MethodName := ⟨RX4, "clear", "()V"⟩
abbrev cX4_waitOf : ByteArray := prog_6_method_3_code
def yX4_waitOf : MethodName := ⟨RX4, "waitOf", "(II)I"⟩
abbrev cX4_setWait : ByteArray := prog_6_method_4_code
def yX4_setWait : MethodName := ⟨RX4, "setWait", "(III)V"⟩
abbrev cX4_isLost : ByteArray := prog_6_method_5_code
def yX4_isLost : MethodName := ⟨RX4, "isLost", "(II)Z"⟩
abbrev cX4_setLost : ByteArray := prog_6_method_6_code
def yX4_setLost : MethodName := ⟨RX4, "setLost", "(IIZ)V"⟩
abbrev cX4_lostOnes : ByteArray := prog_6_method_7_code
def yX4_lostOnes : MethodName := ⟨RX4, "lostOnes", "()I"⟩
abbrev cX4_clockOf : ByteArray := prog_6_method_8_code
def yX4_clockOf : MethodName := ⟨RX4, "clockOf", "(IIII)I"⟩
abbrev cX4_allKnown : ByteArray := prog_6_method_9_code
def yX4_allKnown : MethodName := ⟨RX4, "allKnown", "(IIII)Z"⟩
abbrev cX4_taken : ByteArray := prog_6_method_10_code
def yX4_taken : MethodName := ⟨RX4, "taken", "(IIIII)I"⟩
abbrev cX4_goneBack : ByteArray := prog_6_method_11_code
def yX4_goneBack : MethodName := ⟨RX4, "goneBack", "(III)I"⟩
abbrev cX4_backBy : ByteArray := prog_6_method_12_code
def yX4_backBy : MethodName := ⟨RX4, "backBy", "(IIIII)I"⟩
abbrev cX4_isKnown : ByteArray := prog_6_method_13_code
def yX4_isKnown : MethodName := ⟨RX4, "isKnown", "(IIIII)Z"⟩
abbrev cX4_guessed : ByteArray := prog_6_method_14_code
def yX4_guessed : MethodName := ⟨RX4, "guessed", "(IIIII)I"⟩
def RX5 : String := "SeaGames$Play"
def TX5 : u_T := fun k => match k with
  | 0 => ("SeaGames$Play", "w", "I", false)
  | 1 => ("SeaGames$Play", "h", "I", false)
  | 2 => ("SeaGames$Play", "hands", "I", false)
  | 3 => ("SeaGames$Play", "rules", "[I", true)
  | 4 => ("SeaGames$Play", "pressRow", "[I", true)
  | 5 => ("SeaGames$Play", "leftFrom", "[I", true)
  | _ => ("SeaGames$Play", "leftTo", "[I", true)
def tyX5 : Nat → FieldType := fun k => match k with
  | 0 => .int
  | 1 => .int
  | 2 => .int
  | 3 => .array .int
  | 4 => .array .int
  | 5 => .array .int
  | _ => .array .int
abbrev wsX50 : List Cond := u_ws RX5 TX5 7
theorem nmX5 : ∀ a, a < 7 → ∀ b, b < 7 → a ≠ b → (TX5 a).2.1 ≠ (TX5 b).2.1 := by decide +kernel
theorem tyX5_ok : ∀ k, k < 7 → parseFieldDescriptor (TX5 k).2.2.1 = some (tyX5 k) := by decide +kernel
abbrev cX5_init : ByteArray := prog_7_method_1_code
def yX5_init : MethodName := ⟨RX5, "<init>", "()V"⟩
abbrev cX5_clear : ByteArray := prog_7_method_2_code
def yX5_clear : MethodName := ⟨RX5, "clear", "(III)V"⟩
abbrev cX5_copyFrom : ByteArray := prog_7_method_3_code
def yX5_copyFrom : MethodName := ⟨RX5, "copyFrom", "(LSeaGames$Play;)V"⟩
abbrev cX5_pressOf : ByteArray := prog_7_method_4_code
def yX5_pressOf : MethodName := ⟨RX5, "pressOf", "(II)I"⟩
abbrev cX5_setPress : ByteArray := prog_7_method_5_code
def yX5_setPress : MethodName := ⟨RX5, "setPress", "(III)V"⟩
abbrev cX5_isLeft : ByteArray := prog_7_method_6_code
def yX5_isLeft : MethodName := ⟨RX5, "isLeft", "(II)Z"⟩
abbrev cX5_fillPresses : ByteArray := prog_7_method_7_code
def yX5_fillPresses : MethodName := ⟨RX5, "fillPresses", "(I[I)V"⟩
abbrev cX5_pressed : ByteArray := prog_7_method_8_code
def yX5_pressed : MethodName := ⟨RX5, "pressed", "()I"⟩
abbrev cX5_leftTicks : ByteArray := prog_7_method_9_code
def yX5_leftTicks : MethodName := ⟨RX5, "leftTicks", "()I"⟩
def RX6 : String := "SeaGames$Track"
def TX6 : u_T := fun k => match k with
  | 0 => ("SeaGames$Track", "rows", "[I", true)
  | _ => ("SeaGames$Track", "ready", "I", false)
def tyX6 : Nat → FieldType := fun k => match k with
  | 0 => .array .int
  | _ => .int
abbrev wsX60 : List Cond := u_ws RX6 TX6 2
theorem nmX6 : ∀ a, a < 2 → ∀ b, b < 2 → a ≠ b → (TX6 a).2.1 ≠ (TX6 b).2.1 := by decide +kernel
theorem tyX6_ok : ∀ k, k < 2 → parseFieldDescriptor (TX6 k).2.2.1 = some (tyX6 k) := by decide +kernel
abbrev cX6_init : ByteArray := prog_8_method_1_code
def yX6_init : MethodName := ⟨RX6, "<init>", "()V"⟩
abbrev cX6_keepBelow : ByteArray := prog_8_method_2_code
def yX6_keepBelow : MethodName := ⟨RX6, "keepBelow", "(I)V"⟩
abbrev cX6_at : ByteArray := prog_8_method_3_code
def yX6_at : MethodName := ⟨RX6, "at", "(II)I"⟩
abbrev cX6_save : ByteArray := prog_8_method_4_code
def yX6_save : MethodName := ⟨RX6, "save", "(ILSeaGames$Board;)V"⟩
abbrev cX6_load : ByteArray := prog_8_method_5_code
def yX6_load : MethodName := ⟨RX6, "load", "(ILSeaGames$Board;)V"⟩
abbrev cX6_isLike : ByteArray := prog_8_method_6_code
def yX6_isLike : MethodName := ⟨RX6, "isLike", "(LSeaGames$Track;I)Z"⟩
def RX7 : String := "SeaGames"
def TX7 : u_T := fun k => match k with
  | 0 => ("SeaGames", "play", "LSeaGames$Play;", true)
  | 1 => ("SeaGames", "lines", "LSeaGames$Lines;", true)
  | 2 => ("SeaGames", "truth", "LSeaGames$Track;", true)
  | 3 => ("SeaGames", "glassTrack", "LSeaGames$Track;", true)
  | 4 => ("SeaGames", "board", "LSeaGames$Board;", true)
  | 5 => ("SeaGames", "otherBoard", "LSeaGames$Board;", true)
  | 6 => ("SeaGames", "presses", "[I", true)
  | 7 => ("SeaGames", "fog", "LSeaGames$Fog;", true)
  | 8 => ("SeaGames", "crowd", "LSeaGames$Crowd;", true)
  | 9 => ("SeaGames", "deal", "LSeaGames$Deal;", true)
  | 10 => ("SeaGames", "slots", "[LSeaGames$Play;", true)
  | _ => ("SeaGames", "kept", "[Z", true)
def tyX7 : Nat → FieldType := fun k => match k with
  | 0 => .object "SeaGames$Play"
  | 1 => .object "SeaGames$Lines"
  | 2 => .object "SeaGames$Track"
  | 3 => .object "SeaGames$Track"
  | 4 => .object "SeaGames$Board"
  | 5 => .object "SeaGames$Board"
  | 6 => .array .int
  | 7 => .object "SeaGames$Fog"
  | 8 => .object "SeaGames$Crowd"
  | 9 => .object "SeaGames$Deal"
  | 10 => .array (.object "SeaGames$Play")
  | _ => .array .boolean
abbrev wsX70 : List Cond := u_ws RX7 TX7 12
theorem nmX7 : ∀ a, a < 12 → ∀ b, b < 12 → a ≠ b → (TX7 a).2.1 ≠ (TX7 b).2.1 := by decide +kernel
theorem tyX7_ok : ∀ k, k < 12 → parseFieldDescriptor (TX7 k).2.2.1 = some (tyX7 k) := by decide +kernel
abbrev cX7_init : ByteArray := prog_1_method_1_code
def yX7_init : MethodName := ⟨RX7, "<init>", "()V"⟩
abbrev cX7_field : ByteArray := prog_1_method_2_code
def yX7_field : MethodName := ⟨RX7, "field", "(III)I"⟩
abbrev cX7_rule : ByteArray := prog_1_method_3_code
def yX7_rule : MethodName := ⟨RX7, "rule", "(II)I"⟩
abbrev cX7_press : ByteArray := prog_1_method_4_code
def yX7_press : MethodName := ⟨RX7, "press", "(III)I"⟩
abbrev cX7_hold : ByteArray := prog_1_method_5_code
def yX7_hold : MethodName := ⟨RX7, "hold", "(IIII)I"⟩
abbrev cX7_leave : ByteArray := prog_1_method_6_code
def yX7_leave : MethodName := ⟨RX7, "leave", "(III)I"⟩
abbrev cX7_truly : ByteArray := prog_1_method_7_code
def yX7_truly : MethodName := ⟨RX7, "truly", "(II)I"⟩
abbrev cX7_machine : ByteArray := prog_1_method_8_code
def yX7_machine : MethodName := ⟨RX7, "machine", "(II)I"⟩
abbrev cX7_line : ByteArray := prog_1_method_9_code
def yX7_line : MethodName := ⟨RX7, "line", "(III)I"⟩
abbrev cX7_lose : ByteArray := prog_1_method_10_code
def yX7_lose : MethodName := ⟨RX7, "lose", "(IIZ)I"⟩
abbrev cX7_known : ByteArray := prog_1_method_11_code
def yX7_known : MethodName := ⟨RX7, "known", "(III)I"⟩
abbrev cX7_takes : ByteArray := prog_1_method_12_code
def yX7_takes : MethodName := ⟨RX7, "takes", "(IIII)I"⟩
abbrev cX7_shown : ByteArray := prog_1_method_13_code
def yX7_shown : MethodName := ⟨RX7, "shown", "(III)I"⟩
abbrev cX7_back : ByteArray := prog_1_method_14_code
def yX7_back : MethodName := ⟨RX7, "back", "(II)I"⟩
abbrev cX7_agreed : ByteArray := prog_1_method_15_code
def yX7_agreed : MethodName := ⟨RX7, "agreed", "(II)I"⟩
abbrev cX7_wrong : ByteArray := prog_1_method_16_code
def yX7_wrong : MethodName := ⟨RX7, "wrong", "(IIZ)I"⟩
abbrev cX7_price : ByteArray := prog_1_method_17_code
def yX7_price : MethodName := ⟨RX7, "price", "(II)I"⟩
abbrev cX7_best : ByteArray := prog_1_method_18_code
def yX7_best : MethodName := ⟨RX7, "best", "(I)I"⟩
abbrev cX7_sees : ByteArray := prog_1_method_19_code
def yX7_sees : MethodName := ⟨RX7, "sees", "(III)I"⟩
abbrev cX7_could : ByteArray := prog_1_method_20_code
def yX7_could : MethodName := ⟨RX7, "could", "(III)I"⟩
abbrev cX7_couldBe : ByteArray := prog_1_method_21_code
def yX7_couldBe : MethodName := ⟨RX7, "couldBe", "(IIII)I"⟩
abbrev cX7_player : ByteArray := prog_1_method_22_code
def yX7_player : MethodName := ⟨RX7, "player", "(II)I"⟩
abbrev cX7_far : ByteArray := prog_1_method_23_code
def yX7_far : MethodName := ⟨RX7, "far", "(III)I"⟩
abbrev cX7_pairs : ByteArray := prog_1_method_24_code
def yX7_pairs : MethodName := ⟨RX7, "pairs", "()I"⟩
abbrev cX7_mate : ByteArray := prog_1_method_25_code
def yX7_mate : MethodName := ⟨RX7, "mate", "(I)I"⟩
abbrev cX7_odds : ByteArray := prog_1_method_26_code
def yX7_odds : MethodName := ⟨RX7, "odds", "(IIIIZ)J"⟩
abbrev cX7_keep : ByteArray := prog_1_method_27_code
def yX7_keep : MethodName := ⟨RX7, "keep", "(I)I"⟩
abbrev cX7_again : ByteArray := prog_1_method_28_code
def yX7_again : MethodName := ⟨RX7, "again", "(I)I"⟩
abbrev cX7_tried : ByteArray := prog_1_method_29_code
def yX7_tried : MethodName := ⟨RX7, "tried", "(IIII)I"⟩
abbrev cX7_differs : ByteArray := prog_1_method_30_code
def yX7_differs : MethodName := ⟨RX7, "differs", "(II)I"⟩
abbrev cX7_count : ByteArray := prog_1_method_31_code
def yX7_count : MethodName := ⟨RX7, "count", "(I)I"⟩
abbrev cX7_isHand : ByteArray := prog_1_method_32_code
def yX7_isHand : MethodName := ⟨RX7, "isHand", "(I)Z"⟩
abbrev cX7_isTick : ByteArray := prog_1_method_33_code
def yX7_isTick : MethodName := ⟨RX7, "isTick", "(I)Z"⟩
abbrev cX7_isSide : ByteArray := prog_1_method_34_code
def yX7_isSide : MethodName := ⟨RX7, "isSide", "(I)Z"⟩
abbrev cX7_isPress : ByteArray := prog_1_method_35_code
def yX7_isPress : MethodName := ⟨RX7, "isPress", "(I)Z"⟩
abbrev cX7_isPower : ByteArray := prog_1_method_36_code
def yX7_isPower : MethodName := ⟨RX7, "isPower", "(I)Z"⟩
abbrev cX7_isShore : ByteArray := prog_1_method_37_code
def yX7_isShore : MethodName := ⟨RX7, "isShore", "(I)Z"⟩
abbrev cX7_isSlot : ByteArray := prog_1_method_38_code
def yX7_isSlot : MethodName := ⟨RX7, "isSlot", "(I)Z"⟩
abbrev cX7_columnOf : ByteArray := prog_1_method_39_code
def yX7_columnOf : MethodName := ⟨RX7, "columnOf", "(II)I"⟩
abbrev cX7_told : ByteArray := prog_1_method_40_code
def yX7_told : MethodName := ⟨RX7, "told", "(LSeaGames$Play;II)I"⟩
abbrev cX7_xOf : ByteArray := prog_1_method_41_code
def yX7_xOf : MethodName := ⟨RX7, "xOf", "(I)I"⟩
abbrev cX7_yOf : ByteArray := prog_1_method_42_code
def yX7_yOf : MethodName := ⟨RX7, "yOf", "(I)I"⟩
abbrev cX7_spotOf : ByteArray := prog_1_method_43_code
def yX7_spotOf : MethodName := ⟨RX7, "spotOf", "(II)I"⟩
abbrev cX7_distance : ByteArray := prog_1_method_44_code
def yX7_distance : MethodName := ⟨RX7, "distance", "(II)I"⟩
abbrev cX7_playTrulyTo : ByteArray := prog_1_method_45_code
def yX7_playTrulyTo : MethodName := ⟨RX7, "playTrulyTo", "(I)V"⟩
abbrev cX7_showFrom : ByteArray := prog_1_method_46_code
def yX7_showFrom : MethodName := ⟨RX7, "showFrom", "(III)V"⟩
abbrev cX7_setBoardAhead : ByteArray := prog_1_method_47_code
def yX7_setBoardAhead : MethodName := ⟨RX7, "setBoardAhead", "(LSeaGames$Track;I)V"⟩
abbrev cX7_costOf : ByteArray := prog_1_method_48_code
def yX7_costOf : MethodName := ⟨RX7, "costOf", "(II)I"⟩
abbrev cX7_seesThen : ByteArray := prog_1_method_49_code
def yX7_seesThen : MethodName := ⟨RX7, "seesThen", "(III)Z"⟩
abbrev cX7_thinkTo : ByteArray := prog_1_method_50_code
def yX7_thinkTo : MethodName := ⟨RX7, "thinkTo", "(III)V"⟩
abbrev cX7_slotsKept : ByteArray := prog_1_method_51_code
def yX7_slotsKept : MethodName := ⟨RX7, "slotsKept", "()I"⟩
def RX8 : String := "SeaGamesModel"
def TX8 : u_T := fun k => match k with
  | 0 => ("SeaGamesModel", "thrown", "I", false)
  | 1 => ("SeaGamesModel", "wide", "[I", true)
  | 2 => ("SeaGamesModel", "tall", "[I", true)
  | 3 => ("SeaGamesModel", "hands", "[I", true)
  | 4 => ("SeaGamesModel", "power", "[I", true)
  | 5 => ("SeaGamesModel", "spin", "[I", true)
  | 6 => ("SeaGamesModel", "seed", "[I", true)
  | 7 => ("SeaGamesModel", "pressed", "[I", true)
  | 8 => ("SeaGamesModel", "leftFrom", "[I", true)
  | 9 => ("SeaGamesModel", "leftTo", "[I", true)
  | 10 => ("SeaGamesModel", "isKept", "[Z", true)
  | 11 => ("SeaGamesModel", "delay", "I", false)
  | 12 => ("SeaGamesModel", "feel", "I", false)
  | 13 => ("SeaGamesModel", "turn", "I", false)
  | 14 => ("SeaGamesModel", "sight", "I", false)
  | 15 => ("SeaGamesModel", "wait", "[I", true)
  | 16 => ("SeaGamesModel", "isLost", "[Z", true)
  | 17 => ("SeaGamesModel", "place", "[I", true)
  | 18 => ("SeaGamesModel", "points", "[I", true)
  | 19 => ("SeaGamesModel", "ball", "I", false)
  | 20 => ("SeaGamesModel", "w", "I", false)
  | 21 => ("SeaGamesModel", "h", "I", false)
  | 22 => ("SeaGamesModel", "n", "I", false)
  | 23 => ("SeaGamesModel", "other", "[I", true)
  | 24 => ("SeaGamesModel", "takes", "[I", true)
  | 25 => ("SeaGamesModel", "took", "[I", true)
  | 26 => ("SeaGamesModel", "trueStates", "[I", true)
  | 27 => ("SeaGamesModel", "may", "[Z", true)
  | 28 => ("SeaGamesModel", "then", "[Z", true)
  | 29 => ("SeaGamesModel", "players", "I", false)
  | 30 => ("SeaGamesModel", "skill", "[I", true)
  | 31 => ("SeaGamesModel", "shore", "[I", true)
  | 32 => ("SeaGamesModel", "fars", "[I", true)
  | 33 => ("SeaGamesModel", "least", "[I", true)
  | 34 => ("SeaGamesModel", "mates", "[I", true)
  | _ => ("SeaGamesModel", "ways", "[J", true)
def tyX8 : Nat → FieldType := fun k => match k with
  | 0 => .int
  | 1 => .array .int
  | 2 => .array .int
  | 3 => .array .int
  | 4 => .array .int
  | 5 => .array .int
  | 6 => .array .int
  | 7 => .array .int
  | 8 => .array .int
  | 9 => .array .int
  | 10 => .array .boolean
  | 11 => .int
  | 12 => .int
  | 13 => .int
  | 14 => .int
  | 15 => .array .int
  | 16 => .array .boolean
  | 17 => .array .int
  | 18 => .array .int
  | 19 => .int
  | 20 => .int
  | 21 => .int
  | 22 => .int
  | 23 => .array .int
  | 24 => .array .int
  | 25 => .array .int
  | 26 => .array .int
  | 27 => .array .boolean
  | 28 => .array .boolean
  | 29 => .int
  | 30 => .array .int
  | 31 => .array .int
  | 32 => .array .int
  | 33 => .array .int
  | 34 => .array .int
  | _ => .array .long
abbrev wsX80 : List Cond := u_ws RX8 TX8 36
theorem nmX8 : ∀ a, a < 36 → ∀ b, b < 36 → a ≠ b → (TX8 a).2.1 ≠ (TX8 b).2.1 := by decide +kernel
theorem tyX8_ok : ∀ k, k < 36 → parseFieldDescriptor (TX8 k).2.2.1 = some (tyX8 k) := by decide +kernel
abbrev cX8_init : ByteArray := prog_10_method_1_code
def yX8_init : MethodName := ⟨RX8, "<init>", "()V"⟩
abbrev cX8_in : ByteArray := prog_10_method_3_code
def yX8_in : MethodName := ⟨RX8, "in", "(JJJ)Z"⟩
abbrev cX8_size : ByteArray := prog_10_method_4_code
def yX8_size : MethodName := ⟨RX8, "size", "(I)I"⟩
abbrev cX8_noHand : ByteArray := prog_10_method_5_code
def yX8_noHand : MethodName := ⟨RX8, "noHand", "(I)Z"⟩
abbrev cX8_noTick : ByteArray := prog_10_method_6_code
def yX8_noTick : MethodName := ⟨RX8, "noTick", "(I)Z"⟩
abbrev cX8_field : ByteArray := prog_10_method_7_code
def yX8_field : MethodName := ⟨RX8, "field", "(III)I"⟩
abbrev cX8_rule : ByteArray := prog_10_method_8_code
def yX8_rule : MethodName := ⟨RX8, "rule", "(II)I"⟩
abbrev cX8_press : ByteArray := prog_10_method_9_code
def yX8_press : MethodName := ⟨RX8, "press", "(III)I"⟩
abbrev cX8_hold : ByteArray := prog_10_method_10_code
def yX8_hold : MethodName := ⟨RX8, "hold", "(IIII)I"⟩
abbrev cX8_leave : ByteArray := prog_10_method_11_code
def yX8_leave : MethodName := ⟨RX8, "leave", "(III)I"⟩
abbrev cX8_isLeft : ByteArray := prog_10_method_12_code
def yX8_isLeft : MethodName := ⟨RX8, "isLeft", "(III)Z"⟩
abbrev cX8_by : ByteArray := prog_10_method_13_code
def yX8_by : MethodName := ⟨RX8, "by", "(II)I"⟩
abbrev cX8_isFree : ByteArray := prog_10_method_14_code
def yX8_isFree : MethodName := ⟨RX8, "isFree", "(I)Z"⟩
abbrev cX8_start : ByteArray := prog_10_method_15_code
def yX8_start : MethodName := ⟨RX8, "start", "(I)V"⟩
abbrev cX8_besideBall : ByteArray := prog_10_method_16_code
def yX8_besideBall : MethodName := ⟨RX8, "besideBall", "(I)I"⟩
abbrev cX8_thinks : ByteArray := prog_10_method_17_code
def yX8_thinks : MethodName := ⟨RX8, "thinks", "(I)I"⟩
abbrev cX8_act : ByteArray := prog_10_method_18_code
def yX8_act : MethodName := ⟨RX8, "act", "(III)V"⟩
abbrev cX8_step : ByteArray := prog_10_method_19_code
def yX8_step : MethodName := ⟨RX8, "step", "(II[III)V"⟩
abbrev cX8_live : ByteArray := prog_10_method_20_code
def yX8_live : MethodName := ⟨RX8, "live", "(III)V"⟩
abbrev cX8_liveNow : ByteArray := prog_10_method_21_code
def yX8_liveNow : MethodName := ⟨RX8, "liveNow", "(I)V"⟩
abbrev cX8_noWhat : ByteArray := prog_10_method_22_code
def yX8_noWhat : MethodName := ⟨RX8, "noWhat", "(II)Z"⟩
abbrev cX8_seen : ByteArray := prog_10_method_23_code
def yX8_seen : MethodName := ⟨RX8, "seen", "(I)I"⟩
abbrev cX8_truly : ByteArray := prog_10_method_24_code
def yX8_truly : MethodName := ⟨RX8, "truly", "(II)I"⟩
abbrev cX8_machine : ByteArray := prog_10_method_25_code
def yX8_machine : MethodName := ⟨RX8, "machine", "(II)I"⟩
abbrev cX8_line : ByteArray := prog_10_method_26_code
def yX8_line : MethodName := ⟨RX8, "line", "(III)I"⟩
abbrev cX8_lose : ByteArray := prog_10_method_27_code
def yX8_lose : MethodName := ⟨RX8, "lose", "(IIZ)I"⟩
abbrev cX8_knownAt : ByteArray := prog_10_method_28_code
def yX8_knownAt : MethodName := ⟨RX8, "knownAt", "(IIII)I"⟩
abbrev cX8_known : ByteArray := prog_10_method_29_code
def yX8_known : MethodName := ⟨RX8, "known", "(III)I"⟩
abbrev cX8_take : ByteArray := prog_10_method_30_code
def yX8_take : MethodName := ⟨RX8, "take", "(III[I)V"⟩
abbrev cX8_takes : ByteArray := prog_10_method_31_code
def yX8_takes : MethodName := ⟨RX8, "takes", "(IIII)I"⟩
abbrev cX8_show : ByteArray := prog_10_method_32_code
def yX8_show : MethodName := ⟨RX8, "show", "(II)V"⟩
abbrev cX8_shown : ByteArray := prog_10_method_33_code
def yX8_shown : MethodName := ⟨RX8, "shown", "(III)I"⟩
abbrev cX8_backOf : ByteArray := prog_10_method_34_code
def yX8_backOf : MethodName := ⟨RX8, "backOf", "(III)I"⟩
abbrev cX8_back : ByteArray := prog_10_method_35_code
def yX8_back : MethodName := ⟨RX8, "back", "(II)I"⟩
abbrev cX8_agreed : ByteArray := prog_10_method_36_code
def yX8_agreed : MethodName := ⟨RX8, "agreed", "(II)I"⟩
abbrev cX8_write : ByteArray := prog_10_method_37_code
def yX8_write : MethodName := ⟨RX8, "write", "([II)V"⟩
abbrev cX8_isLike : ByteArray := prog_10_method_38_code
def yX8_isLike : MethodName := ⟨RX8, "isLike", "([II[II)Z"⟩
abbrev cX8_wrong : ByteArray := prog_10_method_39_code
def yX8_wrong : MethodName := ⟨RX8, "wrong", "(IIZ)I"⟩
abbrev cX8_priceOf : ByteArray := prog_10_method_40_code
def yX8_priceOf : MethodName := ⟨RX8, "priceOf", "(II)I"⟩
abbrev cX8_price : ByteArray := prog_10_method_41_code
def yX8_price : MethodName := ⟨RX8, "price", "(II)I"⟩
abbrev cX8_best : ByteArray := prog_10_method_42_code
def yX8_best : MethodName := ⟨RX8, "best", "(I)I"⟩
abbrev cX8_isSeen : ByteArray := prog_10_method_43_code
def yX8_isSeen : MethodName := ⟨RX8, "isSeen", "(II)Z"⟩
abbrev cX8_sees : ByteArray := prog_10_method_44_code
def yX8_sees : MethodName := ⟨RX8, "sees", "(III)I"⟩
abbrev cX8_guess : ByteArray := prog_10_method_45_code
def yX8_guess : MethodName := ⟨RX8, "guess", "(III)V"⟩
abbrev cX8_could : ByteArray := prog_10_method_46_code
def yX8_could : MethodName := ⟨RX8, "could", "(III)I"⟩
abbrev cX8_couldBe : ByteArray := prog_10_method_47_code
def yX8_couldBe : MethodName := ⟨RX8, "couldBe", "(IIII)I"⟩
abbrev cX8_player : ByteArray := prog_10_method_48_code
def yX8_player : MethodName := ⟨RX8, "player", "(II)I"⟩
abbrev cX8_far : ByteArray := prog_10_method_49_code
def yX8_far : MethodName := ⟨RX8, "far", "(III)I"⟩
abbrev cX8_costs : ByteArray := prog_10_method_50_code
def yX8_costs : MethodName := ⟨RX8, "costs", "(II)I"⟩
abbrev cX8_lowest : ByteArray := prog_10_method_51_code
def yX8_lowest : MethodName := ⟨RX8, "lowest", "(I)I"⟩
abbrev cX8_isOdd : ByteArray := prog_10_method_52_code
def yX8_isOdd : MethodName := ⟨RX8, "isOdd", "(I)Z"⟩
abbrev cX8_match : ByteArray := prog_10_method_53_code
def yX8_match : MethodName := ⟨RX8, "match", "()I"⟩
abbrev cX8_pairs : ByteArray := prog_10_method_54_code
def yX8_pairs : MethodName := ⟨RX8, "pairs", "()I"⟩
abbrev cX8_mate : ByteArray := prog_10_method_55_code
def yX8_mate : MethodName := ⟨RX8, "mate", "(I)I"⟩
abbrev cX8_odds : ByteArray := prog_10_method_56_code
def yX8_odds : MethodName := ⟨RX8, "odds", "(IIIIZ)J"⟩
abbrev cX8_copy : ByteArray := prog_10_method_57_code
def yX8_copy : MethodName := ⟨RX8, "copy", "(II)V"⟩
abbrev cX8_presses : ByteArray := prog_10_method_58_code
def yX8_presses : MethodName := ⟨RX8, "presses", "()I"⟩
abbrev cX8_noSlot : ByteArray := prog_10_method_59_code
def yX8_noSlot : MethodName := ⟨RX8, "noSlot", "(I)Z"⟩
abbrev cX8_keep : ByteArray := prog_10_method_60_code
def yX8_keep : MethodName := ⟨RX8, "keep", "(I)I"⟩
abbrev cX8_again : ByteArray := prog_10_method_61_code
def yX8_again : MethodName := ⟨RX8, "again", "(I)I"⟩
abbrev cX8_tried : ByteArray := prog_10_method_62_code
def yX8_tried : MethodName := ⟨RX8, "tried", "(IIII)I"⟩
abbrev cX8_differs : ByteArray := prog_10_method_63_code
def yX8_differs : MethodName := ⟨RX8, "differs", "(II)I"⟩
abbrev cX8_count : ByteArray := prog_10_method_64_code
def yX8_count : MethodName := ⟨RX8, "count", "(I)I"⟩
def RJ6 : String := "java/lang/Integer"
def TJ6 : u_T := fun k => match k with
  | _ => ("", "", "", false)
def tyJ6 : Nat → FieldType := fun k => match k with
  | _ => .int
abbrev wsJ60 : List Cond := u_ws RJ6 TJ6 0
theorem nmJ6 : ∀ a, a < 0 → ∀ b, b < 0 → a ≠ b → (TJ6 a).2.1 ≠ (TJ6 b).2.1 := by decide +kernel
theorem tyJ6_ok : ∀ k, k < 0 → parseFieldDescriptor (TJ6 k).2.2.1 = some (tyJ6 k) := by decide +kernel
abbrev cJ6_bitCount_0f7a4 : ByteArray := prog_11_method_49_code
def yJ6_bitCount_0f7a4 : MethodName := ⟨RJ6, "bitCount", "(I)I"⟩
def RJ9 : String := "java/lang/Math"
def TJ9 : u_T := fun k => match k with
  | _ => ("", "", "", false)
def tyJ9 : Nat → FieldType := fun k => match k with
  | _ => .int
abbrev wsJ90 : List Cond := u_ws RJ9 TJ9 0
theorem nmJ9 : ∀ a, a < 0 → ∀ b, b < 0 → a ≠ b → (TJ9 a).2.1 ≠ (TJ9 b).2.1 := by decide +kernel
theorem tyJ9_ok : ∀ k, k < 0 → parseFieldDescriptor (TJ9 k).2.2.1 = some (tyJ9 k) := by decide +kernel
abbrev cJ9_abs_0f7a4 : ByteArray := prog_12_method_59_code
def yJ9_abs_0f7a4 : MethodName := ⟨RJ9, "abs", "(I)I"⟩
abbrev cJ9_max_7cf53 : ByteArray := prog_12_method_65_code
def yJ9_max_7cf53 : MethodName := ⟨RJ9, "max", "(II)I"⟩
abbrev cJ9_min_7cf53 : ByteArray := prog_12_method_69_code
def yJ9_min_7cf53 : MethodName := ⟨RJ9, "min", "(II)I"⟩
def RJ10 : String := "java/lang/System"
def TJ10 : u_T := fun k => match k with
  | _ => ("", "", "", false)
def tyJ10 : Nat → FieldType := fun k => match k with
  | _ => .int
abbrev wsJ100 : List Cond := u_ws RJ10 TJ10 0
theorem nmJ10 : ∀ a, a < 0 → ∀ b, b < 0 → a ≠ b → (TJ10 a).2.1 ≠ (TJ10 b).2.1 := by decide +kernel
theorem tyJ10_ok : ∀ k, k < 0 → parseFieldDescriptor (TJ10 k).2.2.1 = some (tyJ10 k) := by decide +kernel
def RJ7 : String := "java/util/Arrays"
def TJ7 : u_T := fun k => match k with
  | _ => ("", "", "", false)
def tyJ7 : Nat → FieldType := fun k => match k with
  | _ => .int
abbrev wsJ70 : List Cond := u_ws RJ7 TJ7 0
theorem nmJ7 : ∀ a, a < 0 → ∀ b, b < 0 → a ≠ b → (TJ7 a).2.1 ≠ (TJ7 b).2.1 := by decide +kernel
theorem tyJ7_ok : ∀ k, k < 0 → parseFieldDescriptor (TJ7 k).2.2.1 = some (tyJ7 k) := by decide +kernel
abbrev cJ7_fill_d0a16 : ByteArray := prog_14_method_101_code
def yJ7_fill_d0a16 : MethodName := ⟨RJ7, "fill", "([JJ)V"⟩
abbrev cJ7_fill_53178 : ByteArray := prog_14_method_103_code
def yJ7_fill_53178 : MethodName := ⟨RJ7, "fill", "([II)V"⟩
def RL : String := "SeaGamesLaw"
abbrev cL_law : ByteArray := code
def yL_law : MethodName := ⟨RL, "law", "([I)Z"⟩
def wsX0_init : List Cond := .code yX0_init cX0_init 1 none :: ([.methodLink RX0 3 objectInit, .instanceMethod objectInit, .code objectInit ⟨#[0xb1]⟩ 1 none, .arrayClass .int, .fieldLink RX0 9 "SeaGames$Board" "now" "[I"] ++ wsX00)
def wsJ7_fill_53178 : List Cond := .code yJ7_fill_53178 cJ7_fill_53178 4 none :: ([])
def wsX7_spotOf : List Cond := .code yX7_spotOf cX7_spotOf 5 (some .int) :: ([])
def wsX0_start : List Cond := .code yX0_start cX0_start 3 none :: ([.fieldLink RX0 9 "SeaGames$Board" "now" "[I", .fieldLink RX0 21 "SeaGames$Play" "hands" "I", .fieldLink RX0 27 "SeaGames$Play" "w" "I", .fieldLink RX0 34 "SeaGames$Play" "h" "I", .methodLink RX0 15 yJ7_fill_53178, .static yJ7_fill_53178, .initialized RJ7, .code yJ7_fill_53178 cJ7_fill_53178 4 none, .static yX7_spotOf, .initialized RX7, .code yX7_spotOf cX7_spotOf 5 (some .int)] ++ wsX00 ++ wsX50)
def wsX5_isLeft : List Cond := .code yX5_isLeft cX5_isLeft 3 (some .boolean) :: ([.fieldLink RX5 28 "SeaGames$Play" "leftFrom" "[I", .fieldLink RX5 31 "SeaGames$Play" "leftTo" "[I"] ++ wsX50)
def wsX0_wayToBall : List Cond := .code yX0_wayToBall cX0_wayToBall 3 (some .int) :: ([.fieldLink RX0 9 "SeaGames$Board" "now" "[I"] ++ wsX00)
def wsX7_xOf : List Cond := .code yX7_xOf cX7_xOf 1 (some .int) :: ([])
def wsX7_yOf : List Cond := .code yX7_yOf cX7_yOf 1 (some .int) :: ([])
def wsX0_machinePress : List Cond := .code yX0_machinePress cX0_machinePress 4 (some .int) :: ([.fieldLink RX0 9 "SeaGames$Board" "now" "[I", .methodLink RX0 69 Lib.Math.abs.name, .static Lib.Math.abs.name, .initialized "java/lang/Math", .code Lib.Math.abs.name Lib.Math.abs.code 1 (some .int), .methodLink RX0 60 yX0_wayToBall, .instanceMethod yX0_wayToBall, .selects RX0 yX0_wayToBall yX0_wayToBall, .initialized RX0, .code yX0_wayToBall cX0_wayToBall 3 (some .int), .static yX7_xOf, .initialized RX7, .code yX7_xOf cX7_xOf 1 (some .int), .static yX7_yOf, .code yX7_yOf cX7_yOf 1 (some .int)] ++ wsX00)
def wsX0_isFree : List Cond := .code yX0_isFree cX0_isFree 4 (some .boolean) :: ([.fieldLink RX0 27 "SeaGames$Play" "w" "I", .fieldLink RX0 34 "SeaGames$Play" "h" "I", .fieldLink RX0 21 "SeaGames$Play" "hands" "I", .fieldLink RX0 9 "SeaGames$Board" "now" "[I", .static yX7_xOf, .initialized RX7, .code yX7_xOf cX7_xOf 1 (some .int), .static yX7_yOf, .code yX7_yOf cX7_yOf 1 (some .int)] ++ wsX50 ++ wsX00)
def wsX0_moveBall : List Cond := .code yX0_moveBall cX0_moveBall 4 (some .boolean) :: ([.fieldLink RX0 9 "SeaGames$Board" "now" "[I", .methodLink RX0 77 yX0_isFree, .instanceMethod yX0_isFree, .selects RX0 yX0_isFree yX0_isFree, .initialized RX0, .code yX0_isFree cX0_isFree 4 (some .boolean), .fieldLink RX0 27 "SeaGames$Play" "w" "I", .fieldLink RX0 34 "SeaGames$Play" "h" "I", .fieldLink RX0 21 "SeaGames$Play" "hands" "I", .static yX7_xOf, .initialized RX7, .code yX7_xOf cX7_xOf 1 (some .int), .static yX7_yOf, .code yX7_yOf cX7_yOf 1 (some .int)] ++ wsX00 ++ wsX50)
def wsX0_kick : List Cond := .code yX0_kick cX0_kick 7 none :: ([.methodLink RX0 60 yX0_wayToBall, .instanceMethod yX0_wayToBall, .selects RX0 yX0_wayToBall yX0_wayToBall, .initialized RX0, .code yX0_wayToBall cX0_wayToBall 3 (some .int), .fieldLink RX0 9 "SeaGames$Board" "now" "[I", .methodLink RX0 81 yX0_moveBall, .instanceMethod yX0_moveBall, .selects RX0 yX0_moveBall yX0_moveBall, .code yX0_moveBall cX0_moveBall 4 (some .boolean), .methodLink RX0 77 yX0_isFree, .instanceMethod yX0_isFree, .selects RX0 yX0_isFree yX0_isFree, .code yX0_isFree cX0_isFree 4 (some .boolean), .fieldLink RX0 27 "SeaGames$Play" "w" "I", .fieldLink RX0 34 "SeaGames$Play" "h" "I", .fieldLink RX0 21 "SeaGames$Play" "hands" "I", .static yX7_xOf, .initialized RX7, .code yX7_xOf cX7_xOf 1 (some .int), .static yX7_yOf, .code yX7_yOf cX7_yOf 1 (some .int)] ++ wsX00 ++ wsX50)
def wsX0_go : List Cond := .code yX0_go cX0_go 5 none :: ([.fieldLink RX0 9 "SeaGames$Board" "now" "[I", .methodLink RX0 77 yX0_isFree, .instanceMethod yX0_isFree, .selects RX0 yX0_isFree yX0_isFree, .initialized RX0, .code yX0_isFree cX0_isFree 4 (some .boolean), .fieldLink RX0 27 "SeaGames$Play" "w" "I", .fieldLink RX0 34 "SeaGames$Play" "h" "I", .fieldLink RX0 21 "SeaGames$Play" "hands" "I", .static yX7_xOf, .initialized RX7, .code yX7_xOf cX7_xOf 1 (some .int), .static yX7_yOf, .code yX7_yOf cX7_yOf 1 (some .int), .methodLink RX0 81 yX0_moveBall, .instanceMethod yX0_moveBall, .selects RX0 yX0_moveBall yX0_moveBall, .code yX0_moveBall cX0_moveBall 4 (some .boolean)] ++ wsX00 ++ wsX50)
def wsX0_spinBall : List Cond := .code yX0_spinBall cX0_spinBall 4 none :: ([.fieldLink RX0 84 "SeaGames$Play" "rules" "[I", .methodLink RX0 81 yX0_moveBall, .instanceMethod yX0_moveBall, .selects RX0 yX0_moveBall yX0_moveBall, .initialized RX0, .code yX0_moveBall cX0_moveBall 4 (some .boolean), .fieldLink RX0 9 "SeaGames$Board" "now" "[I", .methodLink RX0 77 yX0_isFree, .instanceMethod yX0_isFree, .selects RX0 yX0_isFree yX0_isFree, .code yX0_isFree cX0_isFree 4 (some .boolean), .fieldLink RX0 27 "SeaGames$Play" "w" "I", .fieldLink RX0 34 "SeaGames$Play" "h" "I", .fieldLink RX0 21 "SeaGames$Play" "hands" "I", .static yX7_xOf, .initialized RX7, .code yX7_xOf cX7_xOf 1 (some .int), .static yX7_yOf, .code yX7_yOf cX7_yOf 1 (some .int)] ++ wsX50 ++ wsX00)
def wsX7_distance : List Cond := .code yX7_distance cX7_distance 2 (some .int) :: ([.methodLink RX7 299 Lib.Math.abs.name, .static Lib.Math.abs.name, .initialized "java/lang/Math", .code Lib.Math.abs.name Lib.Math.abs.code 1 (some .int), .methodLink RX7 296 yX7_xOf, .static yX7_xOf, .initialized RX7, .code yX7_xOf cX7_xOf 1 (some .int), .methodLink RX7 293 yX7_yOf, .static yX7_yOf, .code yX7_yOf cX7_yOf 1 (some .int)])
def wsX0_givePoint : List Cond := .code yX0_givePoint cX0_givePoint 7 none :: ([.fieldLink RX0 9 "SeaGames$Board" "now" "[I", .fieldLink RX0 21 "SeaGames$Play" "hands" "I", .static yX7_distance, .initialized RX7, .code yX7_distance cX7_distance 2 (some .int), .methodLink RX7 299 Lib.Math.abs.name, .static Lib.Math.abs.name, .initialized "java/lang/Math", .code Lib.Math.abs.name Lib.Math.abs.code 1 (some .int), .methodLink RX7 296 yX7_xOf, .static yX7_xOf, .code yX7_xOf cX7_xOf 1 (some .int), .methodLink RX7 293 yX7_yOf, .static yX7_yOf, .code yX7_yOf cX7_yOf 1 (some .int)] ++ wsX00 ++ wsX50)
def wsX0_advance_r1 : List Cond := [Cond.fieldLink RX0 21 "SeaGames$Play" "hands" "I", Cond.methodLink RX0 37 yX5_isLeft, Cond.instanceMethod yX5_isLeft, Cond.selects RX5 yX5_isLeft yX5_isLeft, Cond.initialized RX5, Cond.code yX5_isLeft cX5_isLeft 3 (some .boolean), Cond.fieldLink RX5 28 "SeaGames$Play" "leftFrom" "[I", Cond.fieldLink RX5 31 "SeaGames$Play" "leftTo" "[I", Cond.methodLink RX0 41 yX0_machinePress, Cond.instanceMethod yX0_machinePress, Cond.selects RX0 yX0_machinePress yX0_machinePress, Cond.initialized RX0, Cond.code yX0_machinePress cX0_machinePress 4 (some .int), Cond.fieldLink RX0 9 "SeaGames$Board" "now" "[I", Cond.methodLink RX0 69 Lib.Math.abs.name, Cond.static Lib.Math.abs.name, Cond.initialized "java/lang/Math", Cond.code Lib.Math.abs.name Lib.Math.abs.code 1 (some .int), Cond.methodLink RX0 60 yX0_wayToBall, Cond.instanceMethod yX0_wayToBall, Cond.selects RX0 yX0_wayToBall yX0_wayToBall, Cond.code yX0_wayToBall cX0_wayToBall 3 (some .int), Cond.static yX7_xOf, Cond.initialized RX7]
def wsX0_advance_r2 : List Cond := [Cond.code yX7_xOf cX7_xOf 1 (some .int), Cond.static yX7_yOf, Cond.code yX7_yOf cX7_yOf 1 (some .int), Cond.methodLink RX0 45 yX0_kick, Cond.instanceMethod yX0_kick, Cond.selects RX0 yX0_kick yX0_kick, Cond.code yX0_kick cX0_kick 7 none, Cond.methodLink RX0 81 yX0_moveBall, Cond.instanceMethod yX0_moveBall, Cond.selects RX0 yX0_moveBall yX0_moveBall, Cond.code yX0_moveBall cX0_moveBall 4 (some .boolean), Cond.methodLink RX0 77 yX0_isFree, Cond.instanceMethod yX0_isFree, Cond.selects RX0 yX0_isFree yX0_isFree, Cond.code yX0_isFree cX0_isFree 4 (some .boolean), Cond.fieldLink RX0 27 "SeaGames$Play" "w" "I", Cond.fieldLink RX0 34 "SeaGames$Play" "h" "I", Cond.methodLink RX0 49 yX0_go, Cond.instanceMethod yX0_go, Cond.selects RX0 yX0_go yX0_go, Cond.code yX0_go cX0_go 5 none, Cond.methodLink RX0 52 yX0_spinBall, Cond.instanceMethod yX0_spinBall, Cond.selects RX0 yX0_spinBall yX0_spinBall]
def wsX0_advance_r3 : List Cond := [Cond.code yX0_spinBall cX0_spinBall 4 none, Cond.fieldLink RX0 84 "SeaGames$Play" "rules" "[I", Cond.methodLink RX0 56 yX0_givePoint, Cond.instanceMethod yX0_givePoint, Cond.selects RX0 yX0_givePoint yX0_givePoint, Cond.code yX0_givePoint cX0_givePoint 7 none, Cond.static yX7_distance, Cond.code yX7_distance cX7_distance 2 (some .int), Cond.methodLink RX7 299 Lib.Math.abs.name, Cond.methodLink RX7 296 yX7_xOf, Cond.methodLink RX7 293 yX7_yOf]
def wsX0_advance : List Cond := .code yX0_advance cX0_advance 7 none :: ((wsX0_advance_r1 ++ (wsX0_advance_r2 ++ wsX0_advance_r3)) ++ wsX50 ++ wsX00)
def wsX0_isLike : List Cond := .code yX0_isLike cX0_isLike 3 (some .boolean) :: ([.fieldLink RX0 9 "SeaGames$Board" "now" "[I"] ++ wsX00)
def wsX1_init : List Cond := .code yX1_init cX1_init 1 none :: ([.methodLink RX1 3 objectInit, .instanceMethod objectInit, .code objectInit ⟨#[0xb1]⟩ 1 none, .fieldLink RX1 9 "SeaGames$Crowd" "size" "I", .arrayClass .int, .fieldLink RX1 15 "SeaGames$Crowd" "mates" "[I", .fieldLink RX1 19 "SeaGames$Crowd" "skills" "[I", .fieldLink RX1 22 "SeaGames$Crowd" "shores" "[I", .fieldLink RX1 25 "SeaGames$Crowd" "fars" "[I", .fieldLink RX1 28 "SeaGames$Crowd" "least" "[I", .fieldLink RX1 31 "SeaGames$Crowd" "paired" "Z"] ++ wsX10)
def wsX1_join : List Cond := .code yX1_join cX1_join 3 (some .int) :: ([.fieldLink RX1 19 "SeaGames$Crowd" "skills" "[I", .fieldLink RX1 9 "SeaGames$Crowd" "size" "I", .fieldLink RX1 22 "SeaGames$Crowd" "shores" "[I", .fieldLink RX1 31 "SeaGames$Crowd" "paired" "Z"] ++ wsX10)
def wsX1_setFar : List Cond := .code yX1_setFar cX1_setFar 5 (some .int) :: ([.fieldLink RX1 25 "SeaGames$Crowd" "fars" "[I", .fieldLink RX1 31 "SeaGames$Crowd" "paired" "Z"] ++ wsX10)
def wsX1_leastCost : List Cond := .code yX1_leastCost cX1_leastCost 1 (some .int) :: ([.fieldLink RX1 28 "SeaGames$Crowd" "least" "[I", .fieldLink RX1 9 "SeaGames$Crowd" "size" "I"] ++ wsX10)
def wsX1_firstOf : List Cond := .code yX1_firstOf cX1_firstOf 3 (some .int) :: ([])
def wsJ6_bitCount_0f7a4 : List Cond := .code yJ6_bitCount_0f7a4 cJ6_bitCount_0f7a4 1 (some .int) :: ([.constant RJ6 265 (1431655765), .constant RJ6 266 (858993459), .constant RJ6 267 (252645135)])
def wsX1_costOfPair : List Cond := .code yX1_costOfPair cX1_costOfPair 3 (some .int) :: ([.fieldLink RX1 19 "SeaGames$Crowd" "skills" "[I", .methodLink RX1 43 Lib.Math.abs.name, .static Lib.Math.abs.name, .initialized "java/lang/Math", .code Lib.Math.abs.name Lib.Math.abs.code 1 (some .int), .fieldLink RX1 25 "SeaGames$Crowd" "fars" "[I", .fieldLink RX1 22 "SeaGames$Crowd" "shores" "[I"] ++ wsX10)
def wsX1_leastOf_r1 : List Cond := [Cond.fieldLink RX1 28 "SeaGames$Crowd" "least" "[I", Cond.constant RX1 56 (2147483647), Cond.fieldLink RX1 9 "SeaGames$Crowd" "size" "I", Cond.methodLink RX1 60 Lib.Math.min.name, Cond.static Lib.Math.min.name, Cond.initialized "java/lang/Math", Cond.code Lib.Math.min.name Lib.Math.min.code 2 (some .int), Cond.methodLink RX1 48 yX1_firstOf, Cond.instanceMethod yX1_firstOf, Cond.selects RX1 yX1_firstOf yX1_firstOf, Cond.initialized RX1, Cond.code yX1_firstOf cX1_firstOf 3 (some .int), Cond.methodLink RX1 51 yJ6_bitCount_0f7a4, Cond.static yJ6_bitCount_0f7a4, Cond.initialized RJ6, Cond.code yJ6_bitCount_0f7a4 cJ6_bitCount_0f7a4 1 (some .int), Cond.constant RJ6 265 (1431655765), Cond.constant RJ6 266 (858993459), Cond.constant RJ6 267 (252645135), Cond.methodLink RX1 57 yX1_costOfPair, Cond.instanceMethod yX1_costOfPair, Cond.selects RX1 yX1_costOfPair yX1_costOfPair, Cond.code yX1_costOfPair cX1_costOfPair 3 (some .int), Cond.fieldLink RX1 19 "SeaGames$Crowd" "skills" "[I"]
def wsX1_leastOf_r2 : List Cond := [Cond.methodLink RX1 43 Lib.Math.abs.name, Cond.static Lib.Math.abs.name, Cond.code Lib.Math.abs.name Lib.Math.abs.code 1 (some .int), Cond.fieldLink RX1 25 "SeaGames$Crowd" "fars" "[I", Cond.fieldLink RX1 22 "SeaGames$Crowd" "shores" "[I"]
def wsX1_leastOf : List Cond := .code yX1_leastOf cX1_leastOf 7 (some .int) :: ((wsX1_leastOf_r1 ++ wsX1_leastOf_r2) ++ wsX10)
def wsX1_leastMate : List Cond := .code yX1_leastMate cX1_leastMate 5 (some .int) :: ([.fieldLink RX1 9 "SeaGames$Crowd" "size" "I", .fieldLink RX1 28 "SeaGames$Crowd" "least" "[I", .methodLink RX1 57 yX1_costOfPair, .instanceMethod yX1_costOfPair, .selects RX1 yX1_costOfPair yX1_costOfPair, .initialized RX1, .code yX1_costOfPair cX1_costOfPair 3 (some .int), .fieldLink RX1 19 "SeaGames$Crowd" "skills" "[I", .methodLink RX1 43 Lib.Math.abs.name, .static Lib.Math.abs.name, .initialized "java/lang/Math", .code Lib.Math.abs.name Lib.Math.abs.code 1 (some .int), .fieldLink RX1 25 "SeaGames$Crowd" "fars" "[I", .fieldLink RX1 22 "SeaGames$Crowd" "shores" "[I"] ++ wsX10)
def wsX1_pairUp_r1 : List Cond := [Cond.fieldLink RX1 31 "SeaGames$Crowd" "paired" "Z", Cond.fieldLink RX1 9 "SeaGames$Crowd" "size" "I", Cond.fieldLink RX1 28 "SeaGames$Crowd" "least" "[I", Cond.fieldLink RX1 15 "SeaGames$Crowd" "mates" "[I", Cond.methodLink RX1 35 yX1_leastOf, Cond.instanceMethod yX1_leastOf, Cond.selects RX1 yX1_leastOf yX1_leastOf, Cond.initialized RX1, Cond.code yX1_leastOf cX1_leastOf 7 (some .int), Cond.constant RX1 56 (2147483647), Cond.methodLink RX1 60 Lib.Math.min.name, Cond.static Lib.Math.min.name, Cond.initialized "java/lang/Math", Cond.code Lib.Math.min.name Lib.Math.min.code 2 (some .int), Cond.methodLink RX1 48 yX1_firstOf, Cond.instanceMethod yX1_firstOf, Cond.selects RX1 yX1_firstOf yX1_firstOf, Cond.code yX1_firstOf cX1_firstOf 3 (some .int), Cond.methodLink RX1 51 yJ6_bitCount_0f7a4, Cond.static yJ6_bitCount_0f7a4, Cond.initialized RJ6, Cond.code yJ6_bitCount_0f7a4 cJ6_bitCount_0f7a4 1 (some .int), Cond.constant RJ6 265 (1431655765), Cond.constant RJ6 266 (858993459)]
def wsX1_pairUp_r2 : List Cond := [Cond.constant RJ6 267 (252645135), Cond.methodLink RX1 57 yX1_costOfPair, Cond.instanceMethod yX1_costOfPair, Cond.selects RX1 yX1_costOfPair yX1_costOfPair, Cond.code yX1_costOfPair cX1_costOfPair 3 (some .int), Cond.fieldLink RX1 19 "SeaGames$Crowd" "skills" "[I", Cond.methodLink RX1 43 Lib.Math.abs.name, Cond.static Lib.Math.abs.name, Cond.code Lib.Math.abs.name Lib.Math.abs.code 1 (some .int), Cond.fieldLink RX1 25 "SeaGames$Crowd" "fars" "[I", Cond.fieldLink RX1 22 "SeaGames$Crowd" "shores" "[I", Cond.methodLink RX1 39 yX1_leastMate, Cond.instanceMethod yX1_leastMate, Cond.selects RX1 yX1_leastMate yX1_leastMate, Cond.code yX1_leastMate cX1_leastMate 5 (some .int)]
def wsX1_pairUp : List Cond := .code yX1_pairUp cX1_pairUp 4 none :: ((wsX1_pairUp_r1 ++ wsX1_pairUp_r2) ++ wsX10)
def wsX2_init : List Cond := .code yX2_init cX2_init 1 none :: ([.methodLink RX2 3 objectInit, .instanceMethod objectInit, .code objectInit ⟨#[0xb1]⟩ 1 none, .fieldLink RX2 9 "SeaGames$Deal" "above" "J", .fieldLink RX2 15 "SeaGames$Deal" "below" "J", .arrayClass .long, .fieldLink RX2 18 "SeaGames$Deal" "amongHits" "[J", .fieldLink RX2 22 "SeaGames$Deal" "amongOthers" "[J"] ++ wsX20)
def wsJ7_fill_d0a16 : List Cond := .code yJ7_fill_d0a16 cJ7_fill_d0a16 5 none :: ([])
def wsX2_fillChoices : List Cond := .code yX2_fillChoices cX2_fillChoices 4 none :: ([.methodLink RX2 42 yJ7_fill_d0a16, .static yJ7_fill_d0a16, .initialized RJ7, .code yJ7_fill_d0a16 cJ7_fill_d0a16 5 none])
def wsX2_commonOf : List Cond := .code yX2_commonOf cX2_commonOf 11 (some .long) :: ([])
def wsX2_reckon : List Cond := .code yX2_reckon cX2_reckon 12 none :: ([.fieldLink RX2 18 "SeaGames$Deal" "amongHits" "[J", .fieldLink RX2 22 "SeaGames$Deal" "amongOthers" "[J", .methodLink RX2 29 Lib.Math.max.name, .static Lib.Math.max.name, .initialized "java/lang/Math", .code Lib.Math.max.name Lib.Math.max.code 2 (some .int), .methodLink RX2 35 Lib.Math.min.name, .static Lib.Math.min.name, .code Lib.Math.min.name Lib.Math.min.code 2 (some .int), .fieldLink RX2 9 "SeaGames$Deal" "above" "J", .fieldLink RX2 15 "SeaGames$Deal" "below" "J", .methodLink RX2 25 yX2_fillChoices, .static yX2_fillChoices, .initialized RX2, .code yX2_fillChoices cX2_fillChoices 4 none, .methodLink RX2 42 yJ7_fill_d0a16, .static yJ7_fill_d0a16, .initialized RJ7, .code yJ7_fill_d0a16 cJ7_fill_d0a16 5 none, .methodLink RX2 38 yX2_commonOf, .static yX2_commonOf, .code yX2_commonOf cX2_commonOf 11 (some .long)] ++ wsX20)
def wsX3_init : List Cond := .code yX3_init cX3_init 1 none :: ([.methodLink RX3 3 objectInit, .instanceMethod objectInit, .code objectInit ⟨#[0xb1]⟩ 1 none, .arrayClass .int, .fieldLink RX3 9 "SeaGames$Fog" "masks" "[I"] ++ wsX30)
def wsX3_setOnly : List Cond := .code yX3_setOnly cX3_setOnly 2 none :: ([.fieldLink RX3 9 "SeaGames$Fog" "masks" "[I", .methodLink RX3 15 yJ7_fill_53178, .static yJ7_fill_53178, .initialized RJ7, .code yJ7_fill_53178 cJ7_fill_53178 4 none, .static yX7_yOf, .initialized RX7, .code yX7_yOf cX7_yOf 1 (some .int), .static yX7_xOf, .code yX7_xOf cX7_xOf 1 (some .int)] ++ wsX30)
def wsX3_has : List Cond := .code yX3_has cX3_has 2 (some .boolean) :: ([.fieldLink RX3 9 "SeaGames$Fog" "masks" "[I", .static yX7_yOf, .initialized RX7, .code yX7_yOf cX7_yOf 1 (some .int), .static yX7_xOf, .code yX7_xOf cX7_xOf 1 (some .int)] ++ wsX30)
def wsX3_size : List Cond := .code yX3_size cX3_size 4 (some .int) :: ([.fieldLink RX3 9 "SeaGames$Fog" "masks" "[I", .methodLink RX3 28 yJ6_bitCount_0f7a4, .static yJ6_bitCount_0f7a4, .initialized RJ6, .code yJ6_bitCount_0f7a4 cJ6_bitCount_0f7a4 1 (some .int), .constant RJ6 265 (1431655765), .constant RJ6 266 (858993459), .constant RJ6 267 (252645135)] ++ wsX30)
def wsX3_spread : List Cond := .code yX3_spread cX3_spread 8 none :: ([.fieldLink RX3 9 "SeaGames$Fog" "masks" "[I"] ++ wsX30)
def wsX3_removeSeen : List Cond := .code yX3_removeSeen cX3_removeSeen 8 none :: ([.methodLink RX3 33 Lib.Math.abs.name, .static Lib.Math.abs.name, .initialized "java/lang/Math", .code Lib.Math.abs.name Lib.Math.abs.code 1 (some .int), .methodLink RX3 38 Lib.Math.max.name, .static Lib.Math.max.name, .code Lib.Math.max.name Lib.Math.max.code 2 (some .int), .fieldLink RX3 9 "SeaGames$Fog" "masks" "[I", .static yX7_yOf, .initialized RX7, .code yX7_yOf cX7_yOf 1 (some .int), .static yX7_xOf, .code yX7_xOf cX7_xOf 1 (some .int)] ++ wsX30)
def wsX4_init : List Cond := .code yX4_init cX4_init 2 none :: ([.methodLink RX4 3 objectInit, .instanceMethod objectInit, .code objectInit ⟨#[0xb1]⟩ 1 none, .arrayClass .int, .fieldLink RX4 9 "SeaGames$Lines" "waits" "[I", .arrayClass .boolean, .fieldLink RX4 15 "SeaGames$Lines" "lostRow" "[Z", .fieldLink RX4 19 "SeaGames$Lines" "play" "LSeaGames$Play;"] ++ wsX40)
def wsX4_clear : List Cond := .code yX4_clear cX4_clear 2 none :: ([.fieldLink RX4 9 "SeaGames$Lines" "waits" "[I", .fieldLink RX4 15 "SeaGames$Lines" "lostRow" "[Z", .methodLink RX4 23 yJ7_fill_53178, .static yJ7_fill_53178, .initialized RJ7, .code yJ7_fill_53178 cJ7_fill_53178 4 none] ++ wsX40)
def wsX4_waitOf : List Cond := .code yX4_waitOf cX4_waitOf 3 (some .int) :: ([.fieldLink RX4 9 "SeaGames$Lines" "waits" "[I"] ++ wsX40)
def wsX4_setWait : List Cond := .code yX4_setWait cX4_setWait 4 none :: ([.fieldLink RX4 9 "SeaGames$Lines" "waits" "[I"] ++ wsX40)
def wsX4_isLost : List Cond := .code yX4_isLost cX4_isLost 3 (some .boolean) :: ([.fieldLink RX4 15 "SeaGames$Lines" "lostRow" "[Z"] ++ wsX40)
def wsX4_setLost : List Cond := .code yX4_setLost cX4_setLost 4 none :: ([.fieldLink RX4 15 "SeaGames$Lines" "lostRow" "[Z"] ++ wsX40)
def wsX4_lostOnes : List Cond := .code yX4_lostOnes cX4_lostOnes 3 (some .int) :: ([.fieldLink RX4 19 "SeaGames$Lines" "play" "LSeaGames$Play;", .fieldLink RX4 29 "SeaGames$Play" "hands" "I", .fieldLink RX4 15 "SeaGames$Lines" "lostRow" "[Z"] ++ wsX40 ++ wsX50)
def wsX4_clockOf : List Cond := .code yX4_clockOf cX4_clockOf 7 (some .int) :: ([.fieldLink RX4 9 "SeaGames$Lines" "waits" "[I", .fieldLink RX4 15 "SeaGames$Lines" "lostRow" "[Z"] ++ wsX40)
def wsX4_isKnown : List Cond := .code yX4_isKnown cX4_isKnown 6 (some .boolean) :: ([.fieldLink RX4 19 "SeaGames$Lines" "play" "LSeaGames$Play;", .methodLink RX4 58 yX5_isLeft, .instanceMethod yX5_isLeft, .selects RX5 yX5_isLeft yX5_isLeft, .initialized RX5, .code yX5_isLeft cX5_isLeft 3 (some .boolean), .fieldLink RX5 28 "SeaGames$Play" "leftFrom" "[I", .fieldLink RX5 31 "SeaGames$Play" "leftTo" "[I", .methodLink RX4 62 yX4_clockOf, .instanceMethod yX4_clockOf, .selects RX4 yX4_clockOf yX4_clockOf, .initialized RX4, .code yX4_clockOf cX4_clockOf 7 (some .int), .fieldLink RX4 9 "SeaGames$Lines" "waits" "[I", .fieldLink RX4 15 "SeaGames$Lines" "lostRow" "[Z"] ++ wsX40 ++ wsX50)
def wsX4_allKnown : List Cond := .code yX4_allKnown cX4_allKnown 6 (some .boolean) :: ([.fieldLink RX4 19 "SeaGames$Lines" "play" "LSeaGames$Play;", .fieldLink RX4 29 "SeaGames$Play" "hands" "I", .methodLink RX4 35 yX4_isKnown, .instanceMethod yX4_isKnown, .selects RX4 yX4_isKnown yX4_isKnown, .initialized RX4, .code yX4_isKnown cX4_isKnown 6 (some .boolean), .methodLink RX4 58 yX5_isLeft, .instanceMethod yX5_isLeft, .selects RX5 yX5_isLeft yX5_isLeft, .initialized RX5, .code yX5_isLeft cX5_isLeft 3 (some .boolean), .fieldLink RX5 28 "SeaGames$Play" "leftFrom" "[I", .fieldLink RX5 31 "SeaGames$Play" "leftTo" "[I", .methodLink RX4 62 yX4_clockOf, .instanceMethod yX4_clockOf, .selects RX4 yX4_clockOf yX4_clockOf, .code yX4_clockOf cX4_clockOf 7 (some .int), .fieldLink RX4 9 "SeaGames$Lines" "waits" "[I", .fieldLink RX4 15 "SeaGames$Lines" "lostRow" "[Z"] ++ wsX40 ++ wsX50)
def wsX5_pressOf : List Cond := .code yX5_pressOf cX5_pressOf 3 (some .int) :: ([.fieldLink RX5 25 "SeaGames$Play" "pressRow" "[I"] ++ wsX50)
def wsX4_guessed : List Cond := .code yX4_guessed cX4_guessed 7 (some .int) :: ([.fieldLink RX4 19 "SeaGames$Lines" "play" "LSeaGames$Play;", .methodLink RX4 35 yX4_isKnown, .instanceMethod yX4_isKnown, .selects RX4 yX4_isKnown yX4_isKnown, .initialized RX4, .code yX4_isKnown cX4_isKnown 6 (some .boolean), .methodLink RX4 58 yX5_isLeft, .instanceMethod yX5_isLeft, .selects RX5 yX5_isLeft yX5_isLeft, .initialized RX5, .code yX5_isLeft cX5_isLeft 3 (some .boolean), .fieldLink RX5 28 "SeaGames$Play" "leftFrom" "[I", .fieldLink RX5 31 "SeaGames$Play" "leftTo" "[I", .methodLink RX4 62 yX4_clockOf, .instanceMethod yX4_clockOf, .selects RX4 yX4_clockOf yX4_clockOf, .code yX4_clockOf cX4_clockOf 7 (some .int), .fieldLink RX4 9 "SeaGames$Lines" "waits" "[I", .fieldLink RX4 15 "SeaGames$Lines" "lostRow" "[Z", .methodLink RX4 39 yX5_pressOf, .instanceMethod yX5_pressOf, .selects RX5 yX5_pressOf yX5_pressOf, .code yX5_pressOf cX5_pressOf 3 (some .int), .fieldLink RX5 25 "SeaGames$Play" "pressRow" "[I"] ++ wsX40 ++ wsX50)
def wsX4_taken_r1 : List Cond := [Cond.fieldLink RX4 19 "SeaGames$Lines" "play" "LSeaGames$Play;", Cond.methodLink RX4 35 yX4_isKnown, Cond.instanceMethod yX4_isKnown, Cond.selects RX4 yX4_isKnown yX4_isKnown, Cond.initialized RX4, Cond.code yX4_isKnown cX4_isKnown 6 (some .boolean), Cond.methodLink RX4 58 yX5_isLeft, Cond.instanceMethod yX5_isLeft, Cond.selects RX5 yX5_isLeft yX5_isLeft, Cond.initialized RX5, Cond.code yX5_isLeft cX5_isLeft 3 (some .boolean), Cond.fieldLink RX5 28 "SeaGames$Play" "leftFrom" "[I", Cond.fieldLink RX5 31 "SeaGames$Play" "leftTo" "[I", Cond.methodLink RX4 62 yX4_clockOf, Cond.instanceMethod yX4_clockOf, Cond.selects RX4 yX4_clockOf yX4_clockOf, Cond.code yX4_clockOf cX4_clockOf 7 (some .int), Cond.fieldLink RX4 9 "SeaGames$Lines" "waits" "[I", Cond.fieldLink RX4 15 "SeaGames$Lines" "lostRow" "[Z", Cond.methodLink RX4 39 yX5_pressOf, Cond.instanceMethod yX5_pressOf, Cond.selects RX5 yX5_pressOf yX5_pressOf, Cond.code yX5_pressOf cX5_pressOf 3 (some .int), Cond.fieldLink RX5 25 "SeaGames$Play" "pressRow" "[I"]
def wsX4_taken_r2 : List Cond := [Cond.methodLink RX4 43 yX4_guessed, Cond.instanceMethod yX4_guessed, Cond.selects RX4 yX4_guessed yX4_guessed, Cond.code yX4_guessed cX4_guessed 7 (some .int)]
def wsX4_taken : List Cond := .code yX4_taken cX4_taken 6 (some .int) :: ((wsX4_taken_r1 ++ wsX4_taken_r2) ++ wsX40 ++ wsX50)
def wsX4_backBy_r1 : List Cond := [Cond.fieldLink RX4 19 "SeaGames$Lines" "play" "LSeaGames$Play;", Cond.methodLink RX4 58 yX5_isLeft, Cond.instanceMethod yX5_isLeft, Cond.selects RX5 yX5_isLeft yX5_isLeft, Cond.initialized RX5, Cond.code yX5_isLeft cX5_isLeft 3 (some .boolean), Cond.fieldLink RX5 28 "SeaGames$Play" "leftFrom" "[I", Cond.fieldLink RX5 31 "SeaGames$Play" "leftTo" "[I", Cond.methodLink RX4 62 yX4_clockOf, Cond.instanceMethod yX4_clockOf, Cond.selects RX4 yX4_clockOf yX4_clockOf, Cond.initialized RX4, Cond.code yX4_clockOf cX4_clockOf 7 (some .int), Cond.fieldLink RX4 9 "SeaGames$Lines" "waits" "[I", Cond.fieldLink RX4 15 "SeaGames$Lines" "lostRow" "[Z", Cond.methodLink RX4 43 yX4_guessed, Cond.instanceMethod yX4_guessed, Cond.selects RX4 yX4_guessed yX4_guessed, Cond.code yX4_guessed cX4_guessed 7 (some .int), Cond.methodLink RX4 35 yX4_isKnown, Cond.instanceMethod yX4_isKnown, Cond.selects RX4 yX4_isKnown yX4_isKnown, Cond.code yX4_isKnown cX4_isKnown 6 (some .boolean), Cond.methodLink RX4 39 yX5_pressOf]
def wsX4_backBy_r2 : List Cond := [Cond.instanceMethod yX5_pressOf, Cond.selects RX5 yX5_pressOf yX5_pressOf, Cond.code yX5_pressOf cX5_pressOf 3 (some .int), Cond.fieldLink RX5 25 "SeaGames$Play" "pressRow" "[I"]
def wsX4_backBy : List Cond := .code yX4_backBy cX4_backBy 7 (some .int) :: ((wsX4_backBy_r1 ++ wsX4_backBy_r2) ++ wsX40 ++ wsX50)
def wsX4_goneBack_r1 : List Cond := [Cond.fieldLink RX4 19 "SeaGames$Lines" "play" "LSeaGames$Play;", Cond.fieldLink RX4 29 "SeaGames$Play" "hands" "I", Cond.methodLink RX4 53 Lib.Math.max.name, Cond.static Lib.Math.max.name, Cond.initialized "java/lang/Math", Cond.code Lib.Math.max.name Lib.Math.max.code 2 (some .int), Cond.methodLink RX4 47 yX4_waitOf, Cond.instanceMethod yX4_waitOf, Cond.selects RX4 yX4_waitOf yX4_waitOf, Cond.initialized RX4, Cond.code yX4_waitOf cX4_waitOf 3 (some .int), Cond.fieldLink RX4 9 "SeaGames$Lines" "waits" "[I", Cond.methodLink RX4 50 yX4_backBy, Cond.instanceMethod yX4_backBy, Cond.selects RX4 yX4_backBy yX4_backBy, Cond.code yX4_backBy cX4_backBy 7 (some .int), Cond.methodLink RX4 58 yX5_isLeft, Cond.instanceMethod yX5_isLeft, Cond.selects RX5 yX5_isLeft yX5_isLeft, Cond.initialized RX5, Cond.code yX5_isLeft cX5_isLeft 3 (some .boolean), Cond.fieldLink RX5 28 "SeaGames$Play" "leftFrom" "[I", Cond.fieldLink RX5 31 "SeaGames$Play" "leftTo" "[I", Cond.methodLink RX4 62 yX4_clockOf]
def wsX4_goneBack_r2 : List Cond := [Cond.instanceMethod yX4_clockOf, Cond.selects RX4 yX4_clockOf yX4_clockOf, Cond.code yX4_clockOf cX4_clockOf 7 (some .int), Cond.fieldLink RX4 15 "SeaGames$Lines" "lostRow" "[Z", Cond.methodLink RX4 43 yX4_guessed, Cond.instanceMethod yX4_guessed, Cond.selects RX4 yX4_guessed yX4_guessed, Cond.code yX4_guessed cX4_guessed 7 (some .int), Cond.methodLink RX4 35 yX4_isKnown, Cond.instanceMethod yX4_isKnown, Cond.selects RX4 yX4_isKnown yX4_isKnown, Cond.code yX4_isKnown cX4_isKnown 6 (some .boolean), Cond.methodLink RX4 39 yX5_pressOf, Cond.instanceMethod yX5_pressOf, Cond.selects RX5 yX5_pressOf yX5_pressOf, Cond.code yX5_pressOf cX5_pressOf 3 (some .int), Cond.fieldLink RX5 25 "SeaGames$Play" "pressRow" "[I"]
def wsX4_goneBack : List Cond := .code yX4_goneBack cX4_goneBack 8 (some .int) :: ((wsX4_goneBack_r1 ++ wsX4_goneBack_r2) ++ wsX40 ++ wsX50)
def wsX5_init : List Cond := .code yX5_init cX5_init 1 none :: ([.methodLink RX5 3 objectInit, .instanceMethod objectInit, .code objectInit ⟨#[0xb1]⟩ 1 none, .fieldLink RX5 9 "SeaGames$Play" "w" "I", .fieldLink RX5 15 "SeaGames$Play" "h" "I", .fieldLink RX5 18 "SeaGames$Play" "hands" "I", .arrayClass .int, .fieldLink RX5 21 "SeaGames$Play" "rules" "[I", .fieldLink RX5 25 "SeaGames$Play" "pressRow" "[I", .fieldLink RX5 28 "SeaGames$Play" "leftFrom" "[I", .fieldLink RX5 31 "SeaGames$Play" "leftTo" "[I"] ++ wsX50)
def wsX5_clear : List Cond := .code yX5_clear cX5_clear 4 none :: ([.fieldLink RX5 9 "SeaGames$Play" "w" "I", .fieldLink RX5 15 "SeaGames$Play" "h" "I", .fieldLink RX5 18 "SeaGames$Play" "hands" "I", .fieldLink RX5 25 "SeaGames$Play" "pressRow" "[I", .fieldLink RX5 28 "SeaGames$Play" "leftFrom" "[I", .fieldLink RX5 31 "SeaGames$Play" "leftTo" "[I", .methodLink RX5 34 yJ7_fill_53178, .static yJ7_fill_53178, .initialized RJ7, .code yJ7_fill_53178 cJ7_fill_53178 4 none] ++ wsX50)
def wsX5_copyFrom : List Cond := .code yX5_copyFrom cX5_copyFrom 2 none :: ([.fieldLink RX5 9 "SeaGames$Play" "w" "I", .fieldLink RX5 15 "SeaGames$Play" "h" "I", .fieldLink RX5 18 "SeaGames$Play" "hands" "I", .fieldLink RX5 21 "SeaGames$Play" "rules" "[I", .methodLink RX5 40 arraycopyName, .native arraycopyName, .static arraycopyName, .initialized "java/lang/System", .fieldLink RX5 25 "SeaGames$Play" "pressRow" "[I", .fieldLink RX5 28 "SeaGames$Play" "leftFrom" "[I", .fieldLink RX5 31 "SeaGames$Play" "leftTo" "[I"] ++ wsX50)
def wsX5_setPress : List Cond := .code yX5_setPress cX5_setPress 4 none :: ([.fieldLink RX5 25 "SeaGames$Play" "pressRow" "[I"] ++ wsX50)
def wsX5_fillPresses : List Cond := .code yX5_fillPresses cX5_fillPresses 4 none :: ([.fieldLink RX5 18 "SeaGames$Play" "hands" "I", .methodLink RX5 46 yX5_pressOf, .instanceMethod yX5_pressOf, .selects RX5 yX5_pressOf yX5_pressOf, .initialized RX5, .code yX5_pressOf cX5_pressOf 3 (some .int), .fieldLink RX5 25 "SeaGames$Play" "pressRow" "[I"] ++ wsX50)
def wsX5_pressed : List Cond := .code yX5_pressed cX5_pressed 3 (some .int) :: ([.fieldLink RX5 18 "SeaGames$Play" "hands" "I", .fieldLink RX5 25 "SeaGames$Play" "pressRow" "[I"] ++ wsX50)
def wsX5_leftTicks : List Cond := .code yX5_leftTicks cX5_leftTicks 3 (some .int) :: ([.fieldLink RX5 18 "SeaGames$Play" "hands" "I", .fieldLink RX5 31 "SeaGames$Play" "leftTo" "[I", .fieldLink RX5 28 "SeaGames$Play" "leftFrom" "[I"] ++ wsX50)
def wsX6_init : List Cond := .code yX6_init cX6_init 1 none :: ([.methodLink RX6 3 objectInit, .instanceMethod objectInit, .code objectInit ⟨#[0xb1]⟩ 1 none, .arrayClass .int, .fieldLink RX6 9 "SeaGames$Track" "rows" "[I", .fieldLink RX6 15 "SeaGames$Track" "ready" "I"] ++ wsX60)
def wsX6_keepBelow : List Cond := .code yX6_keepBelow cX6_keepBelow 2 none :: ([.fieldLink RX6 15 "SeaGames$Track" "ready" "I", .methodLink RX6 19 Lib.Math.min.name, .static Lib.Math.min.name, .initialized "java/lang/Math", .code Lib.Math.min.name Lib.Math.min.code 2 (some .int)] ++ wsX60)
def wsX6_at : List Cond := .code yX6_at cX6_at 3 (some .int) :: ([.fieldLink RX6 9 "SeaGames$Track" "rows" "[I"] ++ wsX60)
def wsX6_save : List Cond := .code yX6_save cX6_save 3 none :: ([.fieldLink RX6 25 "SeaGames$Board" "now" "[I", .fieldLink RX6 9 "SeaGames$Track" "rows" "[I", .methodLink RX6 30 arraycopyName, .native arraycopyName, .static arraycopyName, .initialized "java/lang/System"] ++ wsX00 ++ wsX60)
def wsX6_load : List Cond := .code yX6_load cX6_load 3 none :: ([.fieldLink RX6 9 "SeaGames$Track" "rows" "[I", .fieldLink RX6 25 "SeaGames$Board" "now" "[I", .methodLink RX6 30 arraycopyName, .native arraycopyName, .static arraycopyName, .initialized "java/lang/System"] ++ wsX60 ++ wsX00)
def wsX6_isLike : List Cond := .code yX6_isLike cX6_isLike 4 (some .boolean) :: ([.fieldLink RX6 9 "SeaGames$Track" "rows" "[I"] ++ wsX60)
def wsX7_init_r1 : List Cond := [Cond.methodLink RX7 1 objectInit, Cond.instanceMethod objectInit, Cond.code objectInit ⟨#[0xb1]⟩ 1 none, Cond.classLink RX7 7 RX5, Cond.instantiable RX5 7, Cond.initialized RX5, Cond.fieldLink RX7 10 "SeaGames" "play" "LSeaGames$Play;", Cond.classLink RX7 16 RX4, Cond.instantiable RX4 3, Cond.initialized RX4, Cond.fieldLink RX7 21 "SeaGames" "lines" "LSeaGames$Lines;", Cond.classLink RX7 25 RX6, Cond.instantiable RX6 2, Cond.initialized RX6, Cond.fieldLink RX7 28 "SeaGames" "truth" "LSeaGames$Track;", Cond.fieldLink RX7 32 "SeaGames" "glassTrack" "LSeaGames$Track;", Cond.classLink RX7 35 RX0, Cond.instantiable RX0 1, Cond.initialized RX0, Cond.fieldLink RX7 38 "SeaGames" "board" "LSeaGames$Board;", Cond.fieldLink RX7 42 "SeaGames" "otherBoard" "LSeaGames$Board;", Cond.arrayClass .int, Cond.fieldLink RX7 45 "SeaGames" "presses" "[I", Cond.classLink RX7 49 RX3]
def wsX7_init_r2 : List Cond := [Cond.instantiable RX3 1, Cond.initialized RX3, Cond.fieldLink RX7 52 "SeaGames" "fog" "LSeaGames$Fog;", Cond.classLink RX7 56 RX1, Cond.instantiable RX1 7, Cond.initialized RX1, Cond.fieldLink RX7 59 "SeaGames" "crowd" "LSeaGames$Crowd;", Cond.classLink RX7 63 RX2, Cond.instantiable RX2 4, Cond.initialized RX2, Cond.fieldLink RX7 66 "SeaGames" "deal" "LSeaGames$Deal;", Cond.fieldLink RX7 70 "SeaGames" "slots" "[LSeaGames$Play;", Cond.arrayClass .boolean, Cond.fieldLink RX7 74 "SeaGames" "kept" "[Z", Cond.instanceMethod yX5_init, Cond.code yX5_init cX5_init 1 none, Cond.methodLink RX5 3 objectInit, Cond.fieldLink RX5 9 "SeaGames$Play" "w" "I", Cond.fieldLink RX5 15 "SeaGames$Play" "h" "I", Cond.fieldLink RX5 18 "SeaGames$Play" "hands" "I", Cond.fieldLink RX5 21 "SeaGames$Play" "rules" "[I", Cond.fieldLink RX5 25 "SeaGames$Play" "pressRow" "[I", Cond.fieldLink RX5 28 "SeaGames$Play" "leftFrom" "[I", Cond.fieldLink RX5 31 "SeaGames$Play" "leftTo" "[I"]
def wsX7_init_r3 : List Cond := [Cond.methodLink RX7 18 yX4_init, Cond.instanceMethod yX4_init, Cond.code yX4_init cX4_init 2 none, Cond.methodLink RX4 3 objectInit, Cond.fieldLink RX4 9 "SeaGames$Lines" "waits" "[I", Cond.fieldLink RX4 15 "SeaGames$Lines" "lostRow" "[Z", Cond.fieldLink RX4 19 "SeaGames$Lines" "play" "LSeaGames$Play;", Cond.instanceMethod yX6_init, Cond.code yX6_init cX6_init 1 none, Cond.methodLink RX6 3 objectInit, Cond.fieldLink RX6 9 "SeaGames$Track" "rows" "[I", Cond.fieldLink RX6 15 "SeaGames$Track" "ready" "I", Cond.instanceMethod yX0_init, Cond.code yX0_init cX0_init 1 none, Cond.methodLink RX0 3 objectInit, Cond.fieldLink RX0 9 "SeaGames$Board" "now" "[I", Cond.instanceMethod yX3_init, Cond.code yX3_init cX3_init 1 none, Cond.methodLink RX3 3 objectInit, Cond.fieldLink RX3 9 "SeaGames$Fog" "masks" "[I", Cond.instanceMethod yX1_init, Cond.code yX1_init cX1_init 1 none, Cond.methodLink RX1 3 objectInit, Cond.fieldLink RX1 9 "SeaGames$Crowd" "size" "I"]
def wsX7_init_r4 : List Cond := [Cond.fieldLink RX1 15 "SeaGames$Crowd" "mates" "[I", Cond.fieldLink RX1 19 "SeaGames$Crowd" "skills" "[I", Cond.fieldLink RX1 22 "SeaGames$Crowd" "shores" "[I", Cond.fieldLink RX1 25 "SeaGames$Crowd" "fars" "[I", Cond.fieldLink RX1 28 "SeaGames$Crowd" "least" "[I", Cond.fieldLink RX1 31 "SeaGames$Crowd" "paired" "Z", Cond.instanceMethod yX2_init, Cond.code yX2_init cX2_init 1 none, Cond.methodLink RX2 3 objectInit, Cond.fieldLink RX2 9 "SeaGames$Deal" "above" "J", Cond.fieldLink RX2 15 "SeaGames$Deal" "below" "J", Cond.arrayClass .long, Cond.fieldLink RX2 18 "SeaGames$Deal" "amongHits" "[J", Cond.fieldLink RX2 22 "SeaGames$Deal" "amongOthers" "[J"]
def wsX7_init : List Cond := .code yX7_init cX7_init 1 none :: ((wsX7_init_r1 ++ (wsX7_init_r2 ++ (wsX7_init_r3 ++ wsX7_init_r4))) ++ wsX50 ++ wsX70 ++ wsX40 ++ wsX60 ++ wsX00 ++ wsX30 ++ wsX10 ++ wsX20)
def wsX7_isSide : List Cond := .code yX7_isSide cX7_isSide 1 (some .boolean) :: ([])
def wsX7_field_r1 : List Cond := [Cond.fieldLink RX7 10 "SeaGames" "play" "LSeaGames$Play;", Cond.fieldLink RX7 21 "SeaGames" "lines" "LSeaGames$Lines;", Cond.fieldLink RX7 28 "SeaGames" "truth" "LSeaGames$Track;", Cond.methodLink RX7 78 yX7_isSide, Cond.static yX7_isSide, Cond.initialized RX7, Cond.code yX7_isSide cX7_isSide 1 (some .boolean), Cond.methodLink RX7 82 yX5_clear, Cond.instanceMethod yX5_clear, Cond.selects RX5 yX5_clear yX5_clear, Cond.initialized RX5, Cond.code yX5_clear cX5_clear 4 none, Cond.fieldLink RX5 9 "SeaGames$Play" "w" "I", Cond.fieldLink RX5 15 "SeaGames$Play" "h" "I", Cond.fieldLink RX5 18 "SeaGames$Play" "hands" "I", Cond.fieldLink RX5 25 "SeaGames$Play" "pressRow" "[I", Cond.fieldLink RX5 28 "SeaGames$Play" "leftFrom" "[I", Cond.fieldLink RX5 31 "SeaGames$Play" "leftTo" "[I", Cond.methodLink RX5 34 yJ7_fill_53178, Cond.static yJ7_fill_53178, Cond.initialized RJ7, Cond.code yJ7_fill_53178 cJ7_fill_53178 4 none, Cond.methodLink RX7 86 yX4_clear, Cond.instanceMethod yX4_clear]
def wsX7_field_r2 : List Cond := [Cond.selects RX4 yX4_clear yX4_clear, Cond.initialized RX4, Cond.code yX4_clear cX4_clear 2 none, Cond.fieldLink RX4 9 "SeaGames$Lines" "waits" "[I", Cond.fieldLink RX4 15 "SeaGames$Lines" "lostRow" "[Z", Cond.methodLink RX4 23 yJ7_fill_53178, Cond.methodLink RX7 88 yX6_keepBelow, Cond.instanceMethod yX6_keepBelow, Cond.selects RX6 yX6_keepBelow yX6_keepBelow, Cond.initialized RX6, Cond.code yX6_keepBelow cX6_keepBelow 2 none, Cond.fieldLink RX6 15 "SeaGames$Track" "ready" "I", Cond.methodLink RX6 19 Lib.Math.min.name, Cond.static Lib.Math.min.name, Cond.initialized "java/lang/Math", Cond.code Lib.Math.min.name Lib.Math.min.code 2 (some .int)]
def wsX7_field : List Cond := .code yX7_field cX7_field 4 (some .int) :: ((wsX7_field_r1 ++ wsX7_field_r2) ++ wsX70 ++ wsX50 ++ wsX40 ++ wsX60)
def wsX7_rule : List Cond := .code yX7_rule cX7_rule 4 (some .int) :: ([.fieldLink RX7 92 "SeaGames" "LEAST_RULE" "[I", .fieldLink RX7 95 "SeaGames" "MOST_RULE" "[I", .fieldLink RX7 10 "SeaGames" "play" "LSeaGames$Play;", .fieldLink RX7 98 "SeaGames$Play" "rules" "[I", .fieldLink RX7 28 "SeaGames" "truth" "LSeaGames$Track;", .methodLink RX7 88 yX6_keepBelow, .instanceMethod yX6_keepBelow, .selects RX6 yX6_keepBelow yX6_keepBelow, .initialized RX6, .code yX6_keepBelow cX6_keepBelow 2 none, .fieldLink RX6 15 "SeaGames$Track" "ready" "I", .methodLink RX6 19 Lib.Math.min.name, .static Lib.Math.min.name, .initialized "java/lang/Math", .code Lib.Math.min.name Lib.Math.min.code 2 (some .int)] ++ wsX70 ++ wsX50 ++ wsX60)
def wsX7_isHand : List Cond := .code yX7_isHand cX7_isHand 2 (some .boolean) :: ([.fieldLink RX7 10 "SeaGames" "play" "LSeaGames$Play;", .fieldLink RX7 123 "SeaGames$Play" "hands" "I"] ++ wsX70 ++ wsX50)
def wsX7_isTick : List Cond := .code yX7_isTick cX7_isTick 1 (some .boolean) :: ([])
def wsX7_isPress : List Cond := .code yX7_isPress cX7_isPress 1 (some .boolean) :: ([])
def wsX7_press_r1 : List Cond := [Cond.fieldLink RX7 10 "SeaGames" "play" "LSeaGames$Play;", Cond.fieldLink RX7 28 "SeaGames" "truth" "LSeaGames$Track;", Cond.methodLink RX7 101 yX7_isHand, Cond.instanceMethod yX7_isHand, Cond.selects RX7 yX7_isHand yX7_isHand, Cond.initialized RX7, Cond.code yX7_isHand cX7_isHand 2 (some .boolean), Cond.fieldLink RX7 123 "SeaGames$Play" "hands" "I", Cond.methodLink RX7 104 yX7_isTick, Cond.static yX7_isTick, Cond.code yX7_isTick cX7_isTick 1 (some .boolean), Cond.methodLink RX7 107 yX7_isPress, Cond.static yX7_isPress, Cond.code yX7_isPress cX7_isPress 1 (some .boolean), Cond.methodLink RX7 110 yX5_pressOf, Cond.instanceMethod yX5_pressOf, Cond.selects RX5 yX5_pressOf yX5_pressOf, Cond.initialized RX5, Cond.code yX5_pressOf cX5_pressOf 3 (some .int), Cond.fieldLink RX5 25 "SeaGames$Play" "pressRow" "[I", Cond.methodLink RX7 114 yX5_setPress, Cond.instanceMethod yX5_setPress, Cond.selects RX5 yX5_setPress yX5_setPress, Cond.code yX5_setPress cX5_setPress 4 none]
def wsX7_press_r2 : List Cond := [Cond.methodLink RX7 88 yX6_keepBelow, Cond.instanceMethod yX6_keepBelow, Cond.selects RX6 yX6_keepBelow yX6_keepBelow, Cond.initialized RX6, Cond.code yX6_keepBelow cX6_keepBelow 2 none, Cond.fieldLink RX6 15 "SeaGames$Track" "ready" "I", Cond.methodLink RX6 19 Lib.Math.min.name, Cond.static Lib.Math.min.name, Cond.initialized "java/lang/Math", Cond.code Lib.Math.min.name Lib.Math.min.code 2 (some .int)]
def wsX7_press : List Cond := .code yX7_press cX7_press 5 (some .int) :: ((wsX7_press_r1 ++ wsX7_press_r2) ++ wsX70 ++ wsX50 ++ wsX60)
def wsX7_hold_r1 : List Cond := [Cond.fieldLink RX7 10 "SeaGames" "play" "LSeaGames$Play;", Cond.fieldLink RX7 28 "SeaGames" "truth" "LSeaGames$Track;", Cond.methodLink RX7 101 yX7_isHand, Cond.instanceMethod yX7_isHand, Cond.selects RX7 yX7_isHand yX7_isHand, Cond.initialized RX7, Cond.code yX7_isHand cX7_isHand 2 (some .boolean), Cond.fieldLink RX7 123 "SeaGames$Play" "hands" "I", Cond.methodLink RX7 104 yX7_isTick, Cond.static yX7_isTick, Cond.code yX7_isTick cX7_isTick 1 (some .boolean), Cond.methodLink RX7 107 yX7_isPress, Cond.static yX7_isPress, Cond.code yX7_isPress cX7_isPress 1 (some .boolean), Cond.methodLink RX7 110 yX5_pressOf, Cond.instanceMethod yX5_pressOf, Cond.selects RX5 yX5_pressOf yX5_pressOf, Cond.initialized RX5, Cond.code yX5_pressOf cX5_pressOf 3 (some .int), Cond.fieldLink RX5 25 "SeaGames$Play" "pressRow" "[I", Cond.methodLink RX7 114 yX5_setPress, Cond.instanceMethod yX5_setPress, Cond.selects RX5 yX5_setPress yX5_setPress, Cond.code yX5_setPress cX5_setPress 4 none]
def wsX7_hold_r2 : List Cond := [Cond.methodLink RX7 88 yX6_keepBelow, Cond.instanceMethod yX6_keepBelow, Cond.selects RX6 yX6_keepBelow yX6_keepBelow, Cond.initialized RX6, Cond.code yX6_keepBelow cX6_keepBelow 2 none, Cond.fieldLink RX6 15 "SeaGames$Track" "ready" "I", Cond.methodLink RX6 19 Lib.Math.min.name, Cond.static Lib.Math.min.name, Cond.initialized "java/lang/Math", Cond.code Lib.Math.min.name Lib.Math.min.code 2 (some .int)]
def wsX7_hold : List Cond := .code yX7_hold cX7_hold 7 (some .int) :: ((wsX7_hold_r1 ++ wsX7_hold_r2) ++ wsX70 ++ wsX50 ++ wsX60)
def wsX7_leave : List Cond := .code yX7_leave cX7_leave 4 (some .int) :: ([.fieldLink RX7 10 "SeaGames" "play" "LSeaGames$Play;", .fieldLink RX7 117 "SeaGames$Play" "leftFrom" "[I", .fieldLink RX7 120 "SeaGames$Play" "leftTo" "[I", .fieldLink RX7 28 "SeaGames" "truth" "LSeaGames$Track;", .methodLink RX7 101 yX7_isHand, .instanceMethod yX7_isHand, .selects RX7 yX7_isHand yX7_isHand, .initialized RX7, .code yX7_isHand cX7_isHand 2 (some .boolean), .fieldLink RX7 123 "SeaGames$Play" "hands" "I", .methodLink RX7 88 yX6_keepBelow, .instanceMethod yX6_keepBelow, .selects RX6 yX6_keepBelow yX6_keepBelow, .initialized RX6, .code yX6_keepBelow cX6_keepBelow 2 none, .fieldLink RX6 15 "SeaGames$Track" "ready" "I", .methodLink RX6 19 Lib.Math.min.name, .static Lib.Math.min.name, .initialized "java/lang/Math", .code Lib.Math.min.name Lib.Math.min.code 2 (some .int)] ++ wsX70 ++ wsX50 ++ wsX60)
def wsX7_columnOf : List Cond := .code yX7_columnOf cX7_columnOf 2 (some .int) :: ([])
def wsX7_setBoardAhead_r1 : List Cond := [Cond.fieldLink RX7 38 "SeaGames" "board" "LSeaGames$Board;", Cond.fieldLink RX7 10 "SeaGames" "play" "LSeaGames$Play;", Cond.methodLink RX7 140 yX6_load, Cond.instanceMethod yX6_load, Cond.selects RX6 yX6_load yX6_load, Cond.initialized RX6, Cond.code yX6_load cX6_load 3 none, Cond.fieldLink RX6 9 "SeaGames$Track" "rows" "[I", Cond.fieldLink RX6 25 "SeaGames$Board" "now" "[I", Cond.methodLink RX6 30 arraycopyName, Cond.native arraycopyName, Cond.static arraycopyName, Cond.initialized "java/lang/System", Cond.methodLink RX7 267 yX0_start, Cond.instanceMethod yX0_start, Cond.selects RX0 yX0_start yX0_start, Cond.initialized RX0, Cond.code yX0_start cX0_start 3 none, Cond.fieldLink RX0 9 "SeaGames$Board" "now" "[I", Cond.fieldLink RX0 21 "SeaGames$Play" "hands" "I", Cond.fieldLink RX0 27 "SeaGames$Play" "w" "I", Cond.fieldLink RX0 34 "SeaGames$Play" "h" "I", Cond.methodLink RX0 15 yJ7_fill_53178, Cond.static yJ7_fill_53178]
def wsX7_setBoardAhead_r2 : List Cond := [Cond.initialized RJ7, Cond.code yJ7_fill_53178 cJ7_fill_53178 4 none, Cond.static yX7_spotOf, Cond.initialized RX7, Cond.code yX7_spotOf cX7_spotOf 5 (some .int)]
def wsX7_setBoardAhead : List Cond := .code yX7_setBoardAhead cX7_setBoardAhead 3 none :: ((wsX7_setBoardAhead_r1 ++ wsX7_setBoardAhead_r2) ++ wsX70 ++ wsX60 ++ wsX00 ++ wsX50)
def wsX7_playTrulyTo_r1 : List Cond := [Cond.fieldLink RX7 28 "SeaGames" "truth" "LSeaGames$Track;", Cond.fieldLink RX7 302 "SeaGames$Track" "ready" "I", Cond.fieldLink RX7 10 "SeaGames" "play" "LSeaGames$Play;", Cond.fieldLink RX7 45 "SeaGames" "presses" "[I", Cond.fieldLink RX7 38 "SeaGames" "board" "LSeaGames$Board;", Cond.fieldLink RX7 98 "SeaGames$Play" "rules" "[I", Cond.methodLink RX7 305 yX7_setBoardAhead, Cond.instanceMethod yX7_setBoardAhead, Cond.selects RX7 yX7_setBoardAhead yX7_setBoardAhead, Cond.initialized RX7, Cond.code yX7_setBoardAhead cX7_setBoardAhead 3 none, Cond.methodLink RX7 140 yX6_load, Cond.instanceMethod yX6_load, Cond.selects RX6 yX6_load yX6_load, Cond.initialized RX6, Cond.code yX6_load cX6_load 3 none, Cond.fieldLink RX6 9 "SeaGames$Track" "rows" "[I", Cond.fieldLink RX6 25 "SeaGames$Board" "now" "[I", Cond.methodLink RX6 30 arraycopyName, Cond.native arraycopyName, Cond.static arraycopyName, Cond.initialized "java/lang/System", Cond.methodLink RX7 267 yX0_start, Cond.instanceMethod yX0_start]
def wsX7_playTrulyTo_r2 : List Cond := [Cond.selects RX0 yX0_start yX0_start, Cond.initialized RX0, Cond.code yX0_start cX0_start 3 none, Cond.fieldLink RX0 9 "SeaGames$Board" "now" "[I", Cond.fieldLink RX0 21 "SeaGames$Play" "hands" "I", Cond.fieldLink RX0 27 "SeaGames$Play" "w" "I", Cond.fieldLink RX0 34 "SeaGames$Play" "h" "I", Cond.methodLink RX0 15 yJ7_fill_53178, Cond.static yJ7_fill_53178, Cond.initialized RJ7, Cond.code yJ7_fill_53178 cJ7_fill_53178 4 none, Cond.static yX7_spotOf, Cond.code yX7_spotOf cX7_spotOf 5 (some .int), Cond.methodLink RX7 270 yX5_fillPresses, Cond.instanceMethod yX5_fillPresses, Cond.selects RX5 yX5_fillPresses yX5_fillPresses, Cond.initialized RX5, Cond.code yX5_fillPresses cX5_fillPresses 4 none, Cond.fieldLink RX5 18 "SeaGames$Play" "hands" "I", Cond.methodLink RX5 46 yX5_pressOf, Cond.instanceMethod yX5_pressOf, Cond.selects RX5 yX5_pressOf yX5_pressOf, Cond.code yX5_pressOf cX5_pressOf 3 (some .int), Cond.fieldLink RX5 25 "SeaGames$Play" "pressRow" "[I"]
def wsX7_playTrulyTo_r3 : List Cond := [Cond.methodLink RX7 274 yX0_advance, Cond.instanceMethod yX0_advance, Cond.selects RX0 yX0_advance yX0_advance, Cond.code yX0_advance cX0_advance 7 none, Cond.methodLink RX0 37 yX5_isLeft, Cond.instanceMethod yX5_isLeft, Cond.selects RX5 yX5_isLeft yX5_isLeft, Cond.code yX5_isLeft cX5_isLeft 3 (some .boolean), Cond.fieldLink RX5 28 "SeaGames$Play" "leftFrom" "[I", Cond.fieldLink RX5 31 "SeaGames$Play" "leftTo" "[I", Cond.methodLink RX0 41 yX0_machinePress, Cond.instanceMethod yX0_machinePress, Cond.selects RX0 yX0_machinePress yX0_machinePress, Cond.code yX0_machinePress cX0_machinePress 4 (some .int), Cond.methodLink RX0 69 Lib.Math.abs.name, Cond.static Lib.Math.abs.name, Cond.initialized "java/lang/Math", Cond.code Lib.Math.abs.name Lib.Math.abs.code 1 (some .int), Cond.methodLink RX0 60 yX0_wayToBall, Cond.instanceMethod yX0_wayToBall, Cond.selects RX0 yX0_wayToBall yX0_wayToBall, Cond.code yX0_wayToBall cX0_wayToBall 3 (some .int), Cond.static yX7_xOf, Cond.code yX7_xOf cX7_xOf 1 (some .int)]
def wsX7_playTrulyTo_r4 : List Cond := [Cond.static yX7_yOf, Cond.code yX7_yOf cX7_yOf 1 (some .int), Cond.methodLink RX0 45 yX0_kick, Cond.instanceMethod yX0_kick, Cond.selects RX0 yX0_kick yX0_kick, Cond.code yX0_kick cX0_kick 7 none, Cond.methodLink RX0 81 yX0_moveBall, Cond.instanceMethod yX0_moveBall, Cond.selects RX0 yX0_moveBall yX0_moveBall, Cond.code yX0_moveBall cX0_moveBall 4 (some .boolean), Cond.methodLink RX0 77 yX0_isFree, Cond.instanceMethod yX0_isFree, Cond.selects RX0 yX0_isFree yX0_isFree, Cond.code yX0_isFree cX0_isFree 4 (some .boolean), Cond.methodLink RX0 49 yX0_go, Cond.instanceMethod yX0_go, Cond.selects RX0 yX0_go yX0_go, Cond.code yX0_go cX0_go 5 none, Cond.methodLink RX0 52 yX0_spinBall, Cond.instanceMethod yX0_spinBall, Cond.selects RX0 yX0_spinBall yX0_spinBall, Cond.code yX0_spinBall cX0_spinBall 4 none, Cond.fieldLink RX0 84 "SeaGames$Play" "rules" "[I", Cond.methodLink RX0 56 yX0_givePoint]
def wsX7_playTrulyTo_r5 : List Cond := [Cond.instanceMethod yX0_givePoint, Cond.selects RX0 yX0_givePoint yX0_givePoint, Cond.code yX0_givePoint cX0_givePoint 7 none, Cond.static yX7_distance, Cond.code yX7_distance cX7_distance 2 (some .int), Cond.methodLink RX7 299 Lib.Math.abs.name, Cond.methodLink RX7 296 yX7_xOf, Cond.methodLink RX7 293 yX7_yOf, Cond.methodLink RX7 309 yX6_save, Cond.instanceMethod yX6_save, Cond.selects RX6 yX6_save yX6_save, Cond.code yX6_save cX6_save 3 none]
def wsX7_playTrulyTo : List Cond := .code yX7_playTrulyTo cX7_playTrulyTo 4 none :: ((wsX7_playTrulyTo_r1 ++ (wsX7_playTrulyTo_r2 ++ (wsX7_playTrulyTo_r3 ++ (wsX7_playTrulyTo_r4 ++ wsX7_playTrulyTo_r5)))) ++ wsX70 ++ wsX60 ++ wsX50 ++ wsX00)
def wsX7_told : List Cond := .code yX7_told cX7_told 3 (some .int) :: ([.fieldLink RX7 209 "SeaGames$Play" "w" "I", .methodLink RX7 293 yX7_yOf, .static yX7_yOf, .initialized RX7, .code yX7_yOf cX7_yOf 1 (some .int), .methodLink RX7 296 yX7_xOf, .static yX7_xOf, .code yX7_xOf cX7_xOf 1 (some .int)] ++ wsX50)
def wsX7_truly_r1 : List Cond := [Cond.fieldLink RX7 10 "SeaGames" "play" "LSeaGames$Play;", Cond.fieldLink RX7 123 "SeaGames$Play" "hands" "I", Cond.fieldLink RX7 28 "SeaGames" "truth" "LSeaGames$Track;", Cond.methodLink RX7 104 yX7_isTick, Cond.static yX7_isTick, Cond.initialized RX7, Cond.code yX7_isTick cX7_isTick 1 (some .boolean), Cond.methodLink RX7 127 yX7_columnOf, Cond.static yX7_columnOf, Cond.code yX7_columnOf cX7_columnOf 2 (some .int), Cond.methodLink RX7 130 yX7_playTrulyTo, Cond.instanceMethod yX7_playTrulyTo, Cond.selects RX7 yX7_playTrulyTo yX7_playTrulyTo, Cond.code yX7_playTrulyTo cX7_playTrulyTo 4 none, Cond.fieldLink RX7 302 "SeaGames$Track" "ready" "I", Cond.fieldLink RX7 45 "SeaGames" "presses" "[I", Cond.fieldLink RX7 38 "SeaGames" "board" "LSeaGames$Board;", Cond.fieldLink RX7 98 "SeaGames$Play" "rules" "[I", Cond.methodLink RX7 305 yX7_setBoardAhead, Cond.instanceMethod yX7_setBoardAhead, Cond.selects RX7 yX7_setBoardAhead yX7_setBoardAhead, Cond.code yX7_setBoardAhead cX7_setBoardAhead 3 none, Cond.methodLink RX7 140 yX6_load, Cond.instanceMethod yX6_load]
def wsX7_truly_r2 : List Cond := [Cond.selects RX6 yX6_load yX6_load, Cond.initialized RX6, Cond.code yX6_load cX6_load 3 none, Cond.fieldLink RX6 9 "SeaGames$Track" "rows" "[I", Cond.fieldLink RX6 25 "SeaGames$Board" "now" "[I", Cond.methodLink RX6 30 arraycopyName, Cond.native arraycopyName, Cond.static arraycopyName, Cond.initialized "java/lang/System", Cond.methodLink RX7 267 yX0_start, Cond.instanceMethod yX0_start, Cond.selects RX0 yX0_start yX0_start, Cond.initialized RX0, Cond.code yX0_start cX0_start 3 none, Cond.fieldLink RX0 9 "SeaGames$Board" "now" "[I", Cond.fieldLink RX0 21 "SeaGames$Play" "hands" "I", Cond.fieldLink RX0 27 "SeaGames$Play" "w" "I", Cond.fieldLink RX0 34 "SeaGames$Play" "h" "I", Cond.methodLink RX0 15 yJ7_fill_53178, Cond.static yJ7_fill_53178, Cond.initialized RJ7, Cond.code yJ7_fill_53178 cJ7_fill_53178 4 none, Cond.static yX7_spotOf, Cond.code yX7_spotOf cX7_spotOf 5 (some .int)]
def wsX7_truly_r3 : List Cond := [Cond.methodLink RX7 270 yX5_fillPresses, Cond.instanceMethod yX5_fillPresses, Cond.selects RX5 yX5_fillPresses yX5_fillPresses, Cond.initialized RX5, Cond.code yX5_fillPresses cX5_fillPresses 4 none, Cond.fieldLink RX5 18 "SeaGames$Play" "hands" "I", Cond.methodLink RX5 46 yX5_pressOf, Cond.instanceMethod yX5_pressOf, Cond.selects RX5 yX5_pressOf yX5_pressOf, Cond.code yX5_pressOf cX5_pressOf 3 (some .int), Cond.fieldLink RX5 25 "SeaGames$Play" "pressRow" "[I", Cond.methodLink RX7 274 yX0_advance, Cond.instanceMethod yX0_advance, Cond.selects RX0 yX0_advance yX0_advance, Cond.code yX0_advance cX0_advance 7 none, Cond.methodLink RX0 37 yX5_isLeft, Cond.instanceMethod yX5_isLeft, Cond.selects RX5 yX5_isLeft yX5_isLeft, Cond.code yX5_isLeft cX5_isLeft 3 (some .boolean), Cond.fieldLink RX5 28 "SeaGames$Play" "leftFrom" "[I", Cond.fieldLink RX5 31 "SeaGames$Play" "leftTo" "[I", Cond.methodLink RX0 41 yX0_machinePress, Cond.instanceMethod yX0_machinePress, Cond.selects RX0 yX0_machinePress yX0_machinePress]
def wsX7_truly_r4 : List Cond := [Cond.code yX0_machinePress cX0_machinePress 4 (some .int), Cond.methodLink RX0 69 Lib.Math.abs.name, Cond.static Lib.Math.abs.name, Cond.initialized "java/lang/Math", Cond.code Lib.Math.abs.name Lib.Math.abs.code 1 (some .int), Cond.methodLink RX0 60 yX0_wayToBall, Cond.instanceMethod yX0_wayToBall, Cond.selects RX0 yX0_wayToBall yX0_wayToBall, Cond.code yX0_wayToBall cX0_wayToBall 3 (some .int), Cond.static yX7_xOf, Cond.code yX7_xOf cX7_xOf 1 (some .int), Cond.static yX7_yOf, Cond.code yX7_yOf cX7_yOf 1 (some .int), Cond.methodLink RX0 45 yX0_kick, Cond.instanceMethod yX0_kick, Cond.selects RX0 yX0_kick yX0_kick, Cond.code yX0_kick cX0_kick 7 none, Cond.methodLink RX0 81 yX0_moveBall, Cond.instanceMethod yX0_moveBall, Cond.selects RX0 yX0_moveBall yX0_moveBall, Cond.code yX0_moveBall cX0_moveBall 4 (some .boolean), Cond.methodLink RX0 77 yX0_isFree, Cond.instanceMethod yX0_isFree, Cond.selects RX0 yX0_isFree yX0_isFree]
def wsX7_truly_r5 : List Cond := [Cond.code yX0_isFree cX0_isFree 4 (some .boolean), Cond.methodLink RX0 49 yX0_go, Cond.instanceMethod yX0_go, Cond.selects RX0 yX0_go yX0_go, Cond.code yX0_go cX0_go 5 none, Cond.methodLink RX0 52 yX0_spinBall, Cond.instanceMethod yX0_spinBall, Cond.selects RX0 yX0_spinBall yX0_spinBall, Cond.code yX0_spinBall cX0_spinBall 4 none, Cond.fieldLink RX0 84 "SeaGames$Play" "rules" "[I", Cond.methodLink RX0 56 yX0_givePoint, Cond.instanceMethod yX0_givePoint, Cond.selects RX0 yX0_givePoint yX0_givePoint, Cond.code yX0_givePoint cX0_givePoint 7 none, Cond.static yX7_distance, Cond.code yX7_distance cX7_distance 2 (some .int), Cond.methodLink RX7 299 Lib.Math.abs.name, Cond.methodLink RX7 296 yX7_xOf, Cond.methodLink RX7 293 yX7_yOf, Cond.methodLink RX7 309 yX6_save, Cond.instanceMethod yX6_save, Cond.selects RX6 yX6_save yX6_save, Cond.code yX6_save cX6_save 3 none, Cond.methodLink RX7 133 yX6_at]
def wsX7_truly_r6 : List Cond := [Cond.instanceMethod yX6_at, Cond.selects RX6 yX6_at yX6_at, Cond.code yX6_at cX6_at 3 (some .int), Cond.methodLink RX7 136 yX7_told, Cond.static yX7_told, Cond.code yX7_told cX7_told 3 (some .int), Cond.fieldLink RX7 209 "SeaGames$Play" "w" "I"]
def wsX7_truly : List Cond := .code yX7_truly cX7_truly 4 (some .int) :: ((wsX7_truly_r1 ++ (wsX7_truly_r2 ++ (wsX7_truly_r3 ++ (wsX7_truly_r4 ++ (wsX7_truly_r5 ++ wsX7_truly_r6))))) ++ wsX70 ++ wsX50 ++ wsX60 ++ wsX00)
def wsX7_machine_r1 : List Cond := [Cond.fieldLink RX7 28 "SeaGames" "truth" "LSeaGames$Track;", Cond.fieldLink RX7 38 "SeaGames" "board" "LSeaGames$Board;", Cond.methodLink RX7 101 yX7_isHand, Cond.instanceMethod yX7_isHand, Cond.selects RX7 yX7_isHand yX7_isHand, Cond.initialized RX7, Cond.code yX7_isHand cX7_isHand 2 (some .boolean), Cond.fieldLink RX7 10 "SeaGames" "play" "LSeaGames$Play;", Cond.fieldLink RX7 123 "SeaGames$Play" "hands" "I", Cond.methodLink RX7 104 yX7_isTick, Cond.static yX7_isTick, Cond.code yX7_isTick cX7_isTick 1 (some .boolean), Cond.methodLink RX7 130 yX7_playTrulyTo, Cond.instanceMethod yX7_playTrulyTo, Cond.selects RX7 yX7_playTrulyTo yX7_playTrulyTo, Cond.code yX7_playTrulyTo cX7_playTrulyTo 4 none, Cond.fieldLink RX7 302 "SeaGames$Track" "ready" "I", Cond.fieldLink RX7 45 "SeaGames" "presses" "[I", Cond.fieldLink RX7 98 "SeaGames$Play" "rules" "[I", Cond.methodLink RX7 305 yX7_setBoardAhead, Cond.instanceMethod yX7_setBoardAhead, Cond.selects RX7 yX7_setBoardAhead yX7_setBoardAhead, Cond.code yX7_setBoardAhead cX7_setBoardAhead 3 none, Cond.methodLink RX7 140 yX6_load]
def wsX7_machine_r2 : List Cond := [Cond.instanceMethod yX6_load, Cond.selects RX6 yX6_load yX6_load, Cond.initialized RX6, Cond.code yX6_load cX6_load 3 none, Cond.fieldLink RX6 9 "SeaGames$Track" "rows" "[I", Cond.fieldLink RX6 25 "SeaGames$Board" "now" "[I", Cond.methodLink RX6 30 arraycopyName, Cond.native arraycopyName, Cond.static arraycopyName, Cond.initialized "java/lang/System", Cond.methodLink RX7 267 yX0_start, Cond.instanceMethod yX0_start, Cond.selects RX0 yX0_start yX0_start, Cond.initialized RX0, Cond.code yX0_start cX0_start 3 none, Cond.fieldLink RX0 9 "SeaGames$Board" "now" "[I", Cond.fieldLink RX0 21 "SeaGames$Play" "hands" "I", Cond.fieldLink RX0 27 "SeaGames$Play" "w" "I", Cond.fieldLink RX0 34 "SeaGames$Play" "h" "I", Cond.methodLink RX0 15 yJ7_fill_53178, Cond.static yJ7_fill_53178, Cond.initialized RJ7, Cond.code yJ7_fill_53178 cJ7_fill_53178 4 none, Cond.static yX7_spotOf]
def wsX7_machine_r3 : List Cond := [Cond.code yX7_spotOf cX7_spotOf 5 (some .int), Cond.methodLink RX7 270 yX5_fillPresses, Cond.instanceMethod yX5_fillPresses, Cond.selects RX5 yX5_fillPresses yX5_fillPresses, Cond.initialized RX5, Cond.code yX5_fillPresses cX5_fillPresses 4 none, Cond.fieldLink RX5 18 "SeaGames$Play" "hands" "I", Cond.methodLink RX5 46 yX5_pressOf, Cond.instanceMethod yX5_pressOf, Cond.selects RX5 yX5_pressOf yX5_pressOf, Cond.code yX5_pressOf cX5_pressOf 3 (some .int), Cond.fieldLink RX5 25 "SeaGames$Play" "pressRow" "[I", Cond.methodLink RX7 274 yX0_advance, Cond.instanceMethod yX0_advance, Cond.selects RX0 yX0_advance yX0_advance, Cond.code yX0_advance cX0_advance 7 none, Cond.methodLink RX0 37 yX5_isLeft, Cond.instanceMethod yX5_isLeft, Cond.selects RX5 yX5_isLeft yX5_isLeft, Cond.code yX5_isLeft cX5_isLeft 3 (some .boolean), Cond.fieldLink RX5 28 "SeaGames$Play" "leftFrom" "[I", Cond.fieldLink RX5 31 "SeaGames$Play" "leftTo" "[I", Cond.methodLink RX0 41 yX0_machinePress, Cond.instanceMethod yX0_machinePress]
def wsX7_machine_r4 : List Cond := [Cond.selects RX0 yX0_machinePress yX0_machinePress, Cond.code yX0_machinePress cX0_machinePress 4 (some .int), Cond.methodLink RX0 69 Lib.Math.abs.name, Cond.static Lib.Math.abs.name, Cond.initialized "java/lang/Math", Cond.code Lib.Math.abs.name Lib.Math.abs.code 1 (some .int), Cond.methodLink RX0 60 yX0_wayToBall, Cond.instanceMethod yX0_wayToBall, Cond.selects RX0 yX0_wayToBall yX0_wayToBall, Cond.code yX0_wayToBall cX0_wayToBall 3 (some .int), Cond.static yX7_xOf, Cond.code yX7_xOf cX7_xOf 1 (some .int), Cond.static yX7_yOf, Cond.code yX7_yOf cX7_yOf 1 (some .int), Cond.methodLink RX0 45 yX0_kick, Cond.instanceMethod yX0_kick, Cond.selects RX0 yX0_kick yX0_kick, Cond.code yX0_kick cX0_kick 7 none, Cond.methodLink RX0 81 yX0_moveBall, Cond.instanceMethod yX0_moveBall, Cond.selects RX0 yX0_moveBall yX0_moveBall, Cond.code yX0_moveBall cX0_moveBall 4 (some .boolean), Cond.methodLink RX0 77 yX0_isFree, Cond.instanceMethod yX0_isFree]
def wsX7_machine_r5 : List Cond := [Cond.selects RX0 yX0_isFree yX0_isFree, Cond.code yX0_isFree cX0_isFree 4 (some .boolean), Cond.methodLink RX0 49 yX0_go, Cond.instanceMethod yX0_go, Cond.selects RX0 yX0_go yX0_go, Cond.code yX0_go cX0_go 5 none, Cond.methodLink RX0 52 yX0_spinBall, Cond.instanceMethod yX0_spinBall, Cond.selects RX0 yX0_spinBall yX0_spinBall, Cond.code yX0_spinBall cX0_spinBall 4 none, Cond.fieldLink RX0 84 "SeaGames$Play" "rules" "[I", Cond.methodLink RX0 56 yX0_givePoint, Cond.instanceMethod yX0_givePoint, Cond.selects RX0 yX0_givePoint yX0_givePoint, Cond.code yX0_givePoint cX0_givePoint 7 none, Cond.static yX7_distance, Cond.code yX7_distance cX7_distance 2 (some .int), Cond.methodLink RX7 299 Lib.Math.abs.name, Cond.methodLink RX7 296 yX7_xOf, Cond.methodLink RX7 293 yX7_yOf, Cond.methodLink RX7 309 yX6_save, Cond.instanceMethod yX6_save, Cond.selects RX6 yX6_save yX6_save, Cond.code yX6_save cX6_save 3 none]
def wsX7_machine_r6 : List Cond := [Cond.methodLink RX7 144 yX0_machinePress]
def wsX7_machine : List Cond := .code yX7_machine cX7_machine 3 (some .int) :: ((wsX7_machine_r1 ++ (wsX7_machine_r2 ++ (wsX7_machine_r3 ++ (wsX7_machine_r4 ++ (wsX7_machine_r5 ++ wsX7_machine_r6))))) ++ wsX70 ++ wsX50 ++ wsX60 ++ wsX00)
def wsX7_line : List Cond := .code yX7_line cX7_line 5 (some .int) :: ([.fieldLink RX7 21 "SeaGames" "lines" "LSeaGames$Lines;", .methodLink RX7 101 yX7_isHand, .instanceMethod yX7_isHand, .selects RX7 yX7_isHand yX7_isHand, .initialized RX7, .code yX7_isHand cX7_isHand 2 (some .boolean), .fieldLink RX7 10 "SeaGames" "play" "LSeaGames$Play;", .fieldLink RX7 123 "SeaGames$Play" "hands" "I", .methodLink RX7 148 yX4_waitOf, .instanceMethod yX4_waitOf, .selects RX4 yX4_waitOf yX4_waitOf, .initialized RX4, .code yX4_waitOf cX4_waitOf 3 (some .int), .fieldLink RX4 9 "SeaGames$Lines" "waits" "[I", .methodLink RX7 151 yX4_setWait, .instanceMethod yX4_setWait, .selects RX4 yX4_setWait yX4_setWait, .code yX4_setWait cX4_setWait 4 none] ++ wsX70 ++ wsX50 ++ wsX40)
def wsX7_lose : List Cond := .code yX7_lose cX7_lose 5 (some .int) :: ([.fieldLink RX7 21 "SeaGames" "lines" "LSeaGames$Lines;", .methodLink RX7 101 yX7_isHand, .instanceMethod yX7_isHand, .selects RX7 yX7_isHand yX7_isHand, .initialized RX7, .code yX7_isHand cX7_isHand 2 (some .boolean), .fieldLink RX7 10 "SeaGames" "play" "LSeaGames$Play;", .fieldLink RX7 123 "SeaGames$Play" "hands" "I", .methodLink RX7 104 yX7_isTick, .static yX7_isTick, .code yX7_isTick cX7_isTick 1 (some .boolean), .methodLink RX7 154 yX4_isLost, .instanceMethod yX4_isLost, .selects RX4 yX4_isLost yX4_isLost, .initialized RX4, .code yX4_isLost cX4_isLost 3 (some .boolean), .fieldLink RX4 15 "SeaGames$Lines" "lostRow" "[Z", .methodLink RX7 158 yX4_setLost, .instanceMethod yX4_setLost, .selects RX4 yX4_setLost yX4_setLost, .code yX4_setLost cX4_setLost 4 none] ++ wsX70 ++ wsX50 ++ wsX40)
def wsX7_known_r1 : List Cond := [Cond.fieldLink RX7 10 "SeaGames" "play" "LSeaGames$Play;", Cond.fieldLink RX7 21 "SeaGames" "lines" "LSeaGames$Lines;", Cond.fieldLink RX7 98 "SeaGames$Play" "rules" "[I", Cond.methodLink RX7 101 yX7_isHand, Cond.instanceMethod yX7_isHand, Cond.selects RX7 yX7_isHand yX7_isHand, Cond.initialized RX7, Cond.code yX7_isHand cX7_isHand 2 (some .boolean), Cond.fieldLink RX7 123 "SeaGames$Play" "hands" "I", Cond.methodLink RX7 104 yX7_isTick, Cond.static yX7_isTick, Cond.code yX7_isTick cX7_isTick 1 (some .boolean), Cond.methodLink RX7 162 yX5_isLeft, Cond.instanceMethod yX5_isLeft, Cond.selects RX5 yX5_isLeft yX5_isLeft, Cond.initialized RX5, Cond.code yX5_isLeft cX5_isLeft 3 (some .boolean), Cond.fieldLink RX5 28 "SeaGames$Play" "leftFrom" "[I", Cond.fieldLink RX5 31 "SeaGames$Play" "leftTo" "[I", Cond.methodLink RX7 165 yX4_clockOf, Cond.instanceMethod yX4_clockOf, Cond.selects RX4 yX4_clockOf yX4_clockOf, Cond.initialized RX4, Cond.code yX4_clockOf cX4_clockOf 7 (some .int)]
def wsX7_known_r2 : List Cond := [Cond.fieldLink RX4 9 "SeaGames$Lines" "waits" "[I", Cond.fieldLink RX4 15 "SeaGames$Lines" "lostRow" "[Z"]
def wsX7_known : List Cond := .code yX7_known cX7_known 4 (some .int) :: ((wsX7_known_r1 ++ wsX7_known_r2) ++ wsX70 ++ wsX50 ++ wsX40)
def wsX7_takes_r1 : List Cond := [Cond.fieldLink RX7 21 "SeaGames" "lines" "LSeaGames$Lines;", Cond.fieldLink RX7 10 "SeaGames" "play" "LSeaGames$Play;", Cond.fieldLink RX7 98 "SeaGames$Play" "rules" "[I", Cond.methodLink RX7 101 yX7_isHand, Cond.instanceMethod yX7_isHand, Cond.selects RX7 yX7_isHand yX7_isHand, Cond.initialized RX7, Cond.code yX7_isHand cX7_isHand 2 (some .boolean), Cond.fieldLink RX7 123 "SeaGames$Play" "hands" "I", Cond.methodLink RX7 104 yX7_isTick, Cond.static yX7_isTick, Cond.code yX7_isTick cX7_isTick 1 (some .boolean), Cond.methodLink RX7 169 yX4_taken, Cond.instanceMethod yX4_taken, Cond.selects RX4 yX4_taken yX4_taken, Cond.initialized RX4, Cond.code yX4_taken cX4_taken 6 (some .int), Cond.fieldLink RX4 19 "SeaGames$Lines" "play" "LSeaGames$Play;", Cond.methodLink RX4 35 yX4_isKnown, Cond.instanceMethod yX4_isKnown, Cond.selects RX4 yX4_isKnown yX4_isKnown, Cond.code yX4_isKnown cX4_isKnown 6 (some .boolean), Cond.methodLink RX4 58 yX5_isLeft, Cond.instanceMethod yX5_isLeft]
def wsX7_takes_r2 : List Cond := [Cond.selects RX5 yX5_isLeft yX5_isLeft, Cond.initialized RX5, Cond.code yX5_isLeft cX5_isLeft 3 (some .boolean), Cond.fieldLink RX5 28 "SeaGames$Play" "leftFrom" "[I", Cond.fieldLink RX5 31 "SeaGames$Play" "leftTo" "[I", Cond.methodLink RX4 62 yX4_clockOf, Cond.instanceMethod yX4_clockOf, Cond.selects RX4 yX4_clockOf yX4_clockOf, Cond.code yX4_clockOf cX4_clockOf 7 (some .int), Cond.fieldLink RX4 9 "SeaGames$Lines" "waits" "[I", Cond.fieldLink RX4 15 "SeaGames$Lines" "lostRow" "[Z", Cond.methodLink RX4 39 yX5_pressOf, Cond.instanceMethod yX5_pressOf, Cond.selects RX5 yX5_pressOf yX5_pressOf, Cond.code yX5_pressOf cX5_pressOf 3 (some .int), Cond.fieldLink RX5 25 "SeaGames$Play" "pressRow" "[I", Cond.methodLink RX4 43 yX4_guessed, Cond.instanceMethod yX4_guessed, Cond.selects RX4 yX4_guessed yX4_guessed, Cond.code yX4_guessed cX4_guessed 7 (some .int)]
def wsX7_takes : List Cond := .code yX7_takes cX7_takes 5 (some .int) :: ((wsX7_takes_r1 ++ wsX7_takes_r2) ++ wsX70 ++ wsX50 ++ wsX40)
def wsX7_showFrom_r1 : List Cond := [Cond.fieldLink RX7 32 "SeaGames" "glassTrack" "LSeaGames$Track;", Cond.fieldLink RX7 10 "SeaGames" "play" "LSeaGames$Play;", Cond.fieldLink RX7 123 "SeaGames$Play" "hands" "I", Cond.fieldLink RX7 45 "SeaGames" "presses" "[I", Cond.fieldLink RX7 21 "SeaGames" "lines" "LSeaGames$Lines;", Cond.fieldLink RX7 98 "SeaGames$Play" "rules" "[I", Cond.fieldLink RX7 38 "SeaGames" "board" "LSeaGames$Board;", Cond.methodLink RX7 305 yX7_setBoardAhead, Cond.instanceMethod yX7_setBoardAhead, Cond.selects RX7 yX7_setBoardAhead yX7_setBoardAhead, Cond.initialized RX7, Cond.code yX7_setBoardAhead cX7_setBoardAhead 3 none, Cond.methodLink RX7 140 yX6_load, Cond.instanceMethod yX6_load, Cond.selects RX6 yX6_load yX6_load, Cond.initialized RX6, Cond.code yX6_load cX6_load 3 none, Cond.fieldLink RX6 9 "SeaGames$Track" "rows" "[I", Cond.fieldLink RX6 25 "SeaGames$Board" "now" "[I", Cond.methodLink RX6 30 arraycopyName, Cond.native arraycopyName, Cond.static arraycopyName, Cond.initialized "java/lang/System", Cond.methodLink RX7 267 yX0_start]
def wsX7_showFrom_r2 : List Cond := [Cond.instanceMethod yX0_start, Cond.selects RX0 yX0_start yX0_start, Cond.initialized RX0, Cond.code yX0_start cX0_start 3 none, Cond.fieldLink RX0 9 "SeaGames$Board" "now" "[I", Cond.fieldLink RX0 21 "SeaGames$Play" "hands" "I", Cond.fieldLink RX0 27 "SeaGames$Play" "w" "I", Cond.fieldLink RX0 34 "SeaGames$Play" "h" "I", Cond.methodLink RX0 15 yJ7_fill_53178, Cond.static yJ7_fill_53178, Cond.initialized RJ7, Cond.code yJ7_fill_53178 cJ7_fill_53178 4 none, Cond.static yX7_spotOf, Cond.code yX7_spotOf cX7_spotOf 5 (some .int), Cond.methodLink RX7 169 yX4_taken, Cond.instanceMethod yX4_taken, Cond.selects RX4 yX4_taken yX4_taken, Cond.initialized RX4, Cond.code yX4_taken cX4_taken 6 (some .int), Cond.fieldLink RX4 19 "SeaGames$Lines" "play" "LSeaGames$Play;", Cond.methodLink RX4 35 yX4_isKnown, Cond.instanceMethod yX4_isKnown, Cond.selects RX4 yX4_isKnown yX4_isKnown, Cond.code yX4_isKnown cX4_isKnown 6 (some .boolean)]
def wsX7_showFrom_r3 : List Cond := [Cond.methodLink RX4 58 yX5_isLeft, Cond.instanceMethod yX5_isLeft, Cond.selects RX5 yX5_isLeft yX5_isLeft, Cond.initialized RX5, Cond.code yX5_isLeft cX5_isLeft 3 (some .boolean), Cond.fieldLink RX5 28 "SeaGames$Play" "leftFrom" "[I", Cond.fieldLink RX5 31 "SeaGames$Play" "leftTo" "[I", Cond.methodLink RX4 62 yX4_clockOf, Cond.instanceMethod yX4_clockOf, Cond.selects RX4 yX4_clockOf yX4_clockOf, Cond.code yX4_clockOf cX4_clockOf 7 (some .int), Cond.fieldLink RX4 9 "SeaGames$Lines" "waits" "[I", Cond.fieldLink RX4 15 "SeaGames$Lines" "lostRow" "[Z", Cond.methodLink RX4 39 yX5_pressOf, Cond.instanceMethod yX5_pressOf, Cond.selects RX5 yX5_pressOf yX5_pressOf, Cond.code yX5_pressOf cX5_pressOf 3 (some .int), Cond.fieldLink RX5 25 "SeaGames$Play" "pressRow" "[I", Cond.methodLink RX4 43 yX4_guessed, Cond.instanceMethod yX4_guessed, Cond.selects RX4 yX4_guessed yX4_guessed, Cond.code yX4_guessed cX4_guessed 7 (some .int), Cond.methodLink RX7 274 yX0_advance, Cond.instanceMethod yX0_advance]
def wsX7_showFrom_r4 : List Cond := [Cond.selects RX0 yX0_advance yX0_advance, Cond.code yX0_advance cX0_advance 7 none, Cond.methodLink RX0 37 yX5_isLeft, Cond.methodLink RX0 41 yX0_machinePress, Cond.instanceMethod yX0_machinePress, Cond.selects RX0 yX0_machinePress yX0_machinePress, Cond.code yX0_machinePress cX0_machinePress 4 (some .int), Cond.methodLink RX0 69 Lib.Math.abs.name, Cond.static Lib.Math.abs.name, Cond.initialized "java/lang/Math", Cond.code Lib.Math.abs.name Lib.Math.abs.code 1 (some .int), Cond.methodLink RX0 60 yX0_wayToBall, Cond.instanceMethod yX0_wayToBall, Cond.selects RX0 yX0_wayToBall yX0_wayToBall, Cond.code yX0_wayToBall cX0_wayToBall 3 (some .int), Cond.static yX7_xOf, Cond.code yX7_xOf cX7_xOf 1 (some .int), Cond.static yX7_yOf, Cond.code yX7_yOf cX7_yOf 1 (some .int), Cond.methodLink RX0 45 yX0_kick, Cond.instanceMethod yX0_kick, Cond.selects RX0 yX0_kick yX0_kick, Cond.code yX0_kick cX0_kick 7 none, Cond.methodLink RX0 81 yX0_moveBall]
def wsX7_showFrom_r5 : List Cond := [Cond.instanceMethod yX0_moveBall, Cond.selects RX0 yX0_moveBall yX0_moveBall, Cond.code yX0_moveBall cX0_moveBall 4 (some .boolean), Cond.methodLink RX0 77 yX0_isFree, Cond.instanceMethod yX0_isFree, Cond.selects RX0 yX0_isFree yX0_isFree, Cond.code yX0_isFree cX0_isFree 4 (some .boolean), Cond.methodLink RX0 49 yX0_go, Cond.instanceMethod yX0_go, Cond.selects RX0 yX0_go yX0_go, Cond.code yX0_go cX0_go 5 none, Cond.methodLink RX0 52 yX0_spinBall, Cond.instanceMethod yX0_spinBall, Cond.selects RX0 yX0_spinBall yX0_spinBall, Cond.code yX0_spinBall cX0_spinBall 4 none, Cond.fieldLink RX0 84 "SeaGames$Play" "rules" "[I", Cond.methodLink RX0 56 yX0_givePoint, Cond.instanceMethod yX0_givePoint, Cond.selects RX0 yX0_givePoint yX0_givePoint, Cond.code yX0_givePoint cX0_givePoint 7 none, Cond.static yX7_distance, Cond.code yX7_distance cX7_distance 2 (some .int), Cond.methodLink RX7 299 Lib.Math.abs.name, Cond.methodLink RX7 296 yX7_xOf]
def wsX7_showFrom_r6 : List Cond := [Cond.methodLink RX7 293 yX7_yOf, Cond.methodLink RX7 309 yX6_save, Cond.instanceMethod yX6_save, Cond.selects RX6 yX6_save yX6_save, Cond.code yX6_save cX6_save 3 none]
def wsX7_showFrom : List Cond := .code yX7_showFrom cX7_showFrom 6 none :: ((wsX7_showFrom_r1 ++ (wsX7_showFrom_r2 ++ (wsX7_showFrom_r3 ++ (wsX7_showFrom_r4 ++ (wsX7_showFrom_r5 ++ wsX7_showFrom_r6))))) ++ wsX70 ++ wsX50 ++ wsX60 ++ wsX00 ++ wsX40)
def wsX7_shown_r1 : List Cond := [Cond.fieldLink RX7 10 "SeaGames" "play" "LSeaGames$Play;", Cond.fieldLink RX7 123 "SeaGames$Play" "hands" "I", Cond.fieldLink RX7 32 "SeaGames" "glassTrack" "LSeaGames$Track;", Cond.methodLink RX7 101 yX7_isHand, Cond.instanceMethod yX7_isHand, Cond.selects RX7 yX7_isHand yX7_isHand, Cond.initialized RX7, Cond.code yX7_isHand cX7_isHand 2 (some .boolean), Cond.methodLink RX7 104 yX7_isTick, Cond.static yX7_isTick, Cond.code yX7_isTick cX7_isTick 1 (some .boolean), Cond.methodLink RX7 127 yX7_columnOf, Cond.static yX7_columnOf, Cond.code yX7_columnOf cX7_columnOf 2 (some .int), Cond.methodLink RX7 173 yX7_showFrom, Cond.instanceMethod yX7_showFrom, Cond.selects RX7 yX7_showFrom yX7_showFrom, Cond.code yX7_showFrom cX7_showFrom 6 none, Cond.fieldLink RX7 45 "SeaGames" "presses" "[I", Cond.fieldLink RX7 21 "SeaGames" "lines" "LSeaGames$Lines;", Cond.fieldLink RX7 98 "SeaGames$Play" "rules" "[I", Cond.fieldLink RX7 38 "SeaGames" "board" "LSeaGames$Board;", Cond.methodLink RX7 305 yX7_setBoardAhead, Cond.instanceMethod yX7_setBoardAhead]
def wsX7_shown_r2 : List Cond := [Cond.selects RX7 yX7_setBoardAhead yX7_setBoardAhead, Cond.code yX7_setBoardAhead cX7_setBoardAhead 3 none, Cond.methodLink RX7 140 yX6_load, Cond.instanceMethod yX6_load, Cond.selects RX6 yX6_load yX6_load, Cond.initialized RX6, Cond.code yX6_load cX6_load 3 none, Cond.fieldLink RX6 9 "SeaGames$Track" "rows" "[I", Cond.fieldLink RX6 25 "SeaGames$Board" "now" "[I", Cond.methodLink RX6 30 arraycopyName, Cond.native arraycopyName, Cond.static arraycopyName, Cond.initialized "java/lang/System", Cond.methodLink RX7 267 yX0_start, Cond.instanceMethod yX0_start, Cond.selects RX0 yX0_start yX0_start, Cond.initialized RX0, Cond.code yX0_start cX0_start 3 none, Cond.fieldLink RX0 9 "SeaGames$Board" "now" "[I", Cond.fieldLink RX0 21 "SeaGames$Play" "hands" "I", Cond.fieldLink RX0 27 "SeaGames$Play" "w" "I", Cond.fieldLink RX0 34 "SeaGames$Play" "h" "I", Cond.methodLink RX0 15 yJ7_fill_53178, Cond.static yJ7_fill_53178]
def wsX7_shown_r3 : List Cond := [Cond.initialized RJ7, Cond.code yJ7_fill_53178 cJ7_fill_53178 4 none, Cond.static yX7_spotOf, Cond.code yX7_spotOf cX7_spotOf 5 (some .int), Cond.methodLink RX7 169 yX4_taken, Cond.instanceMethod yX4_taken, Cond.selects RX4 yX4_taken yX4_taken, Cond.initialized RX4, Cond.code yX4_taken cX4_taken 6 (some .int), Cond.fieldLink RX4 19 "SeaGames$Lines" "play" "LSeaGames$Play;", Cond.methodLink RX4 35 yX4_isKnown, Cond.instanceMethod yX4_isKnown, Cond.selects RX4 yX4_isKnown yX4_isKnown, Cond.code yX4_isKnown cX4_isKnown 6 (some .boolean), Cond.methodLink RX4 58 yX5_isLeft, Cond.instanceMethod yX5_isLeft, Cond.selects RX5 yX5_isLeft yX5_isLeft, Cond.initialized RX5, Cond.code yX5_isLeft cX5_isLeft 3 (some .boolean), Cond.fieldLink RX5 28 "SeaGames$Play" "leftFrom" "[I", Cond.fieldLink RX5 31 "SeaGames$Play" "leftTo" "[I", Cond.methodLink RX4 62 yX4_clockOf, Cond.instanceMethod yX4_clockOf, Cond.selects RX4 yX4_clockOf yX4_clockOf]
def wsX7_shown_r4 : List Cond := [Cond.code yX4_clockOf cX4_clockOf 7 (some .int), Cond.fieldLink RX4 9 "SeaGames$Lines" "waits" "[I", Cond.fieldLink RX4 15 "SeaGames$Lines" "lostRow" "[Z", Cond.methodLink RX4 39 yX5_pressOf, Cond.instanceMethod yX5_pressOf, Cond.selects RX5 yX5_pressOf yX5_pressOf, Cond.code yX5_pressOf cX5_pressOf 3 (some .int), Cond.fieldLink RX5 25 "SeaGames$Play" "pressRow" "[I", Cond.methodLink RX4 43 yX4_guessed, Cond.instanceMethod yX4_guessed, Cond.selects RX4 yX4_guessed yX4_guessed, Cond.code yX4_guessed cX4_guessed 7 (some .int), Cond.methodLink RX7 274 yX0_advance, Cond.instanceMethod yX0_advance, Cond.selects RX0 yX0_advance yX0_advance, Cond.code yX0_advance cX0_advance 7 none, Cond.methodLink RX0 37 yX5_isLeft, Cond.methodLink RX0 41 yX0_machinePress, Cond.instanceMethod yX0_machinePress, Cond.selects RX0 yX0_machinePress yX0_machinePress, Cond.code yX0_machinePress cX0_machinePress 4 (some .int), Cond.methodLink RX0 69 Lib.Math.abs.name, Cond.static Lib.Math.abs.name, Cond.initialized "java/lang/Math"]
def wsX7_shown_r5 : List Cond := [Cond.code Lib.Math.abs.name Lib.Math.abs.code 1 (some .int), Cond.methodLink RX0 60 yX0_wayToBall, Cond.instanceMethod yX0_wayToBall, Cond.selects RX0 yX0_wayToBall yX0_wayToBall, Cond.code yX0_wayToBall cX0_wayToBall 3 (some .int), Cond.static yX7_xOf, Cond.code yX7_xOf cX7_xOf 1 (some .int), Cond.static yX7_yOf, Cond.code yX7_yOf cX7_yOf 1 (some .int), Cond.methodLink RX0 45 yX0_kick, Cond.instanceMethod yX0_kick, Cond.selects RX0 yX0_kick yX0_kick, Cond.code yX0_kick cX0_kick 7 none, Cond.methodLink RX0 81 yX0_moveBall, Cond.instanceMethod yX0_moveBall, Cond.selects RX0 yX0_moveBall yX0_moveBall, Cond.code yX0_moveBall cX0_moveBall 4 (some .boolean), Cond.methodLink RX0 77 yX0_isFree, Cond.instanceMethod yX0_isFree, Cond.selects RX0 yX0_isFree yX0_isFree, Cond.code yX0_isFree cX0_isFree 4 (some .boolean), Cond.methodLink RX0 49 yX0_go, Cond.instanceMethod yX0_go, Cond.selects RX0 yX0_go yX0_go]
def wsX7_shown_r6 : List Cond := [Cond.code yX0_go cX0_go 5 none, Cond.methodLink RX0 52 yX0_spinBall, Cond.instanceMethod yX0_spinBall, Cond.selects RX0 yX0_spinBall yX0_spinBall, Cond.code yX0_spinBall cX0_spinBall 4 none, Cond.fieldLink RX0 84 "SeaGames$Play" "rules" "[I", Cond.methodLink RX0 56 yX0_givePoint, Cond.instanceMethod yX0_givePoint, Cond.selects RX0 yX0_givePoint yX0_givePoint, Cond.code yX0_givePoint cX0_givePoint 7 none, Cond.static yX7_distance, Cond.code yX7_distance cX7_distance 2 (some .int), Cond.methodLink RX7 299 Lib.Math.abs.name, Cond.methodLink RX7 296 yX7_xOf, Cond.methodLink RX7 293 yX7_yOf, Cond.methodLink RX7 309 yX6_save, Cond.instanceMethod yX6_save, Cond.selects RX6 yX6_save yX6_save, Cond.code yX6_save cX6_save 3 none, Cond.methodLink RX7 133 yX6_at, Cond.instanceMethod yX6_at, Cond.selects RX6 yX6_at yX6_at, Cond.code yX6_at cX6_at 3 (some .int), Cond.methodLink RX7 136 yX7_told]
def wsX7_shown_r7 : List Cond := [Cond.static yX7_told, Cond.code yX7_told cX7_told 3 (some .int), Cond.fieldLink RX7 209 "SeaGames$Play" "w" "I"]
def wsX7_shown : List Cond := .code yX7_shown cX7_shown 5 (some .int) :: ((wsX7_shown_r1 ++ (wsX7_shown_r2 ++ (wsX7_shown_r3 ++ (wsX7_shown_r4 ++ (wsX7_shown_r5 ++ (wsX7_shown_r6 ++ wsX7_shown_r7)))))) ++ wsX70 ++ wsX50 ++ wsX60 ++ wsX00 ++ wsX40)
def wsX7_back_r1 : List Cond := [Cond.fieldLink RX7 21 "SeaGames" "lines" "LSeaGames$Lines;", Cond.fieldLink RX7 10 "SeaGames" "play" "LSeaGames$Play;", Cond.fieldLink RX7 98 "SeaGames$Play" "rules" "[I", Cond.methodLink RX7 101 yX7_isHand, Cond.instanceMethod yX7_isHand, Cond.selects RX7 yX7_isHand yX7_isHand, Cond.initialized RX7, Cond.code yX7_isHand cX7_isHand 2 (some .boolean), Cond.fieldLink RX7 123 "SeaGames$Play" "hands" "I", Cond.methodLink RX7 104 yX7_isTick, Cond.static yX7_isTick, Cond.code yX7_isTick cX7_isTick 1 (some .boolean), Cond.methodLink RX7 176 yX4_goneBack, Cond.instanceMethod yX4_goneBack, Cond.selects RX4 yX4_goneBack yX4_goneBack, Cond.initialized RX4, Cond.code yX4_goneBack cX4_goneBack 8 (some .int), Cond.fieldLink RX4 19 "SeaGames$Lines" "play" "LSeaGames$Play;", Cond.fieldLink RX4 29 "SeaGames$Play" "hands" "I", Cond.methodLink RX4 53 Lib.Math.max.name, Cond.static Lib.Math.max.name, Cond.initialized "java/lang/Math", Cond.code Lib.Math.max.name Lib.Math.max.code 2 (some .int), Cond.methodLink RX4 47 yX4_waitOf]
def wsX7_back_r2 : List Cond := [Cond.instanceMethod yX4_waitOf, Cond.selects RX4 yX4_waitOf yX4_waitOf, Cond.code yX4_waitOf cX4_waitOf 3 (some .int), Cond.fieldLink RX4 9 "SeaGames$Lines" "waits" "[I", Cond.methodLink RX4 50 yX4_backBy, Cond.instanceMethod yX4_backBy, Cond.selects RX4 yX4_backBy yX4_backBy, Cond.code yX4_backBy cX4_backBy 7 (some .int), Cond.methodLink RX4 58 yX5_isLeft, Cond.instanceMethod yX5_isLeft, Cond.selects RX5 yX5_isLeft yX5_isLeft, Cond.initialized RX5, Cond.code yX5_isLeft cX5_isLeft 3 (some .boolean), Cond.fieldLink RX5 28 "SeaGames$Play" "leftFrom" "[I", Cond.fieldLink RX5 31 "SeaGames$Play" "leftTo" "[I", Cond.methodLink RX4 62 yX4_clockOf, Cond.instanceMethod yX4_clockOf, Cond.selects RX4 yX4_clockOf yX4_clockOf, Cond.code yX4_clockOf cX4_clockOf 7 (some .int), Cond.fieldLink RX4 15 "SeaGames$Lines" "lostRow" "[Z", Cond.methodLink RX4 43 yX4_guessed, Cond.instanceMethod yX4_guessed, Cond.selects RX4 yX4_guessed yX4_guessed, Cond.code yX4_guessed cX4_guessed 7 (some .int)]
def wsX7_back_r3 : List Cond := [Cond.methodLink RX4 35 yX4_isKnown, Cond.instanceMethod yX4_isKnown, Cond.selects RX4 yX4_isKnown yX4_isKnown, Cond.code yX4_isKnown cX4_isKnown 6 (some .boolean), Cond.methodLink RX4 39 yX5_pressOf, Cond.instanceMethod yX5_pressOf, Cond.selects RX5 yX5_pressOf yX5_pressOf, Cond.code yX5_pressOf cX5_pressOf 3 (some .int), Cond.fieldLink RX5 25 "SeaGames$Play" "pressRow" "[I"]
def wsX7_back : List Cond := .code yX7_back cX7_back 3 (some .int) :: ((wsX7_back_r1 ++ (wsX7_back_r2 ++ wsX7_back_r3)) ++ wsX70 ++ wsX50 ++ wsX40)
def wsX7_agreed_r1 : List Cond := [Cond.fieldLink RX7 21 "SeaGames" "lines" "LSeaGames$Lines;", Cond.fieldLink RX7 10 "SeaGames" "play" "LSeaGames$Play;", Cond.fieldLink RX7 98 "SeaGames$Play" "rules" "[I", Cond.methodLink RX7 101 yX7_isHand, Cond.instanceMethod yX7_isHand, Cond.selects RX7 yX7_isHand yX7_isHand, Cond.initialized RX7, Cond.code yX7_isHand cX7_isHand 2 (some .boolean), Cond.fieldLink RX7 123 "SeaGames$Play" "hands" "I", Cond.methodLink RX7 104 yX7_isTick, Cond.static yX7_isTick, Cond.code yX7_isTick cX7_isTick 1 (some .boolean), Cond.methodLink RX7 180 yX4_allKnown, Cond.instanceMethod yX4_allKnown, Cond.selects RX4 yX4_allKnown yX4_allKnown, Cond.initialized RX4, Cond.code yX4_allKnown cX4_allKnown 6 (some .boolean), Cond.fieldLink RX4 19 "SeaGames$Lines" "play" "LSeaGames$Play;", Cond.fieldLink RX4 29 "SeaGames$Play" "hands" "I", Cond.methodLink RX4 35 yX4_isKnown, Cond.instanceMethod yX4_isKnown, Cond.selects RX4 yX4_isKnown yX4_isKnown, Cond.code yX4_isKnown cX4_isKnown 6 (some .boolean), Cond.methodLink RX4 58 yX5_isLeft]
def wsX7_agreed_r2 : List Cond := [Cond.instanceMethod yX5_isLeft, Cond.selects RX5 yX5_isLeft yX5_isLeft, Cond.initialized RX5, Cond.code yX5_isLeft cX5_isLeft 3 (some .boolean), Cond.fieldLink RX5 28 "SeaGames$Play" "leftFrom" "[I", Cond.fieldLink RX5 31 "SeaGames$Play" "leftTo" "[I", Cond.methodLink RX4 62 yX4_clockOf, Cond.instanceMethod yX4_clockOf, Cond.selects RX4 yX4_clockOf yX4_clockOf, Cond.code yX4_clockOf cX4_clockOf 7 (some .int), Cond.fieldLink RX4 9 "SeaGames$Lines" "waits" "[I", Cond.fieldLink RX4 15 "SeaGames$Lines" "lostRow" "[Z"]
def wsX7_agreed : List Cond := .code yX7_agreed cX7_agreed 5 (some .int) :: ((wsX7_agreed_r1 ++ wsX7_agreed_r2) ++ wsX70 ++ wsX50 ++ wsX40)
def wsX7_wrong_r1 : List Cond := [Cond.fieldLink RX7 21 "SeaGames" "lines" "LSeaGames$Lines;", Cond.fieldLink RX7 10 "SeaGames" "play" "LSeaGames$Play;", Cond.fieldLink RX7 98 "SeaGames$Play" "rules" "[I", Cond.fieldLink RX7 32 "SeaGames" "glassTrack" "LSeaGames$Track;", Cond.fieldLink RX7 28 "SeaGames" "truth" "LSeaGames$Track;", Cond.methodLink RX7 188 Lib.Math.max.name, Cond.static Lib.Math.max.name, Cond.initialized "java/lang/Math", Cond.code Lib.Math.max.name Lib.Math.max.code 2 (some .int), Cond.methodLink RX7 101 yX7_isHand, Cond.instanceMethod yX7_isHand, Cond.selects RX7 yX7_isHand yX7_isHand, Cond.initialized RX7, Cond.code yX7_isHand cX7_isHand 2 (some .boolean), Cond.fieldLink RX7 123 "SeaGames$Play" "hands" "I", Cond.methodLink RX7 104 yX7_isTick, Cond.static yX7_isTick, Cond.code yX7_isTick cX7_isTick 1 (some .boolean), Cond.methodLink RX7 130 yX7_playTrulyTo, Cond.instanceMethod yX7_playTrulyTo, Cond.selects RX7 yX7_playTrulyTo yX7_playTrulyTo, Cond.code yX7_playTrulyTo cX7_playTrulyTo 4 none, Cond.fieldLink RX7 302 "SeaGames$Track" "ready" "I", Cond.fieldLink RX7 45 "SeaGames" "presses" "[I"]
def wsX7_wrong_r2 : List Cond := [Cond.fieldLink RX7 38 "SeaGames" "board" "LSeaGames$Board;", Cond.methodLink RX7 305 yX7_setBoardAhead, Cond.instanceMethod yX7_setBoardAhead, Cond.selects RX7 yX7_setBoardAhead yX7_setBoardAhead, Cond.code yX7_setBoardAhead cX7_setBoardAhead 3 none, Cond.methodLink RX7 140 yX6_load, Cond.instanceMethod yX6_load, Cond.selects RX6 yX6_load yX6_load, Cond.initialized RX6, Cond.code yX6_load cX6_load 3 none, Cond.fieldLink RX6 9 "SeaGames$Track" "rows" "[I", Cond.fieldLink RX6 25 "SeaGames$Board" "now" "[I", Cond.methodLink RX6 30 arraycopyName, Cond.native arraycopyName, Cond.static arraycopyName, Cond.initialized "java/lang/System", Cond.methodLink RX7 267 yX0_start, Cond.instanceMethod yX0_start, Cond.selects RX0 yX0_start yX0_start, Cond.initialized RX0, Cond.code yX0_start cX0_start 3 none, Cond.fieldLink RX0 9 "SeaGames$Board" "now" "[I", Cond.fieldLink RX0 21 "SeaGames$Play" "hands" "I", Cond.fieldLink RX0 27 "SeaGames$Play" "w" "I"]
def wsX7_wrong_r3 : List Cond := [Cond.fieldLink RX0 34 "SeaGames$Play" "h" "I", Cond.methodLink RX0 15 yJ7_fill_53178, Cond.static yJ7_fill_53178, Cond.initialized RJ7, Cond.code yJ7_fill_53178 cJ7_fill_53178 4 none, Cond.static yX7_spotOf, Cond.code yX7_spotOf cX7_spotOf 5 (some .int), Cond.methodLink RX7 270 yX5_fillPresses, Cond.instanceMethod yX5_fillPresses, Cond.selects RX5 yX5_fillPresses yX5_fillPresses, Cond.initialized RX5, Cond.code yX5_fillPresses cX5_fillPresses 4 none, Cond.fieldLink RX5 18 "SeaGames$Play" "hands" "I", Cond.methodLink RX5 46 yX5_pressOf, Cond.instanceMethod yX5_pressOf, Cond.selects RX5 yX5_pressOf yX5_pressOf, Cond.code yX5_pressOf cX5_pressOf 3 (some .int), Cond.fieldLink RX5 25 "SeaGames$Play" "pressRow" "[I", Cond.methodLink RX7 274 yX0_advance, Cond.instanceMethod yX0_advance, Cond.selects RX0 yX0_advance yX0_advance, Cond.code yX0_advance cX0_advance 7 none, Cond.methodLink RX0 37 yX5_isLeft, Cond.instanceMethod yX5_isLeft]
def wsX7_wrong_r4 : List Cond := [Cond.selects RX5 yX5_isLeft yX5_isLeft, Cond.code yX5_isLeft cX5_isLeft 3 (some .boolean), Cond.fieldLink RX5 28 "SeaGames$Play" "leftFrom" "[I", Cond.fieldLink RX5 31 "SeaGames$Play" "leftTo" "[I", Cond.methodLink RX0 41 yX0_machinePress, Cond.instanceMethod yX0_machinePress, Cond.selects RX0 yX0_machinePress yX0_machinePress, Cond.code yX0_machinePress cX0_machinePress 4 (some .int), Cond.methodLink RX0 69 Lib.Math.abs.name, Cond.static Lib.Math.abs.name, Cond.code Lib.Math.abs.name Lib.Math.abs.code 1 (some .int), Cond.methodLink RX0 60 yX0_wayToBall, Cond.instanceMethod yX0_wayToBall, Cond.selects RX0 yX0_wayToBall yX0_wayToBall, Cond.code yX0_wayToBall cX0_wayToBall 3 (some .int), Cond.static yX7_xOf, Cond.code yX7_xOf cX7_xOf 1 (some .int), Cond.static yX7_yOf, Cond.code yX7_yOf cX7_yOf 1 (some .int), Cond.methodLink RX0 45 yX0_kick, Cond.instanceMethod yX0_kick, Cond.selects RX0 yX0_kick yX0_kick, Cond.code yX0_kick cX0_kick 7 none, Cond.methodLink RX0 81 yX0_moveBall]
def wsX7_wrong_r5 : List Cond := [Cond.instanceMethod yX0_moveBall, Cond.selects RX0 yX0_moveBall yX0_moveBall, Cond.code yX0_moveBall cX0_moveBall 4 (some .boolean), Cond.methodLink RX0 77 yX0_isFree, Cond.instanceMethod yX0_isFree, Cond.selects RX0 yX0_isFree yX0_isFree, Cond.code yX0_isFree cX0_isFree 4 (some .boolean), Cond.methodLink RX0 49 yX0_go, Cond.instanceMethod yX0_go, Cond.selects RX0 yX0_go yX0_go, Cond.code yX0_go cX0_go 5 none, Cond.methodLink RX0 52 yX0_spinBall, Cond.instanceMethod yX0_spinBall, Cond.selects RX0 yX0_spinBall yX0_spinBall, Cond.code yX0_spinBall cX0_spinBall 4 none, Cond.fieldLink RX0 84 "SeaGames$Play" "rules" "[I", Cond.methodLink RX0 56 yX0_givePoint, Cond.instanceMethod yX0_givePoint, Cond.selects RX0 yX0_givePoint yX0_givePoint, Cond.code yX0_givePoint cX0_givePoint 7 none, Cond.static yX7_distance, Cond.code yX7_distance cX7_distance 2 (some .int), Cond.methodLink RX7 299 Lib.Math.abs.name, Cond.methodLink RX7 296 yX7_xOf]
def wsX7_wrong_r6 : List Cond := [Cond.methodLink RX7 293 yX7_yOf, Cond.methodLink RX7 309 yX6_save, Cond.instanceMethod yX6_save, Cond.selects RX6 yX6_save yX6_save, Cond.code yX6_save cX6_save 3 none, Cond.methodLink RX7 176 yX4_goneBack, Cond.instanceMethod yX4_goneBack, Cond.selects RX4 yX4_goneBack yX4_goneBack, Cond.initialized RX4, Cond.code yX4_goneBack cX4_goneBack 8 (some .int), Cond.fieldLink RX4 19 "SeaGames$Lines" "play" "LSeaGames$Play;", Cond.fieldLink RX4 29 "SeaGames$Play" "hands" "I", Cond.methodLink RX4 53 Lib.Math.max.name, Cond.methodLink RX4 47 yX4_waitOf, Cond.instanceMethod yX4_waitOf, Cond.selects RX4 yX4_waitOf yX4_waitOf, Cond.code yX4_waitOf cX4_waitOf 3 (some .int), Cond.fieldLink RX4 9 "SeaGames$Lines" "waits" "[I", Cond.methodLink RX4 50 yX4_backBy, Cond.instanceMethod yX4_backBy, Cond.selects RX4 yX4_backBy yX4_backBy, Cond.code yX4_backBy cX4_backBy 7 (some .int), Cond.methodLink RX4 58 yX5_isLeft, Cond.methodLink RX4 62 yX4_clockOf]
def wsX7_wrong_r7 : List Cond := [Cond.instanceMethod yX4_clockOf, Cond.selects RX4 yX4_clockOf yX4_clockOf, Cond.code yX4_clockOf cX4_clockOf 7 (some .int), Cond.fieldLink RX4 15 "SeaGames$Lines" "lostRow" "[Z", Cond.methodLink RX4 43 yX4_guessed, Cond.instanceMethod yX4_guessed, Cond.selects RX4 yX4_guessed yX4_guessed, Cond.code yX4_guessed cX4_guessed 7 (some .int), Cond.methodLink RX4 35 yX4_isKnown, Cond.instanceMethod yX4_isKnown, Cond.selects RX4 yX4_isKnown yX4_isKnown, Cond.code yX4_isKnown cX4_isKnown 6 (some .boolean), Cond.methodLink RX4 39 yX5_pressOf, Cond.methodLink RX7 173 yX7_showFrom, Cond.instanceMethod yX7_showFrom, Cond.selects RX7 yX7_showFrom yX7_showFrom, Cond.code yX7_showFrom cX7_showFrom 6 none, Cond.methodLink RX7 169 yX4_taken, Cond.instanceMethod yX4_taken, Cond.selects RX4 yX4_taken yX4_taken, Cond.code yX4_taken cX4_taken 6 (some .int), Cond.methodLink RX7 184 yX6_isLike, Cond.instanceMethod yX6_isLike, Cond.selects RX6 yX6_isLike yX6_isLike]
def wsX7_wrong_r8 : List Cond := [Cond.code yX6_isLike cX6_isLike 4 (some .boolean)]
def wsX7_wrong : List Cond := .code yX7_wrong cX7_wrong 8 (some .int) :: ((wsX7_wrong_r1 ++ (wsX7_wrong_r2 ++ (wsX7_wrong_r3 ++ (wsX7_wrong_r4 ++ (wsX7_wrong_r5 ++ (wsX7_wrong_r6 ++ (wsX7_wrong_r7 ++ wsX7_wrong_r8))))))) ++ wsX70 ++ wsX50 ++ wsX60 ++ wsX00 ++ wsX40)
def wsX7_costOf_r1 : List Cond := [Cond.fieldLink RX7 10 "SeaGames" "play" "LSeaGames$Play;", Cond.fieldLink RX7 123 "SeaGames$Play" "hands" "I", Cond.fieldLink RX7 21 "SeaGames" "lines" "LSeaGames$Lines;", Cond.fieldLink RX7 98 "SeaGames$Play" "rules" "[I", Cond.methodLink RX7 176 yX4_goneBack, Cond.instanceMethod yX4_goneBack, Cond.selects RX4 yX4_goneBack yX4_goneBack, Cond.initialized RX4, Cond.code yX4_goneBack cX4_goneBack 8 (some .int), Cond.fieldLink RX4 19 "SeaGames$Lines" "play" "LSeaGames$Play;", Cond.fieldLink RX4 29 "SeaGames$Play" "hands" "I", Cond.methodLink RX4 53 Lib.Math.max.name, Cond.static Lib.Math.max.name, Cond.initialized "java/lang/Math", Cond.code Lib.Math.max.name Lib.Math.max.code 2 (some .int), Cond.methodLink RX4 47 yX4_waitOf, Cond.instanceMethod yX4_waitOf, Cond.selects RX4 yX4_waitOf yX4_waitOf, Cond.code yX4_waitOf cX4_waitOf 3 (some .int), Cond.fieldLink RX4 9 "SeaGames$Lines" "waits" "[I", Cond.methodLink RX4 50 yX4_backBy, Cond.instanceMethod yX4_backBy, Cond.selects RX4 yX4_backBy yX4_backBy, Cond.code yX4_backBy cX4_backBy 7 (some .int)]
def wsX7_costOf_r2 : List Cond := [Cond.methodLink RX4 58 yX5_isLeft, Cond.instanceMethod yX5_isLeft, Cond.selects RX5 yX5_isLeft yX5_isLeft, Cond.initialized RX5, Cond.code yX5_isLeft cX5_isLeft 3 (some .boolean), Cond.fieldLink RX5 28 "SeaGames$Play" "leftFrom" "[I", Cond.fieldLink RX5 31 "SeaGames$Play" "leftTo" "[I", Cond.methodLink RX4 62 yX4_clockOf, Cond.instanceMethod yX4_clockOf, Cond.selects RX4 yX4_clockOf yX4_clockOf, Cond.code yX4_clockOf cX4_clockOf 7 (some .int), Cond.fieldLink RX4 15 "SeaGames$Lines" "lostRow" "[Z", Cond.methodLink RX4 43 yX4_guessed, Cond.instanceMethod yX4_guessed, Cond.selects RX4 yX4_guessed yX4_guessed, Cond.code yX4_guessed cX4_guessed 7 (some .int), Cond.methodLink RX4 35 yX4_isKnown, Cond.instanceMethod yX4_isKnown, Cond.selects RX4 yX4_isKnown yX4_isKnown, Cond.code yX4_isKnown cX4_isKnown 6 (some .boolean), Cond.methodLink RX4 39 yX5_pressOf, Cond.instanceMethod yX5_pressOf, Cond.selects RX5 yX5_pressOf yX5_pressOf, Cond.code yX5_pressOf cX5_pressOf 3 (some .int)]
def wsX7_costOf_r3 : List Cond := [Cond.fieldLink RX5 25 "SeaGames$Play" "pressRow" "[I"]
def wsX7_costOf : List Cond := .code yX7_costOf cX7_costOf 6 (some .int) :: ((wsX7_costOf_r1 ++ (wsX7_costOf_r2 ++ wsX7_costOf_r3)) ++ wsX70 ++ wsX50 ++ wsX40)
def wsX7_price_r1 : List Cond := [Cond.methodLink RX7 104 yX7_isTick, Cond.static yX7_isTick, Cond.initialized RX7, Cond.code yX7_isTick cX7_isTick 1 (some .boolean), Cond.methodLink RX7 193 yX7_costOf, Cond.instanceMethod yX7_costOf, Cond.selects RX7 yX7_costOf yX7_costOf, Cond.code yX7_costOf cX7_costOf 6 (some .int), Cond.fieldLink RX7 10 "SeaGames" "play" "LSeaGames$Play;", Cond.fieldLink RX7 123 "SeaGames$Play" "hands" "I", Cond.fieldLink RX7 21 "SeaGames" "lines" "LSeaGames$Lines;", Cond.fieldLink RX7 98 "SeaGames$Play" "rules" "[I", Cond.methodLink RX7 176 yX4_goneBack, Cond.instanceMethod yX4_goneBack, Cond.selects RX4 yX4_goneBack yX4_goneBack, Cond.initialized RX4, Cond.code yX4_goneBack cX4_goneBack 8 (some .int), Cond.fieldLink RX4 19 "SeaGames$Lines" "play" "LSeaGames$Play;", Cond.fieldLink RX4 29 "SeaGames$Play" "hands" "I", Cond.methodLink RX4 53 Lib.Math.max.name, Cond.static Lib.Math.max.name, Cond.initialized "java/lang/Math", Cond.code Lib.Math.max.name Lib.Math.max.code 2 (some .int), Cond.methodLink RX4 47 yX4_waitOf]
def wsX7_price_r2 : List Cond := [Cond.instanceMethod yX4_waitOf, Cond.selects RX4 yX4_waitOf yX4_waitOf, Cond.code yX4_waitOf cX4_waitOf 3 (some .int), Cond.fieldLink RX4 9 "SeaGames$Lines" "waits" "[I", Cond.methodLink RX4 50 yX4_backBy, Cond.instanceMethod yX4_backBy, Cond.selects RX4 yX4_backBy yX4_backBy, Cond.code yX4_backBy cX4_backBy 7 (some .int), Cond.methodLink RX4 58 yX5_isLeft, Cond.instanceMethod yX5_isLeft, Cond.selects RX5 yX5_isLeft yX5_isLeft, Cond.initialized RX5, Cond.code yX5_isLeft cX5_isLeft 3 (some .boolean), Cond.fieldLink RX5 28 "SeaGames$Play" "leftFrom" "[I", Cond.fieldLink RX5 31 "SeaGames$Play" "leftTo" "[I", Cond.methodLink RX4 62 yX4_clockOf, Cond.instanceMethod yX4_clockOf, Cond.selects RX4 yX4_clockOf yX4_clockOf, Cond.code yX4_clockOf cX4_clockOf 7 (some .int), Cond.fieldLink RX4 15 "SeaGames$Lines" "lostRow" "[Z", Cond.methodLink RX4 43 yX4_guessed, Cond.instanceMethod yX4_guessed, Cond.selects RX4 yX4_guessed yX4_guessed, Cond.code yX4_guessed cX4_guessed 7 (some .int)]
def wsX7_price_r3 : List Cond := [Cond.methodLink RX4 35 yX4_isKnown, Cond.instanceMethod yX4_isKnown, Cond.selects RX4 yX4_isKnown yX4_isKnown, Cond.code yX4_isKnown cX4_isKnown 6 (some .boolean), Cond.methodLink RX4 39 yX5_pressOf, Cond.instanceMethod yX5_pressOf, Cond.selects RX5 yX5_pressOf yX5_pressOf, Cond.code yX5_pressOf cX5_pressOf 3 (some .int), Cond.fieldLink RX5 25 "SeaGames$Play" "pressRow" "[I"]
def wsX7_price : List Cond := .code yX7_price cX7_price 3 (some .int) :: ((wsX7_price_r1 ++ (wsX7_price_r2 ++ wsX7_price_r3)) ++ wsX70 ++ wsX50 ++ wsX40)
def wsX7_best_r1 : List Cond := [Cond.methodLink RX7 104 yX7_isTick, Cond.static yX7_isTick, Cond.initialized RX7, Cond.code yX7_isTick cX7_isTick 1 (some .boolean), Cond.methodLink RX7 193 yX7_costOf, Cond.instanceMethod yX7_costOf, Cond.selects RX7 yX7_costOf yX7_costOf, Cond.code yX7_costOf cX7_costOf 6 (some .int), Cond.fieldLink RX7 10 "SeaGames" "play" "LSeaGames$Play;", Cond.fieldLink RX7 123 "SeaGames$Play" "hands" "I", Cond.fieldLink RX7 21 "SeaGames" "lines" "LSeaGames$Lines;", Cond.fieldLink RX7 98 "SeaGames$Play" "rules" "[I", Cond.methodLink RX7 176 yX4_goneBack, Cond.instanceMethod yX4_goneBack, Cond.selects RX4 yX4_goneBack yX4_goneBack, Cond.initialized RX4, Cond.code yX4_goneBack cX4_goneBack 8 (some .int), Cond.fieldLink RX4 19 "SeaGames$Lines" "play" "LSeaGames$Play;", Cond.fieldLink RX4 29 "SeaGames$Play" "hands" "I", Cond.methodLink RX4 53 Lib.Math.max.name, Cond.static Lib.Math.max.name, Cond.initialized "java/lang/Math", Cond.code Lib.Math.max.name Lib.Math.max.code 2 (some .int), Cond.methodLink RX4 47 yX4_waitOf]
def wsX7_best_r2 : List Cond := [Cond.instanceMethod yX4_waitOf, Cond.selects RX4 yX4_waitOf yX4_waitOf, Cond.code yX4_waitOf cX4_waitOf 3 (some .int), Cond.fieldLink RX4 9 "SeaGames$Lines" "waits" "[I", Cond.methodLink RX4 50 yX4_backBy, Cond.instanceMethod yX4_backBy, Cond.selects RX4 yX4_backBy yX4_backBy, Cond.code yX4_backBy cX4_backBy 7 (some .int), Cond.methodLink RX4 58 yX5_isLeft, Cond.instanceMethod yX5_isLeft, Cond.selects RX5 yX5_isLeft yX5_isLeft, Cond.initialized RX5, Cond.code yX5_isLeft cX5_isLeft 3 (some .boolean), Cond.fieldLink RX5 28 "SeaGames$Play" "leftFrom" "[I", Cond.fieldLink RX5 31 "SeaGames$Play" "leftTo" "[I", Cond.methodLink RX4 62 yX4_clockOf, Cond.instanceMethod yX4_clockOf, Cond.selects RX4 yX4_clockOf yX4_clockOf, Cond.code yX4_clockOf cX4_clockOf 7 (some .int), Cond.fieldLink RX4 15 "SeaGames$Lines" "lostRow" "[Z", Cond.methodLink RX4 43 yX4_guessed, Cond.instanceMethod yX4_guessed, Cond.selects RX4 yX4_guessed yX4_guessed, Cond.code yX4_guessed cX4_guessed 7 (some .int)]
def wsX7_best_r3 : List Cond := [Cond.methodLink RX4 35 yX4_isKnown, Cond.instanceMethod yX4_isKnown, Cond.selects RX4 yX4_isKnown yX4_isKnown, Cond.code yX4_isKnown cX4_isKnown 6 (some .boolean), Cond.methodLink RX4 39 yX5_pressOf, Cond.instanceMethod yX5_pressOf, Cond.selects RX5 yX5_pressOf yX5_pressOf, Cond.code yX5_pressOf cX5_pressOf 3 (some .int), Cond.fieldLink RX5 25 "SeaGames$Play" "pressRow" "[I"]
def wsX7_best : List Cond := .code yX7_best cX7_best 6 (some .int) :: ((wsX7_best_r1 ++ (wsX7_best_r2 ++ wsX7_best_r3)) ++ wsX70 ++ wsX50 ++ wsX40)
def wsX7_seesThen : List Cond := .code yX7_seesThen cX7_seesThen 4 (some .boolean) :: ([.fieldLink RX7 28 "SeaGames" "truth" "LSeaGames$Track;", .fieldLink RX7 10 "SeaGames" "play" "LSeaGames$Play;", .fieldLink RX7 98 "SeaGames$Play" "rules" "[I", .methodLink RX7 133 yX6_at, .instanceMethod yX6_at, .selects RX6 yX6_at yX6_at, .initialized RX6, .code yX6_at cX6_at 3 (some .int), .fieldLink RX6 9 "SeaGames$Track" "rows" "[I", .methodLink RX7 312 yX7_distance, .static yX7_distance, .initialized RX7, .code yX7_distance cX7_distance 2 (some .int), .methodLink RX7 299 Lib.Math.abs.name, .static Lib.Math.abs.name, .initialized "java/lang/Math", .code Lib.Math.abs.name Lib.Math.abs.code 1 (some .int), .methodLink RX7 296 yX7_xOf, .static yX7_xOf, .code yX7_xOf cX7_xOf 1 (some .int), .methodLink RX7 293 yX7_yOf, .static yX7_yOf, .code yX7_yOf cX7_yOf 1 (some .int)] ++ wsX70 ++ wsX50 ++ wsX60)
def wsX7_sees_r1 : List Cond := [Cond.methodLink RX7 101 yX7_isHand, Cond.instanceMethod yX7_isHand, Cond.selects RX7 yX7_isHand yX7_isHand, Cond.initialized RX7, Cond.code yX7_isHand cX7_isHand 2 (some .boolean), Cond.fieldLink RX7 10 "SeaGames" "play" "LSeaGames$Play;", Cond.fieldLink RX7 123 "SeaGames$Play" "hands" "I", Cond.methodLink RX7 104 yX7_isTick, Cond.static yX7_isTick, Cond.code yX7_isTick cX7_isTick 1 (some .boolean), Cond.methodLink RX7 130 yX7_playTrulyTo, Cond.instanceMethod yX7_playTrulyTo, Cond.selects RX7 yX7_playTrulyTo yX7_playTrulyTo, Cond.code yX7_playTrulyTo cX7_playTrulyTo 4 none, Cond.fieldLink RX7 28 "SeaGames" "truth" "LSeaGames$Track;", Cond.fieldLink RX7 302 "SeaGames$Track" "ready" "I", Cond.fieldLink RX7 45 "SeaGames" "presses" "[I", Cond.fieldLink RX7 38 "SeaGames" "board" "LSeaGames$Board;", Cond.fieldLink RX7 98 "SeaGames$Play" "rules" "[I", Cond.methodLink RX7 305 yX7_setBoardAhead, Cond.instanceMethod yX7_setBoardAhead, Cond.selects RX7 yX7_setBoardAhead yX7_setBoardAhead, Cond.code yX7_setBoardAhead cX7_setBoardAhead 3 none, Cond.methodLink RX7 140 yX6_load]
def wsX7_sees_r2 : List Cond := [Cond.instanceMethod yX6_load, Cond.selects RX6 yX6_load yX6_load, Cond.initialized RX6, Cond.code yX6_load cX6_load 3 none, Cond.fieldLink RX6 9 "SeaGames$Track" "rows" "[I", Cond.fieldLink RX6 25 "SeaGames$Board" "now" "[I", Cond.methodLink RX6 30 arraycopyName, Cond.native arraycopyName, Cond.static arraycopyName, Cond.initialized "java/lang/System", Cond.methodLink RX7 267 yX0_start, Cond.instanceMethod yX0_start, Cond.selects RX0 yX0_start yX0_start, Cond.initialized RX0, Cond.code yX0_start cX0_start 3 none, Cond.fieldLink RX0 9 "SeaGames$Board" "now" "[I", Cond.fieldLink RX0 21 "SeaGames$Play" "hands" "I", Cond.fieldLink RX0 27 "SeaGames$Play" "w" "I", Cond.fieldLink RX0 34 "SeaGames$Play" "h" "I", Cond.methodLink RX0 15 yJ7_fill_53178, Cond.static yJ7_fill_53178, Cond.initialized RJ7, Cond.code yJ7_fill_53178 cJ7_fill_53178 4 none, Cond.static yX7_spotOf]
def wsX7_sees_r3 : List Cond := [Cond.code yX7_spotOf cX7_spotOf 5 (some .int), Cond.methodLink RX7 270 yX5_fillPresses, Cond.instanceMethod yX5_fillPresses, Cond.selects RX5 yX5_fillPresses yX5_fillPresses, Cond.initialized RX5, Cond.code yX5_fillPresses cX5_fillPresses 4 none, Cond.fieldLink RX5 18 "SeaGames$Play" "hands" "I", Cond.methodLink RX5 46 yX5_pressOf, Cond.instanceMethod yX5_pressOf, Cond.selects RX5 yX5_pressOf yX5_pressOf, Cond.code yX5_pressOf cX5_pressOf 3 (some .int), Cond.fieldLink RX5 25 "SeaGames$Play" "pressRow" "[I", Cond.methodLink RX7 274 yX0_advance, Cond.instanceMethod yX0_advance, Cond.selects RX0 yX0_advance yX0_advance, Cond.code yX0_advance cX0_advance 7 none, Cond.methodLink RX0 37 yX5_isLeft, Cond.instanceMethod yX5_isLeft, Cond.selects RX5 yX5_isLeft yX5_isLeft, Cond.code yX5_isLeft cX5_isLeft 3 (some .boolean), Cond.fieldLink RX5 28 "SeaGames$Play" "leftFrom" "[I", Cond.fieldLink RX5 31 "SeaGames$Play" "leftTo" "[I", Cond.methodLink RX0 41 yX0_machinePress, Cond.instanceMethod yX0_machinePress]
def wsX7_sees_r4 : List Cond := [Cond.selects RX0 yX0_machinePress yX0_machinePress, Cond.code yX0_machinePress cX0_machinePress 4 (some .int), Cond.methodLink RX0 69 Lib.Math.abs.name, Cond.static Lib.Math.abs.name, Cond.initialized "java/lang/Math", Cond.code Lib.Math.abs.name Lib.Math.abs.code 1 (some .int), Cond.methodLink RX0 60 yX0_wayToBall, Cond.instanceMethod yX0_wayToBall, Cond.selects RX0 yX0_wayToBall yX0_wayToBall, Cond.code yX0_wayToBall cX0_wayToBall 3 (some .int), Cond.static yX7_xOf, Cond.code yX7_xOf cX7_xOf 1 (some .int), Cond.static yX7_yOf, Cond.code yX7_yOf cX7_yOf 1 (some .int), Cond.methodLink RX0 45 yX0_kick, Cond.instanceMethod yX0_kick, Cond.selects RX0 yX0_kick yX0_kick, Cond.code yX0_kick cX0_kick 7 none, Cond.methodLink RX0 81 yX0_moveBall, Cond.instanceMethod yX0_moveBall, Cond.selects RX0 yX0_moveBall yX0_moveBall, Cond.code yX0_moveBall cX0_moveBall 4 (some .boolean), Cond.methodLink RX0 77 yX0_isFree, Cond.instanceMethod yX0_isFree]
def wsX7_sees_r5 : List Cond := [Cond.selects RX0 yX0_isFree yX0_isFree, Cond.code yX0_isFree cX0_isFree 4 (some .boolean), Cond.methodLink RX0 49 yX0_go, Cond.instanceMethod yX0_go, Cond.selects RX0 yX0_go yX0_go, Cond.code yX0_go cX0_go 5 none, Cond.methodLink RX0 52 yX0_spinBall, Cond.instanceMethod yX0_spinBall, Cond.selects RX0 yX0_spinBall yX0_spinBall, Cond.code yX0_spinBall cX0_spinBall 4 none, Cond.fieldLink RX0 84 "SeaGames$Play" "rules" "[I", Cond.methodLink RX0 56 yX0_givePoint, Cond.instanceMethod yX0_givePoint, Cond.selects RX0 yX0_givePoint yX0_givePoint, Cond.code yX0_givePoint cX0_givePoint 7 none, Cond.static yX7_distance, Cond.code yX7_distance cX7_distance 2 (some .int), Cond.methodLink RX7 299 Lib.Math.abs.name, Cond.methodLink RX7 296 yX7_xOf, Cond.methodLink RX7 293 yX7_yOf, Cond.methodLink RX7 309 yX6_save, Cond.instanceMethod yX6_save, Cond.selects RX6 yX6_save yX6_save, Cond.code yX6_save cX6_save 3 none]
def wsX7_sees_r6 : List Cond := [Cond.methodLink RX7 196 yX7_seesThen, Cond.instanceMethod yX7_seesThen, Cond.selects RX7 yX7_seesThen yX7_seesThen, Cond.code yX7_seesThen cX7_seesThen 4 (some .boolean), Cond.methodLink RX7 133 yX6_at, Cond.instanceMethod yX6_at, Cond.selects RX6 yX6_at yX6_at, Cond.code yX6_at cX6_at 3 (some .int), Cond.methodLink RX7 312 yX7_distance]
def wsX7_sees : List Cond := .code yX7_sees cX7_sees 4 (some .int) :: ((wsX7_sees_r1 ++ (wsX7_sees_r2 ++ (wsX7_sees_r3 ++ (wsX7_sees_r4 ++ (wsX7_sees_r5 ++ wsX7_sees_r6))))) ++ wsX70 ++ wsX50 ++ wsX60 ++ wsX00)
def wsX7_thinkTo_r1 : List Cond := [Cond.fieldLink RX7 38 "SeaGames" "board" "LSeaGames$Board;", Cond.fieldLink RX7 10 "SeaGames" "play" "LSeaGames$Play;", Cond.fieldLink RX7 52 "SeaGames" "fog" "LSeaGames$Fog;", Cond.fieldLink RX7 278 "SeaGames$Board" "now" "[I", Cond.fieldLink RX7 28 "SeaGames" "truth" "LSeaGames$Track;", Cond.fieldLink RX7 209 "SeaGames$Play" "w" "I", Cond.fieldLink RX7 203 "SeaGames$Play" "h" "I", Cond.fieldLink RX7 98 "SeaGames$Play" "rules" "[I", Cond.methodLink RX7 267 yX0_start, Cond.instanceMethod yX0_start, Cond.selects RX0 yX0_start yX0_start, Cond.initialized RX0, Cond.code yX0_start cX0_start 3 none, Cond.fieldLink RX0 9 "SeaGames$Board" "now" "[I", Cond.fieldLink RX0 21 "SeaGames$Play" "hands" "I", Cond.fieldLink RX0 27 "SeaGames$Play" "w" "I", Cond.fieldLink RX0 34 "SeaGames$Play" "h" "I", Cond.methodLink RX0 15 yJ7_fill_53178, Cond.static yJ7_fill_53178, Cond.initialized RJ7, Cond.code yJ7_fill_53178 cJ7_fill_53178 4 none, Cond.static yX7_spotOf, Cond.initialized RX7, Cond.code yX7_spotOf cX7_spotOf 5 (some .int)]
def wsX7_thinkTo_r2 : List Cond := [Cond.methodLink RX7 315 yX3_setOnly, Cond.instanceMethod yX3_setOnly, Cond.selects RX3 yX3_setOnly yX3_setOnly, Cond.initialized RX3, Cond.code yX3_setOnly cX3_setOnly 2 none, Cond.fieldLink RX3 9 "SeaGames$Fog" "masks" "[I", Cond.methodLink RX3 15 yJ7_fill_53178, Cond.static yX7_yOf, Cond.code yX7_yOf cX7_yOf 1 (some .int), Cond.static yX7_xOf, Cond.code yX7_xOf cX7_xOf 1 (some .int), Cond.methodLink RX7 196 yX7_seesThen, Cond.instanceMethod yX7_seesThen, Cond.selects RX7 yX7_seesThen yX7_seesThen, Cond.code yX7_seesThen cX7_seesThen 4 (some .boolean), Cond.methodLink RX7 133 yX6_at, Cond.instanceMethod yX6_at, Cond.selects RX6 yX6_at yX6_at, Cond.initialized RX6, Cond.code yX6_at cX6_at 3 (some .int), Cond.fieldLink RX6 9 "SeaGames$Track" "rows" "[I", Cond.methodLink RX7 312 yX7_distance, Cond.static yX7_distance, Cond.code yX7_distance cX7_distance 2 (some .int)]
def wsX7_thinkTo_r3 : List Cond := [Cond.methodLink RX7 299 Lib.Math.abs.name, Cond.static Lib.Math.abs.name, Cond.initialized "java/lang/Math", Cond.code Lib.Math.abs.name Lib.Math.abs.code 1 (some .int), Cond.methodLink RX7 296 yX7_xOf, Cond.methodLink RX7 293 yX7_yOf, Cond.methodLink RX7 318 yX3_spread, Cond.instanceMethod yX3_spread, Cond.selects RX3 yX3_spread yX3_spread, Cond.code yX3_spread cX3_spread 8 none, Cond.methodLink RX7 322 yX3_removeSeen, Cond.instanceMethod yX3_removeSeen, Cond.selects RX3 yX3_removeSeen yX3_removeSeen, Cond.code yX3_removeSeen cX3_removeSeen 8 none, Cond.methodLink RX3 33 Lib.Math.abs.name, Cond.methodLink RX3 38 Lib.Math.max.name, Cond.static Lib.Math.max.name, Cond.code Lib.Math.max.name Lib.Math.max.code 2 (some .int)]
def wsX7_thinkTo : List Cond := .code yX7_thinkTo cX7_thinkTo 5 none :: ((wsX7_thinkTo_r1 ++ (wsX7_thinkTo_r2 ++ wsX7_thinkTo_r3)) ++ wsX70 ++ wsX00 ++ wsX50 ++ wsX30 ++ wsX60)
def wsX7_could_r1 : List Cond := [Cond.fieldLink RX7 52 "SeaGames" "fog" "LSeaGames$Fog;", Cond.fieldLink RX7 10 "SeaGames" "play" "LSeaGames$Play;", Cond.fieldLink RX7 203 "SeaGames$Play" "h" "I", Cond.methodLink RX7 101 yX7_isHand, Cond.instanceMethod yX7_isHand, Cond.selects RX7 yX7_isHand yX7_isHand, Cond.initialized RX7, Cond.code yX7_isHand cX7_isHand 2 (some .boolean), Cond.fieldLink RX7 123 "SeaGames$Play" "hands" "I", Cond.methodLink RX7 104 yX7_isTick, Cond.static yX7_isTick, Cond.code yX7_isTick cX7_isTick 1 (some .boolean), Cond.methodLink RX7 130 yX7_playTrulyTo, Cond.instanceMethod yX7_playTrulyTo, Cond.selects RX7 yX7_playTrulyTo yX7_playTrulyTo, Cond.code yX7_playTrulyTo cX7_playTrulyTo 4 none, Cond.fieldLink RX7 28 "SeaGames" "truth" "LSeaGames$Track;", Cond.fieldLink RX7 302 "SeaGames$Track" "ready" "I", Cond.fieldLink RX7 45 "SeaGames" "presses" "[I", Cond.fieldLink RX7 38 "SeaGames" "board" "LSeaGames$Board;", Cond.fieldLink RX7 98 "SeaGames$Play" "rules" "[I", Cond.methodLink RX7 305 yX7_setBoardAhead, Cond.instanceMethod yX7_setBoardAhead, Cond.selects RX7 yX7_setBoardAhead yX7_setBoardAhead]
def wsX7_could_r2 : List Cond := [Cond.code yX7_setBoardAhead cX7_setBoardAhead 3 none, Cond.methodLink RX7 140 yX6_load, Cond.instanceMethod yX6_load, Cond.selects RX6 yX6_load yX6_load, Cond.initialized RX6, Cond.code yX6_load cX6_load 3 none, Cond.fieldLink RX6 9 "SeaGames$Track" "rows" "[I", Cond.fieldLink RX6 25 "SeaGames$Board" "now" "[I", Cond.methodLink RX6 30 arraycopyName, Cond.native arraycopyName, Cond.static arraycopyName, Cond.initialized "java/lang/System", Cond.methodLink RX7 267 yX0_start, Cond.instanceMethod yX0_start, Cond.selects RX0 yX0_start yX0_start, Cond.initialized RX0, Cond.code yX0_start cX0_start 3 none, Cond.fieldLink RX0 9 "SeaGames$Board" "now" "[I", Cond.fieldLink RX0 21 "SeaGames$Play" "hands" "I", Cond.fieldLink RX0 27 "SeaGames$Play" "w" "I", Cond.fieldLink RX0 34 "SeaGames$Play" "h" "I", Cond.methodLink RX0 15 yJ7_fill_53178, Cond.static yJ7_fill_53178, Cond.initialized RJ7]
def wsX7_could_r3 : List Cond := [Cond.code yJ7_fill_53178 cJ7_fill_53178 4 none, Cond.static yX7_spotOf, Cond.code yX7_spotOf cX7_spotOf 5 (some .int), Cond.methodLink RX7 270 yX5_fillPresses, Cond.instanceMethod yX5_fillPresses, Cond.selects RX5 yX5_fillPresses yX5_fillPresses, Cond.initialized RX5, Cond.code yX5_fillPresses cX5_fillPresses 4 none, Cond.fieldLink RX5 18 "SeaGames$Play" "hands" "I", Cond.methodLink RX5 46 yX5_pressOf, Cond.instanceMethod yX5_pressOf, Cond.selects RX5 yX5_pressOf yX5_pressOf, Cond.code yX5_pressOf cX5_pressOf 3 (some .int), Cond.fieldLink RX5 25 "SeaGames$Play" "pressRow" "[I", Cond.methodLink RX7 274 yX0_advance, Cond.instanceMethod yX0_advance, Cond.selects RX0 yX0_advance yX0_advance, Cond.code yX0_advance cX0_advance 7 none, Cond.methodLink RX0 37 yX5_isLeft, Cond.instanceMethod yX5_isLeft, Cond.selects RX5 yX5_isLeft yX5_isLeft, Cond.code yX5_isLeft cX5_isLeft 3 (some .boolean), Cond.fieldLink RX5 28 "SeaGames$Play" "leftFrom" "[I", Cond.fieldLink RX5 31 "SeaGames$Play" "leftTo" "[I"]
def wsX7_could_r4 : List Cond := [Cond.methodLink RX0 41 yX0_machinePress, Cond.instanceMethod yX0_machinePress, Cond.selects RX0 yX0_machinePress yX0_machinePress, Cond.code yX0_machinePress cX0_machinePress 4 (some .int), Cond.methodLink RX0 69 Lib.Math.abs.name, Cond.static Lib.Math.abs.name, Cond.initialized "java/lang/Math", Cond.code Lib.Math.abs.name Lib.Math.abs.code 1 (some .int), Cond.methodLink RX0 60 yX0_wayToBall, Cond.instanceMethod yX0_wayToBall, Cond.selects RX0 yX0_wayToBall yX0_wayToBall, Cond.code yX0_wayToBall cX0_wayToBall 3 (some .int), Cond.static yX7_xOf, Cond.code yX7_xOf cX7_xOf 1 (some .int), Cond.static yX7_yOf, Cond.code yX7_yOf cX7_yOf 1 (some .int), Cond.methodLink RX0 45 yX0_kick, Cond.instanceMethod yX0_kick, Cond.selects RX0 yX0_kick yX0_kick, Cond.code yX0_kick cX0_kick 7 none, Cond.methodLink RX0 81 yX0_moveBall, Cond.instanceMethod yX0_moveBall, Cond.selects RX0 yX0_moveBall yX0_moveBall, Cond.code yX0_moveBall cX0_moveBall 4 (some .boolean)]
def wsX7_could_r5 : List Cond := [Cond.methodLink RX0 77 yX0_isFree, Cond.instanceMethod yX0_isFree, Cond.selects RX0 yX0_isFree yX0_isFree, Cond.code yX0_isFree cX0_isFree 4 (some .boolean), Cond.methodLink RX0 49 yX0_go, Cond.instanceMethod yX0_go, Cond.selects RX0 yX0_go yX0_go, Cond.code yX0_go cX0_go 5 none, Cond.methodLink RX0 52 yX0_spinBall, Cond.instanceMethod yX0_spinBall, Cond.selects RX0 yX0_spinBall yX0_spinBall, Cond.code yX0_spinBall cX0_spinBall 4 none, Cond.fieldLink RX0 84 "SeaGames$Play" "rules" "[I", Cond.methodLink RX0 56 yX0_givePoint, Cond.instanceMethod yX0_givePoint, Cond.selects RX0 yX0_givePoint yX0_givePoint, Cond.code yX0_givePoint cX0_givePoint 7 none, Cond.static yX7_distance, Cond.code yX7_distance cX7_distance 2 (some .int), Cond.methodLink RX7 299 Lib.Math.abs.name, Cond.methodLink RX7 296 yX7_xOf, Cond.methodLink RX7 293 yX7_yOf, Cond.methodLink RX7 309 yX6_save, Cond.instanceMethod yX6_save]
def wsX7_could_r6 : List Cond := [Cond.selects RX6 yX6_save yX6_save, Cond.code yX6_save cX6_save 3 none, Cond.methodLink RX7 200 yX7_thinkTo, Cond.instanceMethod yX7_thinkTo, Cond.selects RX7 yX7_thinkTo yX7_thinkTo, Cond.code yX7_thinkTo cX7_thinkTo 5 none, Cond.fieldLink RX7 278 "SeaGames$Board" "now" "[I", Cond.fieldLink RX7 209 "SeaGames$Play" "w" "I", Cond.methodLink RX7 315 yX3_setOnly, Cond.instanceMethod yX3_setOnly, Cond.selects RX3 yX3_setOnly yX3_setOnly, Cond.initialized RX3, Cond.code yX3_setOnly cX3_setOnly 2 none, Cond.fieldLink RX3 9 "SeaGames$Fog" "masks" "[I", Cond.methodLink RX3 15 yJ7_fill_53178, Cond.methodLink RX7 196 yX7_seesThen, Cond.instanceMethod yX7_seesThen, Cond.selects RX7 yX7_seesThen yX7_seesThen, Cond.code yX7_seesThen cX7_seesThen 4 (some .boolean), Cond.methodLink RX7 133 yX6_at, Cond.instanceMethod yX6_at, Cond.selects RX6 yX6_at yX6_at, Cond.code yX6_at cX6_at 3 (some .int), Cond.methodLink RX7 312 yX7_distance]
def wsX7_could_r7 : List Cond := [Cond.methodLink RX7 318 yX3_spread, Cond.instanceMethod yX3_spread, Cond.selects RX3 yX3_spread yX3_spread, Cond.code yX3_spread cX3_spread 8 none, Cond.methodLink RX7 322 yX3_removeSeen, Cond.instanceMethod yX3_removeSeen, Cond.selects RX3 yX3_removeSeen yX3_removeSeen, Cond.code yX3_removeSeen cX3_removeSeen 8 none, Cond.methodLink RX3 33 Lib.Math.abs.name, Cond.methodLink RX3 38 Lib.Math.max.name, Cond.static Lib.Math.max.name, Cond.code Lib.Math.max.name Lib.Math.max.code 2 (some .int), Cond.methodLink RX7 206 yX3_size, Cond.instanceMethod yX3_size, Cond.selects RX3 yX3_size yX3_size, Cond.code yX3_size cX3_size 4 (some .int), Cond.methodLink RX3 28 yJ6_bitCount_0f7a4, Cond.static yJ6_bitCount_0f7a4, Cond.initialized RJ6, Cond.code yJ6_bitCount_0f7a4 cJ6_bitCount_0f7a4 1 (some .int), Cond.constant RJ6 265 (1431655765), Cond.constant RJ6 266 (858993459), Cond.constant RJ6 267 (252645135)]
def wsX7_could : List Cond := .code yX7_could cX7_could 4 (some .int) :: ((wsX7_could_r1 ++ (wsX7_could_r2 ++ (wsX7_could_r3 ++ (wsX7_could_r4 ++ (wsX7_could_r5 ++ (wsX7_could_r6 ++ wsX7_could_r7)))))) ++ wsX70 ++ wsX50 ++ wsX60 ++ wsX00 ++ wsX30)
def wsX7_couldBe_r1 : List Cond := [Cond.fieldLink RX7 10 "SeaGames" "play" "LSeaGames$Play;", Cond.fieldLink RX7 209 "SeaGames$Play" "w" "I", Cond.fieldLink RX7 203 "SeaGames$Play" "h" "I", Cond.fieldLink RX7 52 "SeaGames" "fog" "LSeaGames$Fog;", Cond.methodLink RX7 101 yX7_isHand, Cond.instanceMethod yX7_isHand, Cond.selects RX7 yX7_isHand yX7_isHand, Cond.initialized RX7, Cond.code yX7_isHand cX7_isHand 2 (some .boolean), Cond.fieldLink RX7 123 "SeaGames$Play" "hands" "I", Cond.methodLink RX7 104 yX7_isTick, Cond.static yX7_isTick, Cond.code yX7_isTick cX7_isTick 1 (some .boolean), Cond.methodLink RX7 130 yX7_playTrulyTo, Cond.instanceMethod yX7_playTrulyTo, Cond.selects RX7 yX7_playTrulyTo yX7_playTrulyTo, Cond.code yX7_playTrulyTo cX7_playTrulyTo 4 none, Cond.fieldLink RX7 28 "SeaGames" "truth" "LSeaGames$Track;", Cond.fieldLink RX7 302 "SeaGames$Track" "ready" "I", Cond.fieldLink RX7 45 "SeaGames" "presses" "[I", Cond.fieldLink RX7 38 "SeaGames" "board" "LSeaGames$Board;", Cond.fieldLink RX7 98 "SeaGames$Play" "rules" "[I", Cond.methodLink RX7 305 yX7_setBoardAhead, Cond.instanceMethod yX7_setBoardAhead]
def wsX7_couldBe_r2 : List Cond := [Cond.selects RX7 yX7_setBoardAhead yX7_setBoardAhead, Cond.code yX7_setBoardAhead cX7_setBoardAhead 3 none, Cond.methodLink RX7 140 yX6_load, Cond.instanceMethod yX6_load, Cond.selects RX6 yX6_load yX6_load, Cond.initialized RX6, Cond.code yX6_load cX6_load 3 none, Cond.fieldLink RX6 9 "SeaGames$Track" "rows" "[I", Cond.fieldLink RX6 25 "SeaGames$Board" "now" "[I", Cond.methodLink RX6 30 arraycopyName, Cond.native arraycopyName, Cond.static arraycopyName, Cond.initialized "java/lang/System", Cond.methodLink RX7 267 yX0_start, Cond.instanceMethod yX0_start, Cond.selects RX0 yX0_start yX0_start, Cond.initialized RX0, Cond.code yX0_start cX0_start 3 none, Cond.fieldLink RX0 9 "SeaGames$Board" "now" "[I", Cond.fieldLink RX0 21 "SeaGames$Play" "hands" "I", Cond.fieldLink RX0 27 "SeaGames$Play" "w" "I", Cond.fieldLink RX0 34 "SeaGames$Play" "h" "I", Cond.methodLink RX0 15 yJ7_fill_53178, Cond.static yJ7_fill_53178]
def wsX7_couldBe_r3 : List Cond := [Cond.initialized RJ7, Cond.code yJ7_fill_53178 cJ7_fill_53178 4 none, Cond.static yX7_spotOf, Cond.code yX7_spotOf cX7_spotOf 5 (some .int), Cond.methodLink RX7 270 yX5_fillPresses, Cond.instanceMethod yX5_fillPresses, Cond.selects RX5 yX5_fillPresses yX5_fillPresses, Cond.initialized RX5, Cond.code yX5_fillPresses cX5_fillPresses 4 none, Cond.fieldLink RX5 18 "SeaGames$Play" "hands" "I", Cond.methodLink RX5 46 yX5_pressOf, Cond.instanceMethod yX5_pressOf, Cond.selects RX5 yX5_pressOf yX5_pressOf, Cond.code yX5_pressOf cX5_pressOf 3 (some .int), Cond.fieldLink RX5 25 "SeaGames$Play" "pressRow" "[I", Cond.methodLink RX7 274 yX0_advance, Cond.instanceMethod yX0_advance, Cond.selects RX0 yX0_advance yX0_advance, Cond.code yX0_advance cX0_advance 7 none, Cond.methodLink RX0 37 yX5_isLeft, Cond.instanceMethod yX5_isLeft, Cond.selects RX5 yX5_isLeft yX5_isLeft, Cond.code yX5_isLeft cX5_isLeft 3 (some .boolean), Cond.fieldLink RX5 28 "SeaGames$Play" "leftFrom" "[I"]
def wsX7_couldBe_r4 : List Cond := [Cond.fieldLink RX5 31 "SeaGames$Play" "leftTo" "[I", Cond.methodLink RX0 41 yX0_machinePress, Cond.instanceMethod yX0_machinePress, Cond.selects RX0 yX0_machinePress yX0_machinePress, Cond.code yX0_machinePress cX0_machinePress 4 (some .int), Cond.methodLink RX0 69 Lib.Math.abs.name, Cond.static Lib.Math.abs.name, Cond.initialized "java/lang/Math", Cond.code Lib.Math.abs.name Lib.Math.abs.code 1 (some .int), Cond.methodLink RX0 60 yX0_wayToBall, Cond.instanceMethod yX0_wayToBall, Cond.selects RX0 yX0_wayToBall yX0_wayToBall, Cond.code yX0_wayToBall cX0_wayToBall 3 (some .int), Cond.static yX7_xOf, Cond.code yX7_xOf cX7_xOf 1 (some .int), Cond.static yX7_yOf, Cond.code yX7_yOf cX7_yOf 1 (some .int), Cond.methodLink RX0 45 yX0_kick, Cond.instanceMethod yX0_kick, Cond.selects RX0 yX0_kick yX0_kick, Cond.code yX0_kick cX0_kick 7 none, Cond.methodLink RX0 81 yX0_moveBall, Cond.instanceMethod yX0_moveBall, Cond.selects RX0 yX0_moveBall yX0_moveBall]
def wsX7_couldBe_r5 : List Cond := [Cond.code yX0_moveBall cX0_moveBall 4 (some .boolean), Cond.methodLink RX0 77 yX0_isFree, Cond.instanceMethod yX0_isFree, Cond.selects RX0 yX0_isFree yX0_isFree, Cond.code yX0_isFree cX0_isFree 4 (some .boolean), Cond.methodLink RX0 49 yX0_go, Cond.instanceMethod yX0_go, Cond.selects RX0 yX0_go yX0_go, Cond.code yX0_go cX0_go 5 none, Cond.methodLink RX0 52 yX0_spinBall, Cond.instanceMethod yX0_spinBall, Cond.selects RX0 yX0_spinBall yX0_spinBall, Cond.code yX0_spinBall cX0_spinBall 4 none, Cond.fieldLink RX0 84 "SeaGames$Play" "rules" "[I", Cond.methodLink RX0 56 yX0_givePoint, Cond.instanceMethod yX0_givePoint, Cond.selects RX0 yX0_givePoint yX0_givePoint, Cond.code yX0_givePoint cX0_givePoint 7 none, Cond.static yX7_distance, Cond.code yX7_distance cX7_distance 2 (some .int), Cond.methodLink RX7 299 Lib.Math.abs.name, Cond.methodLink RX7 296 yX7_xOf, Cond.methodLink RX7 293 yX7_yOf, Cond.methodLink RX7 309 yX6_save]
def wsX7_couldBe_r6 : List Cond := [Cond.instanceMethod yX6_save, Cond.selects RX6 yX6_save yX6_save, Cond.code yX6_save cX6_save 3 none, Cond.methodLink RX7 200 yX7_thinkTo, Cond.instanceMethod yX7_thinkTo, Cond.selects RX7 yX7_thinkTo yX7_thinkTo, Cond.code yX7_thinkTo cX7_thinkTo 5 none, Cond.fieldLink RX7 278 "SeaGames$Board" "now" "[I", Cond.methodLink RX7 315 yX3_setOnly, Cond.instanceMethod yX3_setOnly, Cond.selects RX3 yX3_setOnly yX3_setOnly, Cond.initialized RX3, Cond.code yX3_setOnly cX3_setOnly 2 none, Cond.fieldLink RX3 9 "SeaGames$Fog" "masks" "[I", Cond.methodLink RX3 15 yJ7_fill_53178, Cond.methodLink RX7 196 yX7_seesThen, Cond.instanceMethod yX7_seesThen, Cond.selects RX7 yX7_seesThen yX7_seesThen, Cond.code yX7_seesThen cX7_seesThen 4 (some .boolean), Cond.methodLink RX7 133 yX6_at, Cond.instanceMethod yX6_at, Cond.selects RX6 yX6_at yX6_at, Cond.code yX6_at cX6_at 3 (some .int), Cond.methodLink RX7 312 yX7_distance]
def wsX7_couldBe_r7 : List Cond := [Cond.methodLink RX7 318 yX3_spread, Cond.instanceMethod yX3_spread, Cond.selects RX3 yX3_spread yX3_spread, Cond.code yX3_spread cX3_spread 8 none, Cond.methodLink RX7 322 yX3_removeSeen, Cond.instanceMethod yX3_removeSeen, Cond.selects RX3 yX3_removeSeen yX3_removeSeen, Cond.code yX3_removeSeen cX3_removeSeen 8 none, Cond.methodLink RX3 33 Lib.Math.abs.name, Cond.methodLink RX3 38 Lib.Math.max.name, Cond.static Lib.Math.max.name, Cond.code Lib.Math.max.name Lib.Math.max.code 2 (some .int), Cond.methodLink RX7 212 yX7_spotOf, Cond.methodLink RX7 215 yX3_has, Cond.instanceMethod yX3_has, Cond.selects RX3 yX3_has yX3_has, Cond.code yX3_has cX3_has 2 (some .boolean)]
def wsX7_couldBe : List Cond := .code yX7_couldBe cX7_couldBe 5 (some .int) :: ((wsX7_couldBe_r1 ++ (wsX7_couldBe_r2 ++ (wsX7_couldBe_r3 ++ (wsX7_couldBe_r4 ++ (wsX7_couldBe_r5 ++ (wsX7_couldBe_r6 ++ wsX7_couldBe_r7)))))) ++ wsX70 ++ wsX50 ++ wsX60 ++ wsX00 ++ wsX30)
def wsX7_isShore : List Cond := .code yX7_isShore cX7_isShore 1 (some .boolean) :: ([])
def wsX7_player : List Cond := .code yX7_player cX7_player 3 (some .int) :: ([.fieldLink RX7 59 "SeaGames" "crowd" "LSeaGames$Crowd;", .fieldLink RX7 221 "SeaGames$Crowd" "size" "I", .methodLink RX7 218 yX7_isShore, .static yX7_isShore, .initialized RX7, .code yX7_isShore cX7_isShore 1 (some .boolean), .methodLink RX7 223 yX1_join, .instanceMethod yX1_join, .selects RX1 yX1_join yX1_join, .initialized RX1, .code yX1_join cX1_join 3 (some .int), .fieldLink RX1 19 "SeaGames$Crowd" "skills" "[I", .fieldLink RX1 9 "SeaGames$Crowd" "size" "I", .fieldLink RX1 22 "SeaGames$Crowd" "shores" "[I", .fieldLink RX1 31 "SeaGames$Crowd" "paired" "Z"] ++ wsX70 ++ wsX10)
def wsX7_far : List Cond := .code yX7_far cX7_far 4 (some .int) :: ([.fieldLink RX7 59 "SeaGames" "crowd" "LSeaGames$Crowd;", .methodLink RX7 218 yX7_isShore, .static yX7_isShore, .initialized RX7, .code yX7_isShore cX7_isShore 1 (some .boolean), .methodLink RX7 226 yX1_setFar, .instanceMethod yX1_setFar, .selects RX1 yX1_setFar yX1_setFar, .initialized RX1, .code yX1_setFar cX1_setFar 5 (some .int), .fieldLink RX1 25 "SeaGames$Crowd" "fars" "[I", .fieldLink RX1 31 "SeaGames$Crowd" "paired" "Z"] ++ wsX70 ++ wsX10)
def wsX7_pairs_r1 : List Cond := [Cond.fieldLink RX7 59 "SeaGames" "crowd" "LSeaGames$Crowd;", Cond.methodLink RX7 229 yX1_pairUp, Cond.instanceMethod yX1_pairUp, Cond.selects RX1 yX1_pairUp yX1_pairUp, Cond.initialized RX1, Cond.code yX1_pairUp cX1_pairUp 4 none, Cond.fieldLink RX1 31 "SeaGames$Crowd" "paired" "Z", Cond.fieldLink RX1 9 "SeaGames$Crowd" "size" "I", Cond.fieldLink RX1 28 "SeaGames$Crowd" "least" "[I", Cond.fieldLink RX1 15 "SeaGames$Crowd" "mates" "[I", Cond.methodLink RX1 35 yX1_leastOf, Cond.instanceMethod yX1_leastOf, Cond.selects RX1 yX1_leastOf yX1_leastOf, Cond.code yX1_leastOf cX1_leastOf 7 (some .int), Cond.constant RX1 56 (2147483647), Cond.methodLink RX1 60 Lib.Math.min.name, Cond.static Lib.Math.min.name, Cond.initialized "java/lang/Math", Cond.code Lib.Math.min.name Lib.Math.min.code 2 (some .int), Cond.methodLink RX1 48 yX1_firstOf, Cond.instanceMethod yX1_firstOf, Cond.selects RX1 yX1_firstOf yX1_firstOf, Cond.code yX1_firstOf cX1_firstOf 3 (some .int), Cond.methodLink RX1 51 yJ6_bitCount_0f7a4]
def wsX7_pairs_r2 : List Cond := [Cond.static yJ6_bitCount_0f7a4, Cond.initialized RJ6, Cond.code yJ6_bitCount_0f7a4 cJ6_bitCount_0f7a4 1 (some .int), Cond.constant RJ6 265 (1431655765), Cond.constant RJ6 266 (858993459), Cond.constant RJ6 267 (252645135), Cond.methodLink RX1 57 yX1_costOfPair, Cond.instanceMethod yX1_costOfPair, Cond.selects RX1 yX1_costOfPair yX1_costOfPair, Cond.code yX1_costOfPair cX1_costOfPair 3 (some .int), Cond.fieldLink RX1 19 "SeaGames$Crowd" "skills" "[I", Cond.methodLink RX1 43 Lib.Math.abs.name, Cond.static Lib.Math.abs.name, Cond.code Lib.Math.abs.name Lib.Math.abs.code 1 (some .int), Cond.fieldLink RX1 25 "SeaGames$Crowd" "fars" "[I", Cond.fieldLink RX1 22 "SeaGames$Crowd" "shores" "[I", Cond.methodLink RX1 39 yX1_leastMate, Cond.instanceMethod yX1_leastMate, Cond.selects RX1 yX1_leastMate yX1_leastMate, Cond.code yX1_leastMate cX1_leastMate 5 (some .int), Cond.methodLink RX7 232 yX1_leastCost, Cond.instanceMethod yX1_leastCost, Cond.selects RX1 yX1_leastCost yX1_leastCost, Cond.code yX1_leastCost cX1_leastCost 1 (some .int)]
def wsX7_pairs : List Cond := .code yX7_pairs cX7_pairs 1 (some .int) :: ((wsX7_pairs_r1 ++ wsX7_pairs_r2) ++ wsX70 ++ wsX10)
def wsX7_mate_r1 : List Cond := [Cond.fieldLink RX7 59 "SeaGames" "crowd" "LSeaGames$Crowd;", Cond.fieldLink RX7 221 "SeaGames$Crowd" "size" "I", Cond.fieldLink RX7 236 "SeaGames$Crowd" "mates" "[I", Cond.methodLink RX7 229 yX1_pairUp, Cond.instanceMethod yX1_pairUp, Cond.selects RX1 yX1_pairUp yX1_pairUp, Cond.initialized RX1, Cond.code yX1_pairUp cX1_pairUp 4 none, Cond.fieldLink RX1 31 "SeaGames$Crowd" "paired" "Z", Cond.fieldLink RX1 9 "SeaGames$Crowd" "size" "I", Cond.fieldLink RX1 28 "SeaGames$Crowd" "least" "[I", Cond.fieldLink RX1 15 "SeaGames$Crowd" "mates" "[I", Cond.methodLink RX1 35 yX1_leastOf, Cond.instanceMethod yX1_leastOf, Cond.selects RX1 yX1_leastOf yX1_leastOf, Cond.code yX1_leastOf cX1_leastOf 7 (some .int), Cond.constant RX1 56 (2147483647), Cond.methodLink RX1 60 Lib.Math.min.name, Cond.static Lib.Math.min.name, Cond.initialized "java/lang/Math", Cond.code Lib.Math.min.name Lib.Math.min.code 2 (some .int), Cond.methodLink RX1 48 yX1_firstOf, Cond.instanceMethod yX1_firstOf, Cond.selects RX1 yX1_firstOf yX1_firstOf]
def wsX7_mate_r2 : List Cond := [Cond.code yX1_firstOf cX1_firstOf 3 (some .int), Cond.methodLink RX1 51 yJ6_bitCount_0f7a4, Cond.static yJ6_bitCount_0f7a4, Cond.initialized RJ6, Cond.code yJ6_bitCount_0f7a4 cJ6_bitCount_0f7a4 1 (some .int), Cond.constant RJ6 265 (1431655765), Cond.constant RJ6 266 (858993459), Cond.constant RJ6 267 (252645135), Cond.methodLink RX1 57 yX1_costOfPair, Cond.instanceMethod yX1_costOfPair, Cond.selects RX1 yX1_costOfPair yX1_costOfPair, Cond.code yX1_costOfPair cX1_costOfPair 3 (some .int), Cond.fieldLink RX1 19 "SeaGames$Crowd" "skills" "[I", Cond.methodLink RX1 43 Lib.Math.abs.name, Cond.static Lib.Math.abs.name, Cond.code Lib.Math.abs.name Lib.Math.abs.code 1 (some .int), Cond.fieldLink RX1 25 "SeaGames$Crowd" "fars" "[I", Cond.fieldLink RX1 22 "SeaGames$Crowd" "shores" "[I", Cond.methodLink RX1 39 yX1_leastMate, Cond.instanceMethod yX1_leastMate, Cond.selects RX1 yX1_leastMate yX1_leastMate, Cond.code yX1_leastMate cX1_leastMate 5 (some .int)]
def wsX7_mate : List Cond := .code yX7_mate cX7_mate 2 (some .int) :: ((wsX7_mate_r1 ++ wsX7_mate_r2) ++ wsX70 ++ wsX10)
def wsX7_odds_r1 : List Cond := [Cond.constantLong RX7 239 (-2), Cond.methodLink RX7 241 Lib.Math.min.name, Cond.static Lib.Math.min.name, Cond.initialized "java/lang/Math", Cond.code Lib.Math.min.name Lib.Math.min.code 2 (some .int), Cond.fieldLink RX7 66 "SeaGames" "deal" "LSeaGames$Deal;", Cond.fieldLink RX7 248 "SeaGames$Deal" "above" "J", Cond.fieldLink RX7 252 "SeaGames$Deal" "below" "J", Cond.methodLink RX7 244 yX2_reckon, Cond.instanceMethod yX2_reckon, Cond.selects RX2 yX2_reckon yX2_reckon, Cond.initialized RX2, Cond.code yX2_reckon cX2_reckon 12 none, Cond.fieldLink RX2 18 "SeaGames$Deal" "amongHits" "[J", Cond.fieldLink RX2 22 "SeaGames$Deal" "amongOthers" "[J", Cond.methodLink RX2 29 Lib.Math.max.name, Cond.static Lib.Math.max.name, Cond.code Lib.Math.max.name Lib.Math.max.code 2 (some .int), Cond.methodLink RX2 35 Lib.Math.min.name, Cond.fieldLink RX2 9 "SeaGames$Deal" "above" "J", Cond.fieldLink RX2 15 "SeaGames$Deal" "below" "J", Cond.methodLink RX2 25 yX2_fillChoices, Cond.static yX2_fillChoices, Cond.code yX2_fillChoices cX2_fillChoices 4 none]
def wsX7_odds_r2 : List Cond := [Cond.methodLink RX2 42 yJ7_fill_d0a16, Cond.static yJ7_fill_d0a16, Cond.initialized RJ7, Cond.code yJ7_fill_d0a16 cJ7_fill_d0a16 5 none, Cond.methodLink RX2 38 yX2_commonOf, Cond.static yX2_commonOf, Cond.code yX2_commonOf cX2_commonOf 11 (some .long)]
def wsX7_odds : List Cond := .code yX7_odds cX7_odds 6 (some .long) :: ((wsX7_odds_r1 ++ wsX7_odds_r2) ++ wsX70 ++ wsX20)
def wsX7_isSlot : List Cond := .code yX7_isSlot cX7_isSlot 1 (some .boolean) :: ([])
def wsX7_keep_r1 : List Cond := [Cond.fieldLink RX7 70 "SeaGames" "slots" "[LSeaGames$Play;", Cond.fieldLink RX7 10 "SeaGames" "play" "LSeaGames$Play;", Cond.fieldLink RX7 74 "SeaGames" "kept" "[Z", Cond.methodLink RX7 255 yX7_isSlot, Cond.static yX7_isSlot, Cond.initialized RX7, Cond.code yX7_isSlot cX7_isSlot 1 (some .boolean), Cond.methodLink RX7 258 yX5_copyFrom, Cond.instanceMethod yX5_copyFrom, Cond.selects RX5 yX5_copyFrom yX5_copyFrom, Cond.initialized RX5, Cond.code yX5_copyFrom cX5_copyFrom 2 none, Cond.fieldLink RX5 9 "SeaGames$Play" "w" "I", Cond.fieldLink RX5 15 "SeaGames$Play" "h" "I", Cond.fieldLink RX5 18 "SeaGames$Play" "hands" "I", Cond.fieldLink RX5 21 "SeaGames$Play" "rules" "[I", Cond.methodLink RX5 40 arraycopyName, Cond.native arraycopyName, Cond.static arraycopyName, Cond.initialized "java/lang/System", Cond.fieldLink RX5 25 "SeaGames$Play" "pressRow" "[I", Cond.fieldLink RX5 28 "SeaGames$Play" "leftFrom" "[I", Cond.fieldLink RX5 31 "SeaGames$Play" "leftTo" "[I", Cond.methodLink RX7 261 yX5_pressed]
def wsX7_keep_r2 : List Cond := [Cond.instanceMethod yX5_pressed, Cond.selects RX5 yX5_pressed yX5_pressed, Cond.code yX5_pressed cX5_pressed 3 (some .int)]
def wsX7_keep : List Cond := .code yX7_keep cX7_keep 2 (some .int) :: ((wsX7_keep_r1 ++ wsX7_keep_r2) ++ wsX70 ++ wsX50)
def wsX7_again_r1 : List Cond := [Cond.fieldLink RX7 74 "SeaGames" "kept" "[Z", Cond.fieldLink RX7 10 "SeaGames" "play" "LSeaGames$Play;", Cond.fieldLink RX7 70 "SeaGames" "slots" "[LSeaGames$Play;", Cond.fieldLink RX7 28 "SeaGames" "truth" "LSeaGames$Track;", Cond.fieldLink RX7 123 "SeaGames$Play" "hands" "I", Cond.methodLink RX7 255 yX7_isSlot, Cond.static yX7_isSlot, Cond.initialized RX7, Cond.code yX7_isSlot cX7_isSlot 1 (some .boolean), Cond.methodLink RX7 258 yX5_copyFrom, Cond.instanceMethod yX5_copyFrom, Cond.selects RX5 yX5_copyFrom yX5_copyFrom, Cond.initialized RX5, Cond.code yX5_copyFrom cX5_copyFrom 2 none, Cond.fieldLink RX5 9 "SeaGames$Play" "w" "I", Cond.fieldLink RX5 15 "SeaGames$Play" "h" "I", Cond.fieldLink RX5 18 "SeaGames$Play" "hands" "I", Cond.fieldLink RX5 21 "SeaGames$Play" "rules" "[I", Cond.methodLink RX5 40 arraycopyName, Cond.native arraycopyName, Cond.static arraycopyName, Cond.initialized "java/lang/System", Cond.fieldLink RX5 25 "SeaGames$Play" "pressRow" "[I", Cond.fieldLink RX5 28 "SeaGames$Play" "leftFrom" "[I"]
def wsX7_again_r2 : List Cond := [Cond.fieldLink RX5 31 "SeaGames$Play" "leftTo" "[I", Cond.methodLink RX7 88 yX6_keepBelow, Cond.instanceMethod yX6_keepBelow, Cond.selects RX6 yX6_keepBelow yX6_keepBelow, Cond.initialized RX6, Cond.code yX6_keepBelow cX6_keepBelow 2 none, Cond.fieldLink RX6 15 "SeaGames$Track" "ready" "I", Cond.methodLink RX6 19 Lib.Math.min.name, Cond.static Lib.Math.min.name, Cond.initialized "java/lang/Math", Cond.code Lib.Math.min.name Lib.Math.min.code 2 (some .int)]
def wsX7_again : List Cond := .code yX7_again cX7_again 2 (some .int) :: ((wsX7_again_r1 ++ wsX7_again_r2) ++ wsX70 ++ wsX50 ++ wsX60)
def wsX7_isPower : List Cond := .code yX7_isPower cX7_isPower 1 (some .boolean) :: ([.fieldLink RX7 92 "SeaGames" "LEAST_RULE" "[I", .fieldLink RX7 95 "SeaGames" "MOST_RULE" "[I"])
def wsX7_tried_r1 : List Cond := [Cond.fieldLink RX7 74 "SeaGames" "kept" "[Z", Cond.fieldLink RX7 70 "SeaGames" "slots" "[LSeaGames$Play;", Cond.fieldLink RX7 123 "SeaGames$Play" "hands" "I", Cond.fieldLink RX7 38 "SeaGames" "board" "LSeaGames$Board;", Cond.fieldLink RX7 45 "SeaGames" "presses" "[I", Cond.fieldLink RX7 278 "SeaGames$Board" "now" "[I", Cond.methodLink RX7 255 yX7_isSlot, Cond.static yX7_isSlot, Cond.initialized RX7, Cond.code yX7_isSlot cX7_isSlot 1 (some .boolean), Cond.methodLink RX7 104 yX7_isTick, Cond.static yX7_isTick, Cond.code yX7_isTick cX7_isTick 1 (some .boolean), Cond.methodLink RX7 127 yX7_columnOf, Cond.static yX7_columnOf, Cond.code yX7_columnOf cX7_columnOf 2 (some .int), Cond.methodLink RX7 264 yX7_isPower, Cond.static yX7_isPower, Cond.code yX7_isPower cX7_isPower 1 (some .boolean), Cond.fieldLink RX7 92 "SeaGames" "LEAST_RULE" "[I", Cond.fieldLink RX7 95 "SeaGames" "MOST_RULE" "[I", Cond.methodLink RX7 267 yX0_start, Cond.instanceMethod yX0_start, Cond.selects RX0 yX0_start yX0_start]
def wsX7_tried_r2 : List Cond := [Cond.initialized RX0, Cond.code yX0_start cX0_start 3 none, Cond.fieldLink RX0 9 "SeaGames$Board" "now" "[I", Cond.fieldLink RX0 21 "SeaGames$Play" "hands" "I", Cond.fieldLink RX0 27 "SeaGames$Play" "w" "I", Cond.fieldLink RX0 34 "SeaGames$Play" "h" "I", Cond.methodLink RX0 15 yJ7_fill_53178, Cond.static yJ7_fill_53178, Cond.initialized RJ7, Cond.code yJ7_fill_53178 cJ7_fill_53178 4 none, Cond.static yX7_spotOf, Cond.code yX7_spotOf cX7_spotOf 5 (some .int), Cond.methodLink RX7 270 yX5_fillPresses, Cond.instanceMethod yX5_fillPresses, Cond.selects RX5 yX5_fillPresses yX5_fillPresses, Cond.initialized RX5, Cond.code yX5_fillPresses cX5_fillPresses 4 none, Cond.fieldLink RX5 18 "SeaGames$Play" "hands" "I", Cond.methodLink RX5 46 yX5_pressOf, Cond.instanceMethod yX5_pressOf, Cond.selects RX5 yX5_pressOf yX5_pressOf, Cond.code yX5_pressOf cX5_pressOf 3 (some .int), Cond.fieldLink RX5 25 "SeaGames$Play" "pressRow" "[I", Cond.methodLink RX7 274 yX0_advance]
def wsX7_tried_r3 : List Cond := [Cond.instanceMethod yX0_advance, Cond.selects RX0 yX0_advance yX0_advance, Cond.code yX0_advance cX0_advance 7 none, Cond.methodLink RX0 37 yX5_isLeft, Cond.instanceMethod yX5_isLeft, Cond.selects RX5 yX5_isLeft yX5_isLeft, Cond.code yX5_isLeft cX5_isLeft 3 (some .boolean), Cond.fieldLink RX5 28 "SeaGames$Play" "leftFrom" "[I", Cond.fieldLink RX5 31 "SeaGames$Play" "leftTo" "[I", Cond.methodLink RX0 41 yX0_machinePress, Cond.instanceMethod yX0_machinePress, Cond.selects RX0 yX0_machinePress yX0_machinePress, Cond.code yX0_machinePress cX0_machinePress 4 (some .int), Cond.methodLink RX0 69 Lib.Math.abs.name, Cond.static Lib.Math.abs.name, Cond.initialized "java/lang/Math", Cond.code Lib.Math.abs.name Lib.Math.abs.code 1 (some .int), Cond.methodLink RX0 60 yX0_wayToBall, Cond.instanceMethod yX0_wayToBall, Cond.selects RX0 yX0_wayToBall yX0_wayToBall, Cond.code yX0_wayToBall cX0_wayToBall 3 (some .int), Cond.static yX7_xOf, Cond.code yX7_xOf cX7_xOf 1 (some .int), Cond.static yX7_yOf]
def wsX7_tried_r4 : List Cond := [Cond.code yX7_yOf cX7_yOf 1 (some .int), Cond.methodLink RX0 45 yX0_kick, Cond.instanceMethod yX0_kick, Cond.selects RX0 yX0_kick yX0_kick, Cond.code yX0_kick cX0_kick 7 none, Cond.methodLink RX0 81 yX0_moveBall, Cond.instanceMethod yX0_moveBall, Cond.selects RX0 yX0_moveBall yX0_moveBall, Cond.code yX0_moveBall cX0_moveBall 4 (some .boolean), Cond.methodLink RX0 77 yX0_isFree, Cond.instanceMethod yX0_isFree, Cond.selects RX0 yX0_isFree yX0_isFree, Cond.code yX0_isFree cX0_isFree 4 (some .boolean), Cond.methodLink RX0 49 yX0_go, Cond.instanceMethod yX0_go, Cond.selects RX0 yX0_go yX0_go, Cond.code yX0_go cX0_go 5 none, Cond.methodLink RX0 52 yX0_spinBall, Cond.instanceMethod yX0_spinBall, Cond.selects RX0 yX0_spinBall yX0_spinBall, Cond.code yX0_spinBall cX0_spinBall 4 none, Cond.fieldLink RX0 84 "SeaGames$Play" "rules" "[I", Cond.methodLink RX0 56 yX0_givePoint, Cond.instanceMethod yX0_givePoint]
def wsX7_tried_r5 : List Cond := [Cond.selects RX0 yX0_givePoint yX0_givePoint, Cond.code yX0_givePoint cX0_givePoint 7 none, Cond.static yX7_distance, Cond.code yX7_distance cX7_distance 2 (some .int), Cond.methodLink RX7 299 Lib.Math.abs.name, Cond.methodLink RX7 296 yX7_xOf, Cond.methodLink RX7 293 yX7_yOf, Cond.methodLink RX7 136 yX7_told, Cond.static yX7_told, Cond.code yX7_told cX7_told 3 (some .int), Cond.fieldLink RX7 209 "SeaGames$Play" "w" "I"]
def wsX7_tried : List Cond := .code yX7_tried cX7_tried 8 (some .int) :: ((wsX7_tried_r1 ++ (wsX7_tried_r2 ++ (wsX7_tried_r3 ++ (wsX7_tried_r4 ++ wsX7_tried_r5)))) ++ wsX70 ++ wsX50 ++ wsX00)
def wsX7_differs_r1 : List Cond := [Cond.fieldLink RX7 74 "SeaGames" "kept" "[Z", Cond.fieldLink RX7 70 "SeaGames" "slots" "[LSeaGames$Play;", Cond.fieldLink RX7 38 "SeaGames" "board" "LSeaGames$Board;", Cond.fieldLink RX7 42 "SeaGames" "otherBoard" "LSeaGames$Board;", Cond.fieldLink RX7 45 "SeaGames" "presses" "[I", Cond.fieldLink RX7 98 "SeaGames$Play" "rules" "[I", Cond.methodLink RX7 255 yX7_isSlot, Cond.static yX7_isSlot, Cond.initialized RX7, Cond.code yX7_isSlot cX7_isSlot 1 (some .boolean), Cond.methodLink RX7 264 yX7_isPower, Cond.static yX7_isPower, Cond.code yX7_isPower cX7_isPower 1 (some .boolean), Cond.fieldLink RX7 92 "SeaGames" "LEAST_RULE" "[I", Cond.fieldLink RX7 95 "SeaGames" "MOST_RULE" "[I", Cond.methodLink RX7 267 yX0_start, Cond.instanceMethod yX0_start, Cond.selects RX0 yX0_start yX0_start, Cond.initialized RX0, Cond.code yX0_start cX0_start 3 none, Cond.fieldLink RX0 9 "SeaGames$Board" "now" "[I", Cond.fieldLink RX0 21 "SeaGames$Play" "hands" "I", Cond.fieldLink RX0 27 "SeaGames$Play" "w" "I", Cond.fieldLink RX0 34 "SeaGames$Play" "h" "I"]
def wsX7_differs_r2 : List Cond := [Cond.methodLink RX0 15 yJ7_fill_53178, Cond.static yJ7_fill_53178, Cond.initialized RJ7, Cond.code yJ7_fill_53178 cJ7_fill_53178 4 none, Cond.static yX7_spotOf, Cond.code yX7_spotOf cX7_spotOf 5 (some .int), Cond.methodLink RX7 270 yX5_fillPresses, Cond.instanceMethod yX5_fillPresses, Cond.selects RX5 yX5_fillPresses yX5_fillPresses, Cond.initialized RX5, Cond.code yX5_fillPresses cX5_fillPresses 4 none, Cond.fieldLink RX5 18 "SeaGames$Play" "hands" "I", Cond.methodLink RX5 46 yX5_pressOf, Cond.instanceMethod yX5_pressOf, Cond.selects RX5 yX5_pressOf yX5_pressOf, Cond.code yX5_pressOf cX5_pressOf 3 (some .int), Cond.fieldLink RX5 25 "SeaGames$Play" "pressRow" "[I", Cond.methodLink RX7 274 yX0_advance, Cond.instanceMethod yX0_advance, Cond.selects RX0 yX0_advance yX0_advance, Cond.code yX0_advance cX0_advance 7 none, Cond.methodLink RX0 37 yX5_isLeft, Cond.instanceMethod yX5_isLeft, Cond.selects RX5 yX5_isLeft yX5_isLeft]
def wsX7_differs_r3 : List Cond := [Cond.code yX5_isLeft cX5_isLeft 3 (some .boolean), Cond.fieldLink RX5 28 "SeaGames$Play" "leftFrom" "[I", Cond.fieldLink RX5 31 "SeaGames$Play" "leftTo" "[I", Cond.methodLink RX0 41 yX0_machinePress, Cond.instanceMethod yX0_machinePress, Cond.selects RX0 yX0_machinePress yX0_machinePress, Cond.code yX0_machinePress cX0_machinePress 4 (some .int), Cond.methodLink RX0 69 Lib.Math.abs.name, Cond.static Lib.Math.abs.name, Cond.initialized "java/lang/Math", Cond.code Lib.Math.abs.name Lib.Math.abs.code 1 (some .int), Cond.methodLink RX0 60 yX0_wayToBall, Cond.instanceMethod yX0_wayToBall, Cond.selects RX0 yX0_wayToBall yX0_wayToBall, Cond.code yX0_wayToBall cX0_wayToBall 3 (some .int), Cond.static yX7_xOf, Cond.code yX7_xOf cX7_xOf 1 (some .int), Cond.static yX7_yOf, Cond.code yX7_yOf cX7_yOf 1 (some .int), Cond.methodLink RX0 45 yX0_kick, Cond.instanceMethod yX0_kick, Cond.selects RX0 yX0_kick yX0_kick, Cond.code yX0_kick cX0_kick 7 none, Cond.methodLink RX0 81 yX0_moveBall]
def wsX7_differs_r4 : List Cond := [Cond.instanceMethod yX0_moveBall, Cond.selects RX0 yX0_moveBall yX0_moveBall, Cond.code yX0_moveBall cX0_moveBall 4 (some .boolean), Cond.methodLink RX0 77 yX0_isFree, Cond.instanceMethod yX0_isFree, Cond.selects RX0 yX0_isFree yX0_isFree, Cond.code yX0_isFree cX0_isFree 4 (some .boolean), Cond.methodLink RX0 49 yX0_go, Cond.instanceMethod yX0_go, Cond.selects RX0 yX0_go yX0_go, Cond.code yX0_go cX0_go 5 none, Cond.methodLink RX0 52 yX0_spinBall, Cond.instanceMethod yX0_spinBall, Cond.selects RX0 yX0_spinBall yX0_spinBall, Cond.code yX0_spinBall cX0_spinBall 4 none, Cond.fieldLink RX0 84 "SeaGames$Play" "rules" "[I", Cond.methodLink RX0 56 yX0_givePoint, Cond.instanceMethod yX0_givePoint, Cond.selects RX0 yX0_givePoint yX0_givePoint, Cond.code yX0_givePoint cX0_givePoint 7 none, Cond.static yX7_distance, Cond.code yX7_distance cX7_distance 2 (some .int), Cond.methodLink RX7 299 Lib.Math.abs.name, Cond.methodLink RX7 296 yX7_xOf]
def wsX7_differs_r5 : List Cond := [Cond.methodLink RX7 293 yX7_yOf, Cond.methodLink RX7 281 yX0_isLike, Cond.instanceMethod yX0_isLike, Cond.selects RX0 yX0_isLike yX0_isLike, Cond.code yX0_isLike cX0_isLike 3 (some .boolean)]
def wsX7_differs : List Cond := .code yX7_differs cX7_differs 5 (some .int) :: ((wsX7_differs_r1 ++ (wsX7_differs_r2 ++ (wsX7_differs_r3 ++ (wsX7_differs_r4 ++ wsX7_differs_r5)))) ++ wsX70 ++ wsX50 ++ wsX00)
def wsX7_slotsKept : List Cond := .code yX7_slotsKept cX7_slotsKept 3 (some .int) :: ([.fieldLink RX7 74 "SeaGames" "kept" "[Z"] ++ wsX70)
def wsX7_count_r1 : List Cond := [Cond.fieldLink RX7 10 "SeaGames" "play" "LSeaGames$Play;", Cond.fieldLink RX7 123 "SeaGames$Play" "hands" "I", Cond.fieldLink RX7 209 "SeaGames$Play" "w" "I", Cond.fieldLink RX7 203 "SeaGames$Play" "h" "I", Cond.fieldLink RX7 21 "SeaGames" "lines" "LSeaGames$Lines;", Cond.fieldLink RX7 59 "SeaGames" "crowd" "LSeaGames$Crowd;", Cond.fieldLink RX7 221 "SeaGames$Crowd" "size" "I", Cond.methodLink RX7 261 yX5_pressed, Cond.instanceMethod yX5_pressed, Cond.selects RX5 yX5_pressed yX5_pressed, Cond.initialized RX5, Cond.code yX5_pressed cX5_pressed 3 (some .int), Cond.fieldLink RX5 18 "SeaGames$Play" "hands" "I", Cond.fieldLink RX5 25 "SeaGames$Play" "pressRow" "[I", Cond.methodLink RX7 284 yX4_lostOnes, Cond.instanceMethod yX4_lostOnes, Cond.selects RX4 yX4_lostOnes yX4_lostOnes, Cond.initialized RX4, Cond.code yX4_lostOnes cX4_lostOnes 3 (some .int), Cond.fieldLink RX4 19 "SeaGames$Lines" "play" "LSeaGames$Play;", Cond.fieldLink RX4 29 "SeaGames$Play" "hands" "I", Cond.fieldLink RX4 15 "SeaGames$Lines" "lostRow" "[Z", Cond.methodLink RX7 287 yX5_leftTicks, Cond.instanceMethod yX5_leftTicks]
def wsX7_count_r2 : List Cond := [Cond.selects RX5 yX5_leftTicks yX5_leftTicks, Cond.code yX5_leftTicks cX5_leftTicks 3 (some .int), Cond.fieldLink RX5 31 "SeaGames$Play" "leftTo" "[I", Cond.fieldLink RX5 28 "SeaGames$Play" "leftFrom" "[I", Cond.methodLink RX7 290 yX7_slotsKept, Cond.instanceMethod yX7_slotsKept, Cond.selects RX7 yX7_slotsKept yX7_slotsKept, Cond.initialized RX7, Cond.code yX7_slotsKept cX7_slotsKept 3 (some .int), Cond.fieldLink RX7 74 "SeaGames" "kept" "[Z"]
def wsX7_count : List Cond := .code yX7_count cX7_count 2 (some .int) :: ((wsX7_count_r1 ++ wsX7_count_r2) ++ wsX70 ++ wsX50 ++ wsX10 ++ wsX40)
def wsX8_init_r1 : List Cond := [Cond.methodLink RX8 1 objectInit, Cond.instanceMethod objectInit, Cond.code objectInit ⟨#[0xb1]⟩ 1 none, Cond.arrayClass .int, Cond.fieldLink RX8 7 "SeaGamesModel" "wide" "[I", Cond.fieldLink RX8 13 "SeaGamesModel" "tall" "[I", Cond.fieldLink RX8 16 "SeaGamesModel" "hands" "[I", Cond.fieldLink RX8 19 "SeaGamesModel" "power" "[I", Cond.fieldLink RX8 22 "SeaGamesModel" "spin" "[I", Cond.fieldLink RX8 25 "SeaGamesModel" "seed" "[I", Cond.fieldLink RX8 28 "SeaGamesModel" "pressed" "[I", Cond.fieldLink RX8 31 "SeaGamesModel" "leftFrom" "[I", Cond.fieldLink RX8 34 "SeaGamesModel" "leftTo" "[I", Cond.arrayClass .boolean, Cond.fieldLink RX8 37 "SeaGamesModel" "isKept" "[Z", Cond.fieldLink RX8 41 "SeaGamesModel" "feel" "I", Cond.fieldLink RX8 45 "SeaGamesModel" "turn" "I", Cond.fieldLink RX8 48 "SeaGamesModel" "sight" "I", Cond.fieldLink RX8 51 "SeaGamesModel" "wait" "[I", Cond.fieldLink RX8 54 "SeaGamesModel" "isLost" "[Z", Cond.fieldLink RX8 57 "SeaGamesModel" "place" "[I", Cond.fieldLink RX8 60 "SeaGamesModel" "points" "[I", Cond.fieldLink RX8 63 "SeaGamesModel" "other" "[I", Cond.fieldLink RX8 66 "SeaGamesModel" "takes" "[I"]
def wsX8_init_r2 : List Cond := [Cond.fieldLink RX8 69 "SeaGamesModel" "took" "[I", Cond.fieldLink RX8 72 "SeaGamesModel" "trueStates" "[I", Cond.fieldLink RX8 75 "SeaGamesModel" "may" "[Z", Cond.fieldLink RX8 78 "SeaGamesModel" "then" "[Z", Cond.fieldLink RX8 81 "SeaGamesModel" "skill" "[I", Cond.fieldLink RX8 84 "SeaGamesModel" "shore" "[I", Cond.fieldLink RX8 87 "SeaGamesModel" "fars" "[I", Cond.fieldLink RX8 90 "SeaGamesModel" "least" "[I", Cond.fieldLink RX8 93 "SeaGamesModel" "mates" "[I", Cond.arrayClass .long, Cond.fieldLink RX8 96 "SeaGamesModel" "ways" "[J"]
def wsX8_init : List Cond := .code yX8_init cX8_init 3 none :: ((wsX8_init_r1 ++ wsX8_init_r2) ++ wsX80)
def wsX8_in : List Cond := .code yX8_in cX8_in 6 (some .boolean) :: ([])
def wsX8_size : List Cond := .code yX8_size cX8_size 1 (some .int) :: ([])
def wsX8_noHand : List Cond := .code yX8_noHand cX8_noHand 2 (some .boolean) :: ([.fieldLink RX8 16 "SeaGamesModel" "hands" "[I", .methodLink RX8 103 yX8_in, .static yX8_in, .initialized RX8, .code yX8_in cX8_in 6 (some .boolean)] ++ wsX80)
def wsX8_noTick : List Cond := .code yX8_noTick cX8_noTick 1 (some .boolean) :: ([.constantLong RX8 107 (99), .methodLink RX8 103 yX8_in, .static yX8_in, .initialized RX8, .code yX8_in cX8_in 6 (some .boolean)])
def wsX8_field : List Cond := .code yX8_field cX8_field 5 (some .int) :: ([.fieldLink RX8 100 "SeaGamesModel" "thrown" "I", .constantLong RX8 109 (3), .constantLong RX8 111 (9), .constantLong RX8 113 (2), .constantLong RX8 115 (6), .fieldLink RX8 7 "SeaGamesModel" "wide" "[I", .fieldLink RX8 13 "SeaGamesModel" "tall" "[I", .fieldLink RX8 16 "SeaGamesModel" "hands" "[I", .fieldLink RX8 28 "SeaGamesModel" "pressed" "[I", .fieldLink RX8 54 "SeaGamesModel" "isLost" "[Z", .fieldLink RX8 31 "SeaGamesModel" "leftFrom" "[I", .fieldLink RX8 34 "SeaGamesModel" "leftTo" "[I", .fieldLink RX8 51 "SeaGamesModel" "wait" "[I", .methodLink RX8 103 yX8_in, .static yX8_in, .initialized RX8, .code yX8_in cX8_in 6 (some .boolean)] ++ wsX80)
def wsX8_rule : List Cond := .code yX8_rule cX8_rule 5 (some .int) :: ([.fieldLink RX8 100 "SeaGamesModel" "thrown" "I", .constantLong RX8 115 (6), .fieldLink RX8 19 "SeaGamesModel" "power" "[I", .fieldLink RX8 22 "SeaGamesModel" "spin" "[I", .fieldLink RX8 25 "SeaGamesModel" "seed" "[I", .fieldLink RX8 117 "SeaGamesModel" "delay" "I", .fieldLink RX8 41 "SeaGamesModel" "feel" "I", .fieldLink RX8 45 "SeaGamesModel" "turn" "I", .fieldLink RX8 48 "SeaGamesModel" "sight" "I", .methodLink RX8 103 yX8_in, .static yX8_in, .initialized RX8, .code yX8_in cX8_in 6 (some .boolean)] ++ wsX80)
def wsX8_press : List Cond := .code yX8_press cX8_press 6 (some .int) :: ([.fieldLink RX8 100 "SeaGamesModel" "thrown" "I", .constantLong RX8 127 (5), .fieldLink RX8 28 "SeaGamesModel" "pressed" "[I", .methodLink RX8 120 yX8_noHand, .instanceMethod yX8_noHand, .selects RX8 yX8_noHand yX8_noHand, .initialized RX8, .code yX8_noHand cX8_noHand 2 (some .boolean), .fieldLink RX8 16 "SeaGamesModel" "hands" "[I", .methodLink RX8 103 yX8_in, .static yX8_in, .code yX8_in cX8_in 6 (some .boolean), .methodLink RX8 124 yX8_noTick, .static yX8_noTick, .code yX8_noTick cX8_noTick 1 (some .boolean), .constantLong RX8 107 (99)] ++ wsX80)
def wsX8_hold : List Cond := .code yX8_hold cX8_hold 8 (some .int) :: ([.fieldLink RX8 100 "SeaGamesModel" "thrown" "I", .constantLong RX8 127 (5), .fieldLink RX8 28 "SeaGamesModel" "pressed" "[I", .methodLink RX8 120 yX8_noHand, .instanceMethod yX8_noHand, .selects RX8 yX8_noHand yX8_noHand, .initialized RX8, .code yX8_noHand cX8_noHand 2 (some .boolean), .fieldLink RX8 16 "SeaGamesModel" "hands" "[I", .methodLink RX8 103 yX8_in, .static yX8_in, .code yX8_in cX8_in 6 (some .boolean), .methodLink RX8 124 yX8_noTick, .static yX8_noTick, .code yX8_noTick cX8_noTick 1 (some .boolean), .constantLong RX8 107 (99)] ++ wsX80)
def wsX8_leave : List Cond := .code yX8_leave cX8_leave 4 (some .int) :: ([.fieldLink RX8 100 "SeaGamesModel" "thrown" "I", .fieldLink RX8 31 "SeaGamesModel" "leftFrom" "[I", .fieldLink RX8 34 "SeaGamesModel" "leftTo" "[I", .methodLink RX8 120 yX8_noHand, .instanceMethod yX8_noHand, .selects RX8 yX8_noHand yX8_noHand, .initialized RX8, .code yX8_noHand cX8_noHand 2 (some .boolean), .fieldLink RX8 16 "SeaGamesModel" "hands" "[I", .methodLink RX8 103 yX8_in, .static yX8_in, .code yX8_in cX8_in 6 (some .boolean)] ++ wsX80)
def wsX8_isLeft : List Cond := .code yX8_isLeft cX8_isLeft 4 (some .boolean) :: ([.fieldLink RX8 31 "SeaGamesModel" "leftFrom" "[I", .fieldLink RX8 34 "SeaGamesModel" "leftTo" "[I"] ++ wsX80)
def wsX8_by : List Cond := .code yX8_by cX8_by 5 (some .int) :: ([.fieldLink RX8 129 "SeaGamesModel" "w" "I", .fieldLink RX8 132 "SeaGamesModel" "h" "I", .methodLink RX8 103 yX8_in, .static yX8_in, .initialized RX8, .code yX8_in cX8_in 6 (some .boolean)] ++ wsX80)
def wsX8_isFree : List Cond := .code yX8_isFree cX8_isFree 4 (some .boolean) :: ([.fieldLink RX8 135 "SeaGamesModel" "n" "I", .fieldLink RX8 57 "SeaGamesModel" "place" "[I"] ++ wsX80)
def wsX8_start : List Cond := .code yX8_start cX8_start 3 none :: ([.fieldLink RX8 7 "SeaGamesModel" "wide" "[I", .fieldLink RX8 129 "SeaGamesModel" "w" "I", .fieldLink RX8 13 "SeaGamesModel" "tall" "[I", .fieldLink RX8 132 "SeaGamesModel" "h" "I", .fieldLink RX8 16 "SeaGamesModel" "hands" "[I", .fieldLink RX8 135 "SeaGamesModel" "n" "I", .fieldLink RX8 57 "SeaGamesModel" "place" "[I", .fieldLink RX8 60 "SeaGamesModel" "points" "[I", .fieldLink RX8 138 "SeaGamesModel" "ball" "I"] ++ wsX80)
def wsX8_besideBall : List Cond := .code yX8_besideBall cX8_besideBall 4 (some .int) :: ([.fieldLink RX8 57 "SeaGamesModel" "place" "[I", .fieldLink RX8 138 "SeaGamesModel" "ball" "I", .methodLink RX8 141 yX8_by, .instanceMethod yX8_by, .selects RX8 yX8_by yX8_by, .initialized RX8, .code yX8_by cX8_by 5 (some .int), .fieldLink RX8 129 "SeaGamesModel" "w" "I", .fieldLink RX8 132 "SeaGamesModel" "h" "I", .methodLink RX8 103 yX8_in, .static yX8_in, .code yX8_in cX8_in 6 (some .boolean)] ++ wsX80)
def wsX8_thinks : List Cond := .code yX8_thinks cX8_thinks 4 (some .int) :: ([.fieldLink RX8 138 "SeaGamesModel" "ball" "I", .fieldLink RX8 129 "SeaGamesModel" "w" "I", .fieldLink RX8 57 "SeaGamesModel" "place" "[I", .methodLink RX8 145 yX8_besideBall, .instanceMethod yX8_besideBall, .selects RX8 yX8_besideBall yX8_besideBall, .initialized RX8, .code yX8_besideBall cX8_besideBall 4 (some .int), .methodLink RX8 141 yX8_by, .instanceMethod yX8_by, .selects RX8 yX8_by yX8_by, .code yX8_by cX8_by 5 (some .int), .fieldLink RX8 132 "SeaGamesModel" "h" "I", .methodLink RX8 103 yX8_in, .static yX8_in, .code yX8_in cX8_in 6 (some .boolean), .methodLink RX8 149 yX8_size, .static yX8_size, .code yX8_size cX8_size 1 (some .int)] ++ wsX80)
def wsX8_act : List Cond := .code yX8_act cX8_act 7 none :: ([.constantLong RX8 152 (4), .fieldLink RX8 57 "SeaGamesModel" "place" "[I", .fieldLink RX8 138 "SeaGamesModel" "ball" "I", .methodLink RX8 103 yX8_in, .static yX8_in, .initialized RX8, .code yX8_in cX8_in 6 (some .boolean), .methodLink RX8 141 yX8_by, .instanceMethod yX8_by, .selects RX8 yX8_by yX8_by, .code yX8_by cX8_by 5 (some .int), .fieldLink RX8 129 "SeaGamesModel" "w" "I", .fieldLink RX8 132 "SeaGamesModel" "h" "I", .methodLink RX8 154 yX8_isFree, .instanceMethod yX8_isFree, .selects RX8 yX8_isFree yX8_isFree, .code yX8_isFree cX8_isFree 4 (some .boolean), .fieldLink RX8 135 "SeaGamesModel" "n" "I", .methodLink RX8 145 yX8_besideBall, .instanceMethod yX8_besideBall, .selects RX8 yX8_besideBall yX8_besideBall, .code yX8_besideBall cX8_besideBall 4 (some .int)] ++ wsX80)
def wsX8_step_r1 : List Cond := [Cond.fieldLink RX8 135 "SeaGamesModel" "n" "I", Cond.fieldLink RX8 22 "SeaGamesModel" "spin" "[I", Cond.fieldLink RX8 138 "SeaGamesModel" "ball" "I", Cond.fieldLink RX8 25 "SeaGamesModel" "seed" "[I", Cond.constant RX8 168 (1000000000), Cond.fieldLink RX8 129 "SeaGamesModel" "w" "I", Cond.fieldLink RX8 57 "SeaGamesModel" "place" "[I", Cond.fieldLink RX8 60 "SeaGamesModel" "points" "[I", Cond.methodLink RX8 157 yX8_isLeft, Cond.instanceMethod yX8_isLeft, Cond.selects RX8 yX8_isLeft yX8_isLeft, Cond.initialized RX8, Cond.code yX8_isLeft cX8_isLeft 4 (some .boolean), Cond.fieldLink RX8 31 "SeaGamesModel" "leftFrom" "[I", Cond.fieldLink RX8 34 "SeaGamesModel" "leftTo" "[I", Cond.methodLink RX8 161 yX8_thinks, Cond.instanceMethod yX8_thinks, Cond.selects RX8 yX8_thinks yX8_thinks, Cond.code yX8_thinks cX8_thinks 4 (some .int), Cond.methodLink RX8 145 yX8_besideBall, Cond.instanceMethod yX8_besideBall, Cond.selects RX8 yX8_besideBall yX8_besideBall, Cond.code yX8_besideBall cX8_besideBall 4 (some .int), Cond.methodLink RX8 141 yX8_by]
def wsX8_step_r2 : List Cond := [Cond.instanceMethod yX8_by, Cond.selects RX8 yX8_by yX8_by, Cond.code yX8_by cX8_by 5 (some .int), Cond.fieldLink RX8 132 "SeaGamesModel" "h" "I", Cond.methodLink RX8 103 yX8_in, Cond.static yX8_in, Cond.code yX8_in cX8_in 6 (some .boolean), Cond.methodLink RX8 149 yX8_size, Cond.static yX8_size, Cond.code yX8_size cX8_size 1 (some .int), Cond.methodLink RX8 164 yX8_act, Cond.instanceMethod yX8_act, Cond.selects RX8 yX8_act yX8_act, Cond.code yX8_act cX8_act 7 none, Cond.constantLong RX8 152 (4), Cond.methodLink RX8 154 yX8_isFree, Cond.instanceMethod yX8_isFree, Cond.selects RX8 yX8_isFree yX8_isFree, Cond.code yX8_isFree cX8_isFree 4 (some .boolean)]
def wsX8_step : List Cond := .code yX8_step cX8_step 10 none :: ((wsX8_step_r1 ++ wsX8_step_r2) ++ wsX80)
def wsX8_live_r1 : List Cond := [Cond.fieldLink RX8 28 "SeaGamesModel" "pressed" "[I", Cond.methodLink RX8 169 yX8_start, Cond.instanceMethod yX8_start, Cond.selects RX8 yX8_start yX8_start, Cond.initialized RX8, Cond.code yX8_start cX8_start 3 none, Cond.fieldLink RX8 7 "SeaGamesModel" "wide" "[I", Cond.fieldLink RX8 129 "SeaGamesModel" "w" "I", Cond.fieldLink RX8 13 "SeaGamesModel" "tall" "[I", Cond.fieldLink RX8 132 "SeaGamesModel" "h" "I", Cond.fieldLink RX8 16 "SeaGamesModel" "hands" "[I", Cond.fieldLink RX8 135 "SeaGamesModel" "n" "I", Cond.fieldLink RX8 57 "SeaGamesModel" "place" "[I", Cond.fieldLink RX8 60 "SeaGamesModel" "points" "[I", Cond.fieldLink RX8 138 "SeaGamesModel" "ball" "I", Cond.methodLink RX8 173 yX8_step, Cond.instanceMethod yX8_step, Cond.selects RX8 yX8_step yX8_step, Cond.code yX8_step cX8_step 10 none, Cond.fieldLink RX8 22 "SeaGamesModel" "spin" "[I", Cond.fieldLink RX8 25 "SeaGamesModel" "seed" "[I", Cond.constant RX8 168 (1000000000), Cond.methodLink RX8 157 yX8_isLeft, Cond.instanceMethod yX8_isLeft]
def wsX8_live_r2 : List Cond := [Cond.selects RX8 yX8_isLeft yX8_isLeft, Cond.code yX8_isLeft cX8_isLeft 4 (some .boolean), Cond.fieldLink RX8 31 "SeaGamesModel" "leftFrom" "[I", Cond.fieldLink RX8 34 "SeaGamesModel" "leftTo" "[I", Cond.methodLink RX8 161 yX8_thinks, Cond.instanceMethod yX8_thinks, Cond.selects RX8 yX8_thinks yX8_thinks, Cond.code yX8_thinks cX8_thinks 4 (some .int), Cond.methodLink RX8 145 yX8_besideBall, Cond.instanceMethod yX8_besideBall, Cond.selects RX8 yX8_besideBall yX8_besideBall, Cond.code yX8_besideBall cX8_besideBall 4 (some .int), Cond.methodLink RX8 141 yX8_by, Cond.instanceMethod yX8_by, Cond.selects RX8 yX8_by yX8_by, Cond.code yX8_by cX8_by 5 (some .int), Cond.methodLink RX8 103 yX8_in, Cond.static yX8_in, Cond.code yX8_in cX8_in 6 (some .boolean), Cond.methodLink RX8 149 yX8_size, Cond.static yX8_size, Cond.code yX8_size cX8_size 1 (some .int), Cond.methodLink RX8 164 yX8_act, Cond.instanceMethod yX8_act]
def wsX8_live_r3 : List Cond := [Cond.selects RX8 yX8_act yX8_act, Cond.code yX8_act cX8_act 7 none, Cond.constantLong RX8 152 (4), Cond.methodLink RX8 154 yX8_isFree, Cond.instanceMethod yX8_isFree, Cond.selects RX8 yX8_isFree yX8_isFree, Cond.code yX8_isFree cX8_isFree 4 (some .boolean)]
def wsX8_live : List Cond := .code yX8_live cX8_live 5 none :: ((wsX8_live_r1 ++ (wsX8_live_r2 ++ wsX8_live_r3)) ++ wsX80)
def wsX8_liveNow_r1 : List Cond := [Cond.fieldLink RX8 19 "SeaGamesModel" "power" "[I", Cond.methodLink RX8 177 yX8_live, Cond.instanceMethod yX8_live, Cond.selects RX8 yX8_live yX8_live, Cond.initialized RX8, Cond.code yX8_live cX8_live 5 none, Cond.fieldLink RX8 28 "SeaGamesModel" "pressed" "[I", Cond.methodLink RX8 169 yX8_start, Cond.instanceMethod yX8_start, Cond.selects RX8 yX8_start yX8_start, Cond.code yX8_start cX8_start 3 none, Cond.fieldLink RX8 7 "SeaGamesModel" "wide" "[I", Cond.fieldLink RX8 129 "SeaGamesModel" "w" "I", Cond.fieldLink RX8 13 "SeaGamesModel" "tall" "[I", Cond.fieldLink RX8 132 "SeaGamesModel" "h" "I", Cond.fieldLink RX8 16 "SeaGamesModel" "hands" "[I", Cond.fieldLink RX8 135 "SeaGamesModel" "n" "I", Cond.fieldLink RX8 57 "SeaGamesModel" "place" "[I", Cond.fieldLink RX8 60 "SeaGamesModel" "points" "[I", Cond.fieldLink RX8 138 "SeaGamesModel" "ball" "I", Cond.methodLink RX8 173 yX8_step, Cond.instanceMethod yX8_step, Cond.selects RX8 yX8_step yX8_step, Cond.code yX8_step cX8_step 10 none]
def wsX8_liveNow_r2 : List Cond := [Cond.fieldLink RX8 22 "SeaGamesModel" "spin" "[I", Cond.fieldLink RX8 25 "SeaGamesModel" "seed" "[I", Cond.constant RX8 168 (1000000000), Cond.methodLink RX8 157 yX8_isLeft, Cond.instanceMethod yX8_isLeft, Cond.selects RX8 yX8_isLeft yX8_isLeft, Cond.code yX8_isLeft cX8_isLeft 4 (some .boolean), Cond.fieldLink RX8 31 "SeaGamesModel" "leftFrom" "[I", Cond.fieldLink RX8 34 "SeaGamesModel" "leftTo" "[I", Cond.methodLink RX8 161 yX8_thinks, Cond.instanceMethod yX8_thinks, Cond.selects RX8 yX8_thinks yX8_thinks, Cond.code yX8_thinks cX8_thinks 4 (some .int), Cond.methodLink RX8 145 yX8_besideBall, Cond.instanceMethod yX8_besideBall, Cond.selects RX8 yX8_besideBall yX8_besideBall, Cond.code yX8_besideBall cX8_besideBall 4 (some .int), Cond.methodLink RX8 141 yX8_by, Cond.instanceMethod yX8_by, Cond.selects RX8 yX8_by yX8_by, Cond.code yX8_by cX8_by 5 (some .int), Cond.methodLink RX8 103 yX8_in, Cond.static yX8_in, Cond.code yX8_in cX8_in 6 (some .boolean)]
def wsX8_liveNow_r3 : List Cond := [Cond.methodLink RX8 149 yX8_size, Cond.static yX8_size, Cond.code yX8_size cX8_size 1 (some .int), Cond.methodLink RX8 164 yX8_act, Cond.instanceMethod yX8_act, Cond.selects RX8 yX8_act yX8_act, Cond.code yX8_act cX8_act 7 none, Cond.constantLong RX8 152 (4), Cond.methodLink RX8 154 yX8_isFree, Cond.instanceMethod yX8_isFree, Cond.selects RX8 yX8_isFree yX8_isFree, Cond.code yX8_isFree cX8_isFree 4 (some .boolean)]
def wsX8_liveNow : List Cond := .code yX8_liveNow cX8_liveNow 2 none :: ((wsX8_liveNow_r1 ++ (wsX8_liveNow_r2 ++ wsX8_liveNow_r3)) ++ wsX80)
def wsX8_noWhat : List Cond := .code yX8_noWhat cX8_noWhat 3 (some .boolean) :: ([.constantLong RX8 180 (10), .methodLink RX8 103 yX8_in, .static yX8_in, .initialized RX8, .code yX8_in cX8_in 6 (some .boolean)])
def wsX8_seen : List Cond := .code yX8_seen cX8_seen 2 (some .int) :: ([.fieldLink RX8 57 "SeaGamesModel" "place" "[I", .fieldLink RX8 138 "SeaGamesModel" "ball" "I", .fieldLink RX8 60 "SeaGamesModel" "points" "[I"] ++ wsX80)
def wsX8_truly_r1 : List Cond := [Cond.fieldLink RX8 100 "SeaGamesModel" "thrown" "I", Cond.fieldLink RX8 16 "SeaGamesModel" "hands" "[I", Cond.methodLink RX8 124 yX8_noTick, Cond.static yX8_noTick, Cond.initialized RX8, Cond.code yX8_noTick cX8_noTick 1 (some .boolean), Cond.constantLong RX8 107 (99), Cond.methodLink RX8 103 yX8_in, Cond.static yX8_in, Cond.code yX8_in cX8_in 6 (some .boolean), Cond.methodLink RX8 182 yX8_noWhat, Cond.instanceMethod yX8_noWhat, Cond.selects RX8 yX8_noWhat yX8_noWhat, Cond.code yX8_noWhat cX8_noWhat 3 (some .boolean), Cond.constantLong RX8 180 (10), Cond.methodLink RX8 186 yX8_liveNow, Cond.instanceMethod yX8_liveNow, Cond.selects RX8 yX8_liveNow yX8_liveNow, Cond.code yX8_liveNow cX8_liveNow 2 none, Cond.fieldLink RX8 19 "SeaGamesModel" "power" "[I", Cond.methodLink RX8 177 yX8_live, Cond.instanceMethod yX8_live, Cond.selects RX8 yX8_live yX8_live, Cond.code yX8_live cX8_live 5 none]
def wsX8_truly_r2 : List Cond := [Cond.fieldLink RX8 28 "SeaGamesModel" "pressed" "[I", Cond.methodLink RX8 169 yX8_start, Cond.instanceMethod yX8_start, Cond.selects RX8 yX8_start yX8_start, Cond.code yX8_start cX8_start 3 none, Cond.fieldLink RX8 7 "SeaGamesModel" "wide" "[I", Cond.fieldLink RX8 129 "SeaGamesModel" "w" "I", Cond.fieldLink RX8 13 "SeaGamesModel" "tall" "[I", Cond.fieldLink RX8 132 "SeaGamesModel" "h" "I", Cond.fieldLink RX8 135 "SeaGamesModel" "n" "I", Cond.fieldLink RX8 57 "SeaGamesModel" "place" "[I", Cond.fieldLink RX8 60 "SeaGamesModel" "points" "[I", Cond.fieldLink RX8 138 "SeaGamesModel" "ball" "I", Cond.methodLink RX8 173 yX8_step, Cond.instanceMethod yX8_step, Cond.selects RX8 yX8_step yX8_step, Cond.code yX8_step cX8_step 10 none, Cond.fieldLink RX8 22 "SeaGamesModel" "spin" "[I", Cond.fieldLink RX8 25 "SeaGamesModel" "seed" "[I", Cond.constant RX8 168 (1000000000), Cond.methodLink RX8 157 yX8_isLeft, Cond.instanceMethod yX8_isLeft, Cond.selects RX8 yX8_isLeft yX8_isLeft, Cond.code yX8_isLeft cX8_isLeft 4 (some .boolean)]
def wsX8_truly_r3 : List Cond := [Cond.fieldLink RX8 31 "SeaGamesModel" "leftFrom" "[I", Cond.fieldLink RX8 34 "SeaGamesModel" "leftTo" "[I", Cond.methodLink RX8 161 yX8_thinks, Cond.instanceMethod yX8_thinks, Cond.selects RX8 yX8_thinks yX8_thinks, Cond.code yX8_thinks cX8_thinks 4 (some .int), Cond.methodLink RX8 145 yX8_besideBall, Cond.instanceMethod yX8_besideBall, Cond.selects RX8 yX8_besideBall yX8_besideBall, Cond.code yX8_besideBall cX8_besideBall 4 (some .int), Cond.methodLink RX8 141 yX8_by, Cond.instanceMethod yX8_by, Cond.selects RX8 yX8_by yX8_by, Cond.code yX8_by cX8_by 5 (some .int), Cond.methodLink RX8 149 yX8_size, Cond.static yX8_size, Cond.code yX8_size cX8_size 1 (some .int), Cond.methodLink RX8 164 yX8_act, Cond.instanceMethod yX8_act, Cond.selects RX8 yX8_act yX8_act, Cond.code yX8_act cX8_act 7 none, Cond.constantLong RX8 152 (4), Cond.methodLink RX8 154 yX8_isFree, Cond.instanceMethod yX8_isFree]
def wsX8_truly_r4 : List Cond := [Cond.selects RX8 yX8_isFree yX8_isFree, Cond.code yX8_isFree cX8_isFree 4 (some .boolean), Cond.methodLink RX8 189 yX8_seen, Cond.instanceMethod yX8_seen, Cond.selects RX8 yX8_seen yX8_seen, Cond.code yX8_seen cX8_seen 2 (some .int)]
def wsX8_truly : List Cond := .code yX8_truly cX8_truly 3 (some .int) :: ((wsX8_truly_r1 ++ (wsX8_truly_r2 ++ (wsX8_truly_r3 ++ wsX8_truly_r4))) ++ wsX80)
def wsX8_machine_r1 : List Cond := [Cond.fieldLink RX8 100 "SeaGamesModel" "thrown" "I", Cond.methodLink RX8 120 yX8_noHand, Cond.instanceMethod yX8_noHand, Cond.selects RX8 yX8_noHand yX8_noHand, Cond.initialized RX8, Cond.code yX8_noHand cX8_noHand 2 (some .boolean), Cond.fieldLink RX8 16 "SeaGamesModel" "hands" "[I", Cond.methodLink RX8 103 yX8_in, Cond.static yX8_in, Cond.code yX8_in cX8_in 6 (some .boolean), Cond.methodLink RX8 124 yX8_noTick, Cond.static yX8_noTick, Cond.code yX8_noTick cX8_noTick 1 (some .boolean), Cond.constantLong RX8 107 (99), Cond.methodLink RX8 186 yX8_liveNow, Cond.instanceMethod yX8_liveNow, Cond.selects RX8 yX8_liveNow yX8_liveNow, Cond.code yX8_liveNow cX8_liveNow 2 none, Cond.fieldLink RX8 19 "SeaGamesModel" "power" "[I", Cond.methodLink RX8 177 yX8_live, Cond.instanceMethod yX8_live, Cond.selects RX8 yX8_live yX8_live, Cond.code yX8_live cX8_live 5 none, Cond.fieldLink RX8 28 "SeaGamesModel" "pressed" "[I"]
def wsX8_machine_r2 : List Cond := [Cond.methodLink RX8 169 yX8_start, Cond.instanceMethod yX8_start, Cond.selects RX8 yX8_start yX8_start, Cond.code yX8_start cX8_start 3 none, Cond.fieldLink RX8 7 "SeaGamesModel" "wide" "[I", Cond.fieldLink RX8 129 "SeaGamesModel" "w" "I", Cond.fieldLink RX8 13 "SeaGamesModel" "tall" "[I", Cond.fieldLink RX8 132 "SeaGamesModel" "h" "I", Cond.fieldLink RX8 135 "SeaGamesModel" "n" "I", Cond.fieldLink RX8 57 "SeaGamesModel" "place" "[I", Cond.fieldLink RX8 60 "SeaGamesModel" "points" "[I", Cond.fieldLink RX8 138 "SeaGamesModel" "ball" "I", Cond.methodLink RX8 173 yX8_step, Cond.instanceMethod yX8_step, Cond.selects RX8 yX8_step yX8_step, Cond.code yX8_step cX8_step 10 none, Cond.fieldLink RX8 22 "SeaGamesModel" "spin" "[I", Cond.fieldLink RX8 25 "SeaGamesModel" "seed" "[I", Cond.constant RX8 168 (1000000000), Cond.methodLink RX8 157 yX8_isLeft, Cond.instanceMethod yX8_isLeft, Cond.selects RX8 yX8_isLeft yX8_isLeft, Cond.code yX8_isLeft cX8_isLeft 4 (some .boolean), Cond.fieldLink RX8 31 "SeaGamesModel" "leftFrom" "[I"]
def wsX8_machine_r3 : List Cond := [Cond.fieldLink RX8 34 "SeaGamesModel" "leftTo" "[I", Cond.methodLink RX8 161 yX8_thinks, Cond.instanceMethod yX8_thinks, Cond.selects RX8 yX8_thinks yX8_thinks, Cond.code yX8_thinks cX8_thinks 4 (some .int), Cond.methodLink RX8 145 yX8_besideBall, Cond.instanceMethod yX8_besideBall, Cond.selects RX8 yX8_besideBall yX8_besideBall, Cond.code yX8_besideBall cX8_besideBall 4 (some .int), Cond.methodLink RX8 141 yX8_by, Cond.instanceMethod yX8_by, Cond.selects RX8 yX8_by yX8_by, Cond.code yX8_by cX8_by 5 (some .int), Cond.methodLink RX8 149 yX8_size, Cond.static yX8_size, Cond.code yX8_size cX8_size 1 (some .int), Cond.methodLink RX8 164 yX8_act, Cond.instanceMethod yX8_act, Cond.selects RX8 yX8_act yX8_act, Cond.code yX8_act cX8_act 7 none, Cond.constantLong RX8 152 (4), Cond.methodLink RX8 154 yX8_isFree, Cond.instanceMethod yX8_isFree, Cond.selects RX8 yX8_isFree yX8_isFree]
def wsX8_machine_r4 : List Cond := [Cond.code yX8_isFree cX8_isFree 4 (some .boolean)]
def wsX8_machine : List Cond := .code yX8_machine cX8_machine 3 (some .int) :: ((wsX8_machine_r1 ++ (wsX8_machine_r2 ++ (wsX8_machine_r3 ++ wsX8_machine_r4))) ++ wsX80)
def wsX8_line : List Cond := .code yX8_line cX8_line 5 (some .int) :: ([.fieldLink RX8 100 "SeaGamesModel" "thrown" "I", .constantLong RX8 111 (9), .fieldLink RX8 51 "SeaGamesModel" "wait" "[I", .methodLink RX8 120 yX8_noHand, .instanceMethod yX8_noHand, .selects RX8 yX8_noHand yX8_noHand, .initialized RX8, .code yX8_noHand cX8_noHand 2 (some .boolean), .fieldLink RX8 16 "SeaGamesModel" "hands" "[I", .methodLink RX8 103 yX8_in, .static yX8_in, .code yX8_in cX8_in 6 (some .boolean)] ++ wsX80)
def wsX8_lose : List Cond := .code yX8_lose cX8_lose 5 (some .int) :: ([.fieldLink RX8 100 "SeaGamesModel" "thrown" "I", .fieldLink RX8 54 "SeaGamesModel" "isLost" "[Z", .methodLink RX8 120 yX8_noHand, .instanceMethod yX8_noHand, .selects RX8 yX8_noHand yX8_noHand, .initialized RX8, .code yX8_noHand cX8_noHand 2 (some .boolean), .fieldLink RX8 16 "SeaGamesModel" "hands" "[I", .methodLink RX8 103 yX8_in, .static yX8_in, .code yX8_in cX8_in 6 (some .boolean), .methodLink RX8 124 yX8_noTick, .static yX8_noTick, .code yX8_noTick cX8_noTick 1 (some .boolean), .constantLong RX8 107 (99)] ++ wsX80)
def wsX8_knownAt : List Cond := .code yX8_knownAt cX8_knownAt 6 (some .int) :: ([.constant RX8 192 (-1000000000), .fieldLink RX8 51 "SeaGamesModel" "wait" "[I", .fieldLink RX8 54 "SeaGamesModel" "isLost" "[Z", .methodLink RX8 157 yX8_isLeft, .instanceMethod yX8_isLeft, .selects RX8 yX8_isLeft yX8_isLeft, .initialized RX8, .code yX8_isLeft cX8_isLeft 4 (some .boolean), .fieldLink RX8 31 "SeaGamesModel" "leftFrom" "[I", .fieldLink RX8 34 "SeaGamesModel" "leftTo" "[I"] ++ wsX80)
def wsX8_known_r1 : List Cond := [Cond.fieldLink RX8 100 "SeaGamesModel" "thrown" "I", Cond.fieldLink RX8 117 "SeaGamesModel" "delay" "I", Cond.constant RX8 192 (-1000000000), Cond.methodLink RX8 120 yX8_noHand, Cond.instanceMethod yX8_noHand, Cond.selects RX8 yX8_noHand yX8_noHand, Cond.initialized RX8, Cond.code yX8_noHand cX8_noHand 2 (some .boolean), Cond.fieldLink RX8 16 "SeaGamesModel" "hands" "[I", Cond.methodLink RX8 103 yX8_in, Cond.static yX8_in, Cond.code yX8_in cX8_in 6 (some .boolean), Cond.methodLink RX8 124 yX8_noTick, Cond.static yX8_noTick, Cond.code yX8_noTick cX8_noTick 1 (some .boolean), Cond.constantLong RX8 107 (99), Cond.methodLink RX8 193 yX8_knownAt, Cond.instanceMethod yX8_knownAt, Cond.selects RX8 yX8_knownAt yX8_knownAt, Cond.code yX8_knownAt cX8_knownAt 6 (some .int), Cond.fieldLink RX8 51 "SeaGamesModel" "wait" "[I", Cond.fieldLink RX8 54 "SeaGamesModel" "isLost" "[Z", Cond.methodLink RX8 157 yX8_isLeft, Cond.instanceMethod yX8_isLeft]
def wsX8_known_r2 : List Cond := [Cond.selects RX8 yX8_isLeft yX8_isLeft, Cond.code yX8_isLeft cX8_isLeft 4 (some .boolean), Cond.fieldLink RX8 31 "SeaGamesModel" "leftFrom" "[I", Cond.fieldLink RX8 34 "SeaGamesModel" "leftTo" "[I"]
def wsX8_known : List Cond := .code yX8_known cX8_known 5 (some .int) :: ((wsX8_known_r1 ++ wsX8_known_r2) ++ wsX80)
def wsX8_take : List Cond := .code yX8_take cX8_take 10 none :: ([.fieldLink RX8 16 "SeaGamesModel" "hands" "[I", .fieldLink RX8 28 "SeaGamesModel" "pressed" "[I", .methodLink RX8 193 yX8_knownAt, .instanceMethod yX8_knownAt, .selects RX8 yX8_knownAt yX8_knownAt, .initialized RX8, .code yX8_knownAt cX8_knownAt 6 (some .int), .constant RX8 192 (-1000000000), .fieldLink RX8 51 "SeaGamesModel" "wait" "[I", .fieldLink RX8 54 "SeaGamesModel" "isLost" "[Z", .methodLink RX8 157 yX8_isLeft, .instanceMethod yX8_isLeft, .selects RX8 yX8_isLeft yX8_isLeft, .code yX8_isLeft cX8_isLeft 4 (some .boolean), .fieldLink RX8 31 "SeaGamesModel" "leftFrom" "[I", .fieldLink RX8 34 "SeaGamesModel" "leftTo" "[I"] ++ wsX80)
def wsX8_takes_r1 : List Cond := [Cond.fieldLink RX8 100 "SeaGamesModel" "thrown" "I", Cond.fieldLink RX8 117 "SeaGamesModel" "delay" "I", Cond.fieldLink RX8 66 "SeaGamesModel" "takes" "[I", Cond.methodLink RX8 120 yX8_noHand, Cond.instanceMethod yX8_noHand, Cond.selects RX8 yX8_noHand yX8_noHand, Cond.initialized RX8, Cond.code yX8_noHand cX8_noHand 2 (some .boolean), Cond.fieldLink RX8 16 "SeaGamesModel" "hands" "[I", Cond.methodLink RX8 103 yX8_in, Cond.static yX8_in, Cond.code yX8_in cX8_in 6 (some .boolean), Cond.methodLink RX8 124 yX8_noTick, Cond.static yX8_noTick, Cond.code yX8_noTick cX8_noTick 1 (some .boolean), Cond.constantLong RX8 107 (99), Cond.methodLink RX8 197 yX8_take, Cond.instanceMethod yX8_take, Cond.selects RX8 yX8_take yX8_take, Cond.code yX8_take cX8_take 10 none, Cond.fieldLink RX8 28 "SeaGamesModel" "pressed" "[I", Cond.methodLink RX8 193 yX8_knownAt, Cond.instanceMethod yX8_knownAt, Cond.selects RX8 yX8_knownAt yX8_knownAt]
def wsX8_takes_r2 : List Cond := [Cond.code yX8_knownAt cX8_knownAt 6 (some .int), Cond.constant RX8 192 (-1000000000), Cond.fieldLink RX8 51 "SeaGamesModel" "wait" "[I", Cond.fieldLink RX8 54 "SeaGamesModel" "isLost" "[Z", Cond.methodLink RX8 157 yX8_isLeft, Cond.instanceMethod yX8_isLeft, Cond.selects RX8 yX8_isLeft yX8_isLeft, Cond.code yX8_isLeft cX8_isLeft 4 (some .boolean), Cond.fieldLink RX8 31 "SeaGamesModel" "leftFrom" "[I", Cond.fieldLink RX8 34 "SeaGamesModel" "leftTo" "[I"]
def wsX8_takes : List Cond := .code yX8_takes cX8_takes 5 (some .int) :: ((wsX8_takes_r1 ++ wsX8_takes_r2) ++ wsX80)
def wsX8_show_r1 : List Cond := [Cond.fieldLink RX8 117 "SeaGamesModel" "delay" "I", Cond.fieldLink RX8 66 "SeaGamesModel" "takes" "[I", Cond.fieldLink RX8 19 "SeaGamesModel" "power" "[I", Cond.methodLink RX8 197 yX8_take, Cond.instanceMethod yX8_take, Cond.selects RX8 yX8_take yX8_take, Cond.initialized RX8, Cond.code yX8_take cX8_take 10 none, Cond.fieldLink RX8 16 "SeaGamesModel" "hands" "[I", Cond.fieldLink RX8 28 "SeaGamesModel" "pressed" "[I", Cond.methodLink RX8 193 yX8_knownAt, Cond.instanceMethod yX8_knownAt, Cond.selects RX8 yX8_knownAt yX8_knownAt, Cond.code yX8_knownAt cX8_knownAt 6 (some .int), Cond.constant RX8 192 (-1000000000), Cond.fieldLink RX8 51 "SeaGamesModel" "wait" "[I", Cond.fieldLink RX8 54 "SeaGamesModel" "isLost" "[Z", Cond.methodLink RX8 157 yX8_isLeft, Cond.instanceMethod yX8_isLeft, Cond.selects RX8 yX8_isLeft yX8_isLeft, Cond.code yX8_isLeft cX8_isLeft 4 (some .boolean), Cond.fieldLink RX8 31 "SeaGamesModel" "leftFrom" "[I", Cond.fieldLink RX8 34 "SeaGamesModel" "leftTo" "[I", Cond.methodLink RX8 169 yX8_start]
def wsX8_show_r2 : List Cond := [Cond.instanceMethod yX8_start, Cond.selects RX8 yX8_start yX8_start, Cond.code yX8_start cX8_start 3 none, Cond.fieldLink RX8 7 "SeaGamesModel" "wide" "[I", Cond.fieldLink RX8 129 "SeaGamesModel" "w" "I", Cond.fieldLink RX8 13 "SeaGamesModel" "tall" "[I", Cond.fieldLink RX8 132 "SeaGamesModel" "h" "I", Cond.fieldLink RX8 135 "SeaGamesModel" "n" "I", Cond.fieldLink RX8 57 "SeaGamesModel" "place" "[I", Cond.fieldLink RX8 60 "SeaGamesModel" "points" "[I", Cond.fieldLink RX8 138 "SeaGamesModel" "ball" "I", Cond.methodLink RX8 173 yX8_step, Cond.instanceMethod yX8_step, Cond.selects RX8 yX8_step yX8_step, Cond.code yX8_step cX8_step 10 none, Cond.fieldLink RX8 22 "SeaGamesModel" "spin" "[I", Cond.fieldLink RX8 25 "SeaGamesModel" "seed" "[I", Cond.constant RX8 168 (1000000000), Cond.methodLink RX8 161 yX8_thinks, Cond.instanceMethod yX8_thinks, Cond.selects RX8 yX8_thinks yX8_thinks, Cond.code yX8_thinks cX8_thinks 4 (some .int), Cond.methodLink RX8 145 yX8_besideBall, Cond.instanceMethod yX8_besideBall]
def wsX8_show_r3 : List Cond := [Cond.selects RX8 yX8_besideBall yX8_besideBall, Cond.code yX8_besideBall cX8_besideBall 4 (some .int), Cond.methodLink RX8 141 yX8_by, Cond.instanceMethod yX8_by, Cond.selects RX8 yX8_by yX8_by, Cond.code yX8_by cX8_by 5 (some .int), Cond.methodLink RX8 103 yX8_in, Cond.static yX8_in, Cond.code yX8_in cX8_in 6 (some .boolean), Cond.methodLink RX8 149 yX8_size, Cond.static yX8_size, Cond.code yX8_size cX8_size 1 (some .int), Cond.methodLink RX8 164 yX8_act, Cond.instanceMethod yX8_act, Cond.selects RX8 yX8_act yX8_act, Cond.code yX8_act cX8_act 7 none, Cond.constantLong RX8 152 (4), Cond.methodLink RX8 154 yX8_isFree, Cond.instanceMethod yX8_isFree, Cond.selects RX8 yX8_isFree yX8_isFree, Cond.code yX8_isFree cX8_isFree 4 (some .boolean)]
def wsX8_show : List Cond := .code yX8_show cX8_show 4 none :: ((wsX8_show_r1 ++ (wsX8_show_r2 ++ wsX8_show_r3)) ++ wsX80)
def wsX8_shown_r1 : List Cond := [Cond.fieldLink RX8 100 "SeaGamesModel" "thrown" "I", Cond.fieldLink RX8 16 "SeaGamesModel" "hands" "[I", Cond.methodLink RX8 120 yX8_noHand, Cond.instanceMethod yX8_noHand, Cond.selects RX8 yX8_noHand yX8_noHand, Cond.initialized RX8, Cond.code yX8_noHand cX8_noHand 2 (some .boolean), Cond.methodLink RX8 103 yX8_in, Cond.static yX8_in, Cond.code yX8_in cX8_in 6 (some .boolean), Cond.methodLink RX8 124 yX8_noTick, Cond.static yX8_noTick, Cond.code yX8_noTick cX8_noTick 1 (some .boolean), Cond.constantLong RX8 107 (99), Cond.methodLink RX8 182 yX8_noWhat, Cond.instanceMethod yX8_noWhat, Cond.selects RX8 yX8_noWhat yX8_noWhat, Cond.code yX8_noWhat cX8_noWhat 3 (some .boolean), Cond.constantLong RX8 180 (10), Cond.methodLink RX8 201 yX8_show, Cond.instanceMethod yX8_show, Cond.selects RX8 yX8_show yX8_show, Cond.code yX8_show cX8_show 4 none, Cond.fieldLink RX8 117 "SeaGamesModel" "delay" "I"]
def wsX8_shown_r2 : List Cond := [Cond.fieldLink RX8 66 "SeaGamesModel" "takes" "[I", Cond.fieldLink RX8 19 "SeaGamesModel" "power" "[I", Cond.methodLink RX8 197 yX8_take, Cond.instanceMethod yX8_take, Cond.selects RX8 yX8_take yX8_take, Cond.code yX8_take cX8_take 10 none, Cond.fieldLink RX8 28 "SeaGamesModel" "pressed" "[I", Cond.methodLink RX8 193 yX8_knownAt, Cond.instanceMethod yX8_knownAt, Cond.selects RX8 yX8_knownAt yX8_knownAt, Cond.code yX8_knownAt cX8_knownAt 6 (some .int), Cond.constant RX8 192 (-1000000000), Cond.fieldLink RX8 51 "SeaGamesModel" "wait" "[I", Cond.fieldLink RX8 54 "SeaGamesModel" "isLost" "[Z", Cond.methodLink RX8 157 yX8_isLeft, Cond.instanceMethod yX8_isLeft, Cond.selects RX8 yX8_isLeft yX8_isLeft, Cond.code yX8_isLeft cX8_isLeft 4 (some .boolean), Cond.fieldLink RX8 31 "SeaGamesModel" "leftFrom" "[I", Cond.fieldLink RX8 34 "SeaGamesModel" "leftTo" "[I", Cond.methodLink RX8 169 yX8_start, Cond.instanceMethod yX8_start, Cond.selects RX8 yX8_start yX8_start, Cond.code yX8_start cX8_start 3 none]
def wsX8_shown_r3 : List Cond := [Cond.fieldLink RX8 7 "SeaGamesModel" "wide" "[I", Cond.fieldLink RX8 129 "SeaGamesModel" "w" "I", Cond.fieldLink RX8 13 "SeaGamesModel" "tall" "[I", Cond.fieldLink RX8 132 "SeaGamesModel" "h" "I", Cond.fieldLink RX8 135 "SeaGamesModel" "n" "I", Cond.fieldLink RX8 57 "SeaGamesModel" "place" "[I", Cond.fieldLink RX8 60 "SeaGamesModel" "points" "[I", Cond.fieldLink RX8 138 "SeaGamesModel" "ball" "I", Cond.methodLink RX8 173 yX8_step, Cond.instanceMethod yX8_step, Cond.selects RX8 yX8_step yX8_step, Cond.code yX8_step cX8_step 10 none, Cond.fieldLink RX8 22 "SeaGamesModel" "spin" "[I", Cond.fieldLink RX8 25 "SeaGamesModel" "seed" "[I", Cond.constant RX8 168 (1000000000), Cond.methodLink RX8 161 yX8_thinks, Cond.instanceMethod yX8_thinks, Cond.selects RX8 yX8_thinks yX8_thinks, Cond.code yX8_thinks cX8_thinks 4 (some .int), Cond.methodLink RX8 145 yX8_besideBall, Cond.instanceMethod yX8_besideBall, Cond.selects RX8 yX8_besideBall yX8_besideBall, Cond.code yX8_besideBall cX8_besideBall 4 (some .int), Cond.methodLink RX8 141 yX8_by]
def wsX8_shown_r4 : List Cond := [Cond.instanceMethod yX8_by, Cond.selects RX8 yX8_by yX8_by, Cond.code yX8_by cX8_by 5 (some .int), Cond.methodLink RX8 149 yX8_size, Cond.static yX8_size, Cond.code yX8_size cX8_size 1 (some .int), Cond.methodLink RX8 164 yX8_act, Cond.instanceMethod yX8_act, Cond.selects RX8 yX8_act yX8_act, Cond.code yX8_act cX8_act 7 none, Cond.constantLong RX8 152 (4), Cond.methodLink RX8 154 yX8_isFree, Cond.instanceMethod yX8_isFree, Cond.selects RX8 yX8_isFree yX8_isFree, Cond.code yX8_isFree cX8_isFree 4 (some .boolean), Cond.methodLink RX8 189 yX8_seen, Cond.instanceMethod yX8_seen, Cond.selects RX8 yX8_seen yX8_seen, Cond.code yX8_seen cX8_seen 2 (some .int)]
def wsX8_shown : List Cond := .code yX8_shown cX8_shown 4 (some .int) :: ((wsX8_shown_r1 ++ (wsX8_shown_r2 ++ (wsX8_shown_r3 ++ wsX8_shown_r4))) ++ wsX80)
def wsX8_backOf : List Cond := .code yX8_backOf cX8_backOf 6 (some .int) :: ([.fieldLink RX8 66 "SeaGamesModel" "takes" "[I", .fieldLink RX8 69 "SeaGamesModel" "took" "[I", .fieldLink RX8 16 "SeaGamesModel" "hands" "[I", .methodLink RX8 197 yX8_take, .instanceMethod yX8_take, .selects RX8 yX8_take yX8_take, .initialized RX8, .code yX8_take cX8_take 10 none, .fieldLink RX8 28 "SeaGamesModel" "pressed" "[I", .methodLink RX8 193 yX8_knownAt, .instanceMethod yX8_knownAt, .selects RX8 yX8_knownAt yX8_knownAt, .code yX8_knownAt cX8_knownAt 6 (some .int), .constant RX8 192 (-1000000000), .fieldLink RX8 51 "SeaGamesModel" "wait" "[I", .fieldLink RX8 54 "SeaGamesModel" "isLost" "[Z", .methodLink RX8 157 yX8_isLeft, .instanceMethod yX8_isLeft, .selects RX8 yX8_isLeft yX8_isLeft, .code yX8_isLeft cX8_isLeft 4 (some .boolean), .fieldLink RX8 31 "SeaGamesModel" "leftFrom" "[I", .fieldLink RX8 34 "SeaGamesModel" "leftTo" "[I"] ++ wsX80)
def wsX8_back_r1 : List Cond := [Cond.fieldLink RX8 100 "SeaGamesModel" "thrown" "I", Cond.fieldLink RX8 117 "SeaGamesModel" "delay" "I", Cond.methodLink RX8 120 yX8_noHand, Cond.instanceMethod yX8_noHand, Cond.selects RX8 yX8_noHand yX8_noHand, Cond.initialized RX8, Cond.code yX8_noHand cX8_noHand 2 (some .boolean), Cond.fieldLink RX8 16 "SeaGamesModel" "hands" "[I", Cond.methodLink RX8 103 yX8_in, Cond.static yX8_in, Cond.code yX8_in cX8_in 6 (some .boolean), Cond.methodLink RX8 124 yX8_noTick, Cond.static yX8_noTick, Cond.code yX8_noTick cX8_noTick 1 (some .boolean), Cond.constantLong RX8 107 (99), Cond.methodLink RX8 205 yX8_backOf, Cond.instanceMethod yX8_backOf, Cond.selects RX8 yX8_backOf yX8_backOf, Cond.code yX8_backOf cX8_backOf 6 (some .int), Cond.fieldLink RX8 66 "SeaGamesModel" "takes" "[I", Cond.fieldLink RX8 69 "SeaGamesModel" "took" "[I", Cond.methodLink RX8 197 yX8_take, Cond.instanceMethod yX8_take, Cond.selects RX8 yX8_take yX8_take]
def wsX8_back_r2 : List Cond := [Cond.code yX8_take cX8_take 10 none, Cond.fieldLink RX8 28 "SeaGamesModel" "pressed" "[I", Cond.methodLink RX8 193 yX8_knownAt, Cond.instanceMethod yX8_knownAt, Cond.selects RX8 yX8_knownAt yX8_knownAt, Cond.code yX8_knownAt cX8_knownAt 6 (some .int), Cond.constant RX8 192 (-1000000000), Cond.fieldLink RX8 51 "SeaGamesModel" "wait" "[I", Cond.fieldLink RX8 54 "SeaGamesModel" "isLost" "[Z", Cond.methodLink RX8 157 yX8_isLeft, Cond.instanceMethod yX8_isLeft, Cond.selects RX8 yX8_isLeft yX8_isLeft, Cond.code yX8_isLeft cX8_isLeft 4 (some .boolean), Cond.fieldLink RX8 31 "SeaGamesModel" "leftFrom" "[I", Cond.fieldLink RX8 34 "SeaGamesModel" "leftTo" "[I"]
def wsX8_back : List Cond := .code yX8_back cX8_back 3 (some .int) :: ((wsX8_back_r1 ++ wsX8_back_r2) ++ wsX80)
def wsX8_agreed_r1 : List Cond := [Cond.fieldLink RX8 100 "SeaGamesModel" "thrown" "I", Cond.fieldLink RX8 16 "SeaGamesModel" "hands" "[I", Cond.fieldLink RX8 117 "SeaGamesModel" "delay" "I", Cond.methodLink RX8 120 yX8_noHand, Cond.instanceMethod yX8_noHand, Cond.selects RX8 yX8_noHand yX8_noHand, Cond.initialized RX8, Cond.code yX8_noHand cX8_noHand 2 (some .boolean), Cond.methodLink RX8 103 yX8_in, Cond.static yX8_in, Cond.code yX8_in cX8_in 6 (some .boolean), Cond.methodLink RX8 124 yX8_noTick, Cond.static yX8_noTick, Cond.code yX8_noTick cX8_noTick 1 (some .boolean), Cond.constantLong RX8 107 (99), Cond.methodLink RX8 193 yX8_knownAt, Cond.instanceMethod yX8_knownAt, Cond.selects RX8 yX8_knownAt yX8_knownAt, Cond.code yX8_knownAt cX8_knownAt 6 (some .int), Cond.constant RX8 192 (-1000000000), Cond.fieldLink RX8 51 "SeaGamesModel" "wait" "[I", Cond.fieldLink RX8 54 "SeaGamesModel" "isLost" "[Z", Cond.methodLink RX8 157 yX8_isLeft, Cond.instanceMethod yX8_isLeft]
def wsX8_agreed_r2 : List Cond := [Cond.selects RX8 yX8_isLeft yX8_isLeft, Cond.code yX8_isLeft cX8_isLeft 4 (some .boolean), Cond.fieldLink RX8 31 "SeaGamesModel" "leftFrom" "[I", Cond.fieldLink RX8 34 "SeaGamesModel" "leftTo" "[I"]
def wsX8_agreed : List Cond := .code yX8_agreed cX8_agreed 7 (some .int) :: ((wsX8_agreed_r1 ++ wsX8_agreed_r2) ++ wsX80)
def wsX8_write : List Cond := .code yX8_write cX8_write 4 none :: ([.fieldLink RX8 57 "SeaGamesModel" "place" "[I", .fieldLink RX8 60 "SeaGamesModel" "points" "[I", .fieldLink RX8 138 "SeaGamesModel" "ball" "I"] ++ wsX80)
def wsX8_isLike : List Cond := .code yX8_isLike cX8_isLike 6 (some .boolean) :: ([])
def wsX8_wrong_r1 : List Cond := [Cond.fieldLink RX8 100 "SeaGamesModel" "thrown" "I", Cond.fieldLink RX8 28 "SeaGamesModel" "pressed" "[I", Cond.fieldLink RX8 19 "SeaGamesModel" "power" "[I", Cond.fieldLink RX8 72 "SeaGamesModel" "trueStates" "[I", Cond.fieldLink RX8 63 "SeaGamesModel" "other" "[I", Cond.methodLink RX8 120 yX8_noHand, Cond.instanceMethod yX8_noHand, Cond.selects RX8 yX8_noHand yX8_noHand, Cond.initialized RX8, Cond.code yX8_noHand cX8_noHand 2 (some .boolean), Cond.fieldLink RX8 16 "SeaGamesModel" "hands" "[I", Cond.methodLink RX8 103 yX8_in, Cond.static yX8_in, Cond.code yX8_in cX8_in 6 (some .boolean), Cond.methodLink RX8 124 yX8_noTick, Cond.static yX8_noTick, Cond.code yX8_noTick cX8_noTick 1 (some .boolean), Cond.constantLong RX8 107 (99), Cond.methodLink RX8 169 yX8_start, Cond.instanceMethod yX8_start, Cond.selects RX8 yX8_start yX8_start, Cond.code yX8_start cX8_start 3 none, Cond.fieldLink RX8 7 "SeaGamesModel" "wide" "[I", Cond.fieldLink RX8 129 "SeaGamesModel" "w" "I"]
def wsX8_wrong_r2 : List Cond := [Cond.fieldLink RX8 13 "SeaGamesModel" "tall" "[I", Cond.fieldLink RX8 132 "SeaGamesModel" "h" "I", Cond.fieldLink RX8 135 "SeaGamesModel" "n" "I", Cond.fieldLink RX8 57 "SeaGamesModel" "place" "[I", Cond.fieldLink RX8 60 "SeaGamesModel" "points" "[I", Cond.fieldLink RX8 138 "SeaGamesModel" "ball" "I", Cond.methodLink RX8 173 yX8_step, Cond.instanceMethod yX8_step, Cond.selects RX8 yX8_step yX8_step, Cond.code yX8_step cX8_step 10 none, Cond.fieldLink RX8 22 "SeaGamesModel" "spin" "[I", Cond.fieldLink RX8 25 "SeaGamesModel" "seed" "[I", Cond.constant RX8 168 (1000000000), Cond.methodLink RX8 157 yX8_isLeft, Cond.instanceMethod yX8_isLeft, Cond.selects RX8 yX8_isLeft yX8_isLeft, Cond.code yX8_isLeft cX8_isLeft 4 (some .boolean), Cond.fieldLink RX8 31 "SeaGamesModel" "leftFrom" "[I", Cond.fieldLink RX8 34 "SeaGamesModel" "leftTo" "[I", Cond.methodLink RX8 161 yX8_thinks, Cond.instanceMethod yX8_thinks, Cond.selects RX8 yX8_thinks yX8_thinks, Cond.code yX8_thinks cX8_thinks 4 (some .int), Cond.methodLink RX8 145 yX8_besideBall]
def wsX8_wrong_r3 : List Cond := [Cond.instanceMethod yX8_besideBall, Cond.selects RX8 yX8_besideBall yX8_besideBall, Cond.code yX8_besideBall cX8_besideBall 4 (some .int), Cond.methodLink RX8 141 yX8_by, Cond.instanceMethod yX8_by, Cond.selects RX8 yX8_by yX8_by, Cond.code yX8_by cX8_by 5 (some .int), Cond.methodLink RX8 149 yX8_size, Cond.static yX8_size, Cond.code yX8_size cX8_size 1 (some .int), Cond.methodLink RX8 164 yX8_act, Cond.instanceMethod yX8_act, Cond.selects RX8 yX8_act yX8_act, Cond.code yX8_act cX8_act 7 none, Cond.constantLong RX8 152 (4), Cond.methodLink RX8 154 yX8_isFree, Cond.instanceMethod yX8_isFree, Cond.selects RX8 yX8_isFree yX8_isFree, Cond.code yX8_isFree cX8_isFree 4 (some .boolean), Cond.methodLink RX8 209 yX8_write, Cond.instanceMethod yX8_write, Cond.selects RX8 yX8_write yX8_write, Cond.code yX8_write cX8_write 4 none, Cond.methodLink RX8 201 yX8_show]
def wsX8_wrong_r4 : List Cond := [Cond.instanceMethod yX8_show, Cond.selects RX8 yX8_show yX8_show, Cond.code yX8_show cX8_show 4 none, Cond.fieldLink RX8 117 "SeaGamesModel" "delay" "I", Cond.fieldLink RX8 66 "SeaGamesModel" "takes" "[I", Cond.methodLink RX8 197 yX8_take, Cond.instanceMethod yX8_take, Cond.selects RX8 yX8_take yX8_take, Cond.code yX8_take cX8_take 10 none, Cond.methodLink RX8 193 yX8_knownAt, Cond.instanceMethod yX8_knownAt, Cond.selects RX8 yX8_knownAt yX8_knownAt, Cond.code yX8_knownAt cX8_knownAt 6 (some .int), Cond.constant RX8 192 (-1000000000), Cond.fieldLink RX8 51 "SeaGamesModel" "wait" "[I", Cond.fieldLink RX8 54 "SeaGamesModel" "isLost" "[Z", Cond.methodLink RX8 213 yX8_isLike, Cond.static yX8_isLike, Cond.code yX8_isLike cX8_isLike 6 (some .boolean)]
def wsX8_wrong : List Cond := .code yX8_wrong cX8_wrong 9 (some .int) :: ((wsX8_wrong_r1 ++ (wsX8_wrong_r2 ++ (wsX8_wrong_r3 ++ wsX8_wrong_r4))) ++ wsX80)
def wsX8_priceOf_r1 : List Cond := [Cond.fieldLink RX8 41 "SeaGamesModel" "feel" "I", Cond.fieldLink RX8 16 "SeaGamesModel" "hands" "[I", Cond.fieldLink RX8 45 "SeaGamesModel" "turn" "I", Cond.methodLink RX8 205 yX8_backOf, Cond.instanceMethod yX8_backOf, Cond.selects RX8 yX8_backOf yX8_backOf, Cond.initialized RX8, Cond.code yX8_backOf cX8_backOf 6 (some .int), Cond.fieldLink RX8 66 "SeaGamesModel" "takes" "[I", Cond.fieldLink RX8 69 "SeaGamesModel" "took" "[I", Cond.methodLink RX8 197 yX8_take, Cond.instanceMethod yX8_take, Cond.selects RX8 yX8_take yX8_take, Cond.code yX8_take cX8_take 10 none, Cond.fieldLink RX8 28 "SeaGamesModel" "pressed" "[I", Cond.methodLink RX8 193 yX8_knownAt, Cond.instanceMethod yX8_knownAt, Cond.selects RX8 yX8_knownAt yX8_knownAt, Cond.code yX8_knownAt cX8_knownAt 6 (some .int), Cond.constant RX8 192 (-1000000000), Cond.fieldLink RX8 51 "SeaGamesModel" "wait" "[I", Cond.fieldLink RX8 54 "SeaGamesModel" "isLost" "[Z", Cond.methodLink RX8 157 yX8_isLeft, Cond.instanceMethod yX8_isLeft]
def wsX8_priceOf_r2 : List Cond := [Cond.selects RX8 yX8_isLeft yX8_isLeft, Cond.code yX8_isLeft cX8_isLeft 4 (some .boolean), Cond.fieldLink RX8 31 "SeaGamesModel" "leftFrom" "[I", Cond.fieldLink RX8 34 "SeaGamesModel" "leftTo" "[I"]
def wsX8_priceOf : List Cond := .code yX8_priceOf cX8_priceOf 6 (some .int) :: ((wsX8_priceOf_r1 ++ wsX8_priceOf_r2) ++ wsX80)
def wsX8_price_r1 : List Cond := [Cond.fieldLink RX8 100 "SeaGamesModel" "thrown" "I", Cond.constantLong RX8 111 (9), Cond.methodLink RX8 103 yX8_in, Cond.static yX8_in, Cond.initialized RX8, Cond.code yX8_in cX8_in 6 (some .boolean), Cond.methodLink RX8 124 yX8_noTick, Cond.static yX8_noTick, Cond.code yX8_noTick cX8_noTick 1 (some .boolean), Cond.constantLong RX8 107 (99), Cond.methodLink RX8 217 yX8_priceOf, Cond.instanceMethod yX8_priceOf, Cond.selects RX8 yX8_priceOf yX8_priceOf, Cond.code yX8_priceOf cX8_priceOf 6 (some .int), Cond.fieldLink RX8 41 "SeaGamesModel" "feel" "I", Cond.fieldLink RX8 16 "SeaGamesModel" "hands" "[I", Cond.fieldLink RX8 45 "SeaGamesModel" "turn" "I", Cond.methodLink RX8 205 yX8_backOf, Cond.instanceMethod yX8_backOf, Cond.selects RX8 yX8_backOf yX8_backOf, Cond.code yX8_backOf cX8_backOf 6 (some .int), Cond.fieldLink RX8 66 "SeaGamesModel" "takes" "[I", Cond.fieldLink RX8 69 "SeaGamesModel" "took" "[I", Cond.methodLink RX8 197 yX8_take]
def wsX8_price_r2 : List Cond := [Cond.instanceMethod yX8_take, Cond.selects RX8 yX8_take yX8_take, Cond.code yX8_take cX8_take 10 none, Cond.fieldLink RX8 28 "SeaGamesModel" "pressed" "[I", Cond.methodLink RX8 193 yX8_knownAt, Cond.instanceMethod yX8_knownAt, Cond.selects RX8 yX8_knownAt yX8_knownAt, Cond.code yX8_knownAt cX8_knownAt 6 (some .int), Cond.constant RX8 192 (-1000000000), Cond.fieldLink RX8 51 "SeaGamesModel" "wait" "[I", Cond.fieldLink RX8 54 "SeaGamesModel" "isLost" "[Z", Cond.methodLink RX8 157 yX8_isLeft, Cond.instanceMethod yX8_isLeft, Cond.selects RX8 yX8_isLeft yX8_isLeft, Cond.code yX8_isLeft cX8_isLeft 4 (some .boolean), Cond.fieldLink RX8 31 "SeaGamesModel" "leftFrom" "[I", Cond.fieldLink RX8 34 "SeaGamesModel" "leftTo" "[I"]
def wsX8_price : List Cond := .code yX8_price cX8_price 3 (some .int) :: ((wsX8_price_r1 ++ wsX8_price_r2) ++ wsX80)
def wsX8_best_r1 : List Cond := [Cond.fieldLink RX8 100 "SeaGamesModel" "thrown" "I", Cond.methodLink RX8 124 yX8_noTick, Cond.static yX8_noTick, Cond.initialized RX8, Cond.code yX8_noTick cX8_noTick 1 (some .boolean), Cond.constantLong RX8 107 (99), Cond.methodLink RX8 103 yX8_in, Cond.static yX8_in, Cond.code yX8_in cX8_in 6 (some .boolean), Cond.methodLink RX8 217 yX8_priceOf, Cond.instanceMethod yX8_priceOf, Cond.selects RX8 yX8_priceOf yX8_priceOf, Cond.code yX8_priceOf cX8_priceOf 6 (some .int), Cond.fieldLink RX8 41 "SeaGamesModel" "feel" "I", Cond.fieldLink RX8 16 "SeaGamesModel" "hands" "[I", Cond.fieldLink RX8 45 "SeaGamesModel" "turn" "I", Cond.methodLink RX8 205 yX8_backOf, Cond.instanceMethod yX8_backOf, Cond.selects RX8 yX8_backOf yX8_backOf, Cond.code yX8_backOf cX8_backOf 6 (some .int), Cond.fieldLink RX8 66 "SeaGamesModel" "takes" "[I", Cond.fieldLink RX8 69 "SeaGamesModel" "took" "[I", Cond.methodLink RX8 197 yX8_take, Cond.instanceMethod yX8_take]
def wsX8_best_r2 : List Cond := [Cond.selects RX8 yX8_take yX8_take, Cond.code yX8_take cX8_take 10 none, Cond.fieldLink RX8 28 "SeaGamesModel" "pressed" "[I", Cond.methodLink RX8 193 yX8_knownAt, Cond.instanceMethod yX8_knownAt, Cond.selects RX8 yX8_knownAt yX8_knownAt, Cond.code yX8_knownAt cX8_knownAt 6 (some .int), Cond.constant RX8 192 (-1000000000), Cond.fieldLink RX8 51 "SeaGamesModel" "wait" "[I", Cond.fieldLink RX8 54 "SeaGamesModel" "isLost" "[Z", Cond.methodLink RX8 157 yX8_isLeft, Cond.instanceMethod yX8_isLeft, Cond.selects RX8 yX8_isLeft yX8_isLeft, Cond.code yX8_isLeft cX8_isLeft 4 (some .boolean), Cond.fieldLink RX8 31 "SeaGamesModel" "leftFrom" "[I", Cond.fieldLink RX8 34 "SeaGamesModel" "leftTo" "[I"]
def wsX8_best : List Cond := .code yX8_best cX8_best 6 (some .int) :: ((wsX8_best_r1 ++ wsX8_best_r2) ++ wsX80)
def wsX8_isSeen : List Cond := .code yX8_isSeen cX8_isSeen 3 (some .boolean) :: ([.fieldLink RX8 57 "SeaGamesModel" "place" "[I", .fieldLink RX8 129 "SeaGamesModel" "w" "I", .fieldLink RX8 48 "SeaGamesModel" "sight" "I", .methodLink RX8 149 yX8_size, .static yX8_size, .initialized RX8, .code yX8_size cX8_size 1 (some .int)] ++ wsX80)
def wsX8_sees_r1 : List Cond := [Cond.fieldLink RX8 100 "SeaGamesModel" "thrown" "I", Cond.fieldLink RX8 57 "SeaGamesModel" "place" "[I", Cond.methodLink RX8 120 yX8_noHand, Cond.instanceMethod yX8_noHand, Cond.selects RX8 yX8_noHand yX8_noHand, Cond.initialized RX8, Cond.code yX8_noHand cX8_noHand 2 (some .boolean), Cond.fieldLink RX8 16 "SeaGamesModel" "hands" "[I", Cond.methodLink RX8 103 yX8_in, Cond.static yX8_in, Cond.code yX8_in cX8_in 6 (some .boolean), Cond.methodLink RX8 124 yX8_noTick, Cond.static yX8_noTick, Cond.code yX8_noTick cX8_noTick 1 (some .boolean), Cond.constantLong RX8 107 (99), Cond.methodLink RX8 186 yX8_liveNow, Cond.instanceMethod yX8_liveNow, Cond.selects RX8 yX8_liveNow yX8_liveNow, Cond.code yX8_liveNow cX8_liveNow 2 none, Cond.fieldLink RX8 19 "SeaGamesModel" "power" "[I", Cond.methodLink RX8 177 yX8_live, Cond.instanceMethod yX8_live, Cond.selects RX8 yX8_live yX8_live, Cond.code yX8_live cX8_live 5 none]
def wsX8_sees_r2 : List Cond := [Cond.fieldLink RX8 28 "SeaGamesModel" "pressed" "[I", Cond.methodLink RX8 169 yX8_start, Cond.instanceMethod yX8_start, Cond.selects RX8 yX8_start yX8_start, Cond.code yX8_start cX8_start 3 none, Cond.fieldLink RX8 7 "SeaGamesModel" "wide" "[I", Cond.fieldLink RX8 129 "SeaGamesModel" "w" "I", Cond.fieldLink RX8 13 "SeaGamesModel" "tall" "[I", Cond.fieldLink RX8 132 "SeaGamesModel" "h" "I", Cond.fieldLink RX8 135 "SeaGamesModel" "n" "I", Cond.fieldLink RX8 60 "SeaGamesModel" "points" "[I", Cond.fieldLink RX8 138 "SeaGamesModel" "ball" "I", Cond.methodLink RX8 173 yX8_step, Cond.instanceMethod yX8_step, Cond.selects RX8 yX8_step yX8_step, Cond.code yX8_step cX8_step 10 none, Cond.fieldLink RX8 22 "SeaGamesModel" "spin" "[I", Cond.fieldLink RX8 25 "SeaGamesModel" "seed" "[I", Cond.constant RX8 168 (1000000000), Cond.methodLink RX8 157 yX8_isLeft, Cond.instanceMethod yX8_isLeft, Cond.selects RX8 yX8_isLeft yX8_isLeft, Cond.code yX8_isLeft cX8_isLeft 4 (some .boolean), Cond.fieldLink RX8 31 "SeaGamesModel" "leftFrom" "[I"]
def wsX8_sees_r3 : List Cond := [Cond.fieldLink RX8 34 "SeaGamesModel" "leftTo" "[I", Cond.methodLink RX8 161 yX8_thinks, Cond.instanceMethod yX8_thinks, Cond.selects RX8 yX8_thinks yX8_thinks, Cond.code yX8_thinks cX8_thinks 4 (some .int), Cond.methodLink RX8 145 yX8_besideBall, Cond.instanceMethod yX8_besideBall, Cond.selects RX8 yX8_besideBall yX8_besideBall, Cond.code yX8_besideBall cX8_besideBall 4 (some .int), Cond.methodLink RX8 141 yX8_by, Cond.instanceMethod yX8_by, Cond.selects RX8 yX8_by yX8_by, Cond.code yX8_by cX8_by 5 (some .int), Cond.methodLink RX8 149 yX8_size, Cond.static yX8_size, Cond.code yX8_size cX8_size 1 (some .int), Cond.methodLink RX8 164 yX8_act, Cond.instanceMethod yX8_act, Cond.selects RX8 yX8_act yX8_act, Cond.code yX8_act cX8_act 7 none, Cond.constantLong RX8 152 (4), Cond.methodLink RX8 154 yX8_isFree, Cond.instanceMethod yX8_isFree, Cond.selects RX8 yX8_isFree yX8_isFree]
def wsX8_sees_r4 : List Cond := [Cond.code yX8_isFree cX8_isFree 4 (some .boolean), Cond.methodLink RX8 220 yX8_isSeen, Cond.instanceMethod yX8_isSeen, Cond.selects RX8 yX8_isSeen yX8_isSeen, Cond.code yX8_isSeen cX8_isSeen 3 (some .boolean), Cond.fieldLink RX8 48 "SeaGamesModel" "sight" "I"]
def wsX8_sees : List Cond := .code yX8_sees cX8_sees 4 (some .int) :: ((wsX8_sees_r1 ++ (wsX8_sees_r2 ++ (wsX8_sees_r3 ++ wsX8_sees_r4))) ++ wsX80)
def wsX8_guess_r1 : List Cond := [Cond.fieldLink RX8 75 "SeaGamesModel" "may" "[Z", Cond.fieldLink RX8 57 "SeaGamesModel" "place" "[I", Cond.fieldLink RX8 28 "SeaGamesModel" "pressed" "[I", Cond.fieldLink RX8 19 "SeaGamesModel" "power" "[I", Cond.fieldLink RX8 129 "SeaGamesModel" "w" "I", Cond.fieldLink RX8 132 "SeaGamesModel" "h" "I", Cond.fieldLink RX8 78 "SeaGamesModel" "then" "[Z", Cond.methodLink RX8 169 yX8_start, Cond.instanceMethod yX8_start, Cond.selects RX8 yX8_start yX8_start, Cond.initialized RX8, Cond.code yX8_start cX8_start 3 none, Cond.fieldLink RX8 7 "SeaGamesModel" "wide" "[I", Cond.fieldLink RX8 13 "SeaGamesModel" "tall" "[I", Cond.fieldLink RX8 16 "SeaGamesModel" "hands" "[I", Cond.fieldLink RX8 135 "SeaGamesModel" "n" "I", Cond.fieldLink RX8 60 "SeaGamesModel" "points" "[I", Cond.fieldLink RX8 138 "SeaGamesModel" "ball" "I", Cond.methodLink RX8 173 yX8_step, Cond.instanceMethod yX8_step, Cond.selects RX8 yX8_step yX8_step, Cond.code yX8_step cX8_step 10 none, Cond.fieldLink RX8 22 "SeaGamesModel" "spin" "[I", Cond.fieldLink RX8 25 "SeaGamesModel" "seed" "[I"]
def wsX8_guess_r2 : List Cond := [Cond.constant RX8 168 (1000000000), Cond.methodLink RX8 157 yX8_isLeft, Cond.instanceMethod yX8_isLeft, Cond.selects RX8 yX8_isLeft yX8_isLeft, Cond.code yX8_isLeft cX8_isLeft 4 (some .boolean), Cond.fieldLink RX8 31 "SeaGamesModel" "leftFrom" "[I", Cond.fieldLink RX8 34 "SeaGamesModel" "leftTo" "[I", Cond.methodLink RX8 161 yX8_thinks, Cond.instanceMethod yX8_thinks, Cond.selects RX8 yX8_thinks yX8_thinks, Cond.code yX8_thinks cX8_thinks 4 (some .int), Cond.methodLink RX8 145 yX8_besideBall, Cond.instanceMethod yX8_besideBall, Cond.selects RX8 yX8_besideBall yX8_besideBall, Cond.code yX8_besideBall cX8_besideBall 4 (some .int), Cond.methodLink RX8 141 yX8_by, Cond.instanceMethod yX8_by, Cond.selects RX8 yX8_by yX8_by, Cond.code yX8_by cX8_by 5 (some .int), Cond.methodLink RX8 103 yX8_in, Cond.static yX8_in, Cond.code yX8_in cX8_in 6 (some .boolean), Cond.methodLink RX8 149 yX8_size, Cond.static yX8_size]
def wsX8_guess_r3 : List Cond := [Cond.code yX8_size cX8_size 1 (some .int), Cond.methodLink RX8 164 yX8_act, Cond.instanceMethod yX8_act, Cond.selects RX8 yX8_act yX8_act, Cond.code yX8_act cX8_act 7 none, Cond.constantLong RX8 152 (4), Cond.methodLink RX8 154 yX8_isFree, Cond.instanceMethod yX8_isFree, Cond.selects RX8 yX8_isFree yX8_isFree, Cond.code yX8_isFree cX8_isFree 4 (some .boolean), Cond.methodLink RX8 220 yX8_isSeen, Cond.instanceMethod yX8_isSeen, Cond.selects RX8 yX8_isSeen yX8_isSeen, Cond.code yX8_isSeen cX8_isSeen 3 (some .boolean), Cond.fieldLink RX8 48 "SeaGamesModel" "sight" "I"]
def wsX8_guess : List Cond := .code yX8_guess cX8_guess 9 none :: ((wsX8_guess_r1 ++ (wsX8_guess_r2 ++ wsX8_guess_r3)) ++ wsX80)
def wsX8_could_r1 : List Cond := [Cond.fieldLink RX8 100 "SeaGamesModel" "thrown" "I", Cond.fieldLink RX8 129 "SeaGamesModel" "w" "I", Cond.fieldLink RX8 132 "SeaGamesModel" "h" "I", Cond.fieldLink RX8 75 "SeaGamesModel" "may" "[Z", Cond.methodLink RX8 120 yX8_noHand, Cond.instanceMethod yX8_noHand, Cond.selects RX8 yX8_noHand yX8_noHand, Cond.initialized RX8, Cond.code yX8_noHand cX8_noHand 2 (some .boolean), Cond.fieldLink RX8 16 "SeaGamesModel" "hands" "[I", Cond.methodLink RX8 103 yX8_in, Cond.static yX8_in, Cond.code yX8_in cX8_in 6 (some .boolean), Cond.methodLink RX8 124 yX8_noTick, Cond.static yX8_noTick, Cond.code yX8_noTick cX8_noTick 1 (some .boolean), Cond.constantLong RX8 107 (99), Cond.methodLink RX8 223 yX8_guess, Cond.instanceMethod yX8_guess, Cond.selects RX8 yX8_guess yX8_guess, Cond.code yX8_guess cX8_guess 9 none, Cond.fieldLink RX8 57 "SeaGamesModel" "place" "[I", Cond.fieldLink RX8 28 "SeaGamesModel" "pressed" "[I", Cond.fieldLink RX8 19 "SeaGamesModel" "power" "[I"]
def wsX8_could_r2 : List Cond := [Cond.fieldLink RX8 78 "SeaGamesModel" "then" "[Z", Cond.methodLink RX8 169 yX8_start, Cond.instanceMethod yX8_start, Cond.selects RX8 yX8_start yX8_start, Cond.code yX8_start cX8_start 3 none, Cond.fieldLink RX8 7 "SeaGamesModel" "wide" "[I", Cond.fieldLink RX8 13 "SeaGamesModel" "tall" "[I", Cond.fieldLink RX8 135 "SeaGamesModel" "n" "I", Cond.fieldLink RX8 60 "SeaGamesModel" "points" "[I", Cond.fieldLink RX8 138 "SeaGamesModel" "ball" "I", Cond.methodLink RX8 173 yX8_step, Cond.instanceMethod yX8_step, Cond.selects RX8 yX8_step yX8_step, Cond.code yX8_step cX8_step 10 none, Cond.fieldLink RX8 22 "SeaGamesModel" "spin" "[I", Cond.fieldLink RX8 25 "SeaGamesModel" "seed" "[I", Cond.constant RX8 168 (1000000000), Cond.methodLink RX8 157 yX8_isLeft, Cond.instanceMethod yX8_isLeft, Cond.selects RX8 yX8_isLeft yX8_isLeft, Cond.code yX8_isLeft cX8_isLeft 4 (some .boolean), Cond.fieldLink RX8 31 "SeaGamesModel" "leftFrom" "[I", Cond.fieldLink RX8 34 "SeaGamesModel" "leftTo" "[I", Cond.methodLink RX8 161 yX8_thinks]
def wsX8_could_r3 : List Cond := [Cond.instanceMethod yX8_thinks, Cond.selects RX8 yX8_thinks yX8_thinks, Cond.code yX8_thinks cX8_thinks 4 (some .int), Cond.methodLink RX8 145 yX8_besideBall, Cond.instanceMethod yX8_besideBall, Cond.selects RX8 yX8_besideBall yX8_besideBall, Cond.code yX8_besideBall cX8_besideBall 4 (some .int), Cond.methodLink RX8 141 yX8_by, Cond.instanceMethod yX8_by, Cond.selects RX8 yX8_by yX8_by, Cond.code yX8_by cX8_by 5 (some .int), Cond.methodLink RX8 149 yX8_size, Cond.static yX8_size, Cond.code yX8_size cX8_size 1 (some .int), Cond.methodLink RX8 164 yX8_act, Cond.instanceMethod yX8_act, Cond.selects RX8 yX8_act yX8_act, Cond.code yX8_act cX8_act 7 none, Cond.constantLong RX8 152 (4), Cond.methodLink RX8 154 yX8_isFree, Cond.instanceMethod yX8_isFree, Cond.selects RX8 yX8_isFree yX8_isFree, Cond.code yX8_isFree cX8_isFree 4 (some .boolean), Cond.methodLink RX8 220 yX8_isSeen]
def wsX8_could_r4 : List Cond := [Cond.instanceMethod yX8_isSeen, Cond.selects RX8 yX8_isSeen yX8_isSeen, Cond.code yX8_isSeen cX8_isSeen 3 (some .boolean), Cond.fieldLink RX8 48 "SeaGamesModel" "sight" "I"]
def wsX8_could : List Cond := .code yX8_could cX8_could 6 (some .int) :: ((wsX8_could_r1 ++ (wsX8_could_r2 ++ (wsX8_could_r3 ++ wsX8_could_r4))) ++ wsX80)
def wsX8_couldBe_r1 : List Cond := [Cond.fieldLink RX8 100 "SeaGamesModel" "thrown" "I", Cond.fieldLink RX8 7 "SeaGamesModel" "wide" "[I", Cond.fieldLink RX8 13 "SeaGamesModel" "tall" "[I", Cond.fieldLink RX8 75 "SeaGamesModel" "may" "[Z", Cond.methodLink RX8 120 yX8_noHand, Cond.instanceMethod yX8_noHand, Cond.selects RX8 yX8_noHand yX8_noHand, Cond.initialized RX8, Cond.code yX8_noHand cX8_noHand 2 (some .boolean), Cond.fieldLink RX8 16 "SeaGamesModel" "hands" "[I", Cond.methodLink RX8 103 yX8_in, Cond.static yX8_in, Cond.code yX8_in cX8_in 6 (some .boolean), Cond.methodLink RX8 124 yX8_noTick, Cond.static yX8_noTick, Cond.code yX8_noTick cX8_noTick 1 (some .boolean), Cond.constantLong RX8 107 (99), Cond.methodLink RX8 223 yX8_guess, Cond.instanceMethod yX8_guess, Cond.selects RX8 yX8_guess yX8_guess, Cond.code yX8_guess cX8_guess 9 none, Cond.fieldLink RX8 57 "SeaGamesModel" "place" "[I", Cond.fieldLink RX8 28 "SeaGamesModel" "pressed" "[I", Cond.fieldLink RX8 19 "SeaGamesModel" "power" "[I"]
def wsX8_couldBe_r2 : List Cond := [Cond.fieldLink RX8 129 "SeaGamesModel" "w" "I", Cond.fieldLink RX8 132 "SeaGamesModel" "h" "I", Cond.fieldLink RX8 78 "SeaGamesModel" "then" "[Z", Cond.methodLink RX8 169 yX8_start, Cond.instanceMethod yX8_start, Cond.selects RX8 yX8_start yX8_start, Cond.code yX8_start cX8_start 3 none, Cond.fieldLink RX8 135 "SeaGamesModel" "n" "I", Cond.fieldLink RX8 60 "SeaGamesModel" "points" "[I", Cond.fieldLink RX8 138 "SeaGamesModel" "ball" "I", Cond.methodLink RX8 173 yX8_step, Cond.instanceMethod yX8_step, Cond.selects RX8 yX8_step yX8_step, Cond.code yX8_step cX8_step 10 none, Cond.fieldLink RX8 22 "SeaGamesModel" "spin" "[I", Cond.fieldLink RX8 25 "SeaGamesModel" "seed" "[I", Cond.constant RX8 168 (1000000000), Cond.methodLink RX8 157 yX8_isLeft, Cond.instanceMethod yX8_isLeft, Cond.selects RX8 yX8_isLeft yX8_isLeft, Cond.code yX8_isLeft cX8_isLeft 4 (some .boolean), Cond.fieldLink RX8 31 "SeaGamesModel" "leftFrom" "[I", Cond.fieldLink RX8 34 "SeaGamesModel" "leftTo" "[I", Cond.methodLink RX8 161 yX8_thinks]
def wsX8_couldBe_r3 : List Cond := [Cond.instanceMethod yX8_thinks, Cond.selects RX8 yX8_thinks yX8_thinks, Cond.code yX8_thinks cX8_thinks 4 (some .int), Cond.methodLink RX8 145 yX8_besideBall, Cond.instanceMethod yX8_besideBall, Cond.selects RX8 yX8_besideBall yX8_besideBall, Cond.code yX8_besideBall cX8_besideBall 4 (some .int), Cond.methodLink RX8 141 yX8_by, Cond.instanceMethod yX8_by, Cond.selects RX8 yX8_by yX8_by, Cond.code yX8_by cX8_by 5 (some .int), Cond.methodLink RX8 149 yX8_size, Cond.static yX8_size, Cond.code yX8_size cX8_size 1 (some .int), Cond.methodLink RX8 164 yX8_act, Cond.instanceMethod yX8_act, Cond.selects RX8 yX8_act yX8_act, Cond.code yX8_act cX8_act 7 none, Cond.constantLong RX8 152 (4), Cond.methodLink RX8 154 yX8_isFree, Cond.instanceMethod yX8_isFree, Cond.selects RX8 yX8_isFree yX8_isFree, Cond.code yX8_isFree cX8_isFree 4 (some .boolean), Cond.methodLink RX8 220 yX8_isSeen]
def wsX8_couldBe_r4 : List Cond := [Cond.instanceMethod yX8_isSeen, Cond.selects RX8 yX8_isSeen yX8_isSeen, Cond.code yX8_isSeen cX8_isSeen 3 (some .boolean), Cond.fieldLink RX8 48 "SeaGamesModel" "sight" "I"]
def wsX8_couldBe : List Cond := .code yX8_couldBe cX8_couldBe 5 (some .int) :: ((wsX8_couldBe_r1 ++ (wsX8_couldBe_r2 ++ (wsX8_couldBe_r3 ++ wsX8_couldBe_r4))) ++ wsX80)
def wsX8_player : List Cond := .code yX8_player cX8_player 3 (some .int) :: ([.fieldLink RX8 100 "SeaGamesModel" "thrown" "I", .constantLong RX8 226 (999), .constantLong RX8 109 (3), .fieldLink RX8 228 "SeaGamesModel" "players" "I", .fieldLink RX8 81 "SeaGamesModel" "skill" "[I", .fieldLink RX8 84 "SeaGamesModel" "shore" "[I", .methodLink RX8 103 yX8_in, .static yX8_in, .initialized RX8, .code yX8_in cX8_in 6 (some .boolean)] ++ wsX80)
def wsX8_far : List Cond := .code yX8_far cX8_far 5 (some .int) :: ([.fieldLink RX8 100 "SeaGamesModel" "thrown" "I", .constantLong RX8 109 (3), .constantLong RX8 226 (999), .fieldLink RX8 87 "SeaGamesModel" "fars" "[I", .methodLink RX8 103 yX8_in, .static yX8_in, .initialized RX8, .code yX8_in cX8_in 6 (some .boolean)] ++ wsX80)
def wsX8_costs : List Cond := .code yX8_costs cX8_costs 3 (some .int) :: ([.fieldLink RX8 81 "SeaGamesModel" "skill" "[I", .fieldLink RX8 87 "SeaGamesModel" "fars" "[I", .fieldLink RX8 84 "SeaGamesModel" "shore" "[I", .methodLink RX8 149 yX8_size, .static yX8_size, .initialized RX8, .code yX8_size cX8_size 1 (some .int)] ++ wsX80)
def wsX8_lowest : List Cond := .code yX8_lowest cX8_lowest 2 (some .int) :: ([])
def wsX8_isOdd : List Cond := .code yX8_isOdd cX8_isOdd 3 (some .boolean) :: ([])
def wsX8_match : List Cond := .code yX8_match cX8_match 7 (some .int) :: ([.fieldLink RX8 228 "SeaGamesModel" "players" "I", .constant RX8 168 (1000000000), .fieldLink RX8 90 "SeaGamesModel" "least" "[I", .fieldLink RX8 93 "SeaGamesModel" "mates" "[I", .methodLink RX8 231 yX8_lowest, .static yX8_lowest, .initialized RX8, .code yX8_lowest cX8_lowest 2 (some .int), .methodLink RX8 234 yX8_costs, .instanceMethod yX8_costs, .selects RX8 yX8_costs yX8_costs, .code yX8_costs cX8_costs 3 (some .int), .fieldLink RX8 81 "SeaGamesModel" "skill" "[I", .fieldLink RX8 87 "SeaGamesModel" "fars" "[I", .fieldLink RX8 84 "SeaGamesModel" "shore" "[I", .methodLink RX8 149 yX8_size, .static yX8_size, .code yX8_size cX8_size 1 (some .int), .methodLink RX8 237 yX8_isOdd, .static yX8_isOdd, .code yX8_isOdd cX8_isOdd 3 (some .boolean)] ++ wsX80)
def wsX8_pairs_r1 : List Cond := [Cond.fieldLink RX8 100 "SeaGamesModel" "thrown" "I", Cond.methodLink RX8 240 yX8_match, Cond.instanceMethod yX8_match, Cond.selects RX8 yX8_match yX8_match, Cond.initialized RX8, Cond.code yX8_match cX8_match 7 (some .int), Cond.fieldLink RX8 228 "SeaGamesModel" "players" "I", Cond.constant RX8 168 (1000000000), Cond.fieldLink RX8 90 "SeaGamesModel" "least" "[I", Cond.fieldLink RX8 93 "SeaGamesModel" "mates" "[I", Cond.methodLink RX8 231 yX8_lowest, Cond.static yX8_lowest, Cond.code yX8_lowest cX8_lowest 2 (some .int), Cond.methodLink RX8 234 yX8_costs, Cond.instanceMethod yX8_costs, Cond.selects RX8 yX8_costs yX8_costs, Cond.code yX8_costs cX8_costs 3 (some .int), Cond.fieldLink RX8 81 "SeaGamesModel" "skill" "[I", Cond.fieldLink RX8 87 "SeaGamesModel" "fars" "[I", Cond.fieldLink RX8 84 "SeaGamesModel" "shore" "[I", Cond.methodLink RX8 149 yX8_size, Cond.static yX8_size, Cond.code yX8_size cX8_size 1 (some .int), Cond.methodLink RX8 237 yX8_isOdd]
def wsX8_pairs_r2 : List Cond := [Cond.static yX8_isOdd, Cond.code yX8_isOdd cX8_isOdd 3 (some .boolean)]
def wsX8_pairs : List Cond := .code yX8_pairs cX8_pairs 1 (some .int) :: ((wsX8_pairs_r1 ++ wsX8_pairs_r2) ++ wsX80)
def wsX8_mate_r1 : List Cond := [Cond.fieldLink RX8 100 "SeaGamesModel" "thrown" "I", Cond.fieldLink RX8 228 "SeaGamesModel" "players" "I", Cond.fieldLink RX8 93 "SeaGamesModel" "mates" "[I", Cond.methodLink RX8 103 yX8_in, Cond.static yX8_in, Cond.initialized RX8, Cond.code yX8_in cX8_in 6 (some .boolean), Cond.methodLink RX8 240 yX8_match, Cond.instanceMethod yX8_match, Cond.selects RX8 yX8_match yX8_match, Cond.code yX8_match cX8_match 7 (some .int), Cond.constant RX8 168 (1000000000), Cond.fieldLink RX8 90 "SeaGamesModel" "least" "[I", Cond.methodLink RX8 231 yX8_lowest, Cond.static yX8_lowest, Cond.code yX8_lowest cX8_lowest 2 (some .int), Cond.methodLink RX8 234 yX8_costs, Cond.instanceMethod yX8_costs, Cond.selects RX8 yX8_costs yX8_costs, Cond.code yX8_costs cX8_costs 3 (some .int), Cond.fieldLink RX8 81 "SeaGamesModel" "skill" "[I", Cond.fieldLink RX8 87 "SeaGamesModel" "fars" "[I", Cond.fieldLink RX8 84 "SeaGamesModel" "shore" "[I", Cond.methodLink RX8 149 yX8_size]
def wsX8_mate_r2 : List Cond := [Cond.static yX8_size, Cond.code yX8_size cX8_size 1 (some .int), Cond.methodLink RX8 237 yX8_isOdd, Cond.static yX8_isOdd, Cond.code yX8_isOdd cX8_isOdd 3 (some .boolean)]
def wsX8_mate : List Cond := .code yX8_mate cX8_mate 2 (some .int) :: ((wsX8_mate_r1 ++ wsX8_mate_r2) ++ wsX80)
def wsX8_odds : List Cond := .code yX8_odds cX8_odds 16 (some .long) :: ([.fieldLink RX8 100 "SeaGamesModel" "thrown" "I", .constantLong RX8 244 (60), .constantLong RX8 246 (-2), .fieldLink RX8 96 "SeaGamesModel" "ways" "[J", .methodLink RX8 103 yX8_in, .static yX8_in, .initialized RX8, .code yX8_in cX8_in 6 (some .boolean)] ++ wsX80)
def wsX8_copy : List Cond := .code yX8_copy cX8_copy 4 none :: ([.fieldLink RX8 7 "SeaGamesModel" "wide" "[I", .fieldLink RX8 13 "SeaGamesModel" "tall" "[I", .fieldLink RX8 16 "SeaGamesModel" "hands" "[I", .fieldLink RX8 19 "SeaGamesModel" "power" "[I", .fieldLink RX8 22 "SeaGamesModel" "spin" "[I", .fieldLink RX8 25 "SeaGamesModel" "seed" "[I", .fieldLink RX8 28 "SeaGamesModel" "pressed" "[I", .fieldLink RX8 31 "SeaGamesModel" "leftFrom" "[I", .fieldLink RX8 34 "SeaGamesModel" "leftTo" "[I"] ++ wsX80)
def wsX8_presses : List Cond := .code yX8_presses cX8_presses 3 (some .int) :: ([.fieldLink RX8 16 "SeaGamesModel" "hands" "[I", .fieldLink RX8 28 "SeaGamesModel" "pressed" "[I"] ++ wsX80)
def wsX8_noSlot : List Cond := .code yX8_noSlot cX8_noSlot 1 (some .boolean) :: ([.constantLong RX8 109 (3), .methodLink RX8 103 yX8_in, .static yX8_in, .initialized RX8, .code yX8_in cX8_in 6 (some .boolean)])
def wsX8_keep_r1 : List Cond := [Cond.fieldLink RX8 100 "SeaGamesModel" "thrown" "I", Cond.fieldLink RX8 37 "SeaGamesModel" "isKept" "[Z", Cond.methodLink RX8 248 yX8_noSlot, Cond.static yX8_noSlot, Cond.initialized RX8, Cond.code yX8_noSlot cX8_noSlot 1 (some .boolean), Cond.constantLong RX8 109 (3), Cond.methodLink RX8 103 yX8_in, Cond.static yX8_in, Cond.code yX8_in cX8_in 6 (some .boolean), Cond.methodLink RX8 251 yX8_copy, Cond.instanceMethod yX8_copy, Cond.selects RX8 yX8_copy yX8_copy, Cond.code yX8_copy cX8_copy 4 none, Cond.fieldLink RX8 7 "SeaGamesModel" "wide" "[I", Cond.fieldLink RX8 13 "SeaGamesModel" "tall" "[I", Cond.fieldLink RX8 16 "SeaGamesModel" "hands" "[I", Cond.fieldLink RX8 19 "SeaGamesModel" "power" "[I", Cond.fieldLink RX8 22 "SeaGamesModel" "spin" "[I", Cond.fieldLink RX8 25 "SeaGamesModel" "seed" "[I", Cond.fieldLink RX8 28 "SeaGamesModel" "pressed" "[I", Cond.fieldLink RX8 31 "SeaGamesModel" "leftFrom" "[I", Cond.fieldLink RX8 34 "SeaGamesModel" "leftTo" "[I", Cond.methodLink RX8 254 yX8_presses]
def wsX8_keep_r2 : List Cond := [Cond.instanceMethod yX8_presses, Cond.selects RX8 yX8_presses yX8_presses, Cond.code yX8_presses cX8_presses 3 (some .int)]
def wsX8_keep : List Cond := .code yX8_keep cX8_keep 2 (some .int) :: ((wsX8_keep_r1 ++ wsX8_keep_r2) ++ wsX80)
def wsX8_again : List Cond := .code yX8_again cX8_again 2 (some .int) :: ([.fieldLink RX8 100 "SeaGamesModel" "thrown" "I", .fieldLink RX8 37 "SeaGamesModel" "isKept" "[Z", .fieldLink RX8 16 "SeaGamesModel" "hands" "[I", .methodLink RX8 248 yX8_noSlot, .static yX8_noSlot, .initialized RX8, .code yX8_noSlot cX8_noSlot 1 (some .boolean), .constantLong RX8 109 (3), .methodLink RX8 103 yX8_in, .static yX8_in, .code yX8_in cX8_in 6 (some .boolean), .methodLink RX8 251 yX8_copy, .instanceMethod yX8_copy, .selects RX8 yX8_copy yX8_copy, .code yX8_copy cX8_copy 4 none, .fieldLink RX8 7 "SeaGamesModel" "wide" "[I", .fieldLink RX8 13 "SeaGamesModel" "tall" "[I", .fieldLink RX8 19 "SeaGamesModel" "power" "[I", .fieldLink RX8 22 "SeaGamesModel" "spin" "[I", .fieldLink RX8 25 "SeaGamesModel" "seed" "[I", .fieldLink RX8 28 "SeaGamesModel" "pressed" "[I", .fieldLink RX8 31 "SeaGamesModel" "leftFrom" "[I", .fieldLink RX8 34 "SeaGamesModel" "leftTo" "[I"] ++ wsX80)
def wsX8_tried_r1 : List Cond := [Cond.fieldLink RX8 100 "SeaGamesModel" "thrown" "I", Cond.fieldLink RX8 37 "SeaGamesModel" "isKept" "[Z", Cond.constantLong RX8 127 (5), Cond.fieldLink RX8 16 "SeaGamesModel" "hands" "[I", Cond.methodLink RX8 248 yX8_noSlot, Cond.static yX8_noSlot, Cond.initialized RX8, Cond.code yX8_noSlot cX8_noSlot 1 (some .boolean), Cond.constantLong RX8 109 (3), Cond.methodLink RX8 103 yX8_in, Cond.static yX8_in, Cond.code yX8_in cX8_in 6 (some .boolean), Cond.methodLink RX8 124 yX8_noTick, Cond.static yX8_noTick, Cond.code yX8_noTick cX8_noTick 1 (some .boolean), Cond.constantLong RX8 107 (99), Cond.methodLink RX8 182 yX8_noWhat, Cond.instanceMethod yX8_noWhat, Cond.selects RX8 yX8_noWhat yX8_noWhat, Cond.code yX8_noWhat cX8_noWhat 3 (some .boolean), Cond.constantLong RX8 180 (10), Cond.methodLink RX8 177 yX8_live, Cond.instanceMethod yX8_live, Cond.selects RX8 yX8_live yX8_live]
def wsX8_tried_r2 : List Cond := [Cond.code yX8_live cX8_live 5 none, Cond.fieldLink RX8 28 "SeaGamesModel" "pressed" "[I", Cond.methodLink RX8 169 yX8_start, Cond.instanceMethod yX8_start, Cond.selects RX8 yX8_start yX8_start, Cond.code yX8_start cX8_start 3 none, Cond.fieldLink RX8 7 "SeaGamesModel" "wide" "[I", Cond.fieldLink RX8 129 "SeaGamesModel" "w" "I", Cond.fieldLink RX8 13 "SeaGamesModel" "tall" "[I", Cond.fieldLink RX8 132 "SeaGamesModel" "h" "I", Cond.fieldLink RX8 135 "SeaGamesModel" "n" "I", Cond.fieldLink RX8 57 "SeaGamesModel" "place" "[I", Cond.fieldLink RX8 60 "SeaGamesModel" "points" "[I", Cond.fieldLink RX8 138 "SeaGamesModel" "ball" "I", Cond.methodLink RX8 173 yX8_step, Cond.instanceMethod yX8_step, Cond.selects RX8 yX8_step yX8_step, Cond.code yX8_step cX8_step 10 none, Cond.fieldLink RX8 22 "SeaGamesModel" "spin" "[I", Cond.fieldLink RX8 25 "SeaGamesModel" "seed" "[I", Cond.constant RX8 168 (1000000000), Cond.methodLink RX8 157 yX8_isLeft, Cond.instanceMethod yX8_isLeft, Cond.selects RX8 yX8_isLeft yX8_isLeft]
def wsX8_tried_r3 : List Cond := [Cond.code yX8_isLeft cX8_isLeft 4 (some .boolean), Cond.fieldLink RX8 31 "SeaGamesModel" "leftFrom" "[I", Cond.fieldLink RX8 34 "SeaGamesModel" "leftTo" "[I", Cond.methodLink RX8 161 yX8_thinks, Cond.instanceMethod yX8_thinks, Cond.selects RX8 yX8_thinks yX8_thinks, Cond.code yX8_thinks cX8_thinks 4 (some .int), Cond.methodLink RX8 145 yX8_besideBall, Cond.instanceMethod yX8_besideBall, Cond.selects RX8 yX8_besideBall yX8_besideBall, Cond.code yX8_besideBall cX8_besideBall 4 (some .int), Cond.methodLink RX8 141 yX8_by, Cond.instanceMethod yX8_by, Cond.selects RX8 yX8_by yX8_by, Cond.code yX8_by cX8_by 5 (some .int), Cond.methodLink RX8 149 yX8_size, Cond.static yX8_size, Cond.code yX8_size cX8_size 1 (some .int), Cond.methodLink RX8 164 yX8_act, Cond.instanceMethod yX8_act, Cond.selects RX8 yX8_act yX8_act, Cond.code yX8_act cX8_act 7 none, Cond.constantLong RX8 152 (4), Cond.methodLink RX8 154 yX8_isFree]
def wsX8_tried_r4 : List Cond := [Cond.instanceMethod yX8_isFree, Cond.selects RX8 yX8_isFree yX8_isFree, Cond.code yX8_isFree cX8_isFree 4 (some .boolean), Cond.methodLink RX8 189 yX8_seen, Cond.instanceMethod yX8_seen, Cond.selects RX8 yX8_seen yX8_seen, Cond.code yX8_seen cX8_seen 2 (some .int)]
def wsX8_tried : List Cond := .code yX8_tried cX8_tried 5 (some .int) :: ((wsX8_tried_r1 ++ (wsX8_tried_r2 ++ (wsX8_tried_r3 ++ wsX8_tried_r4))) ++ wsX80)
def wsX8_differs_r1 : List Cond := [Cond.fieldLink RX8 100 "SeaGamesModel" "thrown" "I", Cond.fieldLink RX8 37 "SeaGamesModel" "isKept" "[Z", Cond.constantLong RX8 127 (5), Cond.fieldLink RX8 28 "SeaGamesModel" "pressed" "[I", Cond.fieldLink RX8 19 "SeaGamesModel" "power" "[I", Cond.fieldLink RX8 72 "SeaGamesModel" "trueStates" "[I", Cond.fieldLink RX8 63 "SeaGamesModel" "other" "[I", Cond.methodLink RX8 248 yX8_noSlot, Cond.static yX8_noSlot, Cond.initialized RX8, Cond.code yX8_noSlot cX8_noSlot 1 (some .boolean), Cond.constantLong RX8 109 (3), Cond.methodLink RX8 103 yX8_in, Cond.static yX8_in, Cond.code yX8_in cX8_in 6 (some .boolean), Cond.methodLink RX8 169 yX8_start, Cond.instanceMethod yX8_start, Cond.selects RX8 yX8_start yX8_start, Cond.code yX8_start cX8_start 3 none, Cond.fieldLink RX8 7 "SeaGamesModel" "wide" "[I", Cond.fieldLink RX8 129 "SeaGamesModel" "w" "I", Cond.fieldLink RX8 13 "SeaGamesModel" "tall" "[I", Cond.fieldLink RX8 132 "SeaGamesModel" "h" "I", Cond.fieldLink RX8 16 "SeaGamesModel" "hands" "[I"]
def wsX8_differs_r2 : List Cond := [Cond.fieldLink RX8 135 "SeaGamesModel" "n" "I", Cond.fieldLink RX8 57 "SeaGamesModel" "place" "[I", Cond.fieldLink RX8 60 "SeaGamesModel" "points" "[I", Cond.fieldLink RX8 138 "SeaGamesModel" "ball" "I", Cond.methodLink RX8 173 yX8_step, Cond.instanceMethod yX8_step, Cond.selects RX8 yX8_step yX8_step, Cond.code yX8_step cX8_step 10 none, Cond.fieldLink RX8 22 "SeaGamesModel" "spin" "[I", Cond.fieldLink RX8 25 "SeaGamesModel" "seed" "[I", Cond.constant RX8 168 (1000000000), Cond.methodLink RX8 157 yX8_isLeft, Cond.instanceMethod yX8_isLeft, Cond.selects RX8 yX8_isLeft yX8_isLeft, Cond.code yX8_isLeft cX8_isLeft 4 (some .boolean), Cond.fieldLink RX8 31 "SeaGamesModel" "leftFrom" "[I", Cond.fieldLink RX8 34 "SeaGamesModel" "leftTo" "[I", Cond.methodLink RX8 161 yX8_thinks, Cond.instanceMethod yX8_thinks, Cond.selects RX8 yX8_thinks yX8_thinks, Cond.code yX8_thinks cX8_thinks 4 (some .int), Cond.methodLink RX8 145 yX8_besideBall, Cond.instanceMethod yX8_besideBall, Cond.selects RX8 yX8_besideBall yX8_besideBall]
def wsX8_differs_r3 : List Cond := [Cond.code yX8_besideBall cX8_besideBall 4 (some .int), Cond.methodLink RX8 141 yX8_by, Cond.instanceMethod yX8_by, Cond.selects RX8 yX8_by yX8_by, Cond.code yX8_by cX8_by 5 (some .int), Cond.methodLink RX8 149 yX8_size, Cond.static yX8_size, Cond.code yX8_size cX8_size 1 (some .int), Cond.methodLink RX8 164 yX8_act, Cond.instanceMethod yX8_act, Cond.selects RX8 yX8_act yX8_act, Cond.code yX8_act cX8_act 7 none, Cond.constantLong RX8 152 (4), Cond.methodLink RX8 154 yX8_isFree, Cond.instanceMethod yX8_isFree, Cond.selects RX8 yX8_isFree yX8_isFree, Cond.code yX8_isFree cX8_isFree 4 (some .boolean), Cond.methodLink RX8 209 yX8_write, Cond.instanceMethod yX8_write, Cond.selects RX8 yX8_write yX8_write, Cond.code yX8_write cX8_write 4 none, Cond.methodLink RX8 213 yX8_isLike, Cond.static yX8_isLike, Cond.code yX8_isLike cX8_isLike 6 (some .boolean)]
def wsX8_differs : List Cond := .code yX8_differs cX8_differs 4 (some .int) :: ((wsX8_differs_r1 ++ (wsX8_differs_r2 ++ wsX8_differs_r3)) ++ wsX80)
def wsX8_count : List Cond := .code yX8_count cX8_count 6 (some .int) :: ([.fieldLink RX8 100 "SeaGamesModel" "thrown" "I", .fieldLink RX8 16 "SeaGamesModel" "hands" "[I", .fieldLink RX8 54 "SeaGamesModel" "isLost" "[Z", .fieldLink RX8 34 "SeaGamesModel" "leftTo" "[I", .fieldLink RX8 31 "SeaGamesModel" "leftFrom" "[I", .fieldLink RX8 37 "SeaGamesModel" "isKept" "[Z", .fieldLink RX8 7 "SeaGamesModel" "wide" "[I", .fieldLink RX8 13 "SeaGamesModel" "tall" "[I", .fieldLink RX8 228 "SeaGamesModel" "players" "I", .methodLink RX8 254 yX8_presses, .instanceMethod yX8_presses, .selects RX8 yX8_presses yX8_presses, .initialized RX8, .code yX8_presses cX8_presses 3 (some .int), .fieldLink RX8 28 "SeaGamesModel" "pressed" "[I"] ++ wsX80)
def wsJ9_abs_0f7a4 : List Cond := .code yJ9_abs_0f7a4 cJ9_abs_0f7a4 1 (some .int) :: ([])
def wsJ9_max_7cf53 : List Cond := .code yJ9_max_7cf53 cJ9_max_7cf53 2 (some .int) :: ([])
def wsJ9_min_7cf53 : List Cond := .code yJ9_min_7cf53 cJ9_min_7cf53 2 (some .int) :: ([])
def wsL_law_r1 : List Cond := [Cond.classLink RL 7 RX7, Cond.instantiable RX7 12, Cond.initialized RX7, Cond.classLink RL 10 RX8, Cond.instantiable RX8 36, Cond.initialized RX8, Cond.methodLink RL 9 yX7_init, Cond.instanceMethod yX7_init, Cond.code yX7_init cX7_init 1 none, Cond.methodLink RX7 1 objectInit, Cond.instanceMethod objectInit, Cond.code objectInit ⟨#[0xb1]⟩ 1 none, Cond.classLink RX7 7 RX5, Cond.instantiable RX5 7, Cond.initialized RX5, Cond.fieldLink RX7 10 "SeaGames" "play" "LSeaGames$Play;", Cond.classLink RX7 16 RX4, Cond.instantiable RX4 3, Cond.initialized RX4, Cond.fieldLink RX7 21 "SeaGames" "lines" "LSeaGames$Lines;", Cond.classLink RX7 25 RX6, Cond.instantiable RX6 2, Cond.initialized RX6, Cond.fieldLink RX7 28 "SeaGames" "truth" "LSeaGames$Track;"]
def wsL_law_r2 : List Cond := [Cond.fieldLink RX7 32 "SeaGames" "glassTrack" "LSeaGames$Track;", Cond.classLink RX7 35 RX0, Cond.instantiable RX0 1, Cond.initialized RX0, Cond.fieldLink RX7 38 "SeaGames" "board" "LSeaGames$Board;", Cond.fieldLink RX7 42 "SeaGames" "otherBoard" "LSeaGames$Board;", Cond.arrayClass .int, Cond.fieldLink RX7 45 "SeaGames" "presses" "[I", Cond.classLink RX7 49 RX3, Cond.instantiable RX3 1, Cond.initialized RX3, Cond.fieldLink RX7 52 "SeaGames" "fog" "LSeaGames$Fog;", Cond.classLink RX7 56 RX1, Cond.instantiable RX1 7, Cond.initialized RX1, Cond.fieldLink RX7 59 "SeaGames" "crowd" "LSeaGames$Crowd;", Cond.classLink RX7 63 RX2, Cond.instantiable RX2 4, Cond.initialized RX2, Cond.fieldLink RX7 66 "SeaGames" "deal" "LSeaGames$Deal;", Cond.fieldLink RX7 70 "SeaGames" "slots" "[LSeaGames$Play;", Cond.arrayClass .boolean, Cond.fieldLink RX7 74 "SeaGames" "kept" "[Z", Cond.instanceMethod yX5_init]
def wsL_law_r3 : List Cond := [Cond.code yX5_init cX5_init 1 none, Cond.methodLink RX5 3 objectInit, Cond.fieldLink RX5 9 "SeaGames$Play" "w" "I", Cond.fieldLink RX5 15 "SeaGames$Play" "h" "I", Cond.fieldLink RX5 18 "SeaGames$Play" "hands" "I", Cond.fieldLink RX5 21 "SeaGames$Play" "rules" "[I", Cond.fieldLink RX5 25 "SeaGames$Play" "pressRow" "[I", Cond.fieldLink RX5 28 "SeaGames$Play" "leftFrom" "[I", Cond.fieldLink RX5 31 "SeaGames$Play" "leftTo" "[I", Cond.methodLink RX7 18 yX4_init, Cond.instanceMethod yX4_init, Cond.code yX4_init cX4_init 2 none, Cond.methodLink RX4 3 objectInit, Cond.fieldLink RX4 9 "SeaGames$Lines" "waits" "[I", Cond.fieldLink RX4 15 "SeaGames$Lines" "lostRow" "[Z", Cond.fieldLink RX4 19 "SeaGames$Lines" "play" "LSeaGames$Play;", Cond.instanceMethod yX6_init, Cond.code yX6_init cX6_init 1 none, Cond.methodLink RX6 3 objectInit, Cond.fieldLink RX6 9 "SeaGames$Track" "rows" "[I", Cond.fieldLink RX6 15 "SeaGames$Track" "ready" "I", Cond.instanceMethod yX0_init, Cond.code yX0_init cX0_init 1 none, Cond.methodLink RX0 3 objectInit]
def wsL_law_r4 : List Cond := [Cond.fieldLink RX0 9 "SeaGames$Board" "now" "[I", Cond.instanceMethod yX3_init, Cond.code yX3_init cX3_init 1 none, Cond.methodLink RX3 3 objectInit, Cond.fieldLink RX3 9 "SeaGames$Fog" "masks" "[I", Cond.instanceMethod yX1_init, Cond.code yX1_init cX1_init 1 none, Cond.methodLink RX1 3 objectInit, Cond.fieldLink RX1 9 "SeaGames$Crowd" "size" "I", Cond.fieldLink RX1 15 "SeaGames$Crowd" "mates" "[I", Cond.fieldLink RX1 19 "SeaGames$Crowd" "skills" "[I", Cond.fieldLink RX1 22 "SeaGames$Crowd" "shores" "[I", Cond.fieldLink RX1 25 "SeaGames$Crowd" "fars" "[I", Cond.fieldLink RX1 28 "SeaGames$Crowd" "least" "[I", Cond.fieldLink RX1 31 "SeaGames$Crowd" "paired" "Z", Cond.instanceMethod yX2_init, Cond.code yX2_init cX2_init 1 none, Cond.methodLink RX2 3 objectInit, Cond.fieldLink RX2 9 "SeaGames$Deal" "above" "J", Cond.fieldLink RX2 15 "SeaGames$Deal" "below" "J", Cond.arrayClass .long, Cond.fieldLink RX2 18 "SeaGames$Deal" "amongHits" "[J", Cond.fieldLink RX2 22 "SeaGames$Deal" "amongOthers" "[J", Cond.methodLink RL 12 yX8_init]
def wsL_law_r5 : List Cond := [Cond.instanceMethod yX8_init, Cond.code yX8_init cX8_init 3 none, Cond.methodLink RX8 1 objectInit, Cond.fieldLink RX8 7 "SeaGamesModel" "wide" "[I", Cond.fieldLink RX8 13 "SeaGamesModel" "tall" "[I", Cond.fieldLink RX8 16 "SeaGamesModel" "hands" "[I", Cond.fieldLink RX8 19 "SeaGamesModel" "power" "[I", Cond.fieldLink RX8 22 "SeaGamesModel" "spin" "[I", Cond.fieldLink RX8 25 "SeaGamesModel" "seed" "[I", Cond.fieldLink RX8 28 "SeaGamesModel" "pressed" "[I", Cond.fieldLink RX8 31 "SeaGamesModel" "leftFrom" "[I", Cond.fieldLink RX8 34 "SeaGamesModel" "leftTo" "[I", Cond.fieldLink RX8 37 "SeaGamesModel" "isKept" "[Z", Cond.fieldLink RX8 41 "SeaGamesModel" "feel" "I", Cond.fieldLink RX8 45 "SeaGamesModel" "turn" "I", Cond.fieldLink RX8 48 "SeaGamesModel" "sight" "I", Cond.fieldLink RX8 51 "SeaGamesModel" "wait" "[I", Cond.fieldLink RX8 54 "SeaGamesModel" "isLost" "[Z", Cond.fieldLink RX8 57 "SeaGamesModel" "place" "[I", Cond.fieldLink RX8 60 "SeaGamesModel" "points" "[I", Cond.fieldLink RX8 63 "SeaGamesModel" "other" "[I", Cond.fieldLink RX8 66 "SeaGamesModel" "takes" "[I", Cond.fieldLink RX8 69 "SeaGamesModel" "took" "[I", Cond.fieldLink RX8 72 "SeaGamesModel" "trueStates" "[I"]
def wsL_law_r6 : List Cond := [Cond.fieldLink RX8 75 "SeaGamesModel" "may" "[Z", Cond.fieldLink RX8 78 "SeaGamesModel" "then" "[Z", Cond.fieldLink RX8 81 "SeaGamesModel" "skill" "[I", Cond.fieldLink RX8 84 "SeaGamesModel" "shore" "[I", Cond.fieldLink RX8 87 "SeaGamesModel" "fars" "[I", Cond.fieldLink RX8 90 "SeaGamesModel" "least" "[I", Cond.fieldLink RX8 93 "SeaGamesModel" "mates" "[I", Cond.fieldLink RX8 96 "SeaGamesModel" "ways" "[J", Cond.methodLink RL 13 yX7_field, Cond.instanceMethod yX7_field, Cond.selects RX7 yX7_field yX7_field, Cond.code yX7_field cX7_field 4 (some .int), Cond.methodLink RX7 78 yX7_isSide, Cond.static yX7_isSide, Cond.code yX7_isSide cX7_isSide 1 (some .boolean), Cond.methodLink RX7 82 yX5_clear, Cond.instanceMethod yX5_clear, Cond.selects RX5 yX5_clear yX5_clear, Cond.code yX5_clear cX5_clear 4 none, Cond.methodLink RX5 34 yJ7_fill_53178, Cond.static yJ7_fill_53178, Cond.initialized RJ7, Cond.code yJ7_fill_53178 cJ7_fill_53178 4 none, Cond.methodLink RX7 86 yX4_clear]
def wsL_law_r7 : List Cond := [Cond.instanceMethod yX4_clear, Cond.selects RX4 yX4_clear yX4_clear, Cond.code yX4_clear cX4_clear 2 none, Cond.methodLink RX4 23 yJ7_fill_53178, Cond.methodLink RX7 88 yX6_keepBelow, Cond.instanceMethod yX6_keepBelow, Cond.selects RX6 yX6_keepBelow yX6_keepBelow, Cond.code yX6_keepBelow cX6_keepBelow 2 none, Cond.methodLink RX6 19 Lib.Math.min.name, Cond.static Lib.Math.min.name, Cond.initialized "java/lang/Math", Cond.code Lib.Math.min.name Lib.Math.min.code 2 (some .int), Cond.methodLink RL 17 yX8_field, Cond.instanceMethod yX8_field, Cond.selects RX8 yX8_field yX8_field, Cond.code yX8_field cX8_field 5 (some .int), Cond.fieldLink RX8 100 "SeaGamesModel" "thrown" "I", Cond.constantLong RX8 109 (3), Cond.constantLong RX8 111 (9), Cond.constantLong RX8 113 (2), Cond.constantLong RX8 115 (6), Cond.methodLink RX8 103 yX8_in, Cond.static yX8_in, Cond.code yX8_in cX8_in 6 (some .boolean)]
def wsL_law_r8 : List Cond := [Cond.methodLink RL 18 yX7_rule, Cond.instanceMethod yX7_rule, Cond.selects RX7 yX7_rule yX7_rule, Cond.code yX7_rule cX7_rule 4 (some .int), Cond.fieldLink RX7 92 "SeaGames" "LEAST_RULE" "[I", Cond.fieldLink RX7 95 "SeaGames" "MOST_RULE" "[I", Cond.fieldLink RX7 98 "SeaGames$Play" "rules" "[I", Cond.methodLink RL 22 yX8_rule, Cond.instanceMethod yX8_rule, Cond.selects RX8 yX8_rule yX8_rule, Cond.code yX8_rule cX8_rule 5 (some .int), Cond.fieldLink RX8 117 "SeaGamesModel" "delay" "I", Cond.methodLink RL 23 yX7_press, Cond.instanceMethod yX7_press, Cond.selects RX7 yX7_press yX7_press, Cond.code yX7_press cX7_press 5 (some .int), Cond.methodLink RX7 101 yX7_isHand, Cond.instanceMethod yX7_isHand, Cond.selects RX7 yX7_isHand yX7_isHand, Cond.code yX7_isHand cX7_isHand 2 (some .boolean), Cond.fieldLink RX7 123 "SeaGames$Play" "hands" "I", Cond.methodLink RX7 104 yX7_isTick, Cond.static yX7_isTick, Cond.code yX7_isTick cX7_isTick 1 (some .boolean)]
def wsL_law_r9 : List Cond := [Cond.methodLink RX7 107 yX7_isPress, Cond.static yX7_isPress, Cond.code yX7_isPress cX7_isPress 1 (some .boolean), Cond.methodLink RX7 110 yX5_pressOf, Cond.instanceMethod yX5_pressOf, Cond.selects RX5 yX5_pressOf yX5_pressOf, Cond.code yX5_pressOf cX5_pressOf 3 (some .int), Cond.methodLink RX7 114 yX5_setPress, Cond.instanceMethod yX5_setPress, Cond.selects RX5 yX5_setPress yX5_setPress, Cond.code yX5_setPress cX5_setPress 4 none, Cond.methodLink RL 26 yX8_press, Cond.instanceMethod yX8_press, Cond.selects RX8 yX8_press yX8_press, Cond.code yX8_press cX8_press 6 (some .int), Cond.constantLong RX8 127 (5), Cond.methodLink RX8 120 yX8_noHand, Cond.instanceMethod yX8_noHand, Cond.selects RX8 yX8_noHand yX8_noHand, Cond.code yX8_noHand cX8_noHand 2 (some .boolean), Cond.methodLink RX8 124 yX8_noTick, Cond.static yX8_noTick, Cond.code yX8_noTick cX8_noTick 1 (some .boolean), Cond.constantLong RX8 107 (99)]
def wsL_law_r10 : List Cond := [Cond.methodLink RL 27 yX7_hold, Cond.instanceMethod yX7_hold, Cond.selects RX7 yX7_hold yX7_hold, Cond.code yX7_hold cX7_hold 7 (some .int), Cond.methodLink RL 31 yX8_hold, Cond.instanceMethod yX8_hold, Cond.selects RX8 yX8_hold yX8_hold, Cond.code yX8_hold cX8_hold 8 (some .int), Cond.methodLink RL 32 yX7_leave, Cond.instanceMethod yX7_leave, Cond.selects RX7 yX7_leave yX7_leave, Cond.code yX7_leave cX7_leave 4 (some .int), Cond.fieldLink RX7 117 "SeaGames$Play" "leftFrom" "[I", Cond.fieldLink RX7 120 "SeaGames$Play" "leftTo" "[I", Cond.methodLink RL 35 yX8_leave, Cond.instanceMethod yX8_leave, Cond.selects RX8 yX8_leave yX8_leave, Cond.code yX8_leave cX8_leave 4 (some .int), Cond.methodLink RL 36 yX7_truly, Cond.instanceMethod yX7_truly, Cond.selects RX7 yX7_truly yX7_truly, Cond.code yX7_truly cX7_truly 4 (some .int), Cond.methodLink RX7 127 yX7_columnOf, Cond.static yX7_columnOf]
def wsL_law_r11 : List Cond := [Cond.code yX7_columnOf cX7_columnOf 2 (some .int), Cond.methodLink RX7 130 yX7_playTrulyTo, Cond.instanceMethod yX7_playTrulyTo, Cond.selects RX7 yX7_playTrulyTo yX7_playTrulyTo, Cond.code yX7_playTrulyTo cX7_playTrulyTo 4 none, Cond.fieldLink RX7 302 "SeaGames$Track" "ready" "I", Cond.methodLink RX7 305 yX7_setBoardAhead, Cond.instanceMethod yX7_setBoardAhead, Cond.selects RX7 yX7_setBoardAhead yX7_setBoardAhead, Cond.code yX7_setBoardAhead cX7_setBoardAhead 3 none, Cond.methodLink RX7 140 yX6_load, Cond.instanceMethod yX6_load, Cond.selects RX6 yX6_load yX6_load, Cond.code yX6_load cX6_load 3 none, Cond.fieldLink RX6 25 "SeaGames$Board" "now" "[I", Cond.methodLink RX6 30 arraycopyName, Cond.native arraycopyName, Cond.static arraycopyName, Cond.initialized "java/lang/System", Cond.methodLink RX7 267 yX0_start, Cond.instanceMethod yX0_start, Cond.selects RX0 yX0_start yX0_start, Cond.code yX0_start cX0_start 3 none, Cond.fieldLink RX0 21 "SeaGames$Play" "hands" "I"]
def wsL_law_r12 : List Cond := [Cond.fieldLink RX0 27 "SeaGames$Play" "w" "I", Cond.fieldLink RX0 34 "SeaGames$Play" "h" "I", Cond.methodLink RX0 15 yJ7_fill_53178, Cond.static yX7_spotOf, Cond.code yX7_spotOf cX7_spotOf 5 (some .int), Cond.methodLink RX7 270 yX5_fillPresses, Cond.instanceMethod yX5_fillPresses, Cond.selects RX5 yX5_fillPresses yX5_fillPresses, Cond.code yX5_fillPresses cX5_fillPresses 4 none, Cond.methodLink RX5 46 yX5_pressOf, Cond.methodLink RX7 274 yX0_advance, Cond.instanceMethod yX0_advance, Cond.selects RX0 yX0_advance yX0_advance, Cond.code yX0_advance cX0_advance 7 none, Cond.methodLink RX0 37 yX5_isLeft, Cond.instanceMethod yX5_isLeft, Cond.selects RX5 yX5_isLeft yX5_isLeft, Cond.code yX5_isLeft cX5_isLeft 3 (some .boolean), Cond.methodLink RX0 41 yX0_machinePress, Cond.instanceMethod yX0_machinePress, Cond.selects RX0 yX0_machinePress yX0_machinePress, Cond.code yX0_machinePress cX0_machinePress 4 (some .int), Cond.methodLink RX0 69 Lib.Math.abs.name, Cond.static Lib.Math.abs.name]
def wsL_law_r13 : List Cond := [Cond.code Lib.Math.abs.name Lib.Math.abs.code 1 (some .int), Cond.methodLink RX0 60 yX0_wayToBall, Cond.instanceMethod yX0_wayToBall, Cond.selects RX0 yX0_wayToBall yX0_wayToBall, Cond.code yX0_wayToBall cX0_wayToBall 3 (some .int), Cond.static yX7_xOf, Cond.code yX7_xOf cX7_xOf 1 (some .int), Cond.static yX7_yOf, Cond.code yX7_yOf cX7_yOf 1 (some .int), Cond.methodLink RX0 45 yX0_kick, Cond.instanceMethod yX0_kick, Cond.selects RX0 yX0_kick yX0_kick, Cond.code yX0_kick cX0_kick 7 none, Cond.methodLink RX0 81 yX0_moveBall, Cond.instanceMethod yX0_moveBall, Cond.selects RX0 yX0_moveBall yX0_moveBall, Cond.code yX0_moveBall cX0_moveBall 4 (some .boolean), Cond.methodLink RX0 77 yX0_isFree, Cond.instanceMethod yX0_isFree, Cond.selects RX0 yX0_isFree yX0_isFree, Cond.code yX0_isFree cX0_isFree 4 (some .boolean), Cond.methodLink RX0 49 yX0_go, Cond.instanceMethod yX0_go, Cond.selects RX0 yX0_go yX0_go]
def wsL_law_r14 : List Cond := [Cond.code yX0_go cX0_go 5 none, Cond.methodLink RX0 52 yX0_spinBall, Cond.instanceMethod yX0_spinBall, Cond.selects RX0 yX0_spinBall yX0_spinBall, Cond.code yX0_spinBall cX0_spinBall 4 none, Cond.fieldLink RX0 84 "SeaGames$Play" "rules" "[I", Cond.methodLink RX0 56 yX0_givePoint, Cond.instanceMethod yX0_givePoint, Cond.selects RX0 yX0_givePoint yX0_givePoint, Cond.code yX0_givePoint cX0_givePoint 7 none, Cond.static yX7_distance, Cond.code yX7_distance cX7_distance 2 (some .int), Cond.methodLink RX7 299 Lib.Math.abs.name, Cond.methodLink RX7 296 yX7_xOf, Cond.methodLink RX7 293 yX7_yOf, Cond.methodLink RX7 309 yX6_save, Cond.instanceMethod yX6_save, Cond.selects RX6 yX6_save yX6_save, Cond.code yX6_save cX6_save 3 none, Cond.methodLink RX7 133 yX6_at, Cond.instanceMethod yX6_at, Cond.selects RX6 yX6_at yX6_at, Cond.code yX6_at cX6_at 3 (some .int), Cond.methodLink RX7 136 yX7_told]
def wsL_law_r15 : List Cond := [Cond.static yX7_told, Cond.code yX7_told cX7_told 3 (some .int), Cond.fieldLink RX7 209 "SeaGames$Play" "w" "I", Cond.methodLink RL 39 yX8_truly, Cond.instanceMethod yX8_truly, Cond.selects RX8 yX8_truly yX8_truly, Cond.code yX8_truly cX8_truly 3 (some .int), Cond.methodLink RX8 182 yX8_noWhat, Cond.instanceMethod yX8_noWhat, Cond.selects RX8 yX8_noWhat yX8_noWhat, Cond.code yX8_noWhat cX8_noWhat 3 (some .boolean), Cond.constantLong RX8 180 (10), Cond.methodLink RX8 186 yX8_liveNow, Cond.instanceMethod yX8_liveNow, Cond.selects RX8 yX8_liveNow yX8_liveNow, Cond.code yX8_liveNow cX8_liveNow 2 none, Cond.methodLink RX8 177 yX8_live, Cond.instanceMethod yX8_live, Cond.selects RX8 yX8_live yX8_live, Cond.code yX8_live cX8_live 5 none, Cond.methodLink RX8 169 yX8_start, Cond.instanceMethod yX8_start, Cond.selects RX8 yX8_start yX8_start, Cond.code yX8_start cX8_start 3 none]
def wsL_law_r16 : List Cond := [Cond.fieldLink RX8 129 "SeaGamesModel" "w" "I", Cond.fieldLink RX8 132 "SeaGamesModel" "h" "I", Cond.fieldLink RX8 135 "SeaGamesModel" "n" "I", Cond.fieldLink RX8 138 "SeaGamesModel" "ball" "I", Cond.methodLink RX8 173 yX8_step, Cond.instanceMethod yX8_step, Cond.selects RX8 yX8_step yX8_step, Cond.code yX8_step cX8_step 10 none, Cond.constant RX8 168 (1000000000), Cond.methodLink RX8 157 yX8_isLeft, Cond.instanceMethod yX8_isLeft, Cond.selects RX8 yX8_isLeft yX8_isLeft, Cond.code yX8_isLeft cX8_isLeft 4 (some .boolean), Cond.methodLink RX8 161 yX8_thinks, Cond.instanceMethod yX8_thinks, Cond.selects RX8 yX8_thinks yX8_thinks, Cond.code yX8_thinks cX8_thinks 4 (some .int), Cond.methodLink RX8 145 yX8_besideBall, Cond.instanceMethod yX8_besideBall, Cond.selects RX8 yX8_besideBall yX8_besideBall, Cond.code yX8_besideBall cX8_besideBall 4 (some .int), Cond.methodLink RX8 141 yX8_by, Cond.instanceMethod yX8_by, Cond.selects RX8 yX8_by yX8_by]
def wsL_law_r17 : List Cond := [Cond.code yX8_by cX8_by 5 (some .int), Cond.methodLink RX8 149 yX8_size, Cond.static yX8_size, Cond.code yX8_size cX8_size 1 (some .int), Cond.methodLink RX8 164 yX8_act, Cond.instanceMethod yX8_act, Cond.selects RX8 yX8_act yX8_act, Cond.code yX8_act cX8_act 7 none, Cond.constantLong RX8 152 (4), Cond.methodLink RX8 154 yX8_isFree, Cond.instanceMethod yX8_isFree, Cond.selects RX8 yX8_isFree yX8_isFree, Cond.code yX8_isFree cX8_isFree 4 (some .boolean), Cond.methodLink RX8 189 yX8_seen, Cond.instanceMethod yX8_seen, Cond.selects RX8 yX8_seen yX8_seen, Cond.code yX8_seen cX8_seen 2 (some .int), Cond.methodLink RL 40 yX7_machine, Cond.instanceMethod yX7_machine, Cond.selects RX7 yX7_machine yX7_machine, Cond.code yX7_machine cX7_machine 3 (some .int), Cond.methodLink RX7 144 yX0_machinePress, Cond.methodLink RL 43 yX8_machine, Cond.instanceMethod yX8_machine]
def wsL_law_r18 : List Cond := [Cond.selects RX8 yX8_machine yX8_machine, Cond.code yX8_machine cX8_machine 3 (some .int), Cond.methodLink RL 44 yX7_line, Cond.instanceMethod yX7_line, Cond.selects RX7 yX7_line yX7_line, Cond.code yX7_line cX7_line 5 (some .int), Cond.methodLink RX7 148 yX4_waitOf, Cond.instanceMethod yX4_waitOf, Cond.selects RX4 yX4_waitOf yX4_waitOf, Cond.code yX4_waitOf cX4_waitOf 3 (some .int), Cond.methodLink RX7 151 yX4_setWait, Cond.instanceMethod yX4_setWait, Cond.selects RX4 yX4_setWait yX4_setWait, Cond.code yX4_setWait cX4_setWait 4 none, Cond.methodLink RL 47 yX8_line, Cond.instanceMethod yX8_line, Cond.selects RX8 yX8_line yX8_line, Cond.code yX8_line cX8_line 5 (some .int), Cond.methodLink RL 48 yX7_lose, Cond.instanceMethod yX7_lose, Cond.selects RX7 yX7_lose yX7_lose, Cond.code yX7_lose cX7_lose 5 (some .int), Cond.methodLink RX7 154 yX4_isLost, Cond.instanceMethod yX4_isLost]
def wsL_law_r19 : List Cond := [Cond.selects RX4 yX4_isLost yX4_isLost, Cond.code yX4_isLost cX4_isLost 3 (some .boolean), Cond.methodLink RX7 158 yX4_setLost, Cond.instanceMethod yX4_setLost, Cond.selects RX4 yX4_setLost yX4_setLost, Cond.code yX4_setLost cX4_setLost 4 none, Cond.methodLink RL 52 yX8_lose, Cond.instanceMethod yX8_lose, Cond.selects RX8 yX8_lose yX8_lose, Cond.code yX8_lose cX8_lose 5 (some .int), Cond.methodLink RL 53 yX7_known, Cond.instanceMethod yX7_known, Cond.selects RX7 yX7_known yX7_known, Cond.code yX7_known cX7_known 4 (some .int), Cond.methodLink RX7 162 yX5_isLeft, Cond.methodLink RX7 165 yX4_clockOf, Cond.instanceMethod yX4_clockOf, Cond.selects RX4 yX4_clockOf yX4_clockOf, Cond.code yX4_clockOf cX4_clockOf 7 (some .int), Cond.methodLink RL 56 yX8_known, Cond.instanceMethod yX8_known, Cond.selects RX8 yX8_known yX8_known, Cond.code yX8_known cX8_known 5 (some .int), Cond.constant RX8 192 (-1000000000)]
def wsL_law_r20 : List Cond := [Cond.methodLink RX8 193 yX8_knownAt, Cond.instanceMethod yX8_knownAt, Cond.selects RX8 yX8_knownAt yX8_knownAt, Cond.code yX8_knownAt cX8_knownAt 6 (some .int), Cond.methodLink RL 57 yX7_takes, Cond.instanceMethod yX7_takes, Cond.selects RX7 yX7_takes yX7_takes, Cond.code yX7_takes cX7_takes 5 (some .int), Cond.methodLink RX7 169 yX4_taken, Cond.instanceMethod yX4_taken, Cond.selects RX4 yX4_taken yX4_taken, Cond.code yX4_taken cX4_taken 6 (some .int), Cond.methodLink RX4 35 yX4_isKnown, Cond.instanceMethod yX4_isKnown, Cond.selects RX4 yX4_isKnown yX4_isKnown, Cond.code yX4_isKnown cX4_isKnown 6 (some .boolean), Cond.methodLink RX4 58 yX5_isLeft, Cond.methodLink RX4 62 yX4_clockOf, Cond.methodLink RX4 39 yX5_pressOf, Cond.methodLink RX4 43 yX4_guessed, Cond.instanceMethod yX4_guessed, Cond.selects RX4 yX4_guessed yX4_guessed, Cond.code yX4_guessed cX4_guessed 7 (some .int), Cond.methodLink RL 60 yX8_takes]
def wsL_law_r21 : List Cond := [Cond.instanceMethod yX8_takes, Cond.selects RX8 yX8_takes yX8_takes, Cond.code yX8_takes cX8_takes 5 (some .int), Cond.methodLink RX8 197 yX8_take, Cond.instanceMethod yX8_take, Cond.selects RX8 yX8_take yX8_take, Cond.code yX8_take cX8_take 10 none, Cond.methodLink RL 61 yX7_shown, Cond.instanceMethod yX7_shown, Cond.selects RX7 yX7_shown yX7_shown, Cond.code yX7_shown cX7_shown 5 (some .int), Cond.methodLink RX7 173 yX7_showFrom, Cond.instanceMethod yX7_showFrom, Cond.selects RX7 yX7_showFrom yX7_showFrom, Cond.code yX7_showFrom cX7_showFrom 6 none, Cond.methodLink RL 64 yX8_shown, Cond.instanceMethod yX8_shown, Cond.selects RX8 yX8_shown yX8_shown, Cond.code yX8_shown cX8_shown 4 (some .int), Cond.methodLink RX8 201 yX8_show, Cond.instanceMethod yX8_show, Cond.selects RX8 yX8_show yX8_show, Cond.code yX8_show cX8_show 4 none, Cond.methodLink RL 65 yX7_back]
def wsL_law_r22 : List Cond := [Cond.instanceMethod yX7_back, Cond.selects RX7 yX7_back yX7_back, Cond.code yX7_back cX7_back 3 (some .int), Cond.methodLink RX7 176 yX4_goneBack, Cond.instanceMethod yX4_goneBack, Cond.selects RX4 yX4_goneBack yX4_goneBack, Cond.code yX4_goneBack cX4_goneBack 8 (some .int), Cond.fieldLink RX4 29 "SeaGames$Play" "hands" "I", Cond.methodLink RX4 53 Lib.Math.max.name, Cond.static Lib.Math.max.name, Cond.code Lib.Math.max.name Lib.Math.max.code 2 (some .int), Cond.methodLink RX4 47 yX4_waitOf, Cond.methodLink RX4 50 yX4_backBy, Cond.instanceMethod yX4_backBy, Cond.selects RX4 yX4_backBy yX4_backBy, Cond.code yX4_backBy cX4_backBy 7 (some .int), Cond.methodLink RL 68 yX8_back, Cond.instanceMethod yX8_back, Cond.selects RX8 yX8_back yX8_back, Cond.code yX8_back cX8_back 3 (some .int), Cond.methodLink RX8 205 yX8_backOf, Cond.instanceMethod yX8_backOf, Cond.selects RX8 yX8_backOf yX8_backOf, Cond.code yX8_backOf cX8_backOf 6 (some .int)]
def wsL_law_r23 : List Cond := [Cond.methodLink RL 69 yX7_agreed, Cond.instanceMethod yX7_agreed, Cond.selects RX7 yX7_agreed yX7_agreed, Cond.code yX7_agreed cX7_agreed 5 (some .int), Cond.methodLink RX7 180 yX4_allKnown, Cond.instanceMethod yX4_allKnown, Cond.selects RX4 yX4_allKnown yX4_allKnown, Cond.code yX4_allKnown cX4_allKnown 6 (some .boolean), Cond.methodLink RL 72 yX8_agreed, Cond.instanceMethod yX8_agreed, Cond.selects RX8 yX8_agreed yX8_agreed, Cond.code yX8_agreed cX8_agreed 7 (some .int), Cond.methodLink RL 73 yX7_wrong, Cond.instanceMethod yX7_wrong, Cond.selects RX7 yX7_wrong yX7_wrong, Cond.code yX7_wrong cX7_wrong 8 (some .int), Cond.methodLink RX7 188 Lib.Math.max.name, Cond.methodLink RX7 184 yX6_isLike, Cond.instanceMethod yX6_isLike, Cond.selects RX6 yX6_isLike yX6_isLike, Cond.code yX6_isLike cX6_isLike 4 (some .boolean), Cond.methodLink RL 76 yX8_wrong, Cond.instanceMethod yX8_wrong, Cond.selects RX8 yX8_wrong yX8_wrong]
def wsL_law_r24 : List Cond := [Cond.code yX8_wrong cX8_wrong 9 (some .int), Cond.methodLink RX8 209 yX8_write, Cond.instanceMethod yX8_write, Cond.selects RX8 yX8_write yX8_write, Cond.code yX8_write cX8_write 4 none, Cond.methodLink RX8 213 yX8_isLike, Cond.static yX8_isLike, Cond.code yX8_isLike cX8_isLike 6 (some .boolean), Cond.methodLink RL 77 yX7_price, Cond.instanceMethod yX7_price, Cond.selects RX7 yX7_price yX7_price, Cond.code yX7_price cX7_price 3 (some .int), Cond.methodLink RX7 193 yX7_costOf, Cond.instanceMethod yX7_costOf, Cond.selects RX7 yX7_costOf yX7_costOf, Cond.code yX7_costOf cX7_costOf 6 (some .int), Cond.methodLink RL 80 yX8_price, Cond.instanceMethod yX8_price, Cond.selects RX8 yX8_price yX8_price, Cond.code yX8_price cX8_price 3 (some .int), Cond.methodLink RX8 217 yX8_priceOf, Cond.instanceMethod yX8_priceOf, Cond.selects RX8 yX8_priceOf yX8_priceOf, Cond.code yX8_priceOf cX8_priceOf 6 (some .int)]
def wsL_law_r25 : List Cond := [Cond.methodLink RL 81 yX7_best, Cond.instanceMethod yX7_best, Cond.selects RX7 yX7_best yX7_best, Cond.code yX7_best cX7_best 6 (some .int), Cond.methodLink RL 85 yX8_best, Cond.instanceMethod yX8_best, Cond.selects RX8 yX8_best yX8_best, Cond.code yX8_best cX8_best 6 (some .int), Cond.methodLink RL 86 yX7_sees, Cond.instanceMethod yX7_sees, Cond.selects RX7 yX7_sees yX7_sees, Cond.code yX7_sees cX7_sees 4 (some .int), Cond.methodLink RX7 196 yX7_seesThen, Cond.instanceMethod yX7_seesThen, Cond.selects RX7 yX7_seesThen yX7_seesThen, Cond.code yX7_seesThen cX7_seesThen 4 (some .boolean), Cond.methodLink RX7 312 yX7_distance, Cond.methodLink RL 89 yX8_sees, Cond.instanceMethod yX8_sees, Cond.selects RX8 yX8_sees yX8_sees, Cond.code yX8_sees cX8_sees 4 (some .int), Cond.methodLink RX8 220 yX8_isSeen, Cond.instanceMethod yX8_isSeen, Cond.selects RX8 yX8_isSeen yX8_isSeen]
def wsL_law_r26 : List Cond := [Cond.code yX8_isSeen cX8_isSeen 3 (some .boolean), Cond.methodLink RL 90 yX7_could, Cond.instanceMethod yX7_could, Cond.selects RX7 yX7_could yX7_could, Cond.code yX7_could cX7_could 4 (some .int), Cond.fieldLink RX7 203 "SeaGames$Play" "h" "I", Cond.methodLink RX7 200 yX7_thinkTo, Cond.instanceMethod yX7_thinkTo, Cond.selects RX7 yX7_thinkTo yX7_thinkTo, Cond.code yX7_thinkTo cX7_thinkTo 5 none, Cond.fieldLink RX7 278 "SeaGames$Board" "now" "[I", Cond.methodLink RX7 315 yX3_setOnly, Cond.instanceMethod yX3_setOnly, Cond.selects RX3 yX3_setOnly yX3_setOnly, Cond.code yX3_setOnly cX3_setOnly 2 none, Cond.methodLink RX3 15 yJ7_fill_53178, Cond.methodLink RX7 318 yX3_spread, Cond.instanceMethod yX3_spread, Cond.selects RX3 yX3_spread yX3_spread, Cond.code yX3_spread cX3_spread 8 none, Cond.methodLink RX7 322 yX3_removeSeen, Cond.instanceMethod yX3_removeSeen, Cond.selects RX3 yX3_removeSeen yX3_removeSeen, Cond.code yX3_removeSeen cX3_removeSeen 8 none]
def wsL_law_r27 : List Cond := [Cond.methodLink RX3 33 Lib.Math.abs.name, Cond.methodLink RX3 38 Lib.Math.max.name, Cond.methodLink RX7 206 yX3_size, Cond.instanceMethod yX3_size, Cond.selects RX3 yX3_size yX3_size, Cond.code yX3_size cX3_size 4 (some .int), Cond.methodLink RX3 28 yJ6_bitCount_0f7a4, Cond.static yJ6_bitCount_0f7a4, Cond.initialized RJ6, Cond.code yJ6_bitCount_0f7a4 cJ6_bitCount_0f7a4 1 (some .int), Cond.constant RJ6 265 (1431655765), Cond.constant RJ6 266 (858993459), Cond.constant RJ6 267 (252645135), Cond.methodLink RL 93 yX8_could, Cond.instanceMethod yX8_could, Cond.selects RX8 yX8_could yX8_could, Cond.code yX8_could cX8_could 6 (some .int), Cond.methodLink RX8 223 yX8_guess, Cond.instanceMethod yX8_guess, Cond.selects RX8 yX8_guess yX8_guess, Cond.code yX8_guess cX8_guess 9 none, Cond.methodLink RL 94 yX7_couldBe, Cond.instanceMethod yX7_couldBe, Cond.selects RX7 yX7_couldBe yX7_couldBe]
def wsL_law_r28 : List Cond := [Cond.code yX7_couldBe cX7_couldBe 5 (some .int), Cond.methodLink RX7 212 yX7_spotOf, Cond.methodLink RX7 215 yX3_has, Cond.instanceMethod yX3_has, Cond.selects RX3 yX3_has yX3_has, Cond.code yX3_has cX3_has 2 (some .boolean), Cond.methodLink RL 97 yX8_couldBe, Cond.instanceMethod yX8_couldBe, Cond.selects RX8 yX8_couldBe yX8_couldBe, Cond.code yX8_couldBe cX8_couldBe 5 (some .int), Cond.methodLink RL 98 yX7_player, Cond.instanceMethod yX7_player, Cond.selects RX7 yX7_player yX7_player, Cond.code yX7_player cX7_player 3 (some .int), Cond.fieldLink RX7 221 "SeaGames$Crowd" "size" "I", Cond.methodLink RX7 218 yX7_isShore, Cond.static yX7_isShore, Cond.code yX7_isShore cX7_isShore 1 (some .boolean), Cond.methodLink RX7 223 yX1_join, Cond.instanceMethod yX1_join, Cond.selects RX1 yX1_join yX1_join, Cond.code yX1_join cX1_join 3 (some .int), Cond.methodLink RL 101 yX8_player, Cond.instanceMethod yX8_player]
def wsL_law_r29 : List Cond := [Cond.selects RX8 yX8_player yX8_player, Cond.code yX8_player cX8_player 3 (some .int), Cond.constantLong RX8 226 (999), Cond.fieldLink RX8 228 "SeaGamesModel" "players" "I", Cond.methodLink RL 102 yX7_far, Cond.instanceMethod yX7_far, Cond.selects RX7 yX7_far yX7_far, Cond.code yX7_far cX7_far 4 (some .int), Cond.methodLink RX7 226 yX1_setFar, Cond.instanceMethod yX1_setFar, Cond.selects RX1 yX1_setFar yX1_setFar, Cond.code yX1_setFar cX1_setFar 5 (some .int), Cond.methodLink RL 105 yX8_far, Cond.instanceMethod yX8_far, Cond.selects RX8 yX8_far yX8_far, Cond.code yX8_far cX8_far 5 (some .int), Cond.methodLink RL 106 yX7_pairs, Cond.instanceMethod yX7_pairs, Cond.selects RX7 yX7_pairs yX7_pairs, Cond.code yX7_pairs cX7_pairs 1 (some .int), Cond.methodLink RX7 229 yX1_pairUp, Cond.instanceMethod yX1_pairUp, Cond.selects RX1 yX1_pairUp yX1_pairUp, Cond.code yX1_pairUp cX1_pairUp 4 none]
def wsL_law_r30 : List Cond := [Cond.methodLink RX1 35 yX1_leastOf, Cond.instanceMethod yX1_leastOf, Cond.selects RX1 yX1_leastOf yX1_leastOf, Cond.code yX1_leastOf cX1_leastOf 7 (some .int), Cond.constant RX1 56 (2147483647), Cond.methodLink RX1 60 Lib.Math.min.name, Cond.methodLink RX1 48 yX1_firstOf, Cond.instanceMethod yX1_firstOf, Cond.selects RX1 yX1_firstOf yX1_firstOf, Cond.code yX1_firstOf cX1_firstOf 3 (some .int), Cond.methodLink RX1 51 yJ6_bitCount_0f7a4, Cond.methodLink RX1 57 yX1_costOfPair, Cond.instanceMethod yX1_costOfPair, Cond.selects RX1 yX1_costOfPair yX1_costOfPair, Cond.code yX1_costOfPair cX1_costOfPair 3 (some .int), Cond.methodLink RX1 43 Lib.Math.abs.name, Cond.methodLink RX1 39 yX1_leastMate, Cond.instanceMethod yX1_leastMate, Cond.selects RX1 yX1_leastMate yX1_leastMate, Cond.code yX1_leastMate cX1_leastMate 5 (some .int), Cond.methodLink RX7 232 yX1_leastCost, Cond.instanceMethod yX1_leastCost, Cond.selects RX1 yX1_leastCost yX1_leastCost, Cond.code yX1_leastCost cX1_leastCost 1 (some .int)]
def wsL_law_r31 : List Cond := [Cond.methodLink RL 110 yX8_pairs, Cond.instanceMethod yX8_pairs, Cond.selects RX8 yX8_pairs yX8_pairs, Cond.code yX8_pairs cX8_pairs 1 (some .int), Cond.methodLink RX8 240 yX8_match, Cond.instanceMethod yX8_match, Cond.selects RX8 yX8_match yX8_match, Cond.code yX8_match cX8_match 7 (some .int), Cond.methodLink RX8 231 yX8_lowest, Cond.static yX8_lowest, Cond.code yX8_lowest cX8_lowest 2 (some .int), Cond.methodLink RX8 234 yX8_costs, Cond.instanceMethod yX8_costs, Cond.selects RX8 yX8_costs yX8_costs, Cond.code yX8_costs cX8_costs 3 (some .int), Cond.methodLink RX8 237 yX8_isOdd, Cond.static yX8_isOdd, Cond.code yX8_isOdd cX8_isOdd 3 (some .boolean), Cond.methodLink RL 111 yX7_mate, Cond.instanceMethod yX7_mate, Cond.selects RX7 yX7_mate yX7_mate, Cond.code yX7_mate cX7_mate 2 (some .int), Cond.fieldLink RX7 236 "SeaGames$Crowd" "mates" "[I", Cond.methodLink RL 114 yX8_mate]
def wsL_law_r32 : List Cond := [Cond.instanceMethod yX8_mate, Cond.selects RX8 yX8_mate yX8_mate, Cond.code yX8_mate cX8_mate 2 (some .int), Cond.methodLink RL 115 yX7_odds, Cond.instanceMethod yX7_odds, Cond.selects RX7 yX7_odds yX7_odds, Cond.code yX7_odds cX7_odds 6 (some .long), Cond.constantLong RX7 239 (-2), Cond.methodLink RX7 241 Lib.Math.min.name, Cond.fieldLink RX7 248 "SeaGames$Deal" "above" "J", Cond.fieldLink RX7 252 "SeaGames$Deal" "below" "J", Cond.methodLink RX7 244 yX2_reckon, Cond.instanceMethod yX2_reckon, Cond.selects RX2 yX2_reckon yX2_reckon, Cond.code yX2_reckon cX2_reckon 12 none, Cond.methodLink RX2 29 Lib.Math.max.name, Cond.methodLink RX2 35 Lib.Math.min.name, Cond.methodLink RX2 25 yX2_fillChoices, Cond.static yX2_fillChoices, Cond.code yX2_fillChoices cX2_fillChoices 4 none, Cond.methodLink RX2 42 yJ7_fill_d0a16, Cond.static yJ7_fill_d0a16, Cond.code yJ7_fill_d0a16 cJ7_fill_d0a16 5 none, Cond.methodLink RX2 38 yX2_commonOf]
def wsL_law_r33 : List Cond := [Cond.static yX2_commonOf, Cond.code yX2_commonOf cX2_commonOf 11 (some .long), Cond.methodLink RL 119 yX8_odds, Cond.instanceMethod yX8_odds, Cond.selects RX8 yX8_odds yX8_odds, Cond.code yX8_odds cX8_odds 16 (some .long), Cond.constantLong RX8 244 (60), Cond.constantLong RX8 246 (-2), Cond.methodLink RL 120 yX7_keep, Cond.instanceMethod yX7_keep, Cond.selects RX7 yX7_keep yX7_keep, Cond.code yX7_keep cX7_keep 2 (some .int), Cond.methodLink RX7 255 yX7_isSlot, Cond.static yX7_isSlot, Cond.code yX7_isSlot cX7_isSlot 1 (some .boolean), Cond.methodLink RX7 258 yX5_copyFrom, Cond.instanceMethod yX5_copyFrom, Cond.selects RX5 yX5_copyFrom yX5_copyFrom, Cond.code yX5_copyFrom cX5_copyFrom 2 none, Cond.methodLink RX5 40 arraycopyName, Cond.methodLink RX7 261 yX5_pressed, Cond.instanceMethod yX5_pressed, Cond.selects RX5 yX5_pressed yX5_pressed, Cond.code yX5_pressed cX5_pressed 3 (some .int)]
def wsL_law_r34 : List Cond := [Cond.methodLink RL 123 yX8_keep, Cond.instanceMethod yX8_keep, Cond.selects RX8 yX8_keep yX8_keep, Cond.code yX8_keep cX8_keep 2 (some .int), Cond.methodLink RX8 248 yX8_noSlot, Cond.static yX8_noSlot, Cond.code yX8_noSlot cX8_noSlot 1 (some .boolean), Cond.methodLink RX8 251 yX8_copy, Cond.instanceMethod yX8_copy, Cond.selects RX8 yX8_copy yX8_copy, Cond.code yX8_copy cX8_copy 4 none, Cond.methodLink RX8 254 yX8_presses, Cond.instanceMethod yX8_presses, Cond.selects RX8 yX8_presses yX8_presses, Cond.code yX8_presses cX8_presses 3 (some .int), Cond.methodLink RL 124 yX7_again, Cond.instanceMethod yX7_again, Cond.selects RX7 yX7_again yX7_again, Cond.code yX7_again cX7_again 2 (some .int), Cond.methodLink RL 127 yX8_again, Cond.instanceMethod yX8_again, Cond.selects RX8 yX8_again yX8_again, Cond.code yX8_again cX8_again 2 (some .int), Cond.methodLink RL 128 yX7_tried]
def wsL_law_r35 : List Cond := [Cond.instanceMethod yX7_tried, Cond.selects RX7 yX7_tried yX7_tried, Cond.code yX7_tried cX7_tried 8 (some .int), Cond.methodLink RX7 264 yX7_isPower, Cond.static yX7_isPower, Cond.code yX7_isPower cX7_isPower 1 (some .boolean), Cond.methodLink RL 131 yX8_tried, Cond.instanceMethod yX8_tried, Cond.selects RX8 yX8_tried yX8_tried, Cond.code yX8_tried cX8_tried 5 (some .int), Cond.methodLink RL 132 yX7_differs, Cond.instanceMethod yX7_differs, Cond.selects RX7 yX7_differs yX7_differs, Cond.code yX7_differs cX7_differs 5 (some .int), Cond.methodLink RX7 281 yX0_isLike, Cond.instanceMethod yX0_isLike, Cond.selects RX0 yX0_isLike yX0_isLike, Cond.code yX0_isLike cX0_isLike 3 (some .boolean), Cond.methodLink RL 135 yX8_differs, Cond.instanceMethod yX8_differs, Cond.selects RX8 yX8_differs yX8_differs, Cond.code yX8_differs cX8_differs 4 (some .int), Cond.methodLink RL 136 yX7_count, Cond.instanceMethod yX7_count]
def wsL_law_r36 : List Cond := [Cond.selects RX7 yX7_count yX7_count, Cond.code yX7_count cX7_count 2 (some .int), Cond.methodLink RX7 284 yX4_lostOnes, Cond.instanceMethod yX4_lostOnes, Cond.selects RX4 yX4_lostOnes yX4_lostOnes, Cond.code yX4_lostOnes cX4_lostOnes 3 (some .int), Cond.methodLink RX7 287 yX5_leftTicks, Cond.instanceMethod yX5_leftTicks, Cond.selects RX5 yX5_leftTicks yX5_leftTicks, Cond.code yX5_leftTicks cX5_leftTicks 3 (some .int), Cond.methodLink RX7 290 yX7_slotsKept, Cond.instanceMethod yX7_slotsKept, Cond.selects RX7 yX7_slotsKept yX7_slotsKept, Cond.code yX7_slotsKept cX7_slotsKept 3 (some .int), Cond.methodLink RL 139 yX8_count, Cond.instanceMethod yX8_count, Cond.selects RX8 yX8_count yX8_count, Cond.code yX8_count cX8_count 6 (some .int)]
def wsL_law : List Cond := (wsL_law_r1 ++ (wsL_law_r2 ++ (wsL_law_r3 ++ (wsL_law_r4 ++ (wsL_law_r5 ++ (wsL_law_r6 ++ (wsL_law_r7 ++ (wsL_law_r8 ++ (wsL_law_r9 ++ (wsL_law_r10 ++ (wsL_law_r11 ++ (wsL_law_r12 ++ (wsL_law_r13 ++ (wsL_law_r14 ++ (wsL_law_r15 ++ (wsL_law_r16 ++ (wsL_law_r17 ++ (wsL_law_r18 ++ (wsL_law_r19 ++ (wsL_law_r20 ++ (wsL_law_r21 ++ (wsL_law_r22 ++ (wsL_law_r23 ++ (wsL_law_r24 ++ (wsL_law_r25 ++ (wsL_law_r26 ++ (wsL_law_r27 ++ (wsL_law_r28 ++ (wsL_law_r29 ++ (wsL_law_r30 ++ (wsL_law_r31 ++ (wsL_law_r32 ++ (wsL_law_r33 ++ (wsL_law_r34 ++ (wsL_law_r35 ++ wsL_law_r36))))))))))))))))))))))))))))))))))) ++ wsX70 ++ wsX80 ++ wsX50 ++ wsX40 ++ wsX60 ++ wsX00 ++ wsX30 ++ wsX10 ++ wsX20 ++ ([] : List Cond)
set_option maxRecDepth 20000 in

abbrev vwCl : List vw_C := [(RX0, TX0, 1), (RX1, TX1, 7), (RX2, TX2, 4), (RX3, TX3, 1), (RX4, TX4, 3), (RX5, TX5, 7), (RX6, TX6, 2), (RX7, TX7, 12), (RX8, TX8, 36)]
end
section
theorem dX0_init_0 : decode cX0_init 0 = .ok (.aload_n 0, 1) := by decide +kernel
theorem dX0_init_1 : decode cX0_init 1 = .ok (.invokespecial 3, 3) := by decide +kernel
theorem dX0_init_4 : decode cX0_init 4 = .ok (.aload_n 0, 1) := by decide +kernel
theorem dX0_init_5 : decode cX0_init 5 = .ok (.bipush 13, 2) := by decide +kernel
theorem dX0_init_7 : decode cX0_init 7 = .ok (.newarray .int, 2) := by decide +kernel
theorem dX0_init_9 : decode cX0_init 9 = .ok (.putfield 9, 3) := by decide +kernel
theorem dX0_init_12 : decode cX0_init 12 = .ok (.return_, 1) := by decide +kernel
set_option maxRecDepth 20000 in
theorem ggX0_start_J7_fill_53178 : GoodIn wsX0_start wsJ7_fill_53178 := goodIn_r _ [8] (by decide +kernel) (by decide +kernel)
set_option maxRecDepth 20000 in
theorem gX0_start_J7_fill_53178 : GoodIn wsX0_start (va_wsS RX0 15 yJ7_fill_53178 wsJ7_fill_53178) := goodIn_app (goodIn_of _ (by decide +kernel)) ggX0_start_J7_fill_53178
set_option maxRecDepth 20000 in
theorem ggX0_start_X7_spotOf : GoodIn wsX0_start wsX7_spotOf := goodIn_r _ [11] (by decide +kernel) (by decide +kernel)
set_option maxRecDepth 20000 in
theorem gX0_start_X7_spotOf_n30 : GoodIn wsX0_start (wsX7_spotOf) := ggX0_start_X7_spotOf
theorem dX0_start_0 : decode cX0_start 0 = .ok (.aload_n 0, 1) := by decide +kernel
theorem dX0_start_1 : decode cX0_start 1 = .ok (.getfield 9, 3) := by decide +kernel
theorem dX0_start_4 : decode cX0_start 4 = .ok (.iconst 0, 1) := by decide +kernel
theorem dX0_start_5 : decode cX0_start 5 = .ok (.invokestatic 15, 3) := by decide +kernel
theorem dX0_start_8 : decode cX0_start 8 = .ok (.iconst 0, 1) := by decide +kernel
theorem dX0_start_9 : decode cX0_start 9 = .ok (.istore_n 2, 1) := by decide +kernel
theorem dX0_start_10 : decode cX0_start 10 = .ok (.iload_n 2, 1) := by decide +kernel
theorem dX0_start_11 : decode cX0_start 11 = .ok (.aload_n 1, 1) := by decide +kernel
theorem dX0_start_12 : decode cX0_start 12 = .ok (.getfield 21, 3) := by decide +kernel
theorem dX0_start_15 : decode cX0_start 15 = .ok (.if_icmp .ge 23, 3) := by decide +kernel
theorem dX0_start_18 : decode cX0_start 18 = .ok (.aload_n 0, 1) := by decide +kernel
theorem dX0_start_19 : decode cX0_start 19 = .ok (.getfield 9, 3) := by decide +kernel
theorem dX0_start_22 : decode cX0_start 22 = .ok (.iload_n 2, 1) := by decide +kernel
theorem dX0_start_23 : decode cX0_start 23 = .ok (.iload_n 2, 1) := by decide +kernel
theorem dX0_start_24 : decode cX0_start 24 = .ok (.aload_n 1, 1) := by decide +kernel
theorem dX0_start_25 : decode cX0_start 25 = .ok (.getfield 27, 3) := by decide +kernel
theorem dX0_start_28 : decode cX0_start 28 = .ok (.invokestatic 30, 3) := by decide +kernel
theorem dX0_start_31 : decode cX0_start 31 = .ok (.iastore, 1) := by decide +kernel
theorem dX0_start_32 : decode cX0_start 32 = .ok (.iinc 2 1, 3) := by decide +kernel
theorem dX0_start_35 : decode cX0_start 35 = .ok (.goto (-25), 3) := by decide +kernel
theorem dX0_start_38 : decode cX0_start 38 = .ok (.aload_n 0, 1) := by decide +kernel
theorem dX0_start_39 : decode cX0_start 39 = .ok (.getfield 9, 3) := by decide +kernel
theorem dX0_start_42 : decode cX0_start 42 = .ok (.bipush 6, 2) := by decide +kernel
theorem dX0_start_44 : decode cX0_start 44 = .ok (.bipush 16, 2) := by decide +kernel
theorem dX0_start_46 : decode cX0_start 46 = .ok (.aload_n 1, 1) := by decide +kernel
theorem dX0_start_47 : decode cX0_start 47 = .ok (.getfield 34, 3) := by decide +kernel
theorem dX0_start_50 : decode cX0_start 50 = .ok (.iconst 1, 1) := by decide +kernel
theorem dX0_start_51 : decode cX0_start 51 = .ok (.isub, 1) := by decide +kernel
theorem dX0_start_52 : decode cX0_start 52 = .ok (.imul, 1) := by decide +kernel
theorem dX0_start_53 : decode cX0_start 53 = .ok (.aload_n 1, 1) := by decide +kernel
theorem dX0_start_54 : decode cX0_start 54 = .ok (.getfield 27, 3) := by decide +kernel
theorem dX0_start_57 : decode cX0_start 57 = .ok (.iadd, 1) := by decide +kernel
theorem dX0_start_58 : decode cX0_start 58 = .ok (.iconst 1, 1) := by decide +kernel
theorem dX0_start_59 : decode cX0_start 59 = .ok (.isub, 1) := by decide +kernel
theorem dX0_start_60 : decode cX0_start 60 = .ok (.iastore, 1) := by decide +kernel
theorem dX0_start_61 : decode cX0_start 61 = .ok (.return_, 1) := by decide +kernel
set_option maxRecDepth 20000 in
theorem ggX0_advance_X5_isLeft : GoodIn wsX0_advance wsX5_isLeft := goodIn_r _ [6, 7, 8, 60, 61, 62, 63, 64, 65, 66] (by decide +kernel) (by decide +kernel)
set_option maxRecDepth 20000 in
theorem gX0_advance_X5_isLeft : GoodIn wsX0_advance (wsV RX0 37 RX5 yX5_isLeft wsX5_isLeft) := goodIn_app (goodIn_of _ (by decide +kernel)) ggX0_advance_X5_isLeft
set_option maxRecDepth 20000 in
theorem ggX0_advance_X0_machinePress : GoodIn wsX0_advance wsX0_machinePress := goodIn_r _ [13, 14, 15, 16, 17, 18, 19, 20, 21, 12, 22, 23, 24, 25, 26, 27, 67] (by decide +kernel) (by decide +kernel)
set_option maxRecDepth 20000 in
theorem gX0_advance_X0_machinePress : GoodIn wsX0_advance (wsV RX0 41 RX0 yX0_machinePress wsX0_machinePress) := goodIn_app (goodIn_of _ (by decide +kernel)) ggX0_advance_X0_machinePress
set_option maxRecDepth 20000 in
theorem ggX0_advance_X0_kick : GoodIn wsX0_advance wsX0_kick := goodIn_r _ [31, 19, 20, 21, 12, 22, 14, 32, 33, 34, 35, 36, 37, 38, 39, 40, 41, 1, 23, 24, 25, 26, 27, 67, 60, 61, 62, 63, 64, 65, 66] (by decide +kernel) (by decide +kernel)
set_option maxRecDepth 20000 in
theorem gX0_advance_X0_kick : GoodIn wsX0_advance (wsV RX0 45 RX0 yX0_kick wsX0_kick) := goodIn_app (goodIn_of _ (by decide +kernel)) ggX0_advance_X0_kick
set_option maxRecDepth 20000 in
theorem ggX0_advance_X0_go : GoodIn wsX0_advance wsX0_go := goodIn_r _ [45, 14, 36, 37, 38, 12, 39, 40, 41, 1, 23, 24, 25, 26, 27, 32, 33, 34, 35, 67, 60, 61, 62, 63, 64, 65, 66] (by decide +kernel) (by decide +kernel)
set_option maxRecDepth 20000 in
theorem gX0_advance_X0_go : GoodIn wsX0_advance (wsV RX0 49 RX0 yX0_go wsX0_go) := goodIn_app (goodIn_of _ (by decide +kernel)) ggX0_advance_X0_go
set_option maxRecDepth 20000 in
theorem ggX0_advance_X0_spinBall : GoodIn wsX0_advance wsX0_spinBall := goodIn_r _ [49, 50, 32, 33, 34, 12, 35, 14, 36, 37, 38, 39, 40, 41, 1, 23, 24, 25, 26, 27, 60, 61, 62, 63, 64, 65, 66, 67] (by decide +kernel) (by decide +kernel)
set_option maxRecDepth 20000 in
theorem gX0_advance_X0_spinBall : GoodIn wsX0_advance (wsV RX0 52 RX0 yX0_spinBall wsX0_spinBall) := goodIn_app (goodIn_of _ (by decide +kernel)) ggX0_advance_X0_spinBall
set_option maxRecDepth 20000 in
theorem ggX0_advance_X0_givePoint : GoodIn wsX0_advance wsX0_givePoint := goodIn_r _ [54, 14, 1, 55, 24, 56, 57, 16, 17, 18, 58, 23, 25, 59, 26, 27, 67, 60, 61, 62, 63, 64, 65, 66] (by decide +kernel) (by decide +kernel)
set_option maxRecDepth 20000 in
theorem gX0_advance_X0_givePoint : GoodIn wsX0_advance (wsV RX0 56 RX0 yX0_givePoint wsX0_givePoint) := goodIn_app (goodIn_of _ (by decide +kernel)) ggX0_advance_X0_givePoint
theorem dX0_advance_0 : decode cX0_advance 0 = .ok (.iconst 0, 1) := by decide +kernel
theorem dX0_advance_1 : decode cX0_advance 1 = .ok (.istore 5, 2) := by decide +kernel
theorem dX0_advance_3 : decode cX0_advance 3 = .ok (.iload 5, 2) := by decide +kernel
theorem dX0_advance_5 : decode cX0_advance 5 = .ok (.aload_n 1, 1) := by decide +kernel
theorem dX0_advance_6 : decode cX0_advance 6 = .ok (.getfield 21, 3) := by decide +kernel
theorem dX0_advance_9 : decode cX0_advance 9 = .ok (.if_icmp .ge 66, 3) := by decide +kernel
theorem dX0_advance_12 : decode cX0_advance 12 = .ok (.aload_n 1, 1) := by decide +kernel
theorem dX0_advance_13 : decode cX0_advance 13 = .ok (.iload 5, 2) := by decide +kernel
theorem dX0_advance_15 : decode cX0_advance 15 = .ok (.iload_n 3, 1) := by decide +kernel
theorem dX0_advance_16 : decode cX0_advance 16 = .ok (.invokevirtual 37, 3) := by decide +kernel
theorem dX0_advance_19 : decode cX0_advance 19 = .ok (.ifCond .eq 12, 3) := by decide +kernel
theorem dX0_advance_22 : decode cX0_advance 22 = .ok (.aload_n 0, 1) := by decide +kernel
theorem dX0_advance_23 : decode cX0_advance 23 = .ok (.iload 5, 2) := by decide +kernel
theorem dX0_advance_25 : decode cX0_advance 25 = .ok (.invokevirtual 41, 3) := by decide +kernel
theorem dX0_advance_28 : decode cX0_advance 28 = .ok (.goto 8, 3) := by decide +kernel
theorem dX0_advance_31 : decode cX0_advance 31 = .ok (.aload 4, 2) := by decide +kernel
theorem dX0_advance_33 : decode cX0_advance 33 = .ok (.iload 5, 2) := by decide +kernel
theorem dX0_advance_35 : decode cX0_advance 35 = .ok (.iaload, 1) := by decide +kernel
theorem dX0_advance_36 : decode cX0_advance 36 = .ok (.istore 6, 2) := by decide +kernel
theorem dX0_advance_38 : decode cX0_advance 38 = .ok (.iload 6, 2) := by decide +kernel
theorem dX0_advance_40 : decode cX0_advance 40 = .ok (.iconst 5, 1) := by decide +kernel
theorem dX0_advance_41 : decode cX0_advance 41 = .ok (.if_icmp .ne 14, 3) := by decide +kernel
theorem dX0_advance_44 : decode cX0_advance 44 = .ok (.aload_n 0, 1) := by decide +kernel
theorem dX0_advance_45 : decode cX0_advance 45 = .ok (.aload_n 1, 1) := by decide +kernel
theorem dX0_advance_46 : decode cX0_advance 46 = .ok (.iload 5, 2) := by decide +kernel
theorem dX0_advance_48 : decode cX0_advance 48 = .ok (.iload_n 2, 1) := by decide +kernel
theorem dX0_advance_49 : decode cX0_advance 49 = .ok (.invokevirtual 45, 3) := by decide +kernel
theorem dX0_advance_52 : decode cX0_advance 52 = .ok (.goto 17, 3) := by decide +kernel
theorem dX0_advance_55 : decode cX0_advance 55 = .ok (.iload 6, 2) := by decide +kernel
theorem dX0_advance_57 : decode cX0_advance 57 = .ok (.ifCond .le 12, 3) := by decide +kernel
theorem dX0_advance_60 : decode cX0_advance 60 = .ok (.aload_n 0, 1) := by decide +kernel
theorem dX0_advance_61 : decode cX0_advance 61 = .ok (.aload_n 1, 1) := by decide +kernel
theorem dX0_advance_62 : decode cX0_advance 62 = .ok (.iload 5, 2) := by decide +kernel
theorem dX0_advance_64 : decode cX0_advance 64 = .ok (.iload 6, 2) := by decide +kernel
theorem dX0_advance_66 : decode cX0_advance 66 = .ok (.invokevirtual 49, 3) := by decide +kernel
theorem dX0_advance_69 : decode cX0_advance 69 = .ok (.iinc 5 1, 3) := by decide +kernel
theorem dX0_advance_72 : decode cX0_advance 72 = .ok (.goto (-69), 3) := by decide +kernel
theorem dX0_advance_75 : decode cX0_advance 75 = .ok (.aload_n 0, 1) := by decide +kernel
theorem dX0_advance_76 : decode cX0_advance 76 = .ok (.aload_n 1, 1) := by decide +kernel
theorem dX0_advance_77 : decode cX0_advance 77 = .ok (.iload_n 3, 1) := by decide +kernel
theorem dX0_advance_78 : decode cX0_advance 78 = .ok (.invokevirtual 52, 3) := by decide +kernel
theorem dX0_advance_81 : decode cX0_advance 81 = .ok (.aload_n 0, 1) := by decide +kernel
theorem dX0_advance_82 : decode cX0_advance 82 = .ok (.aload_n 1, 1) := by decide +kernel
theorem dX0_advance_83 : decode cX0_advance 83 = .ok (.invokevirtual 56, 3) := by decide +kernel
theorem dX0_advance_86 : decode cX0_advance 86 = .ok (.return_, 1) := by decide +kernel
set_option maxRecDepth 20000 in
theorem ggX0_machinePress_X0_wayToBall : GoodIn wsX0_machinePress wsX0_wayToBall := goodIn_r _ [10, 1, 16] (by decide +kernel) (by decide +kernel)
set_option maxRecDepth 20000 in
theorem gX0_machinePress_X0_wayToBall : GoodIn wsX0_machinePress (wsV RX0 60 RX0 yX0_wayToBall wsX0_wayToBall) := goodIn_app (goodIn_of _ (by decide +kernel)) ggX0_machinePress_X0_wayToBall
set_option maxRecDepth 20000 in
theorem ggX0_machinePress_X7_xOf : GoodIn wsX0_machinePress wsX7_xOf := goodIn_r _ [13] (by decide +kernel) (by decide +kernel)
set_option maxRecDepth 20000 in
theorem gX0_machinePress_X7_xOf_n63 : GoodIn wsX0_machinePress (wsX7_xOf) := ggX0_machinePress_X7_xOf
set_option maxRecDepth 20000 in
theorem ggX0_machinePress_X7_yOf : GoodIn wsX0_machinePress wsX7_yOf := goodIn_r _ [15] (by decide +kernel) (by decide +kernel)
set_option maxRecDepth 20000 in
theorem gX0_machinePress_X7_yOf_n66 : GoodIn wsX0_machinePress (wsX7_yOf) := ggX0_machinePress_X7_yOf
theorem dX0_machinePress_0 : decode cX0_machinePress 0 = .ok (.aload_n 0, 1) := by decide +kernel
theorem dX0_machinePress_1 : decode cX0_machinePress 1 = .ok (.iload_n 1, 1) := by decide +kernel
theorem dX0_machinePress_2 : decode cX0_machinePress 2 = .ok (.invokevirtual 60, 3) := by decide +kernel
theorem dX0_machinePress_5 : decode cX0_machinePress 5 = .ok (.ifCond .le 5, 3) := by decide +kernel
theorem dX0_machinePress_8 : decode cX0_machinePress 8 = .ok (.iconst 5, 1) := by decide +kernel
theorem dX0_machinePress_9 : decode cX0_machinePress 9 = .ok (.ireturn, 1) := by decide +kernel
theorem dX0_machinePress_10 : decode cX0_machinePress 10 = .ok (.aload_n 0, 1) := by decide +kernel
theorem dX0_machinePress_11 : decode cX0_machinePress 11 = .ok (.getfield 9, 3) := by decide +kernel
theorem dX0_machinePress_14 : decode cX0_machinePress 14 = .ok (.bipush 6, 2) := by decide +kernel
theorem dX0_machinePress_16 : decode cX0_machinePress 16 = .ok (.iaload, 1) := by decide +kernel
theorem dX0_machinePress_17 : decode cX0_machinePress 17 = .ok (.invokestatic 63, 3) := by decide +kernel
theorem dX0_machinePress_20 : decode cX0_machinePress 20 = .ok (.aload_n 0, 1) := by decide +kernel
theorem dX0_machinePress_21 : decode cX0_machinePress 21 = .ok (.getfield 9, 3) := by decide +kernel
theorem dX0_machinePress_24 : decode cX0_machinePress 24 = .ok (.iload_n 1, 1) := by decide +kernel
theorem dX0_machinePress_25 : decode cX0_machinePress 25 = .ok (.iaload, 1) := by decide +kernel
theorem dX0_machinePress_26 : decode cX0_machinePress 26 = .ok (.invokestatic 63, 3) := by decide +kernel
theorem dX0_machinePress_29 : decode cX0_machinePress 29 = .ok (.isub, 1) := by decide +kernel
theorem dX0_machinePress_30 : decode cX0_machinePress 30 = .ok (.istore_n 2, 1) := by decide +kernel
theorem dX0_machinePress_31 : decode cX0_machinePress 31 = .ok (.aload_n 0, 1) := by decide +kernel
theorem dX0_machinePress_32 : decode cX0_machinePress 32 = .ok (.getfield 9, 3) := by decide +kernel
theorem dX0_machinePress_35 : decode cX0_machinePress 35 = .ok (.bipush 6, 2) := by decide +kernel
theorem dX0_machinePress_37 : decode cX0_machinePress 37 = .ok (.iaload, 1) := by decide +kernel
theorem dX0_machinePress_38 : decode cX0_machinePress 38 = .ok (.invokestatic 66, 3) := by decide +kernel
theorem dX0_machinePress_41 : decode cX0_machinePress 41 = .ok (.aload_n 0, 1) := by decide +kernel
theorem dX0_machinePress_42 : decode cX0_machinePress 42 = .ok (.getfield 9, 3) := by decide +kernel
theorem dX0_machinePress_45 : decode cX0_machinePress 45 = .ok (.iload_n 1, 1) := by decide +kernel
theorem dX0_machinePress_46 : decode cX0_machinePress 46 = .ok (.iaload, 1) := by decide +kernel
theorem dX0_machinePress_47 : decode cX0_machinePress 47 = .ok (.invokestatic 66, 3) := by decide +kernel
theorem dX0_machinePress_50 : decode cX0_machinePress 50 = .ok (.isub, 1) := by decide +kernel
theorem dX0_machinePress_51 : decode cX0_machinePress 51 = .ok (.istore_n 3, 1) := by decide +kernel
theorem dX0_machinePress_52 : decode cX0_machinePress 52 = .ok (.iload_n 2, 1) := by decide +kernel
theorem dX0_machinePress_53 : decode cX0_machinePress 53 = .ok (.invokestatic 69, 3) := by decide +kernel
theorem dX0_machinePress_56 : decode cX0_machinePress 56 = .ok (.iload_n 3, 1) := by decide +kernel
theorem dX0_machinePress_57 : decode cX0_machinePress 57 = .ok (.invokestatic 69, 3) := by decide +kernel
theorem dX0_machinePress_60 : decode cX0_machinePress 60 = .ok (.if_icmp .lt 13, 3) := by decide +kernel
theorem dX0_machinePress_63 : decode cX0_machinePress 63 = .ok (.iload_n 2, 1) := by decide +kernel
theorem dX0_machinePress_64 : decode cX0_machinePress 64 = .ok (.ifCond .le 7, 3) := by decide +kernel
theorem dX0_machinePress_67 : decode cX0_machinePress 67 = .ok (.iconst 1, 1) := by decide +kernel
theorem dX0_machinePress_68 : decode cX0_machinePress 68 = .ok (.goto 4, 3) := by decide +kernel
theorem dX0_machinePress_71 : decode cX0_machinePress 71 = .ok (.iconst 3, 1) := by decide +kernel
theorem dX0_machinePress_72 : decode cX0_machinePress 72 = .ok (.ireturn, 1) := by decide +kernel
theorem dX0_machinePress_73 : decode cX0_machinePress 73 = .ok (.iload_n 3, 1) := by decide +kernel
theorem dX0_machinePress_74 : decode cX0_machinePress 74 = .ok (.ifCond .le 7, 3) := by decide +kernel
theorem dX0_machinePress_77 : decode cX0_machinePress 77 = .ok (.iconst 2, 1) := by decide +kernel
theorem dX0_machinePress_78 : decode cX0_machinePress 78 = .ok (.goto 4, 3) := by decide +kernel
theorem dX0_machinePress_81 : decode cX0_machinePress 81 = .ok (.iconst 4, 1) := by decide +kernel
theorem dX0_machinePress_82 : decode cX0_machinePress 82 = .ok (.ireturn, 1) := by decide +kernel
theorem dX0_isLike_0 : decode cX0_isLike 0 = .ok (.iconst 0, 1) := by decide +kernel
theorem dX0_isLike_1 : decode cX0_isLike 1 = .ok (.istore_n 2, 1) := by decide +kernel
theorem dX0_isLike_2 : decode cX0_isLike 2 = .ok (.iload_n 2, 1) := by decide +kernel
theorem dX0_isLike_3 : decode cX0_isLike 3 = .ok (.bipush 13, 2) := by decide +kernel
theorem dX0_isLike_5 : decode cX0_isLike 5 = .ok (.if_icmp .ge 26, 3) := by decide +kernel
theorem dX0_isLike_8 : decode cX0_isLike 8 = .ok (.aload_n 0, 1) := by decide +kernel
theorem dX0_isLike_9 : decode cX0_isLike 9 = .ok (.getfield 9, 3) := by decide +kernel
theorem dX0_isLike_12 : decode cX0_isLike 12 = .ok (.iload_n 2, 1) := by decide +kernel
theorem dX0_isLike_13 : decode cX0_isLike 13 = .ok (.iaload, 1) := by decide +kernel
theorem dX0_isLike_14 : decode cX0_isLike 14 = .ok (.aload_n 1, 1) := by decide +kernel
theorem dX0_isLike_15 : decode cX0_isLike 15 = .ok (.getfield 9, 3) := by decide +kernel
theorem dX0_isLike_18 : decode cX0_isLike 18 = .ok (.iload_n 2, 1) := by decide +kernel
theorem dX0_isLike_19 : decode cX0_isLike 19 = .ok (.iaload, 1) := by decide +kernel
theorem dX0_isLike_20 : decode cX0_isLike 20 = .ok (.if_icmp .eq 5, 3) := by decide +kernel
theorem dX0_isLike_23 : decode cX0_isLike 23 = .ok (.iconst 0, 1) := by decide +kernel
theorem dX0_isLike_24 : decode cX0_isLike 24 = .ok (.ireturn, 1) := by decide +kernel
theorem dX0_isLike_25 : decode cX0_isLike 25 = .ok (.iinc 2 1, 3) := by decide +kernel
theorem dX0_isLike_28 : decode cX0_isLike 28 = .ok (.goto (-26), 3) := by decide +kernel
theorem dX0_isLike_31 : decode cX0_isLike 31 = .ok (.iconst 1, 1) := by decide +kernel
theorem dX0_isLike_32 : decode cX0_isLike 32 = .ok (.ireturn, 1) := by decide +kernel
set_option maxRecDepth 20000 in
theorem ggX0_isFree_X7_xOf : GoodIn wsX0_isFree wsX7_xOf := goodIn_r _ [7] (by decide +kernel) (by decide +kernel)
set_option maxRecDepth 20000 in
theorem gX0_isFree_X7_xOf_n63 : GoodIn wsX0_isFree (wsX7_xOf) := ggX0_isFree_X7_xOf
set_option maxRecDepth 20000 in
theorem ggX0_isFree_X7_yOf : GoodIn wsX0_isFree wsX7_yOf := goodIn_r _ [9] (by decide +kernel) (by decide +kernel)
set_option maxRecDepth 20000 in
theorem gX0_isFree_X7_yOf_n66 : GoodIn wsX0_isFree (wsX7_yOf) := ggX0_isFree_X7_yOf
theorem dX0_isFree_0 : decode cX0_isFree 0 = .ok (.iload_n 2, 1) := by decide +kernel
theorem dX0_isFree_1 : decode cX0_isFree 1 = .ok (.ifCond .lt 25, 3) := by decide +kernel
theorem dX0_isFree_4 : decode cX0_isFree 4 = .ok (.iload_n 2, 1) := by decide +kernel
theorem dX0_isFree_5 : decode cX0_isFree 5 = .ok (.invokestatic 63, 3) := by decide +kernel
theorem dX0_isFree_8 : decode cX0_isFree 8 = .ok (.aload_n 1, 1) := by decide +kernel
theorem dX0_isFree_9 : decode cX0_isFree 9 = .ok (.getfield 27, 3) := by decide +kernel
theorem dX0_isFree_12 : decode cX0_isFree 12 = .ok (.if_icmp .ge 14, 3) := by decide +kernel
theorem dX0_isFree_15 : decode cX0_isFree 15 = .ok (.iload_n 2, 1) := by decide +kernel
theorem dX0_isFree_16 : decode cX0_isFree 16 = .ok (.invokestatic 66, 3) := by decide +kernel
theorem dX0_isFree_19 : decode cX0_isFree 19 = .ok (.aload_n 1, 1) := by decide +kernel
theorem dX0_isFree_20 : decode cX0_isFree 20 = .ok (.getfield 34, 3) := by decide +kernel
theorem dX0_isFree_23 : decode cX0_isFree 23 = .ok (.if_icmp .lt 5, 3) := by decide +kernel
theorem dX0_isFree_26 : decode cX0_isFree 26 = .ok (.iconst 0, 1) := by decide +kernel
theorem dX0_isFree_27 : decode cX0_isFree 27 = .ok (.ireturn, 1) := by decide +kernel
theorem dX0_isFree_28 : decode cX0_isFree 28 = .ok (.iconst 0, 1) := by decide +kernel
theorem dX0_isFree_29 : decode cX0_isFree 29 = .ok (.istore_n 3, 1) := by decide +kernel
theorem dX0_isFree_30 : decode cX0_isFree 30 = .ok (.iload_n 3, 1) := by decide +kernel
theorem dX0_isFree_31 : decode cX0_isFree 31 = .ok (.aload_n 1, 1) := by decide +kernel
theorem dX0_isFree_32 : decode cX0_isFree 32 = .ok (.getfield 21, 3) := by decide +kernel
theorem dX0_isFree_35 : decode cX0_isFree 35 = .ok (.if_icmp .ge 21, 3) := by decide +kernel
theorem dX0_isFree_38 : decode cX0_isFree 38 = .ok (.aload_n 0, 1) := by decide +kernel
theorem dX0_isFree_39 : decode cX0_isFree 39 = .ok (.getfield 9, 3) := by decide +kernel
theorem dX0_isFree_42 : decode cX0_isFree 42 = .ok (.iload_n 3, 1) := by decide +kernel
theorem dX0_isFree_43 : decode cX0_isFree 43 = .ok (.iaload, 1) := by decide +kernel
theorem dX0_isFree_44 : decode cX0_isFree 44 = .ok (.iload_n 2, 1) := by decide +kernel
theorem dX0_isFree_45 : decode cX0_isFree 45 = .ok (.if_icmp .ne 5, 3) := by decide +kernel
theorem dX0_isFree_48 : decode cX0_isFree 48 = .ok (.iconst 0, 1) := by decide +kernel
theorem dX0_isFree_49 : decode cX0_isFree 49 = .ok (.ireturn, 1) := by decide +kernel
theorem dX0_isFree_50 : decode cX0_isFree 50 = .ok (.iinc 3 1, 3) := by decide +kernel
theorem dX0_isFree_53 : decode cX0_isFree 53 = .ok (.goto (-23), 3) := by decide +kernel
theorem dX0_isFree_56 : decode cX0_isFree 56 = .ok (.iconst 1, 1) := by decide +kernel
theorem dX0_isFree_57 : decode cX0_isFree 57 = .ok (.ireturn, 1) := by decide +kernel
set_option maxRecDepth 20000 in
theorem ggX0_moveBall_X0_isFree : GoodIn wsX0_moveBall wsX0_isFree := goodIn_r _ [6, 7, 8, 9, 1, 10, 11, 12, 13, 14, 16, 17, 18, 19, 20, 21, 22, 15] (by decide +kernel) (by decide +kernel)
set_option maxRecDepth 20000 in
theorem gX0_moveBall_X0_isFree : GoodIn wsX0_moveBall (wsV RX0 77 RX0 yX0_isFree wsX0_isFree) := goodIn_app (goodIn_of _ (by decide +kernel)) ggX0_moveBall_X0_isFree
theorem dX0_moveBall_0 : decode cX0_moveBall 0 = .ok (.aload_n 0, 1) := by decide +kernel
theorem dX0_moveBall_1 : decode cX0_moveBall 1 = .ok (.getfield 9, 3) := by decide +kernel
theorem dX0_moveBall_4 : decode cX0_moveBall 4 = .ok (.bipush 6, 2) := by decide +kernel
theorem dX0_moveBall_6 : decode cX0_moveBall 6 = .ok (.iaload, 1) := by decide +kernel
theorem dX0_moveBall_7 : decode cX0_moveBall 7 = .ok (.getstatic 74, 3) := by decide +kernel
theorem dX0_moveBall_10 : decode cX0_moveBall 10 = .ok (.iload_n 2, 1) := by decide +kernel
theorem dX0_moveBall_11 : decode cX0_moveBall 11 = .ok (.iaload, 1) := by decide +kernel
theorem dX0_moveBall_12 : decode cX0_moveBall 12 = .ok (.iadd, 1) := by decide +kernel
theorem dX0_moveBall_13 : decode cX0_moveBall 13 = .ok (.istore_n 3, 1) := by decide +kernel
theorem dX0_moveBall_14 : decode cX0_moveBall 14 = .ok (.aload_n 0, 1) := by decide +kernel
theorem dX0_moveBall_15 : decode cX0_moveBall 15 = .ok (.aload_n 1, 1) := by decide +kernel
theorem dX0_moveBall_16 : decode cX0_moveBall 16 = .ok (.iload_n 3, 1) := by decide +kernel
theorem dX0_moveBall_17 : decode cX0_moveBall 17 = .ok (.invokevirtual 77, 3) := by decide +kernel
theorem dX0_moveBall_20 : decode cX0_moveBall 20 = .ok (.ifCond .ne 5, 3) := by decide +kernel
theorem dX0_moveBall_23 : decode cX0_moveBall 23 = .ok (.iconst 0, 1) := by decide +kernel
theorem dX0_moveBall_24 : decode cX0_moveBall 24 = .ok (.ireturn, 1) := by decide +kernel
theorem dX0_moveBall_25 : decode cX0_moveBall 25 = .ok (.aload_n 0, 1) := by decide +kernel
theorem dX0_moveBall_26 : decode cX0_moveBall 26 = .ok (.getfield 9, 3) := by decide +kernel
theorem dX0_moveBall_29 : decode cX0_moveBall 29 = .ok (.bipush 6, 2) := by decide +kernel
theorem dX0_moveBall_31 : decode cX0_moveBall 31 = .ok (.iload_n 3, 1) := by decide +kernel
theorem dX0_moveBall_32 : decode cX0_moveBall 32 = .ok (.iastore, 1) := by decide +kernel
theorem dX0_moveBall_33 : decode cX0_moveBall 33 = .ok (.iconst 1, 1) := by decide +kernel
theorem dX0_moveBall_34 : decode cX0_moveBall 34 = .ok (.ireturn, 1) := by decide +kernel
set_option maxRecDepth 20000 in
theorem ggX0_go_X0_isFree : GoodIn wsX0_go wsX0_isFree := goodIn_r _ [6, 7, 8, 9, 1, 10, 11, 12, 13, 14, 20, 21, 22, 23, 24, 25, 26, 19] (by decide +kernel) (by decide +kernel)
set_option maxRecDepth 20000 in
theorem gX0_go_X0_isFree : GoodIn wsX0_go (wsV RX0 77 RX0 yX0_isFree wsX0_isFree) := goodIn_app (goodIn_of _ (by decide +kernel)) ggX0_go_X0_isFree
set_option maxRecDepth 20000 in
theorem ggX0_go_X0_moveBall : GoodIn wsX0_go wsX0_moveBall := goodIn_r _ [18, 1, 2, 3, 4, 5, 6, 7, 8, 9, 10, 11, 12, 13, 14, 19, 20, 21, 22, 23, 24, 25, 26] (by decide +kernel) (by decide +kernel)
set_option maxRecDepth 20000 in
theorem gX0_go_X0_moveBall : GoodIn wsX0_go (wsV RX0 81 RX0 yX0_moveBall wsX0_moveBall) := goodIn_app (goodIn_of _ (by decide +kernel)) ggX0_go_X0_moveBall
theorem dX0_go_0 : decode cX0_go 0 = .ok (.aload_n 0, 1) := by decide +kernel
theorem dX0_go_1 : decode cX0_go 1 = .ok (.getfield 9, 3) := by decide +kernel
theorem dX0_go_4 : decode cX0_go 4 = .ok (.iload_n 2, 1) := by decide +kernel
theorem dX0_go_5 : decode cX0_go 5 = .ok (.iaload, 1) := by decide +kernel
theorem dX0_go_6 : decode cX0_go 6 = .ok (.getstatic 74, 3) := by decide +kernel
theorem dX0_go_9 : decode cX0_go 9 = .ok (.iload_n 3, 1) := by decide +kernel
theorem dX0_go_10 : decode cX0_go 10 = .ok (.iaload, 1) := by decide +kernel
theorem dX0_go_11 : decode cX0_go 11 = .ok (.iadd, 1) := by decide +kernel
theorem dX0_go_12 : decode cX0_go 12 = .ok (.istore 4, 2) := by decide +kernel
theorem dX0_go_14 : decode cX0_go 14 = .ok (.aload_n 0, 1) := by decide +kernel
theorem dX0_go_15 : decode cX0_go 15 = .ok (.aload_n 1, 1) := by decide +kernel
theorem dX0_go_16 : decode cX0_go 16 = .ok (.iload 4, 2) := by decide +kernel
theorem dX0_go_18 : decode cX0_go 18 = .ok (.invokevirtual 77, 3) := by decide +kernel
theorem dX0_go_21 : decode cX0_go 21 = .ok (.ifCond .ne 4, 3) := by decide +kernel
theorem dX0_go_24 : decode cX0_go 24 = .ok (.return_, 1) := by decide +kernel
theorem dX0_go_25 : decode cX0_go 25 = .ok (.iload 4, 2) := by decide +kernel
theorem dX0_go_27 : decode cX0_go 27 = .ok (.aload_n 0, 1) := by decide +kernel
theorem dX0_go_28 : decode cX0_go 28 = .ok (.getfield 9, 3) := by decide +kernel
theorem dX0_go_31 : decode cX0_go 31 = .ok (.bipush 6, 2) := by decide +kernel
theorem dX0_go_33 : decode cX0_go 33 = .ok (.iaload, 1) := by decide +kernel
theorem dX0_go_34 : decode cX0_go 34 = .ok (.if_icmp .ne 13, 3) := by decide +kernel
theorem dX0_go_37 : decode cX0_go 37 = .ok (.aload_n 0, 1) := by decide +kernel
theorem dX0_go_38 : decode cX0_go 38 = .ok (.aload_n 1, 1) := by decide +kernel
theorem dX0_go_39 : decode cX0_go 39 = .ok (.iload_n 3, 1) := by decide +kernel
theorem dX0_go_40 : decode cX0_go 40 = .ok (.invokevirtual 81, 3) := by decide +kernel
theorem dX0_go_43 : decode cX0_go 43 = .ok (.ifCond .ne 4, 3) := by decide +kernel
theorem dX0_go_46 : decode cX0_go 46 = .ok (.return_, 1) := by decide +kernel
theorem dX0_go_47 : decode cX0_go 47 = .ok (.aload_n 0, 1) := by decide +kernel
theorem dX0_go_48 : decode cX0_go 48 = .ok (.getfield 9, 3) := by decide +kernel
theorem dX0_go_51 : decode cX0_go 51 = .ok (.iload_n 2, 1) := by decide +kernel
theorem dX0_go_52 : decode cX0_go 52 = .ok (.iload 4, 2) := by decide +kernel
theorem dX0_go_54 : decode cX0_go 54 = .ok (.iastore, 1) := by decide +kernel
theorem dX0_go_55 : decode cX0_go 55 = .ok (.return_, 1) := by decide +kernel
set_option maxRecDepth 20000 in
theorem ggX0_kick_X0_wayToBall : GoodIn wsX0_kick wsX0_wayToBall := goodIn_r _ [5, 6, 23] (by decide +kernel) (by decide +kernel)
set_option maxRecDepth 20000 in
theorem gX0_kick_X0_wayToBall : GoodIn wsX0_kick (wsV RX0 60 RX0 yX0_wayToBall wsX0_wayToBall) := goodIn_app (goodIn_of _ (by decide +kernel)) ggX0_kick_X0_wayToBall
set_option maxRecDepth 20000 in
theorem ggX0_kick_X0_moveBall : GoodIn wsX0_kick wsX0_moveBall := goodIn_r _ [10, 6, 11, 12, 13, 4, 14, 15, 16, 17, 18, 19, 20, 21, 22, 23, 24, 25, 26, 27, 28, 29, 30] (by decide +kernel) (by decide +kernel)
set_option maxRecDepth 20000 in
theorem gX0_kick_X0_moveBall : GoodIn wsX0_kick (wsV RX0 81 RX0 yX0_moveBall wsX0_moveBall) := goodIn_app (goodIn_of _ (by decide +kernel)) ggX0_kick_X0_moveBall
theorem dX0_kick_0 : decode cX0_kick 0 = .ok (.aload_n 0, 1) := by decide +kernel
theorem dX0_kick_1 : decode cX0_kick 1 = .ok (.iload_n 2, 1) := by decide +kernel
theorem dX0_kick_2 : decode cX0_kick 2 = .ok (.invokevirtual 60, 3) := by decide +kernel
theorem dX0_kick_5 : decode cX0_kick 5 = .ok (.istore 4, 2) := by decide +kernel
theorem dX0_kick_7 : decode cX0_kick 7 = .ok (.iload 4, 2) := by decide +kernel
theorem dX0_kick_9 : decode cX0_kick 9 = .ok (.ifCond .le 7, 3) := by decide +kernel
theorem dX0_kick_12 : decode cX0_kick 12 = .ok (.iconst 1, 1) := by decide +kernel
theorem dX0_kick_13 : decode cX0_kick 13 = .ok (.goto 4, 3) := by decide +kernel
theorem dX0_kick_16 : decode cX0_kick 16 = .ok (.iconst 0, 1) := by decide +kernel
theorem dX0_kick_17 : decode cX0_kick 17 = .ok (.istore 5, 2) := by decide +kernel
theorem dX0_kick_19 : decode cX0_kick 19 = .ok (.iconst 0, 1) := by decide +kernel
theorem dX0_kick_20 : decode cX0_kick 20 = .ok (.istore 6, 2) := by decide +kernel
theorem dX0_kick_22 : decode cX0_kick 22 = .ok (.iload 6, 2) := by decide +kernel
theorem dX0_kick_24 : decode cX0_kick 24 = .ok (.iload_n 3, 1) := by decide +kernel
theorem dX0_kick_25 : decode cX0_kick 25 = .ok (.if_icmp .ge 23, 3) := by decide +kernel
theorem dX0_kick_28 : decode cX0_kick 28 = .ok (.iload 5, 2) := by decide +kernel
theorem dX0_kick_30 : decode cX0_kick 30 = .ok (.ifCond .eq 18, 3) := by decide +kernel
theorem dX0_kick_33 : decode cX0_kick 33 = .ok (.aload_n 0, 1) := by decide +kernel
theorem dX0_kick_34 : decode cX0_kick 34 = .ok (.aload_n 1, 1) := by decide +kernel
theorem dX0_kick_35 : decode cX0_kick 35 = .ok (.iload 4, 2) := by decide +kernel
theorem dX0_kick_37 : decode cX0_kick 37 = .ok (.invokevirtual 81, 3) := by decide +kernel
theorem dX0_kick_40 : decode cX0_kick 40 = .ok (.istore 5, 2) := by decide +kernel
theorem dX0_kick_42 : decode cX0_kick 42 = .ok (.iinc 6 1, 3) := by decide +kernel
theorem dX0_kick_45 : decode cX0_kick 45 = .ok (.goto (-23), 3) := by decide +kernel
theorem dX0_kick_48 : decode cX0_kick 48 = .ok (.return_, 1) := by decide +kernel
theorem dX0_wayToBall_0 : decode cX0_wayToBall 0 = .ok (.iconst 1, 1) := by decide +kernel
theorem dX0_wayToBall_1 : decode cX0_wayToBall 1 = .ok (.istore_n 2, 1) := by decide +kernel
theorem dX0_wayToBall_2 : decode cX0_wayToBall 2 = .ok (.iload_n 2, 1) := by decide +kernel
theorem dX0_wayToBall_3 : decode cX0_wayToBall 3 = .ok (.iconst 4, 1) := by decide +kernel
theorem dX0_wayToBall_4 : decode cX0_wayToBall 4 = .ok (.if_icmp .gt 33, 3) := by decide +kernel
theorem dX0_wayToBall_7 : decode cX0_wayToBall 7 = .ok (.aload_n 0, 1) := by decide +kernel
theorem dX0_wayToBall_8 : decode cX0_wayToBall 8 = .ok (.getfield 9, 3) := by decide +kernel
theorem dX0_wayToBall_11 : decode cX0_wayToBall 11 = .ok (.iload_n 1, 1) := by decide +kernel
theorem dX0_wayToBall_12 : decode cX0_wayToBall 12 = .ok (.iaload, 1) := by decide +kernel
theorem dX0_wayToBall_13 : decode cX0_wayToBall 13 = .ok (.getstatic 74, 3) := by decide +kernel
theorem dX0_wayToBall_16 : decode cX0_wayToBall 16 = .ok (.iload_n 2, 1) := by decide +kernel
theorem dX0_wayToBall_17 : decode cX0_wayToBall 17 = .ok (.iaload, 1) := by decide +kernel
theorem dX0_wayToBall_18 : decode cX0_wayToBall 18 = .ok (.iadd, 1) := by decide +kernel
theorem dX0_wayToBall_19 : decode cX0_wayToBall 19 = .ok (.aload_n 0, 1) := by decide +kernel
theorem dX0_wayToBall_20 : decode cX0_wayToBall 20 = .ok (.getfield 9, 3) := by decide +kernel
theorem dX0_wayToBall_23 : decode cX0_wayToBall 23 = .ok (.bipush 6, 2) := by decide +kernel
theorem dX0_wayToBall_25 : decode cX0_wayToBall 25 = .ok (.iaload, 1) := by decide +kernel
theorem dX0_wayToBall_26 : decode cX0_wayToBall 26 = .ok (.if_icmp .ne 5, 3) := by decide +kernel
theorem dX0_wayToBall_29 : decode cX0_wayToBall 29 = .ok (.iload_n 2, 1) := by decide +kernel
theorem dX0_wayToBall_30 : decode cX0_wayToBall 30 = .ok (.ireturn, 1) := by decide +kernel
theorem dX0_wayToBall_31 : decode cX0_wayToBall 31 = .ok (.iinc 2 1, 3) := by decide +kernel
theorem dX0_wayToBall_34 : decode cX0_wayToBall 34 = .ok (.goto (-32), 3) := by decide +kernel
theorem dX0_wayToBall_37 : decode cX0_wayToBall 37 = .ok (.iconst 0, 1) := by decide +kernel
theorem dX0_wayToBall_38 : decode cX0_wayToBall 38 = .ok (.ireturn, 1) := by decide +kernel
set_option maxRecDepth 20000 in
theorem ggX0_spinBall_X0_moveBall : GoodIn wsX0_spinBall wsX0_moveBall := goodIn_r _ [6, 7, 8, 9, 10, 5, 11, 12, 13, 14, 15, 16, 17, 18, 19, 27, 20, 21, 22, 23, 24, 25, 26] (by decide +kernel) (by decide +kernel)
set_option maxRecDepth 20000 in
theorem gX0_spinBall_X0_moveBall : GoodIn wsX0_spinBall (wsV RX0 81 RX0 yX0_moveBall wsX0_moveBall) := goodIn_app (goodIn_of _ (by decide +kernel)) ggX0_spinBall_X0_moveBall
theorem dX0_spinBall_0 : decode cX0_spinBall 0 = .ok (.aload_n 1, 1) := by decide +kernel
theorem dX0_spinBall_1 : decode cX0_spinBall 1 = .ok (.getfield 84, 3) := by decide +kernel
theorem dX0_spinBall_4 : decode cX0_spinBall 4 = .ok (.iconst 1, 1) := by decide +kernel
theorem dX0_spinBall_5 : decode cX0_spinBall 5 = .ok (.iaload, 1) := by decide +kernel
theorem dX0_spinBall_6 : decode cX0_spinBall 6 = .ok (.istore_n 3, 1) := by decide +kernel
theorem dX0_spinBall_7 : decode cX0_spinBall 7 = .ok (.iload_n 3, 1) := by decide +kernel
theorem dX0_spinBall_8 : decode cX0_spinBall 8 = .ok (.ifCond .le 35, 3) := by decide +kernel
theorem dX0_spinBall_11 : decode cX0_spinBall 11 = .ok (.iload_n 2, 1) := by decide +kernel
theorem dX0_spinBall_12 : decode cX0_spinBall 12 = .ok (.iconst 1, 1) := by decide +kernel
theorem dX0_spinBall_13 : decode cX0_spinBall 13 = .ok (.iadd, 1) := by decide +kernel
theorem dX0_spinBall_14 : decode cX0_spinBall 14 = .ok (.iload_n 3, 1) := by decide +kernel
theorem dX0_spinBall_15 : decode cX0_spinBall 15 = .ok (.irem, 1) := by decide +kernel
theorem dX0_spinBall_16 : decode cX0_spinBall 16 = .ok (.ifCond .ne 27, 3) := by decide +kernel
theorem dX0_spinBall_19 : decode cX0_spinBall 19 = .ok (.aload_n 0, 1) := by decide +kernel
theorem dX0_spinBall_20 : decode cX0_spinBall 20 = .ok (.aload_n 1, 1) := by decide +kernel
theorem dX0_spinBall_21 : decode cX0_spinBall 21 = .ok (.bipush 31, 2) := by decide +kernel
theorem dX0_spinBall_23 : decode cX0_spinBall 23 = .ok (.aload_n 1, 1) := by decide +kernel
theorem dX0_spinBall_24 : decode cX0_spinBall 24 = .ok (.getfield 84, 3) := by decide +kernel
theorem dX0_spinBall_27 : decode cX0_spinBall 27 = .ok (.iconst 2, 1) := by decide +kernel
theorem dX0_spinBall_28 : decode cX0_spinBall 28 = .ok (.iaload, 1) := by decide +kernel
theorem dX0_spinBall_29 : decode cX0_spinBall 29 = .ok (.imul, 1) := by decide +kernel
theorem dX0_spinBall_30 : decode cX0_spinBall 30 = .ok (.bipush 17, 2) := by decide +kernel
theorem dX0_spinBall_32 : decode cX0_spinBall 32 = .ok (.iload_n 2, 1) := by decide +kernel
theorem dX0_spinBall_33 : decode cX0_spinBall 33 = .ok (.imul, 1) := by decide +kernel
theorem dX0_spinBall_34 : decode cX0_spinBall 34 = .ok (.iadd, 1) := by decide +kernel
theorem dX0_spinBall_35 : decode cX0_spinBall 35 = .ok (.iconst 4, 1) := by decide +kernel
theorem dX0_spinBall_36 : decode cX0_spinBall 36 = .ok (.irem, 1) := by decide +kernel
theorem dX0_spinBall_37 : decode cX0_spinBall 37 = .ok (.iconst 1, 1) := by decide +kernel
theorem dX0_spinBall_38 : decode cX0_spinBall 38 = .ok (.iadd, 1) := by decide +kernel
theorem dX0_spinBall_39 : decode cX0_spinBall 39 = .ok (.invokevirtual 81, 3) := by decide +kernel
theorem dX0_spinBall_42 : decode cX0_spinBall 42 = .ok (.pop, 1) := by decide +kernel
theorem dX0_spinBall_43 : decode cX0_spinBall 43 = .ok (.return_, 1) := by decide +kernel
set_option maxRecDepth 20000 in
theorem ggX0_givePoint_X7_distance : GoodIn wsX0_givePoint wsX7_distance := goodIn_r _ [5, 6, 7, 8, 9, 10, 11, 4, 12, 13, 14, 15] (by decide +kernel) (by decide +kernel)
set_option maxRecDepth 20000 in
theorem gX0_givePoint_X7_distance_n87 : GoodIn wsX0_givePoint (wsX7_distance) := ggX0_givePoint_X7_distance
theorem dX0_givePoint_0 : decode cX0_givePoint 0 = .ok (.iconst 0, 1) := by decide +kernel
theorem dX0_givePoint_1 : decode cX0_givePoint 1 = .ok (.istore_n 2, 1) := by decide +kernel
theorem dX0_givePoint_2 : decode cX0_givePoint 2 = .ok (.aload_n 0, 1) := by decide +kernel
theorem dX0_givePoint_3 : decode cX0_givePoint 3 = .ok (.getfield 9, 3) := by decide +kernel
theorem dX0_givePoint_6 : decode cX0_givePoint 6 = .ok (.iconst 0, 1) := by decide +kernel
theorem dX0_givePoint_7 : decode cX0_givePoint 7 = .ok (.iaload, 1) := by decide +kernel
theorem dX0_givePoint_8 : decode cX0_givePoint 8 = .ok (.aload_n 0, 1) := by decide +kernel
theorem dX0_givePoint_9 : decode cX0_givePoint 9 = .ok (.getfield 9, 3) := by decide +kernel
theorem dX0_givePoint_12 : decode cX0_givePoint 12 = .ok (.bipush 6, 2) := by decide +kernel
theorem dX0_givePoint_14 : decode cX0_givePoint 14 = .ok (.iaload, 1) := by decide +kernel
theorem dX0_givePoint_15 : decode cX0_givePoint 15 = .ok (.invokestatic 87, 3) := by decide +kernel
theorem dX0_givePoint_18 : decode cX0_givePoint 18 = .ok (.istore_n 3, 1) := by decide +kernel
theorem dX0_givePoint_19 : decode cX0_givePoint 19 = .ok (.iconst 1, 1) := by decide +kernel
theorem dX0_givePoint_20 : decode cX0_givePoint 20 = .ok (.istore 4, 2) := by decide +kernel
theorem dX0_givePoint_22 : decode cX0_givePoint 22 = .ok (.iconst 1, 1) := by decide +kernel
theorem dX0_givePoint_23 : decode cX0_givePoint 23 = .ok (.istore 5, 2) := by decide +kernel
theorem dX0_givePoint_25 : decode cX0_givePoint 25 = .ok (.iload 5, 2) := by decide +kernel
theorem dX0_givePoint_27 : decode cX0_givePoint 27 = .ok (.aload_n 1, 1) := by decide +kernel
theorem dX0_givePoint_28 : decode cX0_givePoint 28 = .ok (.getfield 21, 3) := by decide +kernel
theorem dX0_givePoint_31 : decode cX0_givePoint 31 = .ok (.if_icmp .ge 55, 3) := by decide +kernel
theorem dX0_givePoint_34 : decode cX0_givePoint 34 = .ok (.aload_n 0, 1) := by decide +kernel
theorem dX0_givePoint_35 : decode cX0_givePoint 35 = .ok (.getfield 9, 3) := by decide +kernel
theorem dX0_givePoint_38 : decode cX0_givePoint 38 = .ok (.iload 5, 2) := by decide +kernel
theorem dX0_givePoint_40 : decode cX0_givePoint 40 = .ok (.iaload, 1) := by decide +kernel
theorem dX0_givePoint_41 : decode cX0_givePoint 41 = .ok (.aload_n 0, 1) := by decide +kernel
theorem dX0_givePoint_42 : decode cX0_givePoint 42 = .ok (.getfield 9, 3) := by decide +kernel
theorem dX0_givePoint_45 : decode cX0_givePoint 45 = .ok (.bipush 6, 2) := by decide +kernel
theorem dX0_givePoint_47 : decode cX0_givePoint 47 = .ok (.iaload, 1) := by decide +kernel
theorem dX0_givePoint_48 : decode cX0_givePoint 48 = .ok (.invokestatic 87, 3) := by decide +kernel
theorem dX0_givePoint_51 : decode cX0_givePoint 51 = .ok (.istore 6, 2) := by decide +kernel
theorem dX0_givePoint_53 : decode cX0_givePoint 53 = .ok (.iload 6, 2) := by decide +kernel
theorem dX0_givePoint_55 : decode cX0_givePoint 55 = .ok (.iload_n 3, 1) := by decide +kernel
theorem dX0_givePoint_56 : decode cX0_givePoint 56 = .ok (.if_icmp .ge 15, 3) := by decide +kernel
theorem dX0_givePoint_59 : decode cX0_givePoint 59 = .ok (.iload 5, 2) := by decide +kernel
theorem dX0_givePoint_61 : decode cX0_givePoint 61 = .ok (.istore_n 2, 1) := by decide +kernel
theorem dX0_givePoint_62 : decode cX0_givePoint 62 = .ok (.iload 6, 2) := by decide +kernel
theorem dX0_givePoint_64 : decode cX0_givePoint 64 = .ok (.istore_n 3, 1) := by decide +kernel
theorem dX0_givePoint_65 : decode cX0_givePoint 65 = .ok (.iconst 1, 1) := by decide +kernel
theorem dX0_givePoint_66 : decode cX0_givePoint 66 = .ok (.istore 4, 2) := by decide +kernel
theorem dX0_givePoint_68 : decode cX0_givePoint 68 = .ok (.goto 12, 3) := by decide +kernel
theorem dX0_givePoint_71 : decode cX0_givePoint 71 = .ok (.iload 6, 2) := by decide +kernel
theorem dX0_givePoint_73 : decode cX0_givePoint 73 = .ok (.iload_n 3, 1) := by decide +kernel
theorem dX0_givePoint_74 : decode cX0_givePoint 74 = .ok (.if_icmp .ne 6, 3) := by decide +kernel
theorem dX0_givePoint_77 : decode cX0_givePoint 77 = .ok (.iconst 0, 1) := by decide +kernel
theorem dX0_givePoint_78 : decode cX0_givePoint 78 = .ok (.istore 4, 2) := by decide +kernel
theorem dX0_givePoint_80 : decode cX0_givePoint 80 = .ok (.iinc 5 1, 3) := by decide +kernel
theorem dX0_givePoint_83 : decode cX0_givePoint 83 = .ok (.goto (-58), 3) := by decide +kernel
theorem dX0_givePoint_86 : decode cX0_givePoint 86 = .ok (.iload 4, 2) := by decide +kernel
theorem dX0_givePoint_88 : decode cX0_givePoint 88 = .ok (.ifCond .eq 16, 3) := by decide +kernel
theorem dX0_givePoint_91 : decode cX0_givePoint 91 = .ok (.aload_n 0, 1) := by decide +kernel
theorem dX0_givePoint_92 : decode cX0_givePoint 92 = .ok (.getfield 9, 3) := by decide +kernel
theorem dX0_givePoint_95 : decode cX0_givePoint 95 = .ok (.bipush 7, 2) := by decide +kernel
theorem dX0_givePoint_97 : decode cX0_givePoint 97 = .ok (.iload_n 2, 1) := by decide +kernel
theorem dX0_givePoint_98 : decode cX0_givePoint 98 = .ok (.iadd, 1) := by decide +kernel
theorem dX0_givePoint_99 : decode cX0_givePoint 99 = .ok (.dup2, 1) := by decide +kernel
theorem dX0_givePoint_100 : decode cX0_givePoint 100 = .ok (.iaload, 1) := by decide +kernel
theorem dX0_givePoint_101 : decode cX0_givePoint 101 = .ok (.iconst 1, 1) := by decide +kernel
theorem dX0_givePoint_102 : decode cX0_givePoint 102 = .ok (.iadd, 1) := by decide +kernel
theorem dX0_givePoint_103 : decode cX0_givePoint 103 = .ok (.iastore, 1) := by decide +kernel
theorem dX0_givePoint_104 : decode cX0_givePoint 104 = .ok (.return_, 1) := by decide +kernel
theorem dX1_init_0 : decode cX1_init 0 = .ok (.aload_n 0, 1) := by decide +kernel
theorem dX1_init_1 : decode cX1_init 1 = .ok (.invokespecial 3, 3) := by decide +kernel
theorem dX1_init_4 : decode cX1_init 4 = .ok (.aload_n 0, 1) := by decide +kernel
theorem dX1_init_5 : decode cX1_init 5 = .ok (.iconst 0, 1) := by decide +kernel
theorem dX1_init_6 : decode cX1_init 6 = .ok (.putfield 9, 3) := by decide +kernel
theorem dX1_init_9 : decode cX1_init 9 = .ok (.aload_n 0, 1) := by decide +kernel
theorem dX1_init_10 : decode cX1_init 10 = .ok (.bipush 10, 2) := by decide +kernel
theorem dX1_init_12 : decode cX1_init 12 = .ok (.newarray .int, 2) := by decide +kernel
theorem dX1_init_14 : decode cX1_init 14 = .ok (.putfield 15, 3) := by decide +kernel
theorem dX1_init_17 : decode cX1_init 17 = .ok (.aload_n 0, 1) := by decide +kernel
theorem dX1_init_18 : decode cX1_init 18 = .ok (.bipush 10, 2) := by decide +kernel
theorem dX1_init_20 : decode cX1_init 20 = .ok (.newarray .int, 2) := by decide +kernel
theorem dX1_init_22 : decode cX1_init 22 = .ok (.putfield 19, 3) := by decide +kernel
theorem dX1_init_25 : decode cX1_init 25 = .ok (.aload_n 0, 1) := by decide +kernel
theorem dX1_init_26 : decode cX1_init 26 = .ok (.bipush 10, 2) := by decide +kernel
theorem dX1_init_28 : decode cX1_init 28 = .ok (.newarray .int, 2) := by decide +kernel
theorem dX1_init_30 : decode cX1_init 30 = .ok (.putfield 22, 3) := by decide +kernel
theorem dX1_init_33 : decode cX1_init 33 = .ok (.aload_n 0, 1) := by decide +kernel
theorem dX1_init_34 : decode cX1_init 34 = .ok (.bipush 16, 2) := by decide +kernel
theorem dX1_init_36 : decode cX1_init 36 = .ok (.newarray .int, 2) := by decide +kernel
theorem dX1_init_38 : decode cX1_init 38 = .ok (.putfield 25, 3) := by decide +kernel
theorem dX1_init_41 : decode cX1_init 41 = .ok (.aload_n 0, 1) := by decide +kernel
theorem dX1_init_42 : decode cX1_init 42 = .ok (.sipush 1024, 3) := by decide +kernel
theorem dX1_init_45 : decode cX1_init 45 = .ok (.newarray .int, 2) := by decide +kernel
theorem dX1_init_47 : decode cX1_init 47 = .ok (.putfield 28, 3) := by decide +kernel
theorem dX1_init_50 : decode cX1_init 50 = .ok (.aload_n 0, 1) := by decide +kernel
theorem dX1_init_51 : decode cX1_init 51 = .ok (.iconst 0, 1) := by decide +kernel
theorem dX1_init_52 : decode cX1_init 52 = .ok (.putfield 31, 3) := by decide +kernel
theorem dX1_init_55 : decode cX1_init 55 = .ok (.return_, 1) := by decide +kernel
theorem dX1_join_0 : decode cX1_join 0 = .ok (.aload_n 0, 1) := by decide +kernel
theorem dX1_join_1 : decode cX1_join 1 = .ok (.getfield 19, 3) := by decide +kernel
theorem dX1_join_4 : decode cX1_join 4 = .ok (.aload_n 0, 1) := by decide +kernel
theorem dX1_join_5 : decode cX1_join 5 = .ok (.getfield 9, 3) := by decide +kernel
theorem dX1_join_8 : decode cX1_join 8 = .ok (.iload_n 1, 1) := by decide +kernel
theorem dX1_join_9 : decode cX1_join 9 = .ok (.iastore, 1) := by decide +kernel
theorem dX1_join_10 : decode cX1_join 10 = .ok (.aload_n 0, 1) := by decide +kernel
theorem dX1_join_11 : decode cX1_join 11 = .ok (.getfield 22, 3) := by decide +kernel
theorem dX1_join_14 : decode cX1_join 14 = .ok (.aload_n 0, 1) := by decide +kernel
theorem dX1_join_15 : decode cX1_join 15 = .ok (.getfield 9, 3) := by decide +kernel
theorem dX1_join_18 : decode cX1_join 18 = .ok (.iload_n 2, 1) := by decide +kernel
theorem dX1_join_19 : decode cX1_join 19 = .ok (.iastore, 1) := by decide +kernel
theorem dX1_join_20 : decode cX1_join 20 = .ok (.aload_n 0, 1) := by decide +kernel
theorem dX1_join_21 : decode cX1_join 21 = .ok (.dup, 1) := by decide +kernel
theorem dX1_join_22 : decode cX1_join 22 = .ok (.getfield 9, 3) := by decide +kernel
theorem dX1_join_25 : decode cX1_join 25 = .ok (.iconst 1, 1) := by decide +kernel
theorem dX1_join_26 : decode cX1_join 26 = .ok (.iadd, 1) := by decide +kernel
theorem dX1_join_27 : decode cX1_join 27 = .ok (.putfield 9, 3) := by decide +kernel
theorem dX1_join_30 : decode cX1_join 30 = .ok (.aload_n 0, 1) := by decide +kernel
theorem dX1_join_31 : decode cX1_join 31 = .ok (.iconst 0, 1) := by decide +kernel
theorem dX1_join_32 : decode cX1_join 32 = .ok (.putfield 31, 3) := by decide +kernel
theorem dX1_join_35 : decode cX1_join 35 = .ok (.aload_n 0, 1) := by decide +kernel
theorem dX1_join_36 : decode cX1_join 36 = .ok (.getfield 9, 3) := by decide +kernel
theorem dX1_join_39 : decode cX1_join 39 = .ok (.iconst 1, 1) := by decide +kernel
theorem dX1_join_40 : decode cX1_join 40 = .ok (.isub, 1) := by decide +kernel
theorem dX1_join_41 : decode cX1_join 41 = .ok (.ireturn, 1) := by decide +kernel
theorem dX1_setFar_0 : decode cX1_setFar 0 = .ok (.aload_n 0, 1) := by decide +kernel
theorem dX1_setFar_1 : decode cX1_setFar 1 = .ok (.getfield 25, 3) := by decide +kernel
theorem dX1_setFar_4 : decode cX1_setFar 4 = .ok (.iload_n 1, 1) := by decide +kernel
theorem dX1_setFar_5 : decode cX1_setFar 5 = .ok (.iconst 4, 1) := by decide +kernel
theorem dX1_setFar_6 : decode cX1_setFar 6 = .ok (.imul, 1) := by decide +kernel
theorem dX1_setFar_7 : decode cX1_setFar 7 = .ok (.iload_n 2, 1) := by decide +kernel
theorem dX1_setFar_8 : decode cX1_setFar 8 = .ok (.iadd, 1) := by decide +kernel
theorem dX1_setFar_9 : decode cX1_setFar 9 = .ok (.iaload, 1) := by decide +kernel
theorem dX1_setFar_10 : decode cX1_setFar 10 = .ok (.istore 4, 2) := by decide +kernel
theorem dX1_setFar_12 : decode cX1_setFar 12 = .ok (.aload_n 0, 1) := by decide +kernel
theorem dX1_setFar_13 : decode cX1_setFar 13 = .ok (.getfield 25, 3) := by decide +kernel
theorem dX1_setFar_16 : decode cX1_setFar 16 = .ok (.iload_n 1, 1) := by decide +kernel
theorem dX1_setFar_17 : decode cX1_setFar 17 = .ok (.iconst 4, 1) := by decide +kernel
theorem dX1_setFar_18 : decode cX1_setFar 18 = .ok (.imul, 1) := by decide +kernel
theorem dX1_setFar_19 : decode cX1_setFar 19 = .ok (.iload_n 2, 1) := by decide +kernel
theorem dX1_setFar_20 : decode cX1_setFar 20 = .ok (.iadd, 1) := by decide +kernel
theorem dX1_setFar_21 : decode cX1_setFar 21 = .ok (.iload_n 3, 1) := by decide +kernel
theorem dX1_setFar_22 : decode cX1_setFar 22 = .ok (.iastore, 1) := by decide +kernel
theorem dX1_setFar_23 : decode cX1_setFar 23 = .ok (.aload_n 0, 1) := by decide +kernel
theorem dX1_setFar_24 : decode cX1_setFar 24 = .ok (.getfield 25, 3) := by decide +kernel
theorem dX1_setFar_27 : decode cX1_setFar 27 = .ok (.iload_n 2, 1) := by decide +kernel
theorem dX1_setFar_28 : decode cX1_setFar 28 = .ok (.iconst 4, 1) := by decide +kernel
theorem dX1_setFar_29 : decode cX1_setFar 29 = .ok (.imul, 1) := by decide +kernel
theorem dX1_setFar_30 : decode cX1_setFar 30 = .ok (.iload_n 1, 1) := by decide +kernel
theorem dX1_setFar_31 : decode cX1_setFar 31 = .ok (.iadd, 1) := by decide +kernel
theorem dX1_setFar_32 : decode cX1_setFar 32 = .ok (.iload_n 3, 1) := by decide +kernel
theorem dX1_setFar_33 : decode cX1_setFar 33 = .ok (.iastore, 1) := by decide +kernel
theorem dX1_setFar_34 : decode cX1_setFar 34 = .ok (.aload_n 0, 1) := by decide +kernel
theorem dX1_setFar_35 : decode cX1_setFar 35 = .ok (.iconst 0, 1) := by decide +kernel
theorem dX1_setFar_36 : decode cX1_setFar 36 = .ok (.putfield 31, 3) := by decide +kernel
theorem dX1_setFar_39 : decode cX1_setFar 39 = .ok (.iload 4, 2) := by decide +kernel
theorem dX1_setFar_41 : decode cX1_setFar 41 = .ok (.ireturn, 1) := by decide +kernel
theorem dX1_leastCost_0 : decode cX1_leastCost 0 = .ok (.aload_n 0, 1) := by decide +kernel
theorem dX1_leastCost_1 : decode cX1_leastCost 1 = .ok (.getfield 28, 3) := by decide +kernel
theorem dX1_leastCost_4 : decode cX1_leastCost 4 = .ok (.iconst 1, 1) := by decide +kernel
theorem dX1_leastCost_5 : decode cX1_leastCost 5 = .ok (.aload_n 0, 1) := by decide +kernel
theorem dX1_leastCost_6 : decode cX1_leastCost 6 = .ok (.getfield 9, 3) := by decide +kernel
theorem dX1_leastCost_9 : decode cX1_leastCost 9 = .ok (.ishl, 1) := by decide +kernel
theorem dX1_leastCost_10 : decode cX1_leastCost 10 = .ok (.iconst 1, 1) := by decide +kernel
theorem dX1_leastCost_11 : decode cX1_leastCost 11 = .ok (.isub, 1) := by decide +kernel
theorem dX1_leastCost_12 : decode cX1_leastCost 12 = .ok (.iaload, 1) := by decide +kernel
theorem dX1_leastCost_13 : decode cX1_leastCost 13 = .ok (.ireturn, 1) := by decide +kernel
set_option maxRecDepth 20000 in
theorem ggX1_pairUp_X1_leastOf : GoodIn wsX1_pairUp wsX1_leastOf := goodIn_r _ [9, 3, 10, 2, 11, 12, 13, 14, 15, 16, 17, 8, 18, 19, 20, 21, 22, 23, 24, 25, 26, 27, 28, 29, 30, 31, 32, 33, 34, 35, 40, 41, 42, 43, 44, 45, 46] (by decide +kernel) (by decide +kernel)
set_option maxRecDepth 20000 in
theorem gX1_pairUp_X1_leastOf : GoodIn wsX1_pairUp (wsV RX1 35 RX1 yX1_leastOf wsX1_leastOf) := goodIn_app (goodIn_of _ (by decide +kernel)) ggX1_pairUp_X1_leastOf
set_option maxRecDepth 20000 in
theorem ggX1_pairUp_X1_leastMate : GoodIn wsX1_pairUp wsX1_leastMate := goodIn_r _ [39, 2, 3, 26, 27, 28, 8, 29, 30, 31, 32, 13, 33, 34, 35, 40, 41, 42, 43, 44, 45, 46] (by decide +kernel) (by decide +kernel)
set_option maxRecDepth 20000 in
theorem gX1_pairUp_X1_leastMate : GoodIn wsX1_pairUp (wsV RX1 39 RX1 yX1_leastMate wsX1_leastMate) := goodIn_app (goodIn_of _ (by decide +kernel)) ggX1_pairUp_X1_leastMate
theorem dX1_pairUp_0 : decode cX1_pairUp 0 = .ok (.aload_n 0, 1) := by decide +kernel
theorem dX1_pairUp_1 : decode cX1_pairUp 1 = .ok (.getfield 31, 3) := by decide +kernel
theorem dX1_pairUp_4 : decode cX1_pairUp 4 = .ok (.ifCond .eq 4, 3) := by decide +kernel
theorem dX1_pairUp_7 : decode cX1_pairUp 7 = .ok (.return_, 1) := by decide +kernel
theorem dX1_pairUp_8 : decode cX1_pairUp 8 = .ok (.iconst 1, 1) := by decide +kernel
theorem dX1_pairUp_9 : decode cX1_pairUp 9 = .ok (.istore_n 1, 1) := by decide +kernel
theorem dX1_pairUp_10 : decode cX1_pairUp 10 = .ok (.iload_n 1, 1) := by decide +kernel
theorem dX1_pairUp_11 : decode cX1_pairUp 11 = .ok (.iconst 1, 1) := by decide +kernel
theorem dX1_pairUp_12 : decode cX1_pairUp 12 = .ok (.aload_n 0, 1) := by decide +kernel
theorem dX1_pairUp_13 : decode cX1_pairUp 13 = .ok (.getfield 9, 3) := by decide +kernel
theorem dX1_pairUp_16 : decode cX1_pairUp 16 = .ok (.ishl, 1) := by decide +kernel
theorem dX1_pairUp_17 : decode cX1_pairUp 17 = .ok (.if_icmp .ge 20, 3) := by decide +kernel
theorem dX1_pairUp_20 : decode cX1_pairUp 20 = .ok (.aload_n 0, 1) := by decide +kernel
theorem dX1_pairUp_21 : decode cX1_pairUp 21 = .ok (.getfield 28, 3) := by decide +kernel
theorem dX1_pairUp_24 : decode cX1_pairUp 24 = .ok (.iload_n 1, 1) := by decide +kernel
theorem dX1_pairUp_25 : decode cX1_pairUp 25 = .ok (.aload_n 0, 1) := by decide +kernel
theorem dX1_pairUp_26 : decode cX1_pairUp 26 = .ok (.iload_n 1, 1) := by decide +kernel
theorem dX1_pairUp_27 : decode cX1_pairUp 27 = .ok (.invokevirtual 35, 3) := by decide +kernel
theorem dX1_pairUp_30 : decode cX1_pairUp 30 = .ok (.iastore, 1) := by decide +kernel
theorem dX1_pairUp_31 : decode cX1_pairUp 31 = .ok (.iinc 1 1, 3) := by decide +kernel
theorem dX1_pairUp_34 : decode cX1_pairUp 34 = .ok (.goto (-24), 3) := by decide +kernel
theorem dX1_pairUp_37 : decode cX1_pairUp 37 = .ok (.iconst 1, 1) := by decide +kernel
theorem dX1_pairUp_38 : decode cX1_pairUp 38 = .ok (.aload_n 0, 1) := by decide +kernel
theorem dX1_pairUp_39 : decode cX1_pairUp 39 = .ok (.getfield 9, 3) := by decide +kernel
theorem dX1_pairUp_42 : decode cX1_pairUp 42 = .ok (.ishl, 1) := by decide +kernel
theorem dX1_pairUp_43 : decode cX1_pairUp 43 = .ok (.iconst 1, 1) := by decide +kernel
theorem dX1_pairUp_44 : decode cX1_pairUp 44 = .ok (.isub, 1) := by decide +kernel
theorem dX1_pairUp_45 : decode cX1_pairUp 45 = .ok (.istore_n 1, 1) := by decide +kernel
theorem dX1_pairUp_46 : decode cX1_pairUp 46 = .ok (.iconst 0, 1) := by decide +kernel
theorem dX1_pairUp_47 : decode cX1_pairUp 47 = .ok (.istore_n 2, 1) := by decide +kernel
theorem dX1_pairUp_48 : decode cX1_pairUp 48 = .ok (.iload_n 2, 1) := by decide +kernel
theorem dX1_pairUp_49 : decode cX1_pairUp 49 = .ok (.aload_n 0, 1) := by decide +kernel
theorem dX1_pairUp_50 : decode cX1_pairUp 50 = .ok (.getfield 9, 3) := by decide +kernel
theorem dX1_pairUp_53 : decode cX1_pairUp 53 = .ok (.if_icmp .ge 57, 3) := by decide +kernel
theorem dX1_pairUp_56 : decode cX1_pairUp 56 = .ok (.iload_n 1, 1) := by decide +kernel
theorem dX1_pairUp_57 : decode cX1_pairUp 57 = .ok (.iload_n 2, 1) := by decide +kernel
theorem dX1_pairUp_58 : decode cX1_pairUp 58 = .ok (.ishr, 1) := by decide +kernel
theorem dX1_pairUp_59 : decode cX1_pairUp 59 = .ok (.iconst 1, 1) := by decide +kernel
theorem dX1_pairUp_60 : decode cX1_pairUp 60 = .ok (.iand, 1) := by decide +kernel
theorem dX1_pairUp_61 : decode cX1_pairUp 61 = .ok (.iconst 1, 1) := by decide +kernel
theorem dX1_pairUp_62 : decode cX1_pairUp 62 = .ok (.if_icmp .ne 42, 3) := by decide +kernel
theorem dX1_pairUp_65 : decode cX1_pairUp 65 = .ok (.aload_n 0, 1) := by decide +kernel
theorem dX1_pairUp_66 : decode cX1_pairUp 66 = .ok (.iload_n 1, 1) := by decide +kernel
theorem dX1_pairUp_67 : decode cX1_pairUp 67 = .ok (.iload_n 2, 1) := by decide +kernel
theorem dX1_pairUp_68 : decode cX1_pairUp 68 = .ok (.invokevirtual 39, 3) := by decide +kernel
theorem dX1_pairUp_71 : decode cX1_pairUp 71 = .ok (.istore_n 3, 1) := by decide +kernel
theorem dX1_pairUp_72 : decode cX1_pairUp 72 = .ok (.aload_n 0, 1) := by decide +kernel
theorem dX1_pairUp_73 : decode cX1_pairUp 73 = .ok (.getfield 15, 3) := by decide +kernel
theorem dX1_pairUp_76 : decode cX1_pairUp 76 = .ok (.iload_n 2, 1) := by decide +kernel
theorem dX1_pairUp_77 : decode cX1_pairUp 77 = .ok (.iload_n 3, 1) := by decide +kernel
theorem dX1_pairUp_78 : decode cX1_pairUp 78 = .ok (.iastore, 1) := by decide +kernel
theorem dX1_pairUp_79 : decode cX1_pairUp 79 = .ok (.iload_n 1, 1) := by decide +kernel
theorem dX1_pairUp_80 : decode cX1_pairUp 80 = .ok (.iconst 1, 1) := by decide +kernel
theorem dX1_pairUp_81 : decode cX1_pairUp 81 = .ok (.iload_n 2, 1) := by decide +kernel
theorem dX1_pairUp_82 : decode cX1_pairUp 82 = .ok (.ishl, 1) := by decide +kernel
theorem dX1_pairUp_83 : decode cX1_pairUp 83 = .ok (.ixor, 1) := by decide +kernel
theorem dX1_pairUp_84 : decode cX1_pairUp 84 = .ok (.istore_n 1, 1) := by decide +kernel
theorem dX1_pairUp_85 : decode cX1_pairUp 85 = .ok (.iload_n 3, 1) := by decide +kernel
theorem dX1_pairUp_86 : decode cX1_pairUp 86 = .ok (.bipush (-9), 2) := by decide +kernel
theorem dX1_pairUp_88 : decode cX1_pairUp 88 = .ok (.if_icmp .eq 16, 3) := by decide +kernel
theorem dX1_pairUp_91 : decode cX1_pairUp 91 = .ok (.aload_n 0, 1) := by decide +kernel
theorem dX1_pairUp_92 : decode cX1_pairUp 92 = .ok (.getfield 15, 3) := by decide +kernel
theorem dX1_pairUp_95 : decode cX1_pairUp 95 = .ok (.iload_n 3, 1) := by decide +kernel
theorem dX1_pairUp_96 : decode cX1_pairUp 96 = .ok (.iload_n 2, 1) := by decide +kernel
theorem dX1_pairUp_97 : decode cX1_pairUp 97 = .ok (.iastore, 1) := by decide +kernel
theorem dX1_pairUp_98 : decode cX1_pairUp 98 = .ok (.iload_n 1, 1) := by decide +kernel
theorem dX1_pairUp_99 : decode cX1_pairUp 99 = .ok (.iconst 1, 1) := by decide +kernel
theorem dX1_pairUp_100 : decode cX1_pairUp 100 = .ok (.iload_n 3, 1) := by decide +kernel
theorem dX1_pairUp_101 : decode cX1_pairUp 101 = .ok (.ishl, 1) := by decide +kernel
theorem dX1_pairUp_102 : decode cX1_pairUp 102 = .ok (.ixor, 1) := by decide +kernel
theorem dX1_pairUp_103 : decode cX1_pairUp 103 = .ok (.istore_n 1, 1) := by decide +kernel
theorem dX1_pairUp_104 : decode cX1_pairUp 104 = .ok (.iinc 2 1, 3) := by decide +kernel
theorem dX1_pairUp_107 : decode cX1_pairUp 107 = .ok (.goto (-59), 3) := by decide +kernel
theorem dX1_pairUp_110 : decode cX1_pairUp 110 = .ok (.aload_n 0, 1) := by decide +kernel
theorem dX1_pairUp_111 : decode cX1_pairUp 111 = .ok (.iconst 1, 1) := by decide +kernel
theorem dX1_pairUp_112 : decode cX1_pairUp 112 = .ok (.putfield 31, 3) := by decide +kernel
theorem dX1_pairUp_115 : decode cX1_pairUp 115 = .ok (.return_, 1) := by decide +kernel
theorem dX1_costOfPair_0 : decode cX1_costOfPair 0 = .ok (.aload_n 0, 1) := by decide +kernel
theorem dX1_costOfPair_1 : decode cX1_costOfPair 1 = .ok (.getfield 19, 3) := by decide +kernel
theorem dX1_costOfPair_4 : decode cX1_costOfPair 4 = .ok (.iload_n 1, 1) := by decide +kernel
theorem dX1_costOfPair_5 : decode cX1_costOfPair 5 = .ok (.iaload, 1) := by decide +kernel
theorem dX1_costOfPair_6 : decode cX1_costOfPair 6 = .ok (.aload_n 0, 1) := by decide +kernel
theorem dX1_costOfPair_7 : decode cX1_costOfPair 7 = .ok (.getfield 19, 3) := by decide +kernel
theorem dX1_costOfPair_10 : decode cX1_costOfPair 10 = .ok (.iload_n 2, 1) := by decide +kernel
theorem dX1_costOfPair_11 : decode cX1_costOfPair 11 = .ok (.iaload, 1) := by decide +kernel
theorem dX1_costOfPair_12 : decode cX1_costOfPair 12 = .ok (.isub, 1) := by decide +kernel
theorem dX1_costOfPair_13 : decode cX1_costOfPair 13 = .ok (.invokestatic 43, 3) := by decide +kernel
theorem dX1_costOfPair_16 : decode cX1_costOfPair 16 = .ok (.aload_n 0, 1) := by decide +kernel
theorem dX1_costOfPair_17 : decode cX1_costOfPair 17 = .ok (.getfield 25, 3) := by decide +kernel
theorem dX1_costOfPair_20 : decode cX1_costOfPair 20 = .ok (.aload_n 0, 1) := by decide +kernel
theorem dX1_costOfPair_21 : decode cX1_costOfPair 21 = .ok (.getfield 22, 3) := by decide +kernel
theorem dX1_costOfPair_24 : decode cX1_costOfPair 24 = .ok (.iload_n 1, 1) := by decide +kernel
theorem dX1_costOfPair_25 : decode cX1_costOfPair 25 = .ok (.iaload, 1) := by decide +kernel
theorem dX1_costOfPair_26 : decode cX1_costOfPair 26 = .ok (.iconst 4, 1) := by decide +kernel
theorem dX1_costOfPair_27 : decode cX1_costOfPair 27 = .ok (.imul, 1) := by decide +kernel
theorem dX1_costOfPair_28 : decode cX1_costOfPair 28 = .ok (.aload_n 0, 1) := by decide +kernel
theorem dX1_costOfPair_29 : decode cX1_costOfPair 29 = .ok (.getfield 22, 3) := by decide +kernel
theorem dX1_costOfPair_32 : decode cX1_costOfPair 32 = .ok (.iload_n 2, 1) := by decide +kernel
theorem dX1_costOfPair_33 : decode cX1_costOfPair 33 = .ok (.iaload, 1) := by decide +kernel
theorem dX1_costOfPair_34 : decode cX1_costOfPair 34 = .ok (.iadd, 1) := by decide +kernel
theorem dX1_costOfPair_35 : decode cX1_costOfPair 35 = .ok (.iaload, 1) := by decide +kernel
theorem dX1_costOfPair_36 : decode cX1_costOfPair 36 = .ok (.iadd, 1) := by decide +kernel
theorem dX1_costOfPair_37 : decode cX1_costOfPair 37 = .ok (.ireturn, 1) := by decide +kernel
theorem dX1_firstOf_0 : decode cX1_firstOf 0 = .ok (.iconst 0, 1) := by decide +kernel
theorem dX1_firstOf_1 : decode cX1_firstOf 1 = .ok (.istore_n 2, 1) := by decide +kernel
theorem dX1_firstOf_2 : decode cX1_firstOf 2 = .ok (.iload_n 2, 1) := by decide +kernel
theorem dX1_firstOf_3 : decode cX1_firstOf 3 = .ok (.bipush 10, 2) := by decide +kernel
theorem dX1_firstOf_5 : decode cX1_firstOf 5 = .ok (.if_icmp .ge 20, 3) := by decide +kernel
theorem dX1_firstOf_8 : decode cX1_firstOf 8 = .ok (.iload_n 1, 1) := by decide +kernel
theorem dX1_firstOf_9 : decode cX1_firstOf 9 = .ok (.iload_n 2, 1) := by decide +kernel
theorem dX1_firstOf_10 : decode cX1_firstOf 10 = .ok (.ishr, 1) := by decide +kernel
theorem dX1_firstOf_11 : decode cX1_firstOf 11 = .ok (.iconst 1, 1) := by decide +kernel
theorem dX1_firstOf_12 : decode cX1_firstOf 12 = .ok (.iand, 1) := by decide +kernel
theorem dX1_firstOf_13 : decode cX1_firstOf 13 = .ok (.iconst 1, 1) := by decide +kernel
theorem dX1_firstOf_14 : decode cX1_firstOf 14 = .ok (.if_icmp .ne 5, 3) := by decide +kernel
theorem dX1_firstOf_17 : decode cX1_firstOf 17 = .ok (.iload_n 2, 1) := by decide +kernel
theorem dX1_firstOf_18 : decode cX1_firstOf 18 = .ok (.ireturn, 1) := by decide +kernel
theorem dX1_firstOf_19 : decode cX1_firstOf 19 = .ok (.iinc 2 1, 3) := by decide +kernel
theorem dX1_firstOf_22 : decode cX1_firstOf 22 = .ok (.goto (-20), 3) := by decide +kernel
theorem dX1_firstOf_25 : decode cX1_firstOf 25 = .ok (.iconst 0, 1) := by decide +kernel
theorem dX1_firstOf_26 : decode cX1_firstOf 26 = .ok (.ireturn, 1) := by decide +kernel
set_option maxRecDepth 20000 in
theorem ggX1_leastOf_X1_firstOf : GoodIn wsX1_leastOf wsX1_firstOf := goodIn_r _ [12] (by decide +kernel) (by decide +kernel)
set_option maxRecDepth 20000 in
theorem gX1_leastOf_X1_firstOf : GoodIn wsX1_leastOf (wsV RX1 48 RX1 yX1_firstOf wsX1_firstOf) := goodIn_app (goodIn_of _ (by decide +kernel)) ggX1_leastOf_X1_firstOf
set_option maxRecDepth 20000 in
theorem ggX1_leastOf_J6_bitCount_0f7a4 : GoodIn wsX1_leastOf wsJ6_bitCount_0f7a4 := goodIn_r _ [16, 17, 18, 19] (by decide +kernel) (by decide +kernel)
set_option maxRecDepth 20000 in
theorem gX1_leastOf_J6_bitCount_0f7a4 : GoodIn wsX1_leastOf (va_wsS RX1 51 yJ6_bitCount_0f7a4 wsJ6_bitCount_0f7a4) := goodIn_app (goodIn_of _ (by decide +kernel)) ggX1_leastOf_J6_bitCount_0f7a4
set_option maxRecDepth 20000 in
theorem ggX1_leastOf_X1_costOfPair : GoodIn wsX1_leastOf wsX1_costOfPair := goodIn_r _ [23, 24, 25, 26, 6, 27, 28, 29, 30, 31, 32, 33, 34, 35, 36] (by decide +kernel) (by decide +kernel)
set_option maxRecDepth 20000 in
theorem gX1_leastOf_X1_costOfPair : GoodIn wsX1_leastOf (wsV RX1 57 RX1 yX1_costOfPair wsX1_costOfPair) := goodIn_app (goodIn_of _ (by decide +kernel)) ggX1_leastOf_X1_costOfPair
theorem dX1_leastOf_0 : decode cX1_leastOf 0 = .ok (.aload_n 0, 1) := by decide +kernel
theorem dX1_leastOf_1 : decode cX1_leastOf 1 = .ok (.iload_n 1, 1) := by decide +kernel
theorem dX1_leastOf_2 : decode cX1_leastOf 2 = .ok (.invokevirtual 48, 3) := by decide +kernel
theorem dX1_leastOf_5 : decode cX1_leastOf 5 = .ok (.istore_n 2, 1) := by decide +kernel
theorem dX1_leastOf_6 : decode cX1_leastOf 6 = .ok (.iload_n 1, 1) := by decide +kernel
theorem dX1_leastOf_7 : decode cX1_leastOf 7 = .ok (.iconst 1, 1) := by decide +kernel
theorem dX1_leastOf_8 : decode cX1_leastOf 8 = .ok (.iload_n 2, 1) := by decide +kernel
theorem dX1_leastOf_9 : decode cX1_leastOf 9 = .ok (.ishl, 1) := by decide +kernel
theorem dX1_leastOf_10 : decode cX1_leastOf 10 = .ok (.ixor, 1) := by decide +kernel
theorem dX1_leastOf_11 : decode cX1_leastOf 11 = .ok (.istore_n 3, 1) := by decide +kernel
theorem dX1_leastOf_12 : decode cX1_leastOf 12 = .ok (.iload_n 1, 1) := by decide +kernel
theorem dX1_leastOf_13 : decode cX1_leastOf 13 = .ok (.invokestatic 51, 3) := by decide +kernel
theorem dX1_leastOf_16 : decode cX1_leastOf 16 = .ok (.iconst 1, 1) := by decide +kernel
theorem dX1_leastOf_17 : decode cX1_leastOf 17 = .ok (.iand, 1) := by decide +kernel
theorem dX1_leastOf_18 : decode cX1_leastOf 18 = .ok (.iconst 1, 1) := by decide +kernel
theorem dX1_leastOf_19 : decode cX1_leastOf 19 = .ok (.if_icmp .ne 7, 3) := by decide +kernel
theorem dX1_leastOf_22 : decode cX1_leastOf 22 = .ok (.iconst 1, 1) := by decide +kernel
theorem dX1_leastOf_23 : decode cX1_leastOf 23 = .ok (.goto 4, 3) := by decide +kernel
theorem dX1_leastOf_26 : decode cX1_leastOf 26 = .ok (.iconst 0, 1) := by decide +kernel
theorem dX1_leastOf_27 : decode cX1_leastOf 27 = .ok (.istore 4, 2) := by decide +kernel
theorem dX1_leastOf_29 : decode cX1_leastOf 29 = .ok (.iload 4, 2) := by decide +kernel
theorem dX1_leastOf_31 : decode cX1_leastOf 31 = .ok (.ifCond .eq 12, 3) := by decide +kernel
theorem dX1_leastOf_34 : decode cX1_leastOf 34 = .ok (.aload_n 0, 1) := by decide +kernel
theorem dX1_leastOf_35 : decode cX1_leastOf 35 = .ok (.getfield 28, 3) := by decide +kernel
theorem dX1_leastOf_38 : decode cX1_leastOf 38 = .ok (.iload_n 3, 1) := by decide +kernel
theorem dX1_leastOf_39 : decode cX1_leastOf 39 = .ok (.iaload, 1) := by decide +kernel
theorem dX1_leastOf_40 : decode cX1_leastOf 40 = .ok (.goto 5, 3) := by decide +kernel
theorem dX1_leastOf_43 : decode cX1_leastOf 43 = .ok (.ldc 56, 2) := by decide +kernel
theorem dX1_leastOf_45 : decode cX1_leastOf 45 = .ok (.istore 5, 2) := by decide +kernel
theorem dX1_leastOf_47 : decode cX1_leastOf 47 = .ok (.iload_n 2, 1) := by decide +kernel
theorem dX1_leastOf_48 : decode cX1_leastOf 48 = .ok (.iconst 1, 1) := by decide +kernel
theorem dX1_leastOf_49 : decode cX1_leastOf 49 = .ok (.iadd, 1) := by decide +kernel
theorem dX1_leastOf_50 : decode cX1_leastOf 50 = .ok (.istore 6, 2) := by decide +kernel
theorem dX1_leastOf_52 : decode cX1_leastOf 52 = .ok (.iload 6, 2) := by decide +kernel
theorem dX1_leastOf_54 : decode cX1_leastOf 54 = .ok (.aload_n 0, 1) := by decide +kernel
theorem dX1_leastOf_55 : decode cX1_leastOf 55 = .ok (.getfield 9, 3) := by decide +kernel
theorem dX1_leastOf_58 : decode cX1_leastOf 58 = .ok (.if_icmp .ge 45, 3) := by decide +kernel
theorem dX1_leastOf_61 : decode cX1_leastOf 61 = .ok (.iload_n 3, 1) := by decide +kernel
theorem dX1_leastOf_62 : decode cX1_leastOf 62 = .ok (.iload 6, 2) := by decide +kernel
theorem dX1_leastOf_64 : decode cX1_leastOf 64 = .ok (.ishr, 1) := by decide +kernel
theorem dX1_leastOf_65 : decode cX1_leastOf 65 = .ok (.iconst 1, 1) := by decide +kernel
theorem dX1_leastOf_66 : decode cX1_leastOf 66 = .ok (.iand, 1) := by decide +kernel
theorem dX1_leastOf_67 : decode cX1_leastOf 67 = .ok (.iconst 1, 1) := by decide +kernel
theorem dX1_leastOf_68 : decode cX1_leastOf 68 = .ok (.if_icmp .ne 29, 3) := by decide +kernel
theorem dX1_leastOf_71 : decode cX1_leastOf 71 = .ok (.iload 5, 2) := by decide +kernel
theorem dX1_leastOf_73 : decode cX1_leastOf 73 = .ok (.aload_n 0, 1) := by decide +kernel
theorem dX1_leastOf_74 : decode cX1_leastOf 74 = .ok (.iload_n 2, 1) := by decide +kernel
theorem dX1_leastOf_75 : decode cX1_leastOf 75 = .ok (.iload 6, 2) := by decide +kernel
theorem dX1_leastOf_77 : decode cX1_leastOf 77 = .ok (.invokevirtual 57, 3) := by decide +kernel
theorem dX1_leastOf_80 : decode cX1_leastOf 80 = .ok (.aload_n 0, 1) := by decide +kernel
theorem dX1_leastOf_81 : decode cX1_leastOf 81 = .ok (.getfield 28, 3) := by decide +kernel
theorem dX1_leastOf_84 : decode cX1_leastOf 84 = .ok (.iload_n 3, 1) := by decide +kernel
theorem dX1_leastOf_85 : decode cX1_leastOf 85 = .ok (.iconst 1, 1) := by decide +kernel
theorem dX1_leastOf_86 : decode cX1_leastOf 86 = .ok (.iload 6, 2) := by decide +kernel
theorem dX1_leastOf_88 : decode cX1_leastOf 88 = .ok (.ishl, 1) := by decide +kernel
theorem dX1_leastOf_89 : decode cX1_leastOf 89 = .ok (.ixor, 1) := by decide +kernel
theorem dX1_leastOf_90 : decode cX1_leastOf 90 = .ok (.iaload, 1) := by decide +kernel
theorem dX1_leastOf_91 : decode cX1_leastOf 91 = .ok (.iadd, 1) := by decide +kernel
theorem dX1_leastOf_92 : decode cX1_leastOf 92 = .ok (.invokestatic 60, 3) := by decide +kernel
theorem dX1_leastOf_95 : decode cX1_leastOf 95 = .ok (.istore 5, 2) := by decide +kernel
theorem dX1_leastOf_97 : decode cX1_leastOf 97 = .ok (.iinc 6 1, 3) := by decide +kernel
theorem dX1_leastOf_100 : decode cX1_leastOf 100 = .ok (.goto (-48), 3) := by decide +kernel
theorem dX1_leastOf_103 : decode cX1_leastOf 103 = .ok (.iload 5, 2) := by decide +kernel
theorem dX1_leastOf_105 : decode cX1_leastOf 105 = .ok (.ireturn, 1) := by decide +kernel
set_option maxRecDepth 20000 in
theorem ggX1_leastMate_X1_costOfPair : GoodIn wsX1_leastMate wsX1_costOfPair := goodIn_r _ [7, 8, 9, 10, 11, 12, 13, 14, 15, 16, 17, 18, 19, 20, 21] (by decide +kernel) (by decide +kernel)
set_option maxRecDepth 20000 in
theorem gX1_leastMate_X1_costOfPair : GoodIn wsX1_leastMate (wsV RX1 57 RX1 yX1_costOfPair wsX1_costOfPair) := goodIn_app (goodIn_of _ (by decide +kernel)) ggX1_leastMate_X1_costOfPair
theorem dX1_leastMate_0 : decode cX1_leastMate 0 = .ok (.iload_n 1, 1) := by decide +kernel
theorem dX1_leastMate_1 : decode cX1_leastMate 1 = .ok (.iconst 1, 1) := by decide +kernel
theorem dX1_leastMate_2 : decode cX1_leastMate 2 = .ok (.iload_n 2, 1) := by decide +kernel
theorem dX1_leastMate_3 : decode cX1_leastMate 3 = .ok (.ishl, 1) := by decide +kernel
theorem dX1_leastMate_4 : decode cX1_leastMate 4 = .ok (.ixor, 1) := by decide +kernel
theorem dX1_leastMate_5 : decode cX1_leastMate 5 = .ok (.istore_n 3, 1) := by decide +kernel
theorem dX1_leastMate_6 : decode cX1_leastMate 6 = .ok (.iload_n 2, 1) := by decide +kernel
theorem dX1_leastMate_7 : decode cX1_leastMate 7 = .ok (.iconst 1, 1) := by decide +kernel
theorem dX1_leastMate_8 : decode cX1_leastMate 8 = .ok (.iadd, 1) := by decide +kernel
theorem dX1_leastMate_9 : decode cX1_leastMate 9 = .ok (.istore 4, 2) := by decide +kernel
theorem dX1_leastMate_11 : decode cX1_leastMate 11 = .ok (.iload 4, 2) := by decide +kernel
theorem dX1_leastMate_13 : decode cX1_leastMate 13 = .ok (.aload_n 0, 1) := by decide +kernel
theorem dX1_leastMate_14 : decode cX1_leastMate 14 = .ok (.getfield 9, 3) := by decide +kernel
theorem dX1_leastMate_17 : decode cX1_leastMate 17 = .ok (.if_icmp .ge 50, 3) := by decide +kernel
theorem dX1_leastMate_20 : decode cX1_leastMate 20 = .ok (.iload_n 3, 1) := by decide +kernel
theorem dX1_leastMate_21 : decode cX1_leastMate 21 = .ok (.iload 4, 2) := by decide +kernel
theorem dX1_leastMate_23 : decode cX1_leastMate 23 = .ok (.ishr, 1) := by decide +kernel
theorem dX1_leastMate_24 : decode cX1_leastMate 24 = .ok (.iconst 1, 1) := by decide +kernel
theorem dX1_leastMate_25 : decode cX1_leastMate 25 = .ok (.iand, 1) := by decide +kernel
theorem dX1_leastMate_26 : decode cX1_leastMate 26 = .ok (.iconst 1, 1) := by decide +kernel
theorem dX1_leastMate_27 : decode cX1_leastMate 27 = .ok (.if_icmp .ne 34, 3) := by decide +kernel
theorem dX1_leastMate_30 : decode cX1_leastMate 30 = .ok (.aload_n 0, 1) := by decide +kernel
theorem dX1_leastMate_31 : decode cX1_leastMate 31 = .ok (.iload_n 2, 1) := by decide +kernel
theorem dX1_leastMate_32 : decode cX1_leastMate 32 = .ok (.iload 4, 2) := by decide +kernel
theorem dX1_leastMate_34 : decode cX1_leastMate 34 = .ok (.invokevirtual 57, 3) := by decide +kernel
theorem dX1_leastMate_37 : decode cX1_leastMate 37 = .ok (.aload_n 0, 1) := by decide +kernel
theorem dX1_leastMate_38 : decode cX1_leastMate 38 = .ok (.getfield 28, 3) := by decide +kernel
theorem dX1_leastMate_41 : decode cX1_leastMate 41 = .ok (.iload_n 3, 1) := by decide +kernel
theorem dX1_leastMate_42 : decode cX1_leastMate 42 = .ok (.iconst 1, 1) := by decide +kernel
theorem dX1_leastMate_43 : decode cX1_leastMate 43 = .ok (.iload 4, 2) := by decide +kernel
theorem dX1_leastMate_45 : decode cX1_leastMate 45 = .ok (.ishl, 1) := by decide +kernel
theorem dX1_leastMate_46 : decode cX1_leastMate 46 = .ok (.ixor, 1) := by decide +kernel
theorem dX1_leastMate_47 : decode cX1_leastMate 47 = .ok (.iaload, 1) := by decide +kernel
theorem dX1_leastMate_48 : decode cX1_leastMate 48 = .ok (.iadd, 1) := by decide +kernel
theorem dX1_leastMate_49 : decode cX1_leastMate 49 = .ok (.aload_n 0, 1) := by decide +kernel
theorem dX1_leastMate_50 : decode cX1_leastMate 50 = .ok (.getfield 28, 3) := by decide +kernel
theorem dX1_leastMate_53 : decode cX1_leastMate 53 = .ok (.iload_n 1, 1) := by decide +kernel
theorem dX1_leastMate_54 : decode cX1_leastMate 54 = .ok (.iaload, 1) := by decide +kernel
theorem dX1_leastMate_55 : decode cX1_leastMate 55 = .ok (.if_icmp .ne 6, 3) := by decide +kernel
theorem dX1_leastMate_58 : decode cX1_leastMate 58 = .ok (.iload 4, 2) := by decide +kernel
theorem dX1_leastMate_60 : decode cX1_leastMate 60 = .ok (.ireturn, 1) := by decide +kernel
theorem dX1_leastMate_61 : decode cX1_leastMate 61 = .ok (.iinc 4 1, 3) := by decide +kernel
theorem dX1_leastMate_64 : decode cX1_leastMate 64 = .ok (.goto (-53), 3) := by decide +kernel
theorem dX1_leastMate_67 : decode cX1_leastMate 67 = .ok (.bipush (-9), 2) := by decide +kernel
theorem dX1_leastMate_69 : decode cX1_leastMate 69 = .ok (.ireturn, 1) := by decide +kernel
theorem dX2_init_0 : decode cX2_init 0 = .ok (.aload_n 0, 1) := by decide +kernel
theorem dX2_init_1 : decode cX2_init 1 = .ok (.invokespecial 3, 3) := by decide +kernel
theorem dX2_init_4 : decode cX2_init 4 = .ok (.aload_n 0, 1) := by decide +kernel
theorem dX2_init_5 : decode cX2_init 5 = .ok (.lconst 0, 1) := by decide +kernel
theorem dX2_init_6 : decode cX2_init 6 = .ok (.putfield 9, 3) := by decide +kernel
theorem dX2_init_9 : decode cX2_init 9 = .ok (.aload_n 0, 1) := by decide +kernel
theorem dX2_init_10 : decode cX2_init 10 = .ok (.lconst 1, 1) := by decide +kernel
theorem dX2_init_11 : decode cX2_init 11 = .ok (.putfield 15, 3) := by decide +kernel
theorem dX2_init_14 : decode cX2_init 14 = .ok (.aload_n 0, 1) := by decide +kernel
theorem dX2_init_15 : decode cX2_init 15 = .ok (.bipush 61, 2) := by decide +kernel
theorem dX2_init_17 : decode cX2_init 17 = .ok (.newarray .long, 2) := by decide +kernel
theorem dX2_init_19 : decode cX2_init 19 = .ok (.putfield 18, 3) := by decide +kernel
theorem dX2_init_22 : decode cX2_init 22 = .ok (.aload_n 0, 1) := by decide +kernel
theorem dX2_init_23 : decode cX2_init 23 = .ok (.bipush 61, 2) := by decide +kernel
theorem dX2_init_25 : decode cX2_init 25 = .ok (.newarray .long, 2) := by decide +kernel
theorem dX2_init_27 : decode cX2_init 27 = .ok (.putfield 22, 3) := by decide +kernel
theorem dX2_init_30 : decode cX2_init 30 = .ok (.return_, 1) := by decide +kernel
set_option maxRecDepth 20000 in
theorem ggX2_reckon_X2_fillChoices : GoodIn wsX2_reckon wsX2_fillChoices := goodIn_r _ [15, 16, 17, 18, 19] (by decide +kernel) (by decide +kernel)
set_option maxRecDepth 20000 in
theorem gX2_reckon_X2_fillChoices : GoodIn wsX2_reckon (va_wsS RX2 25 yX2_fillChoices wsX2_fillChoices) := goodIn_app (goodIn_of _ (by decide +kernel)) ggX2_reckon_X2_fillChoices
set_option maxRecDepth 20000 in
theorem ggX2_reckon_X2_commonOf : GoodIn wsX2_reckon wsX2_commonOf := goodIn_r _ [22] (by decide +kernel) (by decide +kernel)
set_option maxRecDepth 20000 in
theorem gX2_reckon_X2_commonOf : GoodIn wsX2_reckon (va_wsS RX2 38 yX2_commonOf wsX2_commonOf) := goodIn_app (goodIn_of _ (by decide +kernel)) ggX2_reckon_X2_commonOf
theorem dX2_reckon_0 : decode cX2_reckon 0 = .ok (.aload_n 0, 1) := by decide +kernel
theorem dX2_reckon_1 : decode cX2_reckon 1 = .ok (.getfield 18, 3) := by decide +kernel
theorem dX2_reckon_4 : decode cX2_reckon 4 = .ok (.iload_n 3, 1) := by decide +kernel
theorem dX2_reckon_5 : decode cX2_reckon 5 = .ok (.invokestatic 25, 3) := by decide +kernel
theorem dX2_reckon_8 : decode cX2_reckon 8 = .ok (.aload_n 0, 1) := by decide +kernel
theorem dX2_reckon_9 : decode cX2_reckon 9 = .ok (.getfield 22, 3) := by decide +kernel
theorem dX2_reckon_12 : decode cX2_reckon 12 = .ok (.iload_n 1, 1) := by decide +kernel
theorem dX2_reckon_13 : decode cX2_reckon 13 = .ok (.iload_n 3, 1) := by decide +kernel
theorem dX2_reckon_14 : decode cX2_reckon 14 = .ok (.isub, 1) := by decide +kernel
theorem dX2_reckon_15 : decode cX2_reckon 15 = .ok (.invokestatic 25, 3) := by decide +kernel
theorem dX2_reckon_18 : decode cX2_reckon 18 = .ok (.lconst 0, 1) := by decide +kernel
theorem dX2_reckon_19 : decode cX2_reckon 19 = .ok (.lstore 5, 2) := by decide +kernel
theorem dX2_reckon_21 : decode cX2_reckon 21 = .ok (.lconst 0, 1) := by decide +kernel
theorem dX2_reckon_22 : decode cX2_reckon 22 = .ok (.lstore 7, 2) := by decide +kernel
theorem dX2_reckon_24 : decode cX2_reckon 24 = .ok (.iconst 0, 1) := by decide +kernel
theorem dX2_reckon_25 : decode cX2_reckon 25 = .ok (.iload_n 2, 1) := by decide +kernel
theorem dX2_reckon_26 : decode cX2_reckon 26 = .ok (.iload_n 3, 1) := by decide +kernel
theorem dX2_reckon_27 : decode cX2_reckon 27 = .ok (.iadd, 1) := by decide +kernel
theorem dX2_reckon_28 : decode cX2_reckon 28 = .ok (.iload_n 1, 1) := by decide +kernel
theorem dX2_reckon_29 : decode cX2_reckon 29 = .ok (.isub, 1) := by decide +kernel
theorem dX2_reckon_30 : decode cX2_reckon 30 = .ok (.invokestatic 29, 3) := by decide +kernel
theorem dX2_reckon_33 : decode cX2_reckon 33 = .ok (.istore 9, 2) := by decide +kernel
theorem dX2_reckon_35 : decode cX2_reckon 35 = .ok (.iload 9, 2) := by decide +kernel
theorem dX2_reckon_37 : decode cX2_reckon 37 = .ok (.iload_n 2, 1) := by decide +kernel
theorem dX2_reckon_38 : decode cX2_reckon 38 = .ok (.iload_n 3, 1) := by decide +kernel
theorem dX2_reckon_39 : decode cX2_reckon 39 = .ok (.invokestatic 35, 3) := by decide +kernel
theorem dX2_reckon_42 : decode cX2_reckon 42 = .ok (.if_icmp .gt 49, 3) := by decide +kernel
theorem dX2_reckon_45 : decode cX2_reckon 45 = .ok (.aload_n 0, 1) := by decide +kernel
theorem dX2_reckon_46 : decode cX2_reckon 46 = .ok (.getfield 18, 3) := by decide +kernel
theorem dX2_reckon_49 : decode cX2_reckon 49 = .ok (.iload 9, 2) := by decide +kernel
theorem dX2_reckon_51 : decode cX2_reckon 51 = .ok (.laload, 1) := by decide +kernel
theorem dX2_reckon_52 : decode cX2_reckon 52 = .ok (.aload_n 0, 1) := by decide +kernel
theorem dX2_reckon_53 : decode cX2_reckon 53 = .ok (.getfield 22, 3) := by decide +kernel
theorem dX2_reckon_56 : decode cX2_reckon 56 = .ok (.iload_n 2, 1) := by decide +kernel
theorem dX2_reckon_57 : decode cX2_reckon 57 = .ok (.iload 9, 2) := by decide +kernel
theorem dX2_reckon_59 : decode cX2_reckon 59 = .ok (.isub, 1) := by decide +kernel
theorem dX2_reckon_60 : decode cX2_reckon 60 = .ok (.laload, 1) := by decide +kernel
theorem dX2_reckon_61 : decode cX2_reckon 61 = .ok (.lmul, 1) := by decide +kernel
theorem dX2_reckon_62 : decode cX2_reckon 62 = .ok (.lstore 10, 2) := by decide +kernel
theorem dX2_reckon_64 : decode cX2_reckon 64 = .ok (.lload 7, 2) := by decide +kernel
theorem dX2_reckon_66 : decode cX2_reckon 66 = .ok (.lload 10, 2) := by decide +kernel
theorem dX2_reckon_68 : decode cX2_reckon 68 = .ok (.ladd, 1) := by decide +kernel
theorem dX2_reckon_69 : decode cX2_reckon 69 = .ok (.lstore 7, 2) := by decide +kernel
theorem dX2_reckon_71 : decode cX2_reckon 71 = .ok (.iload 9, 2) := by decide +kernel
theorem dX2_reckon_73 : decode cX2_reckon 73 = .ok (.iload 4, 2) := by decide +kernel
theorem dX2_reckon_75 : decode cX2_reckon 75 = .ok (.if_icmp .lt 10, 3) := by decide +kernel
theorem dX2_reckon_78 : decode cX2_reckon 78 = .ok (.lload 5, 2) := by decide +kernel
theorem dX2_reckon_80 : decode cX2_reckon 80 = .ok (.lload 10, 2) := by decide +kernel
theorem dX2_reckon_82 : decode cX2_reckon 82 = .ok (.ladd, 1) := by decide +kernel
theorem dX2_reckon_83 : decode cX2_reckon 83 = .ok (.lstore 5, 2) := by decide +kernel
theorem dX2_reckon_85 : decode cX2_reckon 85 = .ok (.iinc 9 1, 3) := by decide +kernel
theorem dX2_reckon_88 : decode cX2_reckon 88 = .ok (.goto (-53), 3) := by decide +kernel
theorem dX2_reckon_91 : decode cX2_reckon 91 = .ok (.lload 7, 2) := by decide +kernel
theorem dX2_reckon_93 : decode cX2_reckon 93 = .ok (.lload 5, 2) := by decide +kernel
theorem dX2_reckon_95 : decode cX2_reckon 95 = .ok (.invokestatic 38, 3) := by decide +kernel
theorem dX2_reckon_98 : decode cX2_reckon 98 = .ok (.lstore 9, 2) := by decide +kernel
theorem dX2_reckon_100 : decode cX2_reckon 100 = .ok (.lload 9, 2) := by decide +kernel
theorem dX2_reckon_102 : decode cX2_reckon 102 = .ok (.lconst 0, 1) := by decide +kernel
theorem dX2_reckon_103 : decode cX2_reckon 103 = .ok (.lcmp, 1) := by decide +kernel
theorem dX2_reckon_104 : decode cX2_reckon 104 = .ok (.ifCond .le 21, 3) := by decide +kernel
theorem dX2_reckon_107 : decode cX2_reckon 107 = .ok (.aload_n 0, 1) := by decide +kernel
theorem dX2_reckon_108 : decode cX2_reckon 108 = .ok (.lload 5, 2) := by decide +kernel
theorem dX2_reckon_110 : decode cX2_reckon 110 = .ok (.lload 9, 2) := by decide +kernel
theorem dX2_reckon_112 : decode cX2_reckon 112 = .ok (.ldiv, 1) := by decide +kernel
theorem dX2_reckon_113 : decode cX2_reckon 113 = .ok (.putfield 9, 3) := by decide +kernel
theorem dX2_reckon_116 : decode cX2_reckon 116 = .ok (.aload_n 0, 1) := by decide +kernel
theorem dX2_reckon_117 : decode cX2_reckon 117 = .ok (.lload 7, 2) := by decide +kernel
theorem dX2_reckon_119 : decode cX2_reckon 119 = .ok (.lload 9, 2) := by decide +kernel
theorem dX2_reckon_121 : decode cX2_reckon 121 = .ok (.ldiv, 1) := by decide +kernel
theorem dX2_reckon_122 : decode cX2_reckon 122 = .ok (.putfield 15, 3) := by decide +kernel
theorem dX2_reckon_125 : decode cX2_reckon 125 = .ok (.return_, 1) := by decide +kernel
set_option maxRecDepth 20000 in
theorem ggX2_fillChoices_J7_fill_d0a16 : GoodIn wsX2_fillChoices wsJ7_fill_d0a16 := goodIn_r _ [4] (by decide +kernel) (by decide +kernel)
set_option maxRecDepth 20000 in
theorem gX2_fillChoices_J7_fill_d0a16 : GoodIn wsX2_fillChoices (va_wsS RX2 42 yJ7_fill_d0a16 wsJ7_fill_d0a16) := goodIn_app (goodIn_of _ (by decide +kernel)) ggX2_fillChoices_J7_fill_d0a16
theorem dX2_fillChoices_0 : decode cX2_fillChoices 0 = .ok (.aload_n 0, 1) := by decide +kernel
theorem dX2_fillChoices_1 : decode cX2_fillChoices 1 = .ok (.lconst 0, 1) := by decide +kernel
theorem dX2_fillChoices_2 : decode cX2_fillChoices 2 = .ok (.invokestatic 42, 3) := by decide +kernel
theorem dX2_fillChoices_5 : decode cX2_fillChoices 5 = .ok (.aload_n 0, 1) := by decide +kernel
theorem dX2_fillChoices_6 : decode cX2_fillChoices 6 = .ok (.iconst 0, 1) := by decide +kernel
theorem dX2_fillChoices_7 : decode cX2_fillChoices 7 = .ok (.lconst 1, 1) := by decide +kernel
theorem dX2_fillChoices_8 : decode cX2_fillChoices 8 = .ok (.lastore, 1) := by decide +kernel
theorem dX2_fillChoices_9 : decode cX2_fillChoices 9 = .ok (.iconst 1, 1) := by decide +kernel
theorem dX2_fillChoices_10 : decode cX2_fillChoices 10 = .ok (.istore_n 2, 1) := by decide +kernel
theorem dX2_fillChoices_11 : decode cX2_fillChoices 11 = .ok (.iload_n 2, 1) := by decide +kernel
theorem dX2_fillChoices_12 : decode cX2_fillChoices 12 = .ok (.iload_n 1, 1) := by decide +kernel
theorem dX2_fillChoices_13 : decode cX2_fillChoices 13 = .ok (.if_icmp .gt 32, 3) := by decide +kernel
theorem dX2_fillChoices_16 : decode cX2_fillChoices 16 = .ok (.iload_n 2, 1) := by decide +kernel
theorem dX2_fillChoices_17 : decode cX2_fillChoices 17 = .ok (.istore_n 3, 1) := by decide +kernel
theorem dX2_fillChoices_18 : decode cX2_fillChoices 18 = .ok (.iload_n 3, 1) := by decide +kernel
theorem dX2_fillChoices_19 : decode cX2_fillChoices 19 = .ok (.ifCond .le 20, 3) := by decide +kernel
theorem dX2_fillChoices_22 : decode cX2_fillChoices 22 = .ok (.aload_n 0, 1) := by decide +kernel
theorem dX2_fillChoices_23 : decode cX2_fillChoices 23 = .ok (.iload_n 3, 1) := by decide +kernel
theorem dX2_fillChoices_24 : decode cX2_fillChoices 24 = .ok (.dup2, 1) := by decide +kernel
theorem dX2_fillChoices_25 : decode cX2_fillChoices 25 = .ok (.laload, 1) := by decide +kernel
theorem dX2_fillChoices_26 : decode cX2_fillChoices 26 = .ok (.aload_n 0, 1) := by decide +kernel
theorem dX2_fillChoices_27 : decode cX2_fillChoices 27 = .ok (.iload_n 3, 1) := by decide +kernel
theorem dX2_fillChoices_28 : decode cX2_fillChoices 28 = .ok (.iconst 1, 1) := by decide +kernel
theorem dX2_fillChoices_29 : decode cX2_fillChoices 29 = .ok (.isub, 1) := by decide +kernel
theorem dX2_fillChoices_30 : decode cX2_fillChoices 30 = .ok (.laload, 1) := by decide +kernel
theorem dX2_fillChoices_31 : decode cX2_fillChoices 31 = .ok (.ladd, 1) := by decide +kernel
theorem dX2_fillChoices_32 : decode cX2_fillChoices 32 = .ok (.lastore, 1) := by decide +kernel
theorem dX2_fillChoices_33 : decode cX2_fillChoices 33 = .ok (.iinc 3 (-1), 3) := by decide +kernel
theorem dX2_fillChoices_36 : decode cX2_fillChoices 36 = .ok (.goto (-18), 3) := by decide +kernel
theorem dX2_fillChoices_39 : decode cX2_fillChoices 39 = .ok (.iinc 2 1, 3) := by decide +kernel
theorem dX2_fillChoices_42 : decode cX2_fillChoices 42 = .ok (.goto (-31), 3) := by decide +kernel
theorem dX2_fillChoices_45 : decode cX2_fillChoices 45 = .ok (.return_, 1) := by decide +kernel
theorem dX2_commonOf_0 : decode cX2_commonOf 0 = .ok (.lload_n 0, 1) := by decide +kernel
theorem dX2_commonOf_1 : decode cX2_commonOf 1 = .ok (.lstore 4, 2) := by decide +kernel
theorem dX2_commonOf_3 : decode cX2_commonOf 3 = .ok (.lload_n 2, 1) := by decide +kernel
theorem dX2_commonOf_4 : decode cX2_commonOf 4 = .ok (.lstore 6, 2) := by decide +kernel
theorem dX2_commonOf_6 : decode cX2_commonOf 6 = .ok (.iconst 0, 1) := by decide +kernel
theorem dX2_commonOf_7 : decode cX2_commonOf 7 = .ok (.istore 8, 2) := by decide +kernel
theorem dX2_commonOf_9 : decode cX2_commonOf 9 = .ok (.iload 8, 2) := by decide +kernel
theorem dX2_commonOf_11 : decode cX2_commonOf 11 = .ok (.bipush 100, 2) := by decide +kernel
theorem dX2_commonOf_13 : decode cX2_commonOf 13 = .ok (.if_icmp .ge 31, 3) := by decide +kernel
theorem dX2_commonOf_16 : decode cX2_commonOf 16 = .ok (.lload 6, 2) := by decide +kernel
theorem dX2_commonOf_18 : decode cX2_commonOf 18 = .ok (.lconst 0, 1) := by decide +kernel
theorem dX2_commonOf_19 : decode cX2_commonOf 19 = .ok (.lcmp, 1) := by decide +kernel
theorem dX2_commonOf_20 : decode cX2_commonOf 20 = .ok (.ifCond .eq 24, 3) := by decide +kernel
theorem dX2_commonOf_23 : decode cX2_commonOf 23 = .ok (.lload 4, 2) := by decide +kernel
theorem dX2_commonOf_25 : decode cX2_commonOf 25 = .ok (.lload 6, 2) := by decide +kernel
theorem dX2_commonOf_27 : decode cX2_commonOf 27 = .ok (.lrem, 1) := by decide +kernel
theorem dX2_commonOf_28 : decode cX2_commonOf 28 = .ok (.lstore 9, 2) := by decide +kernel
theorem dX2_commonOf_30 : decode cX2_commonOf 30 = .ok (.lload 6, 2) := by decide +kernel
theorem dX2_commonOf_32 : decode cX2_commonOf 32 = .ok (.lstore 4, 2) := by decide +kernel
theorem dX2_commonOf_34 : decode cX2_commonOf 34 = .ok (.lload 9, 2) := by decide +kernel
theorem dX2_commonOf_36 : decode cX2_commonOf 36 = .ok (.lstore 6, 2) := by decide +kernel
theorem dX2_commonOf_38 : decode cX2_commonOf 38 = .ok (.iinc 8 1, 3) := by decide +kernel
theorem dX2_commonOf_41 : decode cX2_commonOf 41 = .ok (.goto (-32), 3) := by decide +kernel
theorem dX2_commonOf_44 : decode cX2_commonOf 44 = .ok (.lload 4, 2) := by decide +kernel
theorem dX2_commonOf_46 : decode cX2_commonOf 46 = .ok (.lreturn, 1) := by decide +kernel
theorem dX3_init_0 : decode cX3_init 0 = .ok (.aload_n 0, 1) := by decide +kernel
theorem dX3_init_1 : decode cX3_init 1 = .ok (.invokespecial 3, 3) := by decide +kernel
theorem dX3_init_4 : decode cX3_init 4 = .ok (.aload_n 0, 1) := by decide +kernel
theorem dX3_init_5 : decode cX3_init 5 = .ok (.bipush 9, 2) := by decide +kernel
theorem dX3_init_7 : decode cX3_init 7 = .ok (.newarray .int, 2) := by decide +kernel
theorem dX3_init_9 : decode cX3_init 9 = .ok (.putfield 9, 3) := by decide +kernel
theorem dX3_init_12 : decode cX3_init 12 = .ok (.return_, 1) := by decide +kernel
set_option maxRecDepth 20000 in
theorem ggX3_setOnly_J7_fill_53178 : GoodIn wsX3_setOnly wsJ7_fill_53178 := goodIn_r _ [5] (by decide +kernel) (by decide +kernel)
set_option maxRecDepth 20000 in
theorem gX3_setOnly_J7_fill_53178 : GoodIn wsX3_setOnly (va_wsS RX3 15 yJ7_fill_53178 wsJ7_fill_53178) := goodIn_app (goodIn_of _ (by decide +kernel)) ggX3_setOnly_J7_fill_53178
set_option maxRecDepth 20000 in
theorem ggX3_setOnly_X7_yOf : GoodIn wsX3_setOnly wsX7_yOf := goodIn_r _ [8] (by decide +kernel) (by decide +kernel)
set_option maxRecDepth 20000 in
theorem gX3_setOnly_X7_yOf_n21 : GoodIn wsX3_setOnly (wsX7_yOf) := ggX3_setOnly_X7_yOf
set_option maxRecDepth 20000 in
theorem ggX3_setOnly_X7_xOf : GoodIn wsX3_setOnly wsX7_xOf := goodIn_r _ [10] (by decide +kernel) (by decide +kernel)
set_option maxRecDepth 20000 in
theorem gX3_setOnly_X7_xOf_n25 : GoodIn wsX3_setOnly (wsX7_xOf) := ggX3_setOnly_X7_xOf
theorem dX3_setOnly_0 : decode cX3_setOnly 0 = .ok (.aload_n 0, 1) := by decide +kernel
theorem dX3_setOnly_1 : decode cX3_setOnly 1 = .ok (.getfield 9, 3) := by decide +kernel
theorem dX3_setOnly_4 : decode cX3_setOnly 4 = .ok (.iconst 0, 1) := by decide +kernel
theorem dX3_setOnly_5 : decode cX3_setOnly 5 = .ok (.invokestatic 15, 3) := by decide +kernel
theorem dX3_setOnly_8 : decode cX3_setOnly 8 = .ok (.aload_n 0, 1) := by decide +kernel
theorem dX3_setOnly_9 : decode cX3_setOnly 9 = .ok (.getfield 9, 3) := by decide +kernel
theorem dX3_setOnly_12 : decode cX3_setOnly 12 = .ok (.iload_n 1, 1) := by decide +kernel
theorem dX3_setOnly_13 : decode cX3_setOnly 13 = .ok (.invokestatic 21, 3) := by decide +kernel
theorem dX3_setOnly_16 : decode cX3_setOnly 16 = .ok (.iconst 1, 1) := by decide +kernel
theorem dX3_setOnly_17 : decode cX3_setOnly 17 = .ok (.iload_n 1, 1) := by decide +kernel
theorem dX3_setOnly_18 : decode cX3_setOnly 18 = .ok (.invokestatic 25, 3) := by decide +kernel
theorem dX3_setOnly_21 : decode cX3_setOnly 21 = .ok (.ishl, 1) := by decide +kernel
theorem dX3_setOnly_22 : decode cX3_setOnly 22 = .ok (.iastore, 1) := by decide +kernel
theorem dX3_setOnly_23 : decode cX3_setOnly 23 = .ok (.return_, 1) := by decide +kernel
set_option maxRecDepth 20000 in
theorem ggX3_has_X7_yOf : GoodIn wsX3_has wsX7_yOf := goodIn_r _ [4] (by decide +kernel) (by decide +kernel)
set_option maxRecDepth 20000 in
theorem gX3_has_X7_yOf_n21 : GoodIn wsX3_has (wsX7_yOf) := ggX3_has_X7_yOf
set_option maxRecDepth 20000 in
theorem ggX3_has_X7_xOf : GoodIn wsX3_has wsX7_xOf := goodIn_r _ [6] (by decide +kernel) (by decide +kernel)
set_option maxRecDepth 20000 in
theorem gX3_has_X7_xOf_n25 : GoodIn wsX3_has (wsX7_xOf) := ggX3_has_X7_xOf
theorem dX3_has_0 : decode cX3_has 0 = .ok (.aload_n 0, 1) := by decide +kernel
theorem dX3_has_1 : decode cX3_has 1 = .ok (.getfield 9, 3) := by decide +kernel
theorem dX3_has_4 : decode cX3_has 4 = .ok (.iload_n 1, 1) := by decide +kernel
theorem dX3_has_5 : decode cX3_has 5 = .ok (.invokestatic 21, 3) := by decide +kernel
theorem dX3_has_8 : decode cX3_has 8 = .ok (.iaload, 1) := by decide +kernel
theorem dX3_has_9 : decode cX3_has 9 = .ok (.iload_n 1, 1) := by decide +kernel
theorem dX3_has_10 : decode cX3_has 10 = .ok (.invokestatic 25, 3) := by decide +kernel
theorem dX3_has_13 : decode cX3_has 13 = .ok (.ishr, 1) := by decide +kernel
theorem dX3_has_14 : decode cX3_has 14 = .ok (.iconst 1, 1) := by decide +kernel
theorem dX3_has_15 : decode cX3_has 15 = .ok (.iand, 1) := by decide +kernel
theorem dX3_has_16 : decode cX3_has 16 = .ok (.iconst 1, 1) := by decide +kernel
theorem dX3_has_17 : decode cX3_has 17 = .ok (.if_icmp .ne 7, 3) := by decide +kernel
theorem dX3_has_20 : decode cX3_has 20 = .ok (.iconst 1, 1) := by decide +kernel
theorem dX3_has_21 : decode cX3_has 21 = .ok (.goto 4, 3) := by decide +kernel
theorem dX3_has_24 : decode cX3_has 24 = .ok (.iconst 0, 1) := by decide +kernel
theorem dX3_has_25 : decode cX3_has 25 = .ok (.ireturn, 1) := by decide +kernel
set_option maxRecDepth 20000 in
theorem ggX3_size_J6_bitCount_0f7a4 : GoodIn wsX3_size wsJ6_bitCount_0f7a4 := goodIn_r _ [5, 6, 7, 8] (by decide +kernel) (by decide +kernel)
set_option maxRecDepth 20000 in
theorem gX3_size_J6_bitCount_0f7a4 : GoodIn wsX3_size (va_wsS RX3 28 yJ6_bitCount_0f7a4 wsJ6_bitCount_0f7a4) := goodIn_app (goodIn_of _ (by decide +kernel)) ggX3_size_J6_bitCount_0f7a4
theorem dX3_size_0 : decode cX3_size 0 = .ok (.iconst 0, 1) := by decide +kernel
theorem dX3_size_1 : decode cX3_size 1 = .ok (.istore_n 2, 1) := by decide +kernel
theorem dX3_size_2 : decode cX3_size 2 = .ok (.iconst 0, 1) := by decide +kernel
theorem dX3_size_3 : decode cX3_size 3 = .ok (.istore_n 3, 1) := by decide +kernel
theorem dX3_size_4 : decode cX3_size 4 = .ok (.iload_n 3, 1) := by decide +kernel
theorem dX3_size_5 : decode cX3_size 5 = .ok (.iload_n 1, 1) := by decide +kernel
theorem dX3_size_6 : decode cX3_size 6 = .ok (.if_icmp .ge 21, 3) := by decide +kernel
theorem dX3_size_9 : decode cX3_size 9 = .ok (.iload_n 2, 1) := by decide +kernel
theorem dX3_size_10 : decode cX3_size 10 = .ok (.aload_n 0, 1) := by decide +kernel
theorem dX3_size_11 : decode cX3_size 11 = .ok (.getfield 9, 3) := by decide +kernel
theorem dX3_size_14 : decode cX3_size 14 = .ok (.iload_n 3, 1) := by decide +kernel
theorem dX3_size_15 : decode cX3_size 15 = .ok (.iaload, 1) := by decide +kernel
theorem dX3_size_16 : decode cX3_size 16 = .ok (.invokestatic 28, 3) := by decide +kernel
theorem dX3_size_19 : decode cX3_size 19 = .ok (.iadd, 1) := by decide +kernel
theorem dX3_size_20 : decode cX3_size 20 = .ok (.istore_n 2, 1) := by decide +kernel
theorem dX3_size_21 : decode cX3_size 21 = .ok (.iinc 3 1, 3) := by decide +kernel
theorem dX3_size_24 : decode cX3_size 24 = .ok (.goto (-20), 3) := by decide +kernel
theorem dX3_size_27 : decode cX3_size 27 = .ok (.iload_n 2, 1) := by decide +kernel
theorem dX3_size_28 : decode cX3_size 28 = .ok (.ireturn, 1) := by decide +kernel
theorem dX3_spread_0 : decode cX3_spread 0 = .ok (.iconst 1, 1) := by decide +kernel
theorem dX3_spread_1 : decode cX3_spread 1 = .ok (.iload_n 1, 1) := by decide +kernel
theorem dX3_spread_2 : decode cX3_spread 2 = .ok (.ishl, 1) := by decide +kernel
theorem dX3_spread_3 : decode cX3_spread 3 = .ok (.iconst 1, 1) := by decide +kernel
theorem dX3_spread_4 : decode cX3_spread 4 = .ok (.isub, 1) := by decide +kernel
theorem dX3_spread_5 : decode cX3_spread 5 = .ok (.istore_n 3, 1) := by decide +kernel
theorem dX3_spread_6 : decode cX3_spread 6 = .ok (.iconst 0, 1) := by decide +kernel
theorem dX3_spread_7 : decode cX3_spread 7 = .ok (.istore 4, 2) := by decide +kernel
theorem dX3_spread_9 : decode cX3_spread 9 = .ok (.iconst 0, 1) := by decide +kernel
theorem dX3_spread_10 : decode cX3_spread 10 = .ok (.istore 5, 2) := by decide +kernel
theorem dX3_spread_12 : decode cX3_spread 12 = .ok (.iload 5, 2) := by decide +kernel
theorem dX3_spread_14 : decode cX3_spread 14 = .ok (.iload_n 2, 1) := by decide +kernel
theorem dX3_spread_15 : decode cX3_spread 15 = .ok (.if_icmp .ge 72, 3) := by decide +kernel
theorem dX3_spread_18 : decode cX3_spread 18 = .ok (.aload_n 0, 1) := by decide +kernel
theorem dX3_spread_19 : decode cX3_spread 19 = .ok (.getfield 9, 3) := by decide +kernel
theorem dX3_spread_22 : decode cX3_spread 22 = .ok (.iload 5, 2) := by decide +kernel
theorem dX3_spread_24 : decode cX3_spread 24 = .ok (.iaload, 1) := by decide +kernel
theorem dX3_spread_25 : decode cX3_spread 25 = .ok (.istore 6, 2) := by decide +kernel
theorem dX3_spread_27 : decode cX3_spread 27 = .ok (.iload 5, 2) := by decide +kernel
theorem dX3_spread_29 : decode cX3_spread 29 = .ok (.iconst 1, 1) := by decide +kernel
theorem dX3_spread_30 : decode cX3_spread 30 = .ok (.iadd, 1) := by decide +kernel
theorem dX3_spread_31 : decode cX3_spread 31 = .ok (.iload_n 2, 1) := by decide +kernel
theorem dX3_spread_32 : decode cX3_spread 32 = .ok (.if_icmp .ge 15, 3) := by decide +kernel
theorem dX3_spread_35 : decode cX3_spread 35 = .ok (.aload_n 0, 1) := by decide +kernel
theorem dX3_spread_36 : decode cX3_spread 36 = .ok (.getfield 9, 3) := by decide +kernel
theorem dX3_spread_39 : decode cX3_spread 39 = .ok (.iload 5, 2) := by decide +kernel
theorem dX3_spread_41 : decode cX3_spread 41 = .ok (.iconst 1, 1) := by decide +kernel
theorem dX3_spread_42 : decode cX3_spread 42 = .ok (.iadd, 1) := by decide +kernel
theorem dX3_spread_43 : decode cX3_spread 43 = .ok (.iaload, 1) := by decide +kernel
theorem dX3_spread_44 : decode cX3_spread 44 = .ok (.goto 4, 3) := by decide +kernel
theorem dX3_spread_47 : decode cX3_spread 47 = .ok (.iconst 0, 1) := by decide +kernel
theorem dX3_spread_48 : decode cX3_spread 48 = .ok (.istore 7, 2) := by decide +kernel
theorem dX3_spread_50 : decode cX3_spread 50 = .ok (.aload_n 0, 1) := by decide +kernel
theorem dX3_spread_51 : decode cX3_spread 51 = .ok (.getfield 9, 3) := by decide +kernel
theorem dX3_spread_54 : decode cX3_spread 54 = .ok (.iload 5, 2) := by decide +kernel
theorem dX3_spread_56 : decode cX3_spread 56 = .ok (.iload 6, 2) := by decide +kernel
theorem dX3_spread_58 : decode cX3_spread 58 = .ok (.iload 6, 2) := by decide +kernel
theorem dX3_spread_60 : decode cX3_spread 60 = .ok (.iconst 1, 1) := by decide +kernel
theorem dX3_spread_61 : decode cX3_spread 61 = .ok (.ishl, 1) := by decide +kernel
theorem dX3_spread_62 : decode cX3_spread 62 = .ok (.ior, 1) := by decide +kernel
theorem dX3_spread_63 : decode cX3_spread 63 = .ok (.iload 6, 2) := by decide +kernel
theorem dX3_spread_65 : decode cX3_spread 65 = .ok (.iconst 1, 1) := by decide +kernel
theorem dX3_spread_66 : decode cX3_spread 66 = .ok (.ishr, 1) := by decide +kernel
theorem dX3_spread_67 : decode cX3_spread 67 = .ok (.ior, 1) := by decide +kernel
theorem dX3_spread_68 : decode cX3_spread 68 = .ok (.iload 4, 2) := by decide +kernel
theorem dX3_spread_70 : decode cX3_spread 70 = .ok (.ior, 1) := by decide +kernel
theorem dX3_spread_71 : decode cX3_spread 71 = .ok (.iload 7, 2) := by decide +kernel
theorem dX3_spread_73 : decode cX3_spread 73 = .ok (.ior, 1) := by decide +kernel
theorem dX3_spread_74 : decode cX3_spread 74 = .ok (.iload_n 3, 1) := by decide +kernel
theorem dX3_spread_75 : decode cX3_spread 75 = .ok (.iand, 1) := by decide +kernel
theorem dX3_spread_76 : decode cX3_spread 76 = .ok (.iastore, 1) := by decide +kernel
theorem dX3_spread_77 : decode cX3_spread 77 = .ok (.iload 6, 2) := by decide +kernel
theorem dX3_spread_79 : decode cX3_spread 79 = .ok (.istore 4, 2) := by decide +kernel
theorem dX3_spread_81 : decode cX3_spread 81 = .ok (.iinc 5 1, 3) := by decide +kernel
theorem dX3_spread_84 : decode cX3_spread 84 = .ok (.goto (-72), 3) := by decide +kernel
theorem dX3_spread_87 : decode cX3_spread 87 = .ok (.return_, 1) := by decide +kernel
set_option maxRecDepth 20000 in
theorem ggX3_removeSeen_X7_yOf : GoodIn wsX3_removeSeen wsX7_yOf := goodIn_r _ [11] (by decide +kernel) (by decide +kernel)
set_option maxRecDepth 20000 in
theorem gX3_removeSeen_X7_yOf_n21 : GoodIn wsX3_removeSeen (wsX7_yOf) := ggX3_removeSeen_X7_yOf
set_option maxRecDepth 20000 in
theorem ggX3_removeSeen_X7_xOf : GoodIn wsX3_removeSeen wsX7_xOf := goodIn_r _ [13] (by decide +kernel) (by decide +kernel)
set_option maxRecDepth 20000 in
theorem gX3_removeSeen_X7_xOf_n25 : GoodIn wsX3_removeSeen (wsX7_xOf) := ggX3_removeSeen_X7_xOf
theorem dX3_removeSeen_0 : decode cX3_removeSeen 0 = .ok (.iconst 0, 1) := by decide +kernel
theorem dX3_removeSeen_1 : decode cX3_removeSeen 1 = .ok (.istore 4, 2) := by decide +kernel
theorem dX3_removeSeen_3 : decode cX3_removeSeen 3 = .ok (.iload 4, 2) := by decide +kernel
theorem dX3_removeSeen_5 : decode cX3_removeSeen 5 = .ok (.iload_n 3, 1) := by decide +kernel
theorem dX3_removeSeen_6 : decode cX3_removeSeen 6 = .ok (.if_icmp .ge 73, 3) := by decide +kernel
theorem dX3_removeSeen_9 : decode cX3_removeSeen 9 = .ok (.iload_n 2, 1) := by decide +kernel
theorem dX3_removeSeen_10 : decode cX3_removeSeen 10 = .ok (.iload 4, 2) := by decide +kernel
theorem dX3_removeSeen_12 : decode cX3_removeSeen 12 = .ok (.iload_n 1, 1) := by decide +kernel
theorem dX3_removeSeen_13 : decode cX3_removeSeen 13 = .ok (.invokestatic 21, 3) := by decide +kernel
theorem dX3_removeSeen_16 : decode cX3_removeSeen 16 = .ok (.isub, 1) := by decide +kernel
theorem dX3_removeSeen_17 : decode cX3_removeSeen 17 = .ok (.invokestatic 33, 3) := by decide +kernel
theorem dX3_removeSeen_20 : decode cX3_removeSeen 20 = .ok (.isub, 1) := by decide +kernel
theorem dX3_removeSeen_21 : decode cX3_removeSeen 21 = .ok (.istore 5, 2) := by decide +kernel
theorem dX3_removeSeen_23 : decode cX3_removeSeen 23 = .ok (.iload 5, 2) := by decide +kernel
theorem dX3_removeSeen_25 : decode cX3_removeSeen 25 = .ok (.ifCond .lt 48, 3) := by decide +kernel
theorem dX3_removeSeen_28 : decode cX3_removeSeen 28 = .ok (.iconst 0, 1) := by decide +kernel
theorem dX3_removeSeen_29 : decode cX3_removeSeen 29 = .ok (.iload_n 1, 1) := by decide +kernel
theorem dX3_removeSeen_30 : decode cX3_removeSeen 30 = .ok (.invokestatic 25, 3) := by decide +kernel
theorem dX3_removeSeen_33 : decode cX3_removeSeen 33 = .ok (.iload 5, 2) := by decide +kernel
theorem dX3_removeSeen_35 : decode cX3_removeSeen 35 = .ok (.isub, 1) := by decide +kernel
theorem dX3_removeSeen_36 : decode cX3_removeSeen 36 = .ok (.invokestatic 38, 3) := by decide +kernel
theorem dX3_removeSeen_39 : decode cX3_removeSeen 39 = .ok (.istore 6, 2) := by decide +kernel
theorem dX3_removeSeen_41 : decode cX3_removeSeen 41 = .ok (.iload_n 1, 1) := by decide +kernel
theorem dX3_removeSeen_42 : decode cX3_removeSeen 42 = .ok (.invokestatic 25, 3) := by decide +kernel
theorem dX3_removeSeen_45 : decode cX3_removeSeen 45 = .ok (.iload 5, 2) := by decide +kernel
theorem dX3_removeSeen_47 : decode cX3_removeSeen 47 = .ok (.iadd, 1) := by decide +kernel
theorem dX3_removeSeen_48 : decode cX3_removeSeen 48 = .ok (.iconst 1, 1) := by decide +kernel
theorem dX3_removeSeen_49 : decode cX3_removeSeen 49 = .ok (.iadd, 1) := by decide +kernel
theorem dX3_removeSeen_50 : decode cX3_removeSeen 50 = .ok (.istore 7, 2) := by decide +kernel
theorem dX3_removeSeen_52 : decode cX3_removeSeen 52 = .ok (.aload_n 0, 1) := by decide +kernel
theorem dX3_removeSeen_53 : decode cX3_removeSeen 53 = .ok (.getfield 9, 3) := by decide +kernel
theorem dX3_removeSeen_56 : decode cX3_removeSeen 56 = .ok (.iload 4, 2) := by decide +kernel
theorem dX3_removeSeen_58 : decode cX3_removeSeen 58 = .ok (.dup2, 1) := by decide +kernel
theorem dX3_removeSeen_59 : decode cX3_removeSeen 59 = .ok (.iaload, 1) := by decide +kernel
theorem dX3_removeSeen_60 : decode cX3_removeSeen 60 = .ok (.iconst 1, 1) := by decide +kernel
theorem dX3_removeSeen_61 : decode cX3_removeSeen 61 = .ok (.iload 7, 2) := by decide +kernel
theorem dX3_removeSeen_63 : decode cX3_removeSeen 63 = .ok (.ishl, 1) := by decide +kernel
theorem dX3_removeSeen_64 : decode cX3_removeSeen 64 = .ok (.iconst 1, 1) := by decide +kernel
theorem dX3_removeSeen_65 : decode cX3_removeSeen 65 = .ok (.iload 6, 2) := by decide +kernel
theorem dX3_removeSeen_67 : decode cX3_removeSeen 67 = .ok (.ishl, 1) := by decide +kernel
theorem dX3_removeSeen_68 : decode cX3_removeSeen 68 = .ok (.isub, 1) := by decide +kernel
theorem dX3_removeSeen_69 : decode cX3_removeSeen 69 = .ok (.iconst (-1), 1) := by decide +kernel
theorem dX3_removeSeen_70 : decode cX3_removeSeen 70 = .ok (.ixor, 1) := by decide +kernel
theorem dX3_removeSeen_71 : decode cX3_removeSeen 71 = .ok (.iand, 1) := by decide +kernel
theorem dX3_removeSeen_72 : decode cX3_removeSeen 72 = .ok (.iastore, 1) := by decide +kernel
theorem dX3_removeSeen_73 : decode cX3_removeSeen 73 = .ok (.iinc 4 1, 3) := by decide +kernel
theorem dX3_removeSeen_76 : decode cX3_removeSeen 76 = .ok (.goto (-73), 3) := by decide +kernel
theorem dX3_removeSeen_79 : decode cX3_removeSeen 79 = .ok (.return_, 1) := by decide +kernel
theorem dX4_init_0 : decode cX4_init 0 = .ok (.aload_n 0, 1) := by decide +kernel
theorem dX4_init_1 : decode cX4_init 1 = .ok (.invokespecial 3, 3) := by decide +kernel
theorem dX4_init_4 : decode cX4_init 4 = .ok (.aload_n 0, 1) := by decide +kernel
theorem dX4_init_5 : decode cX4_init 5 = .ok (.bipush 36, 2) := by decide +kernel
theorem dX4_init_7 : decode cX4_init 7 = .ok (.newarray .int, 2) := by decide +kernel
theorem dX4_init_9 : decode cX4_init 9 = .ok (.putfield 9, 3) := by decide +kernel
theorem dX4_init_12 : decode cX4_init 12 = .ok (.aload_n 0, 1) := by decide +kernel
theorem dX4_init_13 : decode cX4_init 13 = .ok (.sipush 600, 3) := by decide +kernel
theorem dX4_init_16 : decode cX4_init 16 = .ok (.newarray .boolean, 2) := by decide +kernel
theorem dX4_init_18 : decode cX4_init 18 = .ok (.putfield 15, 3) := by decide +kernel
theorem dX4_init_21 : decode cX4_init 21 = .ok (.aload_n 0, 1) := by decide +kernel
theorem dX4_init_22 : decode cX4_init 22 = .ok (.aload_n 1, 1) := by decide +kernel
theorem dX4_init_23 : decode cX4_init 23 = .ok (.putfield 19, 3) := by decide +kernel
theorem dX4_init_26 : decode cX4_init 26 = .ok (.return_, 1) := by decide +kernel
set_option maxRecDepth 20000 in
theorem ggX4_clear_J7_fill_53178 : GoodIn wsX4_clear wsJ7_fill_53178 := goodIn_r _ [6] (by decide +kernel) (by decide +kernel)
set_option maxRecDepth 20000 in
theorem gX4_clear_J7_fill_53178 : GoodIn wsX4_clear (va_wsS RX4 23 yJ7_fill_53178 wsJ7_fill_53178) := goodIn_app (goodIn_of _ (by decide +kernel)) ggX4_clear_J7_fill_53178
theorem dX4_clear_0 : decode cX4_clear 0 = .ok (.aload_n 0, 1) := by decide +kernel
theorem dX4_clear_1 : decode cX4_clear 1 = .ok (.getfield 9, 3) := by decide +kernel
theorem dX4_clear_4 : decode cX4_clear 4 = .ok (.iconst 0, 1) := by decide +kernel
theorem dX4_clear_5 : decode cX4_clear 5 = .ok (.invokestatic 23, 3) := by decide +kernel
theorem dX4_clear_8 : decode cX4_clear 8 = .ok (.iconst 0, 1) := by decide +kernel
theorem dX4_clear_9 : decode cX4_clear 9 = .ok (.istore_n 1, 1) := by decide +kernel
theorem dX4_clear_10 : decode cX4_clear 10 = .ok (.iload_n 1, 1) := by decide +kernel
theorem dX4_clear_11 : decode cX4_clear 11 = .ok (.aload_n 0, 1) := by decide +kernel
theorem dX4_clear_12 : decode cX4_clear 12 = .ok (.getfield 15, 3) := by decide +kernel
theorem dX4_clear_15 : decode cX4_clear 15 = .ok (.arraylength, 1) := by decide +kernel
theorem dX4_clear_16 : decode cX4_clear 16 = .ok (.if_icmp .ge 16, 3) := by decide +kernel
theorem dX4_clear_19 : decode cX4_clear 19 = .ok (.aload_n 0, 1) := by decide +kernel
theorem dX4_clear_20 : decode cX4_clear 20 = .ok (.getfield 15, 3) := by decide +kernel
theorem dX4_clear_23 : decode cX4_clear 23 = .ok (.iload_n 1, 1) := by decide +kernel
theorem dX4_clear_24 : decode cX4_clear 24 = .ok (.iconst 0, 1) := by decide +kernel
theorem dX4_clear_25 : decode cX4_clear 25 = .ok (.bastore, 1) := by decide +kernel
theorem dX4_clear_26 : decode cX4_clear 26 = .ok (.iinc 1 1, 3) := by decide +kernel
theorem dX4_clear_29 : decode cX4_clear 29 = .ok (.goto (-19), 3) := by decide +kernel
theorem dX4_clear_32 : decode cX4_clear 32 = .ok (.return_, 1) := by decide +kernel
theorem dX4_waitOf_0 : decode cX4_waitOf 0 = .ok (.aload_n 0, 1) := by decide +kernel
theorem dX4_waitOf_1 : decode cX4_waitOf 1 = .ok (.getfield 9, 3) := by decide +kernel
theorem dX4_waitOf_4 : decode cX4_waitOf 4 = .ok (.iload_n 1, 1) := by decide +kernel
theorem dX4_waitOf_5 : decode cX4_waitOf 5 = .ok (.bipush 6, 2) := by decide +kernel
theorem dX4_waitOf_7 : decode cX4_waitOf 7 = .ok (.imul, 1) := by decide +kernel
theorem dX4_waitOf_8 : decode cX4_waitOf 8 = .ok (.iload_n 2, 1) := by decide +kernel
theorem dX4_waitOf_9 : decode cX4_waitOf 9 = .ok (.iadd, 1) := by decide +kernel
theorem dX4_waitOf_10 : decode cX4_waitOf 10 = .ok (.iaload, 1) := by decide +kernel
theorem dX4_waitOf_11 : decode cX4_waitOf 11 = .ok (.ireturn, 1) := by decide +kernel
theorem dX4_setWait_0 : decode cX4_setWait 0 = .ok (.aload_n 0, 1) := by decide +kernel
theorem dX4_setWait_1 : decode cX4_setWait 1 = .ok (.getfield 9, 3) := by decide +kernel
theorem dX4_setWait_4 : decode cX4_setWait 4 = .ok (.iload_n 1, 1) := by decide +kernel
theorem dX4_setWait_5 : decode cX4_setWait 5 = .ok (.bipush 6, 2) := by decide +kernel
theorem dX4_setWait_7 : decode cX4_setWait 7 = .ok (.imul, 1) := by decide +kernel
theorem dX4_setWait_8 : decode cX4_setWait 8 = .ok (.iload_n 2, 1) := by decide +kernel
theorem dX4_setWait_9 : decode cX4_setWait 9 = .ok (.iadd, 1) := by decide +kernel
theorem dX4_setWait_10 : decode cX4_setWait 10 = .ok (.iload_n 3, 1) := by decide +kernel
theorem dX4_setWait_11 : decode cX4_setWait 11 = .ok (.iastore, 1) := by decide +kernel
theorem dX4_setWait_12 : decode cX4_setWait 12 = .ok (.aload_n 0, 1) := by decide +kernel
theorem dX4_setWait_13 : decode cX4_setWait 13 = .ok (.getfield 9, 3) := by decide +kernel
theorem dX4_setWait_16 : decode cX4_setWait 16 = .ok (.iload_n 2, 1) := by decide +kernel
theorem dX4_setWait_17 : decode cX4_setWait 17 = .ok (.bipush 6, 2) := by decide +kernel
theorem dX4_setWait_19 : decode cX4_setWait 19 = .ok (.imul, 1) := by decide +kernel
theorem dX4_setWait_20 : decode cX4_setWait 20 = .ok (.iload_n 1, 1) := by decide +kernel
theorem dX4_setWait_21 : decode cX4_setWait 21 = .ok (.iadd, 1) := by decide +kernel
theorem dX4_setWait_22 : decode cX4_setWait 22 = .ok (.iload_n 3, 1) := by decide +kernel
theorem dX4_setWait_23 : decode cX4_setWait 23 = .ok (.iastore, 1) := by decide +kernel
theorem dX4_setWait_24 : decode cX4_setWait 24 = .ok (.return_, 1) := by decide +kernel
theorem dX4_isLost_0 : decode cX4_isLost 0 = .ok (.aload_n 0, 1) := by decide +kernel
theorem dX4_isLost_1 : decode cX4_isLost 1 = .ok (.getfield 15, 3) := by decide +kernel
theorem dX4_isLost_4 : decode cX4_isLost 4 = .ok (.iload_n 1, 1) := by decide +kernel
theorem dX4_isLost_5 : decode cX4_isLost 5 = .ok (.bipush 100, 2) := by decide +kernel
theorem dX4_isLost_7 : decode cX4_isLost 7 = .ok (.imul, 1) := by decide +kernel
theorem dX4_isLost_8 : decode cX4_isLost 8 = .ok (.iload_n 2, 1) := by decide +kernel
theorem dX4_isLost_9 : decode cX4_isLost 9 = .ok (.iadd, 1) := by decide +kernel
theorem dX4_isLost_10 : decode cX4_isLost 10 = .ok (.baload, 1) := by decide +kernel
theorem dX4_isLost_11 : decode cX4_isLost 11 = .ok (.ireturn, 1) := by decide +kernel
theorem dX4_setLost_0 : decode cX4_setLost 0 = .ok (.aload_n 0, 1) := by decide +kernel
theorem dX4_setLost_1 : decode cX4_setLost 1 = .ok (.getfield 15, 3) := by decide +kernel
theorem dX4_setLost_4 : decode cX4_setLost 4 = .ok (.iload_n 1, 1) := by decide +kernel
theorem dX4_setLost_5 : decode cX4_setLost 5 = .ok (.bipush 100, 2) := by decide +kernel
theorem dX4_setLost_7 : decode cX4_setLost 7 = .ok (.imul, 1) := by decide +kernel
theorem dX4_setLost_8 : decode cX4_setLost 8 = .ok (.iload_n 2, 1) := by decide +kernel
theorem dX4_setLost_9 : decode cX4_setLost 9 = .ok (.iadd, 1) := by decide +kernel
theorem dX4_setLost_10 : decode cX4_setLost 10 = .ok (.iload_n 3, 1) := by decide +kernel
theorem dX4_setLost_11 : decode cX4_setLost 11 = .ok (.bastore, 1) := by decide +kernel
theorem dX4_setLost_12 : decode cX4_setLost 12 = .ok (.return_, 1) := by decide +kernel
theorem dX4_lostOnes_0 : decode cX4_lostOnes 0 = .ok (.iconst 0, 1) := by decide +kernel
theorem dX4_lostOnes_1 : decode cX4_lostOnes 1 = .ok (.istore_n 1, 1) := by decide +kernel
theorem dX4_lostOnes_2 : decode cX4_lostOnes 2 = .ok (.iconst 0, 1) := by decide +kernel
theorem dX4_lostOnes_3 : decode cX4_lostOnes 3 = .ok (.istore_n 2, 1) := by decide +kernel
theorem dX4_lostOnes_4 : decode cX4_lostOnes 4 = .ok (.iload_n 2, 1) := by decide +kernel
theorem dX4_lostOnes_5 : decode cX4_lostOnes 5 = .ok (.aload_n 0, 1) := by decide +kernel
theorem dX4_lostOnes_6 : decode cX4_lostOnes 6 = .ok (.getfield 19, 3) := by decide +kernel
theorem dX4_lostOnes_9 : decode cX4_lostOnes 9 = .ok (.getfield 29, 3) := by decide +kernel
theorem dX4_lostOnes_12 : decode cX4_lostOnes 12 = .ok (.bipush 100, 2) := by decide +kernel
theorem dX4_lostOnes_14 : decode cX4_lostOnes 14 = .ok (.imul, 1) := by decide +kernel
theorem dX4_lostOnes_15 : decode cX4_lostOnes 15 = .ok (.if_icmp .ge 21, 3) := by decide +kernel
theorem dX4_lostOnes_18 : decode cX4_lostOnes 18 = .ok (.aload_n 0, 1) := by decide +kernel
theorem dX4_lostOnes_19 : decode cX4_lostOnes 19 = .ok (.getfield 15, 3) := by decide +kernel
theorem dX4_lostOnes_22 : decode cX4_lostOnes 22 = .ok (.iload_n 2, 1) := by decide +kernel
theorem dX4_lostOnes_23 : decode cX4_lostOnes 23 = .ok (.baload, 1) := by decide +kernel
theorem dX4_lostOnes_24 : decode cX4_lostOnes 24 = .ok (.ifCond .eq 6, 3) := by decide +kernel
theorem dX4_lostOnes_27 : decode cX4_lostOnes 27 = .ok (.iinc 1 1, 3) := by decide +kernel
theorem dX4_lostOnes_30 : decode cX4_lostOnes 30 = .ok (.iinc 2 1, 3) := by decide +kernel
theorem dX4_lostOnes_33 : decode cX4_lostOnes 33 = .ok (.goto (-29), 3) := by decide +kernel
theorem dX4_lostOnes_36 : decode cX4_lostOnes 36 = .ok (.iload_n 1, 1) := by decide +kernel
theorem dX4_lostOnes_37 : decode cX4_lostOnes 37 = .ok (.ireturn, 1) := by decide +kernel
theorem dX4_clockOf_0 : decode cX4_clockOf 0 = .ok (.iload 4, 2) := by decide +kernel
theorem dX4_clockOf_2 : decode cX4_clockOf 2 = .ok (.iload_n 1, 1) := by decide +kernel
theorem dX4_clockOf_3 : decode cX4_clockOf 3 = .ok (.isub, 1) := by decide +kernel
theorem dX4_clockOf_4 : decode cX4_clockOf 4 = .ok (.istore 5, 2) := by decide +kernel
theorem dX4_clockOf_6 : decode cX4_clockOf 6 = .ok (.iload_n 2, 1) := by decide +kernel
theorem dX4_clockOf_7 : decode cX4_clockOf 7 = .ok (.iload_n 3, 1) := by decide +kernel
theorem dX4_clockOf_8 : decode cX4_clockOf 8 = .ok (.if_icmp .ne 6, 3) := by decide +kernel
theorem dX4_clockOf_11 : decode cX4_clockOf 11 = .ok (.iload 5, 2) := by decide +kernel
theorem dX4_clockOf_13 : decode cX4_clockOf 13 = .ok (.ireturn, 1) := by decide +kernel
theorem dX4_clockOf_14 : decode cX4_clockOf 14 = .ok (.aload_n 0, 1) := by decide +kernel
theorem dX4_clockOf_15 : decode cX4_clockOf 15 = .ok (.getfield 9, 3) := by decide +kernel
theorem dX4_clockOf_18 : decode cX4_clockOf 18 = .ok (.iload_n 2, 1) := by decide +kernel
theorem dX4_clockOf_19 : decode cX4_clockOf 19 = .ok (.bipush 6, 2) := by decide +kernel
theorem dX4_clockOf_21 : decode cX4_clockOf 21 = .ok (.imul, 1) := by decide +kernel
theorem dX4_clockOf_22 : decode cX4_clockOf 22 = .ok (.iload_n 3, 1) := by decide +kernel
theorem dX4_clockOf_23 : decode cX4_clockOf 23 = .ok (.iadd, 1) := by decide +kernel
theorem dX4_clockOf_24 : decode cX4_clockOf 24 = .ok (.iaload, 1) := by decide +kernel
theorem dX4_clockOf_25 : decode cX4_clockOf 25 = .ok (.istore 6, 2) := by decide +kernel
theorem dX4_clockOf_27 : decode cX4_clockOf 27 = .ok (.iload 5, 2) := by decide +kernel
theorem dX4_clockOf_29 : decode cX4_clockOf 29 = .ok (.aload_n 0, 1) := by decide +kernel
theorem dX4_clockOf_30 : decode cX4_clockOf 30 = .ok (.getfield 15, 3) := by decide +kernel
theorem dX4_clockOf_33 : decode cX4_clockOf 33 = .ok (.iload_n 3, 1) := by decide +kernel
theorem dX4_clockOf_34 : decode cX4_clockOf 34 = .ok (.bipush 100, 2) := by decide +kernel
theorem dX4_clockOf_36 : decode cX4_clockOf 36 = .ok (.imul, 1) := by decide +kernel
theorem dX4_clockOf_37 : decode cX4_clockOf 37 = .ok (.iload 4, 2) := by decide +kernel
theorem dX4_clockOf_39 : decode cX4_clockOf 39 = .ok (.iadd, 1) := by decide +kernel
theorem dX4_clockOf_40 : decode cX4_clockOf 40 = .ok (.baload, 1) := by decide +kernel
theorem dX4_clockOf_41 : decode cX4_clockOf 41 = .ok (.ifCond .eq 12, 3) := by decide +kernel
theorem dX4_clockOf_44 : decode cX4_clockOf 44 = .ok (.iconst 3, 1) := by decide +kernel
theorem dX4_clockOf_45 : decode cX4_clockOf 45 = .ok (.iload 6, 2) := by decide +kernel
theorem dX4_clockOf_47 : decode cX4_clockOf 47 = .ok (.imul, 1) := by decide +kernel
theorem dX4_clockOf_48 : decode cX4_clockOf 48 = .ok (.iconst 1, 1) := by decide +kernel
theorem dX4_clockOf_49 : decode cX4_clockOf 49 = .ok (.iadd, 1) := by decide +kernel
theorem dX4_clockOf_50 : decode cX4_clockOf 50 = .ok (.goto 5, 3) := by decide +kernel
theorem dX4_clockOf_53 : decode cX4_clockOf 53 = .ok (.iload 6, 2) := by decide +kernel
theorem dX4_clockOf_55 : decode cX4_clockOf 55 = .ok (.iadd, 1) := by decide +kernel
theorem dX4_clockOf_56 : decode cX4_clockOf 56 = .ok (.ireturn, 1) := by decide +kernel
set_option maxRecDepth 20000 in
theorem ggX4_allKnown_X4_isKnown : GoodIn wsX4_allKnown wsX4_isKnown := goodIn_r _ [7, 1, 8, 9, 10, 11, 12, 13, 14, 15, 16, 17, 6, 18, 19, 20, 21, 22, 23, 24, 25, 26, 27, 28, 29, 30] (by decide +kernel) (by decide +kernel)
set_option maxRecDepth 20000 in
theorem gX4_allKnown_X4_isKnown : GoodIn wsX4_allKnown (wsV RX4 35 RX4 yX4_isKnown wsX4_isKnown) := goodIn_app (goodIn_of _ (by decide +kernel)) ggX4_allKnown_X4_isKnown
theorem dX4_allKnown_0 : decode cX4_allKnown 0 = .ok (.iconst 0, 1) := by decide +kernel
theorem dX4_allKnown_1 : decode cX4_allKnown 1 = .ok (.istore 5, 2) := by decide +kernel
theorem dX4_allKnown_3 : decode cX4_allKnown 3 = .ok (.iload 5, 2) := by decide +kernel
theorem dX4_allKnown_5 : decode cX4_allKnown 5 = .ok (.aload_n 0, 1) := by decide +kernel
theorem dX4_allKnown_6 : decode cX4_allKnown 6 = .ok (.getfield 19, 3) := by decide +kernel
theorem dX4_allKnown_9 : decode cX4_allKnown 9 = .ok (.getfield 29, 3) := by decide +kernel
theorem dX4_allKnown_12 : decode cX4_allKnown 12 = .ok (.if_icmp .ge 25, 3) := by decide +kernel
theorem dX4_allKnown_15 : decode cX4_allKnown 15 = .ok (.aload_n 0, 1) := by decide +kernel
theorem dX4_allKnown_16 : decode cX4_allKnown 16 = .ok (.iload_n 1, 1) := by decide +kernel
theorem dX4_allKnown_17 : decode cX4_allKnown 17 = .ok (.iload_n 2, 1) := by decide +kernel
theorem dX4_allKnown_18 : decode cX4_allKnown 18 = .ok (.iload_n 3, 1) := by decide +kernel
theorem dX4_allKnown_19 : decode cX4_allKnown 19 = .ok (.iload 5, 2) := by decide +kernel
theorem dX4_allKnown_21 : decode cX4_allKnown 21 = .ok (.iload 4, 2) := by decide +kernel
theorem dX4_allKnown_23 : decode cX4_allKnown 23 = .ok (.invokevirtual 35, 3) := by decide +kernel
theorem dX4_allKnown_26 : decode cX4_allKnown 26 = .ok (.ifCond .ne 5, 3) := by decide +kernel
theorem dX4_allKnown_29 : decode cX4_allKnown 29 = .ok (.iconst 0, 1) := by decide +kernel
theorem dX4_allKnown_30 : decode cX4_allKnown 30 = .ok (.ireturn, 1) := by decide +kernel
theorem dX4_allKnown_31 : decode cX4_allKnown 31 = .ok (.iinc 5 1, 3) := by decide +kernel
theorem dX4_allKnown_34 : decode cX4_allKnown 34 = .ok (.goto (-31), 3) := by decide +kernel
theorem dX4_allKnown_37 : decode cX4_allKnown 37 = .ok (.iconst 1, 1) := by decide +kernel
theorem dX4_allKnown_38 : decode cX4_allKnown 38 = .ok (.ireturn, 1) := by decide +kernel
set_option maxRecDepth 20000 in
theorem ggX4_taken_X4_isKnown : GoodIn wsX4_taken wsX4_isKnown := goodIn_r _ [6, 1, 7, 8, 9, 10, 11, 12, 13, 14, 15, 16, 5, 17, 18, 19, 29, 30, 31, 32, 33, 34, 35, 36, 37, 38] (by decide +kernel) (by decide +kernel)
set_option maxRecDepth 20000 in
theorem gX4_taken_X4_isKnown : GoodIn wsX4_taken (wsV RX4 35 RX4 yX4_isKnown wsX4_isKnown) := goodIn_app (goodIn_of _ (by decide +kernel)) ggX4_taken_X4_isKnown
set_option maxRecDepth 20000 in
theorem ggX4_taken_X5_pressOf : GoodIn wsX4_taken wsX5_pressOf := goodIn_r _ [23, 24, 32, 33, 34, 35, 36, 37, 38] (by decide +kernel) (by decide +kernel)
set_option maxRecDepth 20000 in
theorem gX4_taken_X5_pressOf : GoodIn wsX4_taken (wsV RX4 39 RX5 yX5_pressOf wsX5_pressOf) := goodIn_app (goodIn_of _ (by decide +kernel)) ggX4_taken_X5_pressOf
set_option maxRecDepth 20000 in
theorem ggX4_taken_X4_guessed : GoodIn wsX4_taken wsX4_guessed := goodIn_r _ [28, 1, 2, 3, 4, 5, 6, 7, 8, 9, 10, 11, 12, 13, 14, 15, 16, 17, 18, 19, 20, 21, 22, 23, 24, 29, 30, 31, 32, 33, 34, 35, 36, 37, 38] (by decide +kernel) (by decide +kernel)
set_option maxRecDepth 20000 in
theorem gX4_taken_X4_guessed : GoodIn wsX4_taken (wsV RX4 43 RX4 yX4_guessed wsX4_guessed) := goodIn_app (goodIn_of _ (by decide +kernel)) ggX4_taken_X4_guessed
theorem dX4_taken_0 : decode cX4_taken 0 = .ok (.aload_n 0, 1) := by decide +kernel
theorem dX4_taken_1 : decode cX4_taken 1 = .ok (.iload_n 1, 1) := by decide +kernel
theorem dX4_taken_2 : decode cX4_taken 2 = .ok (.iload_n 2, 1) := by decide +kernel
theorem dX4_taken_3 : decode cX4_taken 3 = .ok (.iload_n 3, 1) := by decide +kernel
theorem dX4_taken_4 : decode cX4_taken 4 = .ok (.iload 4, 2) := by decide +kernel
theorem dX4_taken_6 : decode cX4_taken 6 = .ok (.iload 5, 2) := by decide +kernel
theorem dX4_taken_8 : decode cX4_taken 8 = .ok (.invokevirtual 35, 3) := by decide +kernel
theorem dX4_taken_11 : decode cX4_taken 11 = .ok (.ifCond .eq 15, 3) := by decide +kernel
theorem dX4_taken_14 : decode cX4_taken 14 = .ok (.aload_n 0, 1) := by decide +kernel
theorem dX4_taken_15 : decode cX4_taken 15 = .ok (.getfield 19, 3) := by decide +kernel
theorem dX4_taken_18 : decode cX4_taken 18 = .ok (.iload 4, 2) := by decide +kernel
theorem dX4_taken_20 : decode cX4_taken 20 = .ok (.iload 5, 2) := by decide +kernel
theorem dX4_taken_22 : decode cX4_taken 22 = .ok (.invokevirtual 39, 3) := by decide +kernel
theorem dX4_taken_25 : decode cX4_taken 25 = .ok (.ireturn, 1) := by decide +kernel
theorem dX4_taken_26 : decode cX4_taken 26 = .ok (.aload_n 0, 1) := by decide +kernel
theorem dX4_taken_27 : decode cX4_taken 27 = .ok (.iload_n 1, 1) := by decide +kernel
theorem dX4_taken_28 : decode cX4_taken 28 = .ok (.iload_n 2, 1) := by decide +kernel
theorem dX4_taken_29 : decode cX4_taken 29 = .ok (.iload_n 3, 1) := by decide +kernel
theorem dX4_taken_30 : decode cX4_taken 30 = .ok (.iload 4, 2) := by decide +kernel
theorem dX4_taken_32 : decode cX4_taken 32 = .ok (.iload 5, 2) := by decide +kernel
theorem dX4_taken_34 : decode cX4_taken 34 = .ok (.invokevirtual 43, 3) := by decide +kernel
theorem dX4_taken_37 : decode cX4_taken 37 = .ok (.ireturn, 1) := by decide +kernel
set_option maxRecDepth 20000 in
theorem ggX4_goneBack_X4_waitOf : GoodIn wsX4_goneBack wsX4_waitOf := goodIn_r _ [11, 12, 42, 43, 44] (by decide +kernel) (by decide +kernel)
set_option maxRecDepth 20000 in
theorem gX4_goneBack_X4_waitOf : GoodIn wsX4_goneBack (wsV RX4 47 RX4 yX4_waitOf wsX4_waitOf) := goodIn_app (goodIn_of _ (by decide +kernel)) ggX4_goneBack_X4_waitOf
set_option maxRecDepth 20000 in
theorem ggX4_goneBack_X4_backBy : GoodIn wsX4_goneBack wsX4_backBy := goodIn_r _ [16, 1, 17, 18, 19, 20, 21, 22, 23, 24, 25, 26, 10, 27, 12, 28, 29, 30, 31, 32, 33, 34, 35, 36, 37, 38, 39, 40, 41, 42, 43, 44, 45, 46, 47, 48, 49, 50, 51] (by decide +kernel) (by decide +kernel)
set_option maxRecDepth 20000 in
theorem gX4_goneBack_X4_backBy : GoodIn wsX4_goneBack (wsV RX4 50 RX4 yX4_backBy wsX4_backBy) := goodIn_app (goodIn_of _ (by decide +kernel)) ggX4_goneBack_X4_backBy
theorem dX4_goneBack_0 : decode cX4_goneBack 0 = .ok (.iconst 0, 1) := by decide +kernel
theorem dX4_goneBack_1 : decode cX4_goneBack 1 = .ok (.istore 4, 2) := by decide +kernel
theorem dX4_goneBack_3 : decode cX4_goneBack 3 = .ok (.iconst 0, 1) := by decide +kernel
theorem dX4_goneBack_4 : decode cX4_goneBack 4 = .ok (.istore 5, 2) := by decide +kernel
theorem dX4_goneBack_6 : decode cX4_goneBack 6 = .ok (.iload 5, 2) := by decide +kernel
theorem dX4_goneBack_8 : decode cX4_goneBack 8 = .ok (.aload_n 0, 1) := by decide +kernel
theorem dX4_goneBack_9 : decode cX4_goneBack 9 = .ok (.getfield 19, 3) := by decide +kernel
theorem dX4_goneBack_12 : decode cX4_goneBack 12 = .ok (.getfield 29, 3) := by decide +kernel
theorem dX4_goneBack_15 : decode cX4_goneBack 15 = .ok (.if_icmp .ge 69, 3) := by decide +kernel
theorem dX4_goneBack_18 : decode cX4_goneBack 18 = .ok (.aload_n 0, 1) := by decide +kernel
theorem dX4_goneBack_19 : decode cX4_goneBack 19 = .ok (.iload_n 2, 1) := by decide +kernel
theorem dX4_goneBack_20 : decode cX4_goneBack 20 = .ok (.iload 5, 2) := by decide +kernel
theorem dX4_goneBack_22 : decode cX4_goneBack 22 = .ok (.invokevirtual 47, 3) := by decide +kernel
theorem dX4_goneBack_25 : decode cX4_goneBack 25 = .ok (.istore 6, 2) := by decide +kernel
theorem dX4_goneBack_27 : decode cX4_goneBack 27 = .ok (.iload_n 3, 1) := by decide +kernel
theorem dX4_goneBack_28 : decode cX4_goneBack 28 = .ok (.iload_n 1, 1) := by decide +kernel
theorem dX4_goneBack_29 : decode cX4_goneBack 29 = .ok (.iadd, 1) := by decide +kernel
theorem dX4_goneBack_30 : decode cX4_goneBack 30 = .ok (.istore 7, 2) := by decide +kernel
theorem dX4_goneBack_32 : decode cX4_goneBack 32 = .ok (.iload 4, 2) := by decide +kernel
theorem dX4_goneBack_34 : decode cX4_goneBack 34 = .ok (.aload_n 0, 1) := by decide +kernel
theorem dX4_goneBack_35 : decode cX4_goneBack 35 = .ok (.iload_n 1, 1) := by decide +kernel
theorem dX4_goneBack_36 : decode cX4_goneBack 36 = .ok (.iload_n 2, 1) := by decide +kernel
theorem dX4_goneBack_37 : decode cX4_goneBack 37 = .ok (.iload_n 3, 1) := by decide +kernel
theorem dX4_goneBack_38 : decode cX4_goneBack 38 = .ok (.iload 5, 2) := by decide +kernel
theorem dX4_goneBack_40 : decode cX4_goneBack 40 = .ok (.iload 7, 2) := by decide +kernel
theorem dX4_goneBack_42 : decode cX4_goneBack 42 = .ok (.iload 6, 2) := by decide +kernel
theorem dX4_goneBack_44 : decode cX4_goneBack 44 = .ok (.isub, 1) := by decide +kernel
theorem dX4_goneBack_45 : decode cX4_goneBack 45 = .ok (.invokevirtual 50, 3) := by decide +kernel
theorem dX4_goneBack_48 : decode cX4_goneBack 48 = .ok (.invokestatic 53, 3) := by decide +kernel
theorem dX4_goneBack_51 : decode cX4_goneBack 51 = .ok (.istore 4, 2) := by decide +kernel
theorem dX4_goneBack_53 : decode cX4_goneBack 53 = .ok (.iload 4, 2) := by decide +kernel
theorem dX4_goneBack_55 : decode cX4_goneBack 55 = .ok (.aload_n 0, 1) := by decide +kernel
theorem dX4_goneBack_56 : decode cX4_goneBack 56 = .ok (.iload_n 1, 1) := by decide +kernel
theorem dX4_goneBack_57 : decode cX4_goneBack 57 = .ok (.iload_n 2, 1) := by decide +kernel
theorem dX4_goneBack_58 : decode cX4_goneBack 58 = .ok (.iload_n 3, 1) := by decide +kernel
theorem dX4_goneBack_59 : decode cX4_goneBack 59 = .ok (.iload 5, 2) := by decide +kernel
theorem dX4_goneBack_61 : decode cX4_goneBack 61 = .ok (.iload 7, 2) := by decide +kernel
theorem dX4_goneBack_63 : decode cX4_goneBack 63 = .ok (.iconst 3, 1) := by decide +kernel
theorem dX4_goneBack_64 : decode cX4_goneBack 64 = .ok (.iload 6, 2) := by decide +kernel
theorem dX4_goneBack_66 : decode cX4_goneBack 66 = .ok (.imul, 1) := by decide +kernel
theorem dX4_goneBack_67 : decode cX4_goneBack 67 = .ok (.isub, 1) := by decide +kernel
theorem dX4_goneBack_68 : decode cX4_goneBack 68 = .ok (.iconst 1, 1) := by decide +kernel
theorem dX4_goneBack_69 : decode cX4_goneBack 69 = .ok (.isub, 1) := by decide +kernel
theorem dX4_goneBack_70 : decode cX4_goneBack 70 = .ok (.invokevirtual 50, 3) := by decide +kernel
theorem dX4_goneBack_73 : decode cX4_goneBack 73 = .ok (.invokestatic 53, 3) := by decide +kernel
theorem dX4_goneBack_76 : decode cX4_goneBack 76 = .ok (.istore 4, 2) := by decide +kernel
theorem dX4_goneBack_78 : decode cX4_goneBack 78 = .ok (.iinc 5 1, 3) := by decide +kernel
theorem dX4_goneBack_81 : decode cX4_goneBack 81 = .ok (.goto (-75), 3) := by decide +kernel
theorem dX4_goneBack_84 : decode cX4_goneBack 84 = .ok (.iload 4, 2) := by decide +kernel
theorem dX4_goneBack_86 : decode cX4_goneBack 86 = .ok (.ireturn, 1) := by decide +kernel
set_option maxRecDepth 20000 in
theorem ggX4_backBy_X5_isLeft : GoodIn wsX4_backBy wsX5_isLeft := goodIn_r _ [6, 7, 8, 32, 33, 34, 35, 36, 37, 38] (by decide +kernel) (by decide +kernel)
set_option maxRecDepth 20000 in
theorem gX4_backBy_X5_isLeft : GoodIn wsX4_backBy (wsV RX4 58 RX5 yX5_isLeft wsX5_isLeft) := goodIn_app (goodIn_of _ (by decide +kernel)) ggX4_backBy_X5_isLeft
set_option maxRecDepth 20000 in
theorem ggX4_backBy_X4_clockOf : GoodIn wsX4_backBy wsX4_clockOf := goodIn_r _ [13, 14, 15, 29, 30, 31] (by decide +kernel) (by decide +kernel)
set_option maxRecDepth 20000 in
theorem gX4_backBy_X4_clockOf : GoodIn wsX4_backBy (wsV RX4 62 RX4 yX4_clockOf wsX4_clockOf) := goodIn_app (goodIn_of _ (by decide +kernel)) ggX4_backBy_X4_clockOf
set_option maxRecDepth 20000 in
theorem ggX4_backBy_X4_guessed : GoodIn wsX4_backBy wsX4_guessed := goodIn_r _ [19, 1, 20, 21, 22, 12, 23, 2, 3, 4, 5, 6, 7, 8, 9, 10, 11, 13, 14, 15, 24, 25, 26, 27, 28, 29, 30, 31, 32, 33, 34, 35, 36, 37, 38] (by decide +kernel) (by decide +kernel)
set_option maxRecDepth 20000 in
theorem gX4_backBy_X4_guessed : GoodIn wsX4_backBy (wsV RX4 43 RX4 yX4_guessed wsX4_guessed) := goodIn_app (goodIn_of _ (by decide +kernel)) ggX4_backBy_X4_guessed
set_option maxRecDepth 20000 in
theorem ggX4_backBy_X5_pressOf : GoodIn wsX4_backBy wsX5_pressOf := goodIn_r _ [27, 28, 32, 33, 34, 35, 36, 37, 38] (by decide +kernel) (by decide +kernel)
set_option maxRecDepth 20000 in
theorem gX4_backBy_X5_pressOf : GoodIn wsX4_backBy (wsV RX4 39 RX5 yX5_pressOf wsX5_pressOf) := goodIn_app (goodIn_of _ (by decide +kernel)) ggX4_backBy_X5_pressOf
theorem dX4_backBy_0 : decode cX4_backBy 0 = .ok (.iload 5, 2) := by decide +kernel
theorem dX4_backBy_2 : decode cX4_backBy 2 = .ok (.ifCond .lt 23, 3) := by decide +kernel
theorem dX4_backBy_5 : decode cX4_backBy 5 = .ok (.iload 5, 2) := by decide +kernel
theorem dX4_backBy_7 : decode cX4_backBy 7 = .ok (.iload_n 3, 1) := by decide +kernel
theorem dX4_backBy_8 : decode cX4_backBy 8 = .ok (.if_icmp .ge 17, 3) := by decide +kernel
theorem dX4_backBy_11 : decode cX4_backBy 11 = .ok (.aload_n 0, 1) := by decide +kernel
theorem dX4_backBy_12 : decode cX4_backBy 12 = .ok (.getfield 19, 3) := by decide +kernel
theorem dX4_backBy_15 : decode cX4_backBy 15 = .ok (.iload 4, 2) := by decide +kernel
theorem dX4_backBy_17 : decode cX4_backBy 17 = .ok (.iload 5, 2) := by decide +kernel
theorem dX4_backBy_19 : decode cX4_backBy 19 = .ok (.invokevirtual 58, 3) := by decide +kernel
theorem dX4_backBy_22 : decode cX4_backBy 22 = .ok (.ifCond .eq 5, 3) := by decide +kernel
theorem dX4_backBy_25 : decode cX4_backBy 25 = .ok (.iconst 0, 1) := by decide +kernel
theorem dX4_backBy_26 : decode cX4_backBy 26 = .ok (.ireturn, 1) := by decide +kernel
theorem dX4_backBy_27 : decode cX4_backBy 27 = .ok (.aload_n 0, 1) := by decide +kernel
theorem dX4_backBy_28 : decode cX4_backBy 28 = .ok (.iload_n 1, 1) := by decide +kernel
theorem dX4_backBy_29 : decode cX4_backBy 29 = .ok (.iload_n 2, 1) := by decide +kernel
theorem dX4_backBy_30 : decode cX4_backBy 30 = .ok (.iload 4, 2) := by decide +kernel
theorem dX4_backBy_32 : decode cX4_backBy 32 = .ok (.iload 5, 2) := by decide +kernel
theorem dX4_backBy_34 : decode cX4_backBy 34 = .ok (.invokevirtual 62, 3) := by decide +kernel
theorem dX4_backBy_37 : decode cX4_backBy 37 = .ok (.iload_n 3, 1) := by decide +kernel
theorem dX4_backBy_38 : decode cX4_backBy 38 = .ok (.if_icmp .eq 5, 3) := by decide +kernel
theorem dX4_backBy_41 : decode cX4_backBy 41 = .ok (.iconst 0, 1) := by decide +kernel
theorem dX4_backBy_42 : decode cX4_backBy 42 = .ok (.ireturn, 1) := by decide +kernel
theorem dX4_backBy_43 : decode cX4_backBy 43 = .ok (.aload_n 0, 1) := by decide +kernel
theorem dX4_backBy_44 : decode cX4_backBy 44 = .ok (.iload_n 1, 1) := by decide +kernel
theorem dX4_backBy_45 : decode cX4_backBy 45 = .ok (.iload_n 2, 1) := by decide +kernel
theorem dX4_backBy_46 : decode cX4_backBy 46 = .ok (.iload_n 3, 1) := by decide +kernel
theorem dX4_backBy_47 : decode cX4_backBy 47 = .ok (.iconst 1, 1) := by decide +kernel
theorem dX4_backBy_48 : decode cX4_backBy 48 = .ok (.isub, 1) := by decide +kernel
theorem dX4_backBy_49 : decode cX4_backBy 49 = .ok (.iload 4, 2) := by decide +kernel
theorem dX4_backBy_51 : decode cX4_backBy 51 = .ok (.iload 5, 2) := by decide +kernel
theorem dX4_backBy_53 : decode cX4_backBy 53 = .ok (.invokevirtual 43, 3) := by decide +kernel
theorem dX4_backBy_56 : decode cX4_backBy 56 = .ok (.istore 6, 2) := by decide +kernel
theorem dX4_backBy_58 : decode cX4_backBy 58 = .ok (.iload 6, 2) := by decide +kernel
theorem dX4_backBy_60 : decode cX4_backBy 60 = .ok (.aload_n 0, 1) := by decide +kernel
theorem dX4_backBy_61 : decode cX4_backBy 61 = .ok (.getfield 19, 3) := by decide +kernel
theorem dX4_backBy_64 : decode cX4_backBy 64 = .ok (.iload 4, 2) := by decide +kernel
theorem dX4_backBy_66 : decode cX4_backBy 66 = .ok (.iload 5, 2) := by decide +kernel
theorem dX4_backBy_68 : decode cX4_backBy 68 = .ok (.invokevirtual 39, 3) := by decide +kernel
theorem dX4_backBy_71 : decode cX4_backBy 71 = .ok (.if_icmp .ne 7, 3) := by decide +kernel
theorem dX4_backBy_74 : decode cX4_backBy 74 = .ok (.iconst 0, 1) := by decide +kernel
theorem dX4_backBy_75 : decode cX4_backBy 75 = .ok (.goto 7, 3) := by decide +kernel
theorem dX4_backBy_78 : decode cX4_backBy 78 = .ok (.iload_n 3, 1) := by decide +kernel
theorem dX4_backBy_79 : decode cX4_backBy 79 = .ok (.iload 5, 2) := by decide +kernel
theorem dX4_backBy_81 : decode cX4_backBy 81 = .ok (.isub, 1) := by decide +kernel
theorem dX4_backBy_82 : decode cX4_backBy 82 = .ok (.ireturn, 1) := by decide +kernel
set_option maxRecDepth 20000 in
theorem ggX4_isKnown_X5_isLeft : GoodIn wsX4_isKnown wsX5_isLeft := goodIn_r _ [6, 7, 8, 19, 20, 21, 22, 23, 24, 25] (by decide +kernel) (by decide +kernel)
set_option maxRecDepth 20000 in
theorem gX4_isKnown_X5_isLeft : GoodIn wsX4_isKnown (wsV RX4 58 RX5 yX5_isLeft wsX5_isLeft) := goodIn_app (goodIn_of _ (by decide +kernel)) ggX4_isKnown_X5_isLeft
set_option maxRecDepth 20000 in
theorem ggX4_isKnown_X4_clockOf : GoodIn wsX4_isKnown wsX4_clockOf := goodIn_r _ [13, 14, 15, 16, 17, 18] (by decide +kernel) (by decide +kernel)
set_option maxRecDepth 20000 in
theorem gX4_isKnown_X4_clockOf : GoodIn wsX4_isKnown (wsV RX4 62 RX4 yX4_clockOf wsX4_clockOf) := goodIn_app (goodIn_of _ (by decide +kernel)) ggX4_isKnown_X4_clockOf
theorem dX4_isKnown_0 : decode cX4_isKnown 0 = .ok (.aload_n 0, 1) := by decide +kernel
theorem dX4_isKnown_1 : decode cX4_isKnown 1 = .ok (.getfield 19, 3) := by decide +kernel
theorem dX4_isKnown_4 : decode cX4_isKnown 4 = .ok (.iload 4, 2) := by decide +kernel
theorem dX4_isKnown_6 : decode cX4_isKnown 6 = .ok (.iload 5, 2) := by decide +kernel
theorem dX4_isKnown_8 : decode cX4_isKnown 8 = .ok (.invokevirtual 58, 3) := by decide +kernel
theorem dX4_isKnown_11 : decode cX4_isKnown 11 = .ok (.ifCond .ne 17, 3) := by decide +kernel
theorem dX4_isKnown_14 : decode cX4_isKnown 14 = .ok (.aload_n 0, 1) := by decide +kernel
theorem dX4_isKnown_15 : decode cX4_isKnown 15 = .ok (.iload_n 1, 1) := by decide +kernel
theorem dX4_isKnown_16 : decode cX4_isKnown 16 = .ok (.iload_n 2, 1) := by decide +kernel
theorem dX4_isKnown_17 : decode cX4_isKnown 17 = .ok (.iload 4, 2) := by decide +kernel
theorem dX4_isKnown_19 : decode cX4_isKnown 19 = .ok (.iload 5, 2) := by decide +kernel
theorem dX4_isKnown_21 : decode cX4_isKnown 21 = .ok (.invokevirtual 62, 3) := by decide +kernel
theorem dX4_isKnown_24 : decode cX4_isKnown 24 = .ok (.iload_n 3, 1) := by decide +kernel
theorem dX4_isKnown_25 : decode cX4_isKnown 25 = .ok (.if_icmp .gt 7, 3) := by decide +kernel
theorem dX4_isKnown_28 : decode cX4_isKnown 28 = .ok (.iconst 1, 1) := by decide +kernel
theorem dX4_isKnown_29 : decode cX4_isKnown 29 = .ok (.goto 4, 3) := by decide +kernel
theorem dX4_isKnown_32 : decode cX4_isKnown 32 = .ok (.iconst 0, 1) := by decide +kernel
theorem dX4_isKnown_33 : decode cX4_isKnown 33 = .ok (.ireturn, 1) := by decide +kernel
set_option maxRecDepth 20000 in
theorem ggX4_guessed_X4_isKnown : GoodIn wsX4_guessed wsX4_isKnown := goodIn_r _ [6, 1, 7, 8, 9, 10, 11, 12, 13, 14, 15, 16, 5, 17, 18, 19, 25, 26, 27, 28, 29, 30, 31, 32, 33, 34] (by decide +kernel) (by decide +kernel)
set_option maxRecDepth 20000 in
theorem gX4_guessed_X4_isKnown : GoodIn wsX4_guessed (wsV RX4 35 RX4 yX4_isKnown wsX4_isKnown) := goodIn_app (goodIn_of _ (by decide +kernel)) ggX4_guessed_X4_isKnown
set_option maxRecDepth 20000 in
theorem ggX4_guessed_X5_isLeft : GoodIn wsX4_guessed wsX5_isLeft := goodIn_r _ [11, 12, 13, 28, 29, 30, 31, 32, 33, 34] (by decide +kernel) (by decide +kernel)
set_option maxRecDepth 20000 in
theorem gX4_guessed_X5_isLeft : GoodIn wsX4_guessed (wsV RX4 58 RX5 yX5_isLeft wsX5_isLeft) := goodIn_app (goodIn_of _ (by decide +kernel)) ggX4_guessed_X5_isLeft
set_option maxRecDepth 20000 in
theorem ggX4_guessed_X5_pressOf : GoodIn wsX4_guessed wsX5_pressOf := goodIn_r _ [23, 24, 28, 29, 30, 31, 32, 33, 34] (by decide +kernel) (by decide +kernel)
set_option maxRecDepth 20000 in
theorem gX4_guessed_X5_pressOf : GoodIn wsX4_guessed (wsV RX4 39 RX5 yX5_pressOf wsX5_pressOf) := goodIn_app (goodIn_of _ (by decide +kernel)) ggX4_guessed_X5_pressOf
theorem dX4_guessed_0 : decode cX4_guessed 0 = .ok (.iload 5, 2) := by decide +kernel
theorem dX4_guessed_2 : decode cX4_guessed 2 = .ok (.iconst 1, 1) := by decide +kernel
theorem dX4_guessed_3 : decode cX4_guessed 3 = .ok (.isub, 1) := by decide +kernel
theorem dX4_guessed_4 : decode cX4_guessed 4 = .ok (.istore 6, 2) := by decide +kernel
theorem dX4_guessed_6 : decode cX4_guessed 6 = .ok (.iload 6, 2) := by decide +kernel
theorem dX4_guessed_8 : decode cX4_guessed 8 = .ok (.ifCond .lt 53, 3) := by decide +kernel
theorem dX4_guessed_11 : decode cX4_guessed 11 = .ok (.aload_n 0, 1) := by decide +kernel
theorem dX4_guessed_12 : decode cX4_guessed 12 = .ok (.iload_n 1, 1) := by decide +kernel
theorem dX4_guessed_13 : decode cX4_guessed 13 = .ok (.iload_n 2, 1) := by decide +kernel
theorem dX4_guessed_14 : decode cX4_guessed 14 = .ok (.iload_n 3, 1) := by decide +kernel
theorem dX4_guessed_15 : decode cX4_guessed 15 = .ok (.iload 4, 2) := by decide +kernel
theorem dX4_guessed_17 : decode cX4_guessed 17 = .ok (.iload 6, 2) := by decide +kernel
theorem dX4_guessed_19 : decode cX4_guessed 19 = .ok (.invokevirtual 35, 3) := by decide +kernel
theorem dX4_guessed_22 : decode cX4_guessed 22 = .ok (.ifCond .eq 33, 3) := by decide +kernel
theorem dX4_guessed_25 : decode cX4_guessed 25 = .ok (.aload_n 0, 1) := by decide +kernel
theorem dX4_guessed_26 : decode cX4_guessed 26 = .ok (.getfield 19, 3) := by decide +kernel
theorem dX4_guessed_29 : decode cX4_guessed 29 = .ok (.iload 4, 2) := by decide +kernel
theorem dX4_guessed_31 : decode cX4_guessed 31 = .ok (.iload 6, 2) := by decide +kernel
theorem dX4_guessed_33 : decode cX4_guessed 33 = .ok (.invokevirtual 58, 3) := by decide +kernel
theorem dX4_guessed_36 : decode cX4_guessed 36 = .ok (.ifCond .eq 7, 3) := by decide +kernel
theorem dX4_guessed_39 : decode cX4_guessed 39 = .ok (.iconst 0, 1) := by decide +kernel
theorem dX4_guessed_40 : decode cX4_guessed 40 = .ok (.goto 14, 3) := by decide +kernel
theorem dX4_guessed_43 : decode cX4_guessed 43 = .ok (.aload_n 0, 1) := by decide +kernel
theorem dX4_guessed_44 : decode cX4_guessed 44 = .ok (.getfield 19, 3) := by decide +kernel
theorem dX4_guessed_47 : decode cX4_guessed 47 = .ok (.iload 4, 2) := by decide +kernel
theorem dX4_guessed_49 : decode cX4_guessed 49 = .ok (.iload 6, 2) := by decide +kernel
theorem dX4_guessed_51 : decode cX4_guessed 51 = .ok (.invokevirtual 39, 3) := by decide +kernel
theorem dX4_guessed_54 : decode cX4_guessed 54 = .ok (.ireturn, 1) := by decide +kernel
theorem dX4_guessed_55 : decode cX4_guessed 55 = .ok (.iinc 6 (-1), 3) := by decide +kernel
theorem dX4_guessed_58 : decode cX4_guessed 58 = .ok (.goto (-52), 3) := by decide +kernel
theorem dX4_guessed_61 : decode cX4_guessed 61 = .ok (.iconst 0, 1) := by decide +kernel
theorem dX4_guessed_62 : decode cX4_guessed 62 = .ok (.ireturn, 1) := by decide +kernel
theorem dX5_init_0 : decode cX5_init 0 = .ok (.aload_n 0, 1) := by decide +kernel
theorem dX5_init_1 : decode cX5_init 1 = .ok (.invokespecial 3, 3) := by decide +kernel
theorem dX5_init_4 : decode cX5_init 4 = .ok (.aload_n 0, 1) := by decide +kernel
theorem dX5_init_5 : decode cX5_init 5 = .ok (.iconst 5, 1) := by decide +kernel
theorem dX5_init_6 : decode cX5_init 6 = .ok (.putfield 9, 3) := by decide +kernel
theorem dX5_init_9 : decode cX5_init 9 = .ok (.aload_n 0, 1) := by decide +kernel
theorem dX5_init_10 : decode cX5_init 10 = .ok (.iconst 5, 1) := by decide +kernel
theorem dX5_init_11 : decode cX5_init 11 = .ok (.putfield 15, 3) := by decide +kernel
theorem dX5_init_14 : decode cX5_init 14 = .ok (.aload_n 0, 1) := by decide +kernel
theorem dX5_init_15 : decode cX5_init 15 = .ok (.iconst 2, 1) := by decide +kernel
theorem dX5_init_16 : decode cX5_init 16 = .ok (.putfield 18, 3) := by decide +kernel
theorem dX5_init_19 : decode cX5_init 19 = .ok (.aload_n 0, 1) := by decide +kernel
theorem dX5_init_20 : decode cX5_init 20 = .ok (.bipush 7, 2) := by decide +kernel
theorem dX5_init_22 : decode cX5_init 22 = .ok (.newarray .int, 2) := by decide +kernel
theorem dX5_init_24 : decode cX5_init 24 = .ok (.dup, 1) := by decide +kernel
theorem dX5_init_25 : decode cX5_init 25 = .ok (.iconst 0, 1) := by decide +kernel
theorem dX5_init_26 : decode cX5_init 26 = .ok (.iconst 2, 1) := by decide +kernel
theorem dX5_init_27 : decode cX5_init 27 = .ok (.iastore, 1) := by decide +kernel
theorem dX5_init_28 : decode cX5_init 28 = .ok (.dup, 1) := by decide +kernel
theorem dX5_init_29 : decode cX5_init 29 = .ok (.iconst 1, 1) := by decide +kernel
theorem dX5_init_30 : decode cX5_init 30 = .ok (.iconst 0, 1) := by decide +kernel
theorem dX5_init_31 : decode cX5_init 31 = .ok (.iastore, 1) := by decide +kernel
theorem dX5_init_32 : decode cX5_init 32 = .ok (.dup, 1) := by decide +kernel
theorem dX5_init_33 : decode cX5_init 33 = .ok (.iconst 2, 1) := by decide +kernel
theorem dX5_init_34 : decode cX5_init 34 = .ok (.iconst 0, 1) := by decide +kernel
theorem dX5_init_35 : decode cX5_init 35 = .ok (.iastore, 1) := by decide +kernel
theorem dX5_init_36 : decode cX5_init 36 = .ok (.dup, 1) := by decide +kernel
theorem dX5_init_37 : decode cX5_init 37 = .ok (.iconst 3, 1) := by decide +kernel
theorem dX5_init_38 : decode cX5_init 38 = .ok (.iconst 0, 1) := by decide +kernel
theorem dX5_init_39 : decode cX5_init 39 = .ok (.iastore, 1) := by decide +kernel
theorem dX5_init_40 : decode cX5_init 40 = .ok (.dup, 1) := by decide +kernel
theorem dX5_init_41 : decode cX5_init 41 = .ok (.iconst 4, 1) := by decide +kernel
theorem dX5_init_42 : decode cX5_init 42 = .ok (.iconst 5, 1) := by decide +kernel
theorem dX5_init_43 : decode cX5_init 43 = .ok (.iastore, 1) := by decide +kernel
theorem dX5_init_44 : decode cX5_init 44 = .ok (.dup, 1) := by decide +kernel
theorem dX5_init_45 : decode cX5_init 45 = .ok (.iconst 5, 1) := by decide +kernel
theorem dX5_init_46 : decode cX5_init 46 = .ok (.iconst 1, 1) := by decide +kernel
theorem dX5_init_47 : decode cX5_init 47 = .ok (.iastore, 1) := by decide +kernel
theorem dX5_init_48 : decode cX5_init 48 = .ok (.dup, 1) := by decide +kernel
theorem dX5_init_49 : decode cX5_init 49 = .ok (.bipush 6, 2) := by decide +kernel
theorem dX5_init_51 : decode cX5_init 51 = .ok (.bipush 9, 2) := by decide +kernel
theorem dX5_init_53 : decode cX5_init 53 = .ok (.iastore, 1) := by decide +kernel
theorem dX5_init_54 : decode cX5_init 54 = .ok (.putfield 21, 3) := by decide +kernel
theorem dX5_init_57 : decode cX5_init 57 = .ok (.aload_n 0, 1) := by decide +kernel
theorem dX5_init_58 : decode cX5_init 58 = .ok (.sipush 600, 3) := by decide +kernel
theorem dX5_init_61 : decode cX5_init 61 = .ok (.newarray .int, 2) := by decide +kernel
theorem dX5_init_63 : decode cX5_init 63 = .ok (.putfield 25, 3) := by decide +kernel
theorem dX5_init_66 : decode cX5_init 66 = .ok (.aload_n 0, 1) := by decide +kernel
theorem dX5_init_67 : decode cX5_init 67 = .ok (.bipush 6, 2) := by decide +kernel
theorem dX5_init_69 : decode cX5_init 69 = .ok (.newarray .int, 2) := by decide +kernel
theorem dX5_init_71 : decode cX5_init 71 = .ok (.putfield 28, 3) := by decide +kernel
theorem dX5_init_74 : decode cX5_init 74 = .ok (.aload_n 0, 1) := by decide +kernel
theorem dX5_init_75 : decode cX5_init 75 = .ok (.bipush 6, 2) := by decide +kernel
theorem dX5_init_77 : decode cX5_init 77 = .ok (.newarray .int, 2) := by decide +kernel
theorem dX5_init_79 : decode cX5_init 79 = .ok (.putfield 31, 3) := by decide +kernel
theorem dX5_init_82 : decode cX5_init 82 = .ok (.return_, 1) := by decide +kernel
set_option maxRecDepth 20000 in
theorem ggX5_clear_J7_fill_53178 : GoodIn wsX5_clear wsJ7_fill_53178 := goodIn_r _ [10] (by decide +kernel) (by decide +kernel)
set_option maxRecDepth 20000 in
theorem gX5_clear_J7_fill_53178 : GoodIn wsX5_clear (va_wsS RX5 34 yJ7_fill_53178 wsJ7_fill_53178) := goodIn_app (goodIn_of _ (by decide +kernel)) ggX5_clear_J7_fill_53178
theorem dX5_clear_0 : decode cX5_clear 0 = .ok (.aload_n 0, 1) := by decide +kernel
theorem dX5_clear_1 : decode cX5_clear 1 = .ok (.iload_n 1, 1) := by decide +kernel
theorem dX5_clear_2 : decode cX5_clear 2 = .ok (.putfield 9, 3) := by decide +kernel
theorem dX5_clear_5 : decode cX5_clear 5 = .ok (.aload_n 0, 1) := by decide +kernel
theorem dX5_clear_6 : decode cX5_clear 6 = .ok (.iload_n 2, 1) := by decide +kernel
theorem dX5_clear_7 : decode cX5_clear 7 = .ok (.putfield 15, 3) := by decide +kernel
theorem dX5_clear_10 : decode cX5_clear 10 = .ok (.aload_n 0, 1) := by decide +kernel
theorem dX5_clear_11 : decode cX5_clear 11 = .ok (.iload_n 3, 1) := by decide +kernel
theorem dX5_clear_12 : decode cX5_clear 12 = .ok (.putfield 18, 3) := by decide +kernel
theorem dX5_clear_15 : decode cX5_clear 15 = .ok (.aload_n 0, 1) := by decide +kernel
theorem dX5_clear_16 : decode cX5_clear 16 = .ok (.getfield 25, 3) := by decide +kernel
theorem dX5_clear_19 : decode cX5_clear 19 = .ok (.iconst 0, 1) := by decide +kernel
theorem dX5_clear_20 : decode cX5_clear 20 = .ok (.invokestatic 34, 3) := by decide +kernel
theorem dX5_clear_23 : decode cX5_clear 23 = .ok (.aload_n 0, 1) := by decide +kernel
theorem dX5_clear_24 : decode cX5_clear 24 = .ok (.getfield 28, 3) := by decide +kernel
theorem dX5_clear_27 : decode cX5_clear 27 = .ok (.iconst 0, 1) := by decide +kernel
theorem dX5_clear_28 : decode cX5_clear 28 = .ok (.invokestatic 34, 3) := by decide +kernel
theorem dX5_clear_31 : decode cX5_clear 31 = .ok (.aload_n 0, 1) := by decide +kernel
theorem dX5_clear_32 : decode cX5_clear 32 = .ok (.getfield 31, 3) := by decide +kernel
theorem dX5_clear_35 : decode cX5_clear 35 = .ok (.iconst 0, 1) := by decide +kernel
theorem dX5_clear_36 : decode cX5_clear 36 = .ok (.invokestatic 34, 3) := by decide +kernel
theorem dX5_clear_39 : decode cX5_clear 39 = .ok (.return_, 1) := by decide +kernel
theorem dX5_copyFrom_0 : decode cX5_copyFrom 0 = .ok (.aload_n 0, 1) := by decide +kernel
theorem dX5_copyFrom_1 : decode cX5_copyFrom 1 = .ok (.aload_n 1, 1) := by decide +kernel
theorem dX5_copyFrom_2 : decode cX5_copyFrom 2 = .ok (.getfield 9, 3) := by decide +kernel
theorem dX5_copyFrom_5 : decode cX5_copyFrom 5 = .ok (.putfield 9, 3) := by decide +kernel
theorem dX5_copyFrom_8 : decode cX5_copyFrom 8 = .ok (.aload_n 0, 1) := by decide +kernel
theorem dX5_copyFrom_9 : decode cX5_copyFrom 9 = .ok (.aload_n 1, 1) := by decide +kernel
theorem dX5_copyFrom_10 : decode cX5_copyFrom 10 = .ok (.getfield 15, 3) := by decide +kernel
theorem dX5_copyFrom_13 : decode cX5_copyFrom 13 = .ok (.putfield 15, 3) := by decide +kernel
theorem dX5_copyFrom_16 : decode cX5_copyFrom 16 = .ok (.aload_n 0, 1) := by decide +kernel
theorem dX5_copyFrom_17 : decode cX5_copyFrom 17 = .ok (.aload_n 1, 1) := by decide +kernel
theorem dX5_copyFrom_18 : decode cX5_copyFrom 18 = .ok (.getfield 18, 3) := by decide +kernel
theorem dX5_copyFrom_21 : decode cX5_copyFrom 21 = .ok (.putfield 18, 3) := by decide +kernel
theorem dX5_copyFrom_24 : decode cX5_copyFrom 24 = .ok (.aload_n 1, 1) := by decide +kernel
theorem dX5_copyFrom_25 : decode cX5_copyFrom 25 = .ok (.getfield 21, 3) := by decide +kernel
theorem dX5_copyFrom_28 : decode cX5_copyFrom 28 = .ok (.iconst 0, 1) := by decide +kernel
theorem dX5_copyFrom_29 : decode cX5_copyFrom 29 = .ok (.aload_n 0, 1) := by decide +kernel
theorem dX5_copyFrom_30 : decode cX5_copyFrom 30 = .ok (.getfield 21, 3) := by decide +kernel
theorem dX5_copyFrom_33 : decode cX5_copyFrom 33 = .ok (.iconst 0, 1) := by decide +kernel
theorem dX5_copyFrom_34 : decode cX5_copyFrom 34 = .ok (.iconst 3, 1) := by decide +kernel
theorem dX5_copyFrom_35 : decode cX5_copyFrom 35 = .ok (.invokestatic 40, 3) := by decide +kernel
theorem dX5_copyFrom_38 : decode cX5_copyFrom 38 = .ok (.aload_n 1, 1) := by decide +kernel
theorem dX5_copyFrom_39 : decode cX5_copyFrom 39 = .ok (.getfield 25, 3) := by decide +kernel
theorem dX5_copyFrom_42 : decode cX5_copyFrom 42 = .ok (.iconst 0, 1) := by decide +kernel
theorem dX5_copyFrom_43 : decode cX5_copyFrom 43 = .ok (.aload_n 0, 1) := by decide +kernel
theorem dX5_copyFrom_44 : decode cX5_copyFrom 44 = .ok (.getfield 25, 3) := by decide +kernel
theorem dX5_copyFrom_47 : decode cX5_copyFrom 47 = .ok (.iconst 0, 1) := by decide +kernel
theorem dX5_copyFrom_48 : decode cX5_copyFrom 48 = .ok (.aload_n 0, 1) := by decide +kernel
theorem dX5_copyFrom_49 : decode cX5_copyFrom 49 = .ok (.getfield 25, 3) := by decide +kernel
theorem dX5_copyFrom_52 : decode cX5_copyFrom 52 = .ok (.arraylength, 1) := by decide +kernel
theorem dX5_copyFrom_53 : decode cX5_copyFrom 53 = .ok (.invokestatic 40, 3) := by decide +kernel
theorem dX5_copyFrom_56 : decode cX5_copyFrom 56 = .ok (.aload_n 1, 1) := by decide +kernel
theorem dX5_copyFrom_57 : decode cX5_copyFrom 57 = .ok (.getfield 28, 3) := by decide +kernel
theorem dX5_copyFrom_60 : decode cX5_copyFrom 60 = .ok (.iconst 0, 1) := by decide +kernel
theorem dX5_copyFrom_61 : decode cX5_copyFrom 61 = .ok (.aload_n 0, 1) := by decide +kernel
theorem dX5_copyFrom_62 : decode cX5_copyFrom 62 = .ok (.getfield 28, 3) := by decide +kernel
theorem dX5_copyFrom_65 : decode cX5_copyFrom 65 = .ok (.iconst 0, 1) := by decide +kernel
theorem dX5_copyFrom_66 : decode cX5_copyFrom 66 = .ok (.aload_n 0, 1) := by decide +kernel
theorem dX5_copyFrom_67 : decode cX5_copyFrom 67 = .ok (.getfield 28, 3) := by decide +kernel
theorem dX5_copyFrom_70 : decode cX5_copyFrom 70 = .ok (.arraylength, 1) := by decide +kernel
theorem dX5_copyFrom_71 : decode cX5_copyFrom 71 = .ok (.invokestatic 40, 3) := by decide +kernel
theorem dX5_copyFrom_74 : decode cX5_copyFrom 74 = .ok (.aload_n 1, 1) := by decide +kernel
theorem dX5_copyFrom_75 : decode cX5_copyFrom 75 = .ok (.getfield 31, 3) := by decide +kernel
theorem dX5_copyFrom_78 : decode cX5_copyFrom 78 = .ok (.iconst 0, 1) := by decide +kernel
theorem dX5_copyFrom_79 : decode cX5_copyFrom 79 = .ok (.aload_n 0, 1) := by decide +kernel
theorem dX5_copyFrom_80 : decode cX5_copyFrom 80 = .ok (.getfield 31, 3) := by decide +kernel
theorem dX5_copyFrom_83 : decode cX5_copyFrom 83 = .ok (.iconst 0, 1) := by decide +kernel
theorem dX5_copyFrom_84 : decode cX5_copyFrom 84 = .ok (.aload_n 0, 1) := by decide +kernel
theorem dX5_copyFrom_85 : decode cX5_copyFrom 85 = .ok (.getfield 31, 3) := by decide +kernel
theorem dX5_copyFrom_88 : decode cX5_copyFrom 88 = .ok (.arraylength, 1) := by decide +kernel
theorem dX5_copyFrom_89 : decode cX5_copyFrom 89 = .ok (.invokestatic 40, 3) := by decide +kernel
theorem dX5_copyFrom_92 : decode cX5_copyFrom 92 = .ok (.return_, 1) := by decide +kernel
theorem dX5_pressOf_0 : decode cX5_pressOf 0 = .ok (.aload_n 0, 1) := by decide +kernel
theorem dX5_pressOf_1 : decode cX5_pressOf 1 = .ok (.getfield 25, 3) := by decide +kernel
theorem dX5_pressOf_4 : decode cX5_pressOf 4 = .ok (.iload_n 1, 1) := by decide +kernel
theorem dX5_pressOf_5 : decode cX5_pressOf 5 = .ok (.bipush 100, 2) := by decide +kernel
theorem dX5_pressOf_7 : decode cX5_pressOf 7 = .ok (.imul, 1) := by decide +kernel
theorem dX5_pressOf_8 : decode cX5_pressOf 8 = .ok (.iload_n 2, 1) := by decide +kernel
theorem dX5_pressOf_9 : decode cX5_pressOf 9 = .ok (.iadd, 1) := by decide +kernel
theorem dX5_pressOf_10 : decode cX5_pressOf 10 = .ok (.iaload, 1) := by decide +kernel
theorem dX5_pressOf_11 : decode cX5_pressOf 11 = .ok (.ireturn, 1) := by decide +kernel
theorem dX5_setPress_0 : decode cX5_setPress 0 = .ok (.aload_n 0, 1) := by decide +kernel
theorem dX5_setPress_1 : decode cX5_setPress 1 = .ok (.getfield 25, 3) := by decide +kernel
theorem dX5_setPress_4 : decode cX5_setPress 4 = .ok (.iload_n 1, 1) := by decide +kernel
theorem dX5_setPress_5 : decode cX5_setPress 5 = .ok (.bipush 100, 2) := by decide +kernel
theorem dX5_setPress_7 : decode cX5_setPress 7 = .ok (.imul, 1) := by decide +kernel
theorem dX5_setPress_8 : decode cX5_setPress 8 = .ok (.iload_n 2, 1) := by decide +kernel
theorem dX5_setPress_9 : decode cX5_setPress 9 = .ok (.iadd, 1) := by decide +kernel
theorem dX5_setPress_10 : decode cX5_setPress 10 = .ok (.iload_n 3, 1) := by decide +kernel
theorem dX5_setPress_11 : decode cX5_setPress 11 = .ok (.iastore, 1) := by decide +kernel
theorem dX5_setPress_12 : decode cX5_setPress 12 = .ok (.return_, 1) := by decide +kernel
theorem dX5_isLeft_0 : decode cX5_isLeft 0 = .ok (.iload_n 2, 1) := by decide +kernel
theorem dX5_isLeft_1 : decode cX5_isLeft 1 = .ok (.aload_n 0, 1) := by decide +kernel
theorem dX5_isLeft_2 : decode cX5_isLeft 2 = .ok (.getfield 28, 3) := by decide +kernel
theorem dX5_isLeft_5 : decode cX5_isLeft 5 = .ok (.iload_n 1, 1) := by decide +kernel
theorem dX5_isLeft_6 : decode cX5_isLeft 6 = .ok (.iaload, 1) := by decide +kernel
theorem dX5_isLeft_7 : decode cX5_isLeft 7 = .ok (.if_icmp .lt 17, 3) := by decide +kernel
theorem dX5_isLeft_10 : decode cX5_isLeft 10 = .ok (.iload_n 2, 1) := by decide +kernel
theorem dX5_isLeft_11 : decode cX5_isLeft 11 = .ok (.aload_n 0, 1) := by decide +kernel
theorem dX5_isLeft_12 : decode cX5_isLeft 12 = .ok (.getfield 31, 3) := by decide +kernel
theorem dX5_isLeft_15 : decode cX5_isLeft 15 = .ok (.iload_n 1, 1) := by decide +kernel
theorem dX5_isLeft_16 : decode cX5_isLeft 16 = .ok (.iaload, 1) := by decide +kernel
theorem dX5_isLeft_17 : decode cX5_isLeft 17 = .ok (.if_icmp .ge 7, 3) := by decide +kernel
theorem dX5_isLeft_20 : decode cX5_isLeft 20 = .ok (.iconst 1, 1) := by decide +kernel
theorem dX5_isLeft_21 : decode cX5_isLeft 21 = .ok (.goto 4, 3) := by decide +kernel
theorem dX5_isLeft_24 : decode cX5_isLeft 24 = .ok (.iconst 0, 1) := by decide +kernel
theorem dX5_isLeft_25 : decode cX5_isLeft 25 = .ok (.ireturn, 1) := by decide +kernel
set_option maxRecDepth 20000 in
theorem ggX5_fillPresses_X5_pressOf : GoodIn wsX5_fillPresses wsX5_pressOf := goodIn_r _ [6, 7, 8, 9, 10, 11, 12, 13, 14] (by decide +kernel) (by decide +kernel)
set_option maxRecDepth 20000 in
theorem gX5_fillPresses_X5_pressOf : GoodIn wsX5_fillPresses (wsV RX5 46 RX5 yX5_pressOf wsX5_pressOf) := goodIn_app (goodIn_of _ (by decide +kernel)) ggX5_fillPresses_X5_pressOf
theorem dX5_fillPresses_0 : decode cX5_fillPresses 0 = .ok (.iconst 0, 1) := by decide +kernel
theorem dX5_fillPresses_1 : decode cX5_fillPresses 1 = .ok (.istore_n 3, 1) := by decide +kernel
theorem dX5_fillPresses_2 : decode cX5_fillPresses 2 = .ok (.iload_n 3, 1) := by decide +kernel
theorem dX5_fillPresses_3 : decode cX5_fillPresses 3 = .ok (.aload_n 0, 1) := by decide +kernel
theorem dX5_fillPresses_4 : decode cX5_fillPresses 4 = .ok (.getfield 18, 3) := by decide +kernel
theorem dX5_fillPresses_7 : decode cX5_fillPresses 7 = .ok (.if_icmp .ge 18, 3) := by decide +kernel
theorem dX5_fillPresses_10 : decode cX5_fillPresses 10 = .ok (.aload_n 2, 1) := by decide +kernel
theorem dX5_fillPresses_11 : decode cX5_fillPresses 11 = .ok (.iload_n 3, 1) := by decide +kernel
theorem dX5_fillPresses_12 : decode cX5_fillPresses 12 = .ok (.aload_n 0, 1) := by decide +kernel
theorem dX5_fillPresses_13 : decode cX5_fillPresses 13 = .ok (.iload_n 3, 1) := by decide +kernel
theorem dX5_fillPresses_14 : decode cX5_fillPresses 14 = .ok (.iload_n 1, 1) := by decide +kernel
theorem dX5_fillPresses_15 : decode cX5_fillPresses 15 = .ok (.invokevirtual 46, 3) := by decide +kernel
theorem dX5_fillPresses_18 : decode cX5_fillPresses 18 = .ok (.iastore, 1) := by decide +kernel
theorem dX5_fillPresses_19 : decode cX5_fillPresses 19 = .ok (.iinc 3 1, 3) := by decide +kernel
theorem dX5_fillPresses_22 : decode cX5_fillPresses 22 = .ok (.goto (-20), 3) := by decide +kernel
theorem dX5_fillPresses_25 : decode cX5_fillPresses 25 = .ok (.return_, 1) := by decide +kernel
theorem dX5_pressed_0 : decode cX5_pressed 0 = .ok (.iconst 0, 1) := by decide +kernel
theorem dX5_pressed_1 : decode cX5_pressed 1 = .ok (.istore_n 1, 1) := by decide +kernel
theorem dX5_pressed_2 : decode cX5_pressed 2 = .ok (.iconst 0, 1) := by decide +kernel
theorem dX5_pressed_3 : decode cX5_pressed 3 = .ok (.istore_n 2, 1) := by decide +kernel
theorem dX5_pressed_4 : decode cX5_pressed 4 = .ok (.iload_n 2, 1) := by decide +kernel
theorem dX5_pressed_5 : decode cX5_pressed 5 = .ok (.aload_n 0, 1) := by decide +kernel
theorem dX5_pressed_6 : decode cX5_pressed 6 = .ok (.getfield 18, 3) := by decide +kernel
theorem dX5_pressed_9 : decode cX5_pressed 9 = .ok (.bipush 100, 2) := by decide +kernel
theorem dX5_pressed_11 : decode cX5_pressed 11 = .ok (.imul, 1) := by decide +kernel
theorem dX5_pressed_12 : decode cX5_pressed 12 = .ok (.if_icmp .ge 21, 3) := by decide +kernel
theorem dX5_pressed_15 : decode cX5_pressed 15 = .ok (.aload_n 0, 1) := by decide +kernel
theorem dX5_pressed_16 : decode cX5_pressed 16 = .ok (.getfield 25, 3) := by decide +kernel
theorem dX5_pressed_19 : decode cX5_pressed 19 = .ok (.iload_n 2, 1) := by decide +kernel
theorem dX5_pressed_20 : decode cX5_pressed 20 = .ok (.iaload, 1) := by decide +kernel
theorem dX5_pressed_21 : decode cX5_pressed 21 = .ok (.ifCond .eq 6, 3) := by decide +kernel
theorem dX5_pressed_24 : decode cX5_pressed 24 = .ok (.iinc 1 1, 3) := by decide +kernel
theorem dX5_pressed_27 : decode cX5_pressed 27 = .ok (.iinc 2 1, 3) := by decide +kernel
theorem dX5_pressed_30 : decode cX5_pressed 30 = .ok (.goto (-26), 3) := by decide +kernel
theorem dX5_pressed_33 : decode cX5_pressed 33 = .ok (.iload_n 1, 1) := by decide +kernel
theorem dX5_pressed_34 : decode cX5_pressed 34 = .ok (.ireturn, 1) := by decide +kernel
theorem dX5_leftTicks_0 : decode cX5_leftTicks 0 = .ok (.iconst 0, 1) := by decide +kernel
theorem dX5_leftTicks_1 : decode cX5_leftTicks 1 = .ok (.istore_n 1, 1) := by decide +kernel
theorem dX5_leftTicks_2 : decode cX5_leftTicks 2 = .ok (.iconst 0, 1) := by decide +kernel
theorem dX5_leftTicks_3 : decode cX5_leftTicks 3 = .ok (.istore_n 2, 1) := by decide +kernel
theorem dX5_leftTicks_4 : decode cX5_leftTicks 4 = .ok (.iload_n 2, 1) := by decide +kernel
theorem dX5_leftTicks_5 : decode cX5_leftTicks 5 = .ok (.aload_n 0, 1) := by decide +kernel
theorem dX5_leftTicks_6 : decode cX5_leftTicks 6 = .ok (.getfield 18, 3) := by decide +kernel
theorem dX5_leftTicks_9 : decode cX5_leftTicks 9 = .ok (.if_icmp .ge 25, 3) := by decide +kernel
theorem dX5_leftTicks_12 : decode cX5_leftTicks 12 = .ok (.iload_n 1, 1) := by decide +kernel
theorem dX5_leftTicks_13 : decode cX5_leftTicks 13 = .ok (.aload_n 0, 1) := by decide +kernel
theorem dX5_leftTicks_14 : decode cX5_leftTicks 14 = .ok (.getfield 31, 3) := by decide +kernel
theorem dX5_leftTicks_17 : decode cX5_leftTicks 17 = .ok (.iload_n 2, 1) := by decide +kernel
theorem dX5_leftTicks_18 : decode cX5_leftTicks 18 = .ok (.iaload, 1) := by decide +kernel
theorem dX5_leftTicks_19 : decode cX5_leftTicks 19 = .ok (.aload_n 0, 1) := by decide +kernel
theorem dX5_leftTicks_20 : decode cX5_leftTicks 20 = .ok (.getfield 28, 3) := by decide +kernel
theorem dX5_leftTicks_23 : decode cX5_leftTicks 23 = .ok (.iload_n 2, 1) := by decide +kernel
theorem dX5_leftTicks_24 : decode cX5_leftTicks 24 = .ok (.iaload, 1) := by decide +kernel
theorem dX5_leftTicks_25 : decode cX5_leftTicks 25 = .ok (.isub, 1) := by decide +kernel
theorem dX5_leftTicks_26 : decode cX5_leftTicks 26 = .ok (.iadd, 1) := by decide +kernel
theorem dX5_leftTicks_27 : decode cX5_leftTicks 27 = .ok (.istore_n 1, 1) := by decide +kernel
theorem dX5_leftTicks_28 : decode cX5_leftTicks 28 = .ok (.iinc 2 1, 3) := by decide +kernel
theorem dX5_leftTicks_31 : decode cX5_leftTicks 31 = .ok (.goto (-27), 3) := by decide +kernel
theorem dX5_leftTicks_34 : decode cX5_leftTicks 34 = .ok (.iload_n 1, 1) := by decide +kernel
theorem dX5_leftTicks_35 : decode cX5_leftTicks 35 = .ok (.ireturn, 1) := by decide +kernel
theorem dX6_init_0 : decode cX6_init 0 = .ok (.aload_n 0, 1) := by decide +kernel
theorem dX6_init_1 : decode cX6_init 1 = .ok (.invokespecial 3, 3) := by decide +kernel
theorem dX6_init_4 : decode cX6_init 4 = .ok (.aload_n 0, 1) := by decide +kernel
theorem dX6_init_5 : decode cX6_init 5 = .ok (.sipush 1300, 3) := by decide +kernel
theorem dX6_init_8 : decode cX6_init 8 = .ok (.newarray .int, 2) := by decide +kernel
theorem dX6_init_10 : decode cX6_init 10 = .ok (.putfield 9, 3) := by decide +kernel
theorem dX6_init_13 : decode cX6_init 13 = .ok (.aload_n 0, 1) := by decide +kernel
theorem dX6_init_14 : decode cX6_init 14 = .ok (.iconst 0, 1) := by decide +kernel
theorem dX6_init_15 : decode cX6_init 15 = .ok (.putfield 15, 3) := by decide +kernel
theorem dX6_init_18 : decode cX6_init 18 = .ok (.return_, 1) := by decide +kernel
theorem dX6_keepBelow_0 : decode cX6_keepBelow 0 = .ok (.aload_n 0, 1) := by decide +kernel
theorem dX6_keepBelow_1 : decode cX6_keepBelow 1 = .ok (.aload_n 0, 1) := by decide +kernel
theorem dX6_keepBelow_2 : decode cX6_keepBelow 2 = .ok (.getfield 15, 3) := by decide +kernel
theorem dX6_keepBelow_5 : decode cX6_keepBelow 5 = .ok (.iload_n 1, 1) := by decide +kernel
theorem dX6_keepBelow_6 : decode cX6_keepBelow 6 = .ok (.invokestatic 19, 3) := by decide +kernel
theorem dX6_keepBelow_9 : decode cX6_keepBelow 9 = .ok (.putfield 15, 3) := by decide +kernel
theorem dX6_keepBelow_12 : decode cX6_keepBelow 12 = .ok (.return_, 1) := by decide +kernel
theorem dX6_at_0 : decode cX6_at 0 = .ok (.aload_n 0, 1) := by decide +kernel
theorem dX6_at_1 : decode cX6_at 1 = .ok (.getfield 9, 3) := by decide +kernel
theorem dX6_at_4 : decode cX6_at 4 = .ok (.iload_n 1, 1) := by decide +kernel
theorem dX6_at_5 : decode cX6_at 5 = .ok (.bipush 13, 2) := by decide +kernel
theorem dX6_at_7 : decode cX6_at 7 = .ok (.imul, 1) := by decide +kernel
theorem dX6_at_8 : decode cX6_at 8 = .ok (.iload_n 2, 1) := by decide +kernel
theorem dX6_at_9 : decode cX6_at 9 = .ok (.iadd, 1) := by decide +kernel
theorem dX6_at_10 : decode cX6_at 10 = .ok (.iaload, 1) := by decide +kernel
theorem dX6_at_11 : decode cX6_at 11 = .ok (.ireturn, 1) := by decide +kernel
theorem dX6_save_0 : decode cX6_save 0 = .ok (.aload_n 2, 1) := by decide +kernel
theorem dX6_save_1 : decode cX6_save 1 = .ok (.getfield 25, 3) := by decide +kernel
theorem dX6_save_4 : decode cX6_save 4 = .ok (.iconst 0, 1) := by decide +kernel
theorem dX6_save_5 : decode cX6_save 5 = .ok (.aload_n 0, 1) := by decide +kernel
theorem dX6_save_6 : decode cX6_save 6 = .ok (.getfield 9, 3) := by decide +kernel
theorem dX6_save_9 : decode cX6_save 9 = .ok (.iload_n 1, 1) := by decide +kernel
theorem dX6_save_10 : decode cX6_save 10 = .ok (.bipush 13, 2) := by decide +kernel
theorem dX6_save_12 : decode cX6_save 12 = .ok (.imul, 1) := by decide +kernel
theorem dX6_save_13 : decode cX6_save 13 = .ok (.bipush 13, 2) := by decide +kernel
theorem dX6_save_15 : decode cX6_save 15 = .ok (.invokestatic 30, 3) := by decide +kernel
theorem dX6_save_18 : decode cX6_save 18 = .ok (.return_, 1) := by decide +kernel
theorem dX6_load_0 : decode cX6_load 0 = .ok (.aload_n 0, 1) := by decide +kernel
theorem dX6_load_1 : decode cX6_load 1 = .ok (.getfield 9, 3) := by decide +kernel
theorem dX6_load_4 : decode cX6_load 4 = .ok (.iload_n 1, 1) := by decide +kernel
theorem dX6_load_5 : decode cX6_load 5 = .ok (.bipush 13, 2) := by decide +kernel
theorem dX6_load_7 : decode cX6_load 7 = .ok (.imul, 1) := by decide +kernel
theorem dX6_load_8 : decode cX6_load 8 = .ok (.aload_n 2, 1) := by decide +kernel
theorem dX6_load_9 : decode cX6_load 9 = .ok (.getfield 25, 3) := by decide +kernel
theorem dX6_load_12 : decode cX6_load 12 = .ok (.iconst 0, 1) := by decide +kernel
theorem dX6_load_13 : decode cX6_load 13 = .ok (.bipush 13, 2) := by decide +kernel
theorem dX6_load_15 : decode cX6_load 15 = .ok (.invokestatic 30, 3) := by decide +kernel
theorem dX6_load_18 : decode cX6_load 18 = .ok (.return_, 1) := by decide +kernel
theorem dX6_isLike_0 : decode cX6_isLike 0 = .ok (.iload_n 2, 1) := by decide +kernel
theorem dX6_isLike_1 : decode cX6_isLike 1 = .ok (.bipush 13, 2) := by decide +kernel
theorem dX6_isLike_3 : decode cX6_isLike 3 = .ok (.imul, 1) := by decide +kernel
theorem dX6_isLike_4 : decode cX6_isLike 4 = .ok (.istore_n 3, 1) := by decide +kernel
theorem dX6_isLike_5 : decode cX6_isLike 5 = .ok (.iload_n 3, 1) := by decide +kernel
theorem dX6_isLike_6 : decode cX6_isLike 6 = .ok (.iload_n 2, 1) := by decide +kernel
theorem dX6_isLike_7 : decode cX6_isLike 7 = .ok (.bipush 13, 2) := by decide +kernel
theorem dX6_isLike_9 : decode cX6_isLike 9 = .ok (.imul, 1) := by decide +kernel
theorem dX6_isLike_10 : decode cX6_isLike 10 = .ok (.bipush 13, 2) := by decide +kernel
theorem dX6_isLike_12 : decode cX6_isLike 12 = .ok (.iadd, 1) := by decide +kernel
theorem dX6_isLike_13 : decode cX6_isLike 13 = .ok (.if_icmp .ge 26, 3) := by decide +kernel
theorem dX6_isLike_16 : decode cX6_isLike 16 = .ok (.aload_n 0, 1) := by decide +kernel
theorem dX6_isLike_17 : decode cX6_isLike 17 = .ok (.getfield 9, 3) := by decide +kernel
theorem dX6_isLike_20 : decode cX6_isLike 20 = .ok (.iload_n 3, 1) := by decide +kernel
theorem dX6_isLike_21 : decode cX6_isLike 21 = .ok (.iaload, 1) := by decide +kernel
theorem dX6_isLike_22 : decode cX6_isLike 22 = .ok (.aload_n 1, 1) := by decide +kernel
theorem dX6_isLike_23 : decode cX6_isLike 23 = .ok (.getfield 9, 3) := by decide +kernel
theorem dX6_isLike_26 : decode cX6_isLike 26 = .ok (.iload_n 3, 1) := by decide +kernel
theorem dX6_isLike_27 : decode cX6_isLike 27 = .ok (.iaload, 1) := by decide +kernel
theorem dX6_isLike_28 : decode cX6_isLike 28 = .ok (.if_icmp .eq 5, 3) := by decide +kernel
theorem dX6_isLike_31 : decode cX6_isLike 31 = .ok (.iconst 0, 1) := by decide +kernel
theorem dX6_isLike_32 : decode cX6_isLike 32 = .ok (.ireturn, 1) := by decide +kernel
theorem dX6_isLike_33 : decode cX6_isLike 33 = .ok (.iinc 3 1, 3) := by decide +kernel
theorem dX6_isLike_36 : decode cX6_isLike 36 = .ok (.goto (-31), 3) := by decide +kernel
theorem dX6_isLike_39 : decode cX6_isLike 39 = .ok (.iconst 1, 1) := by decide +kernel
theorem dX6_isLike_40 : decode cX6_isLike 40 = .ok (.ireturn, 1) := by decide +kernel
set_option maxRecDepth 20000 in
theorem ggX7_init_X5_init : GoodIn wsX7_init wsX5_init := goodIn_r _ [40, 41, 2, 3, 42, 43, 44, 22, 45, 46, 47, 48, 87, 88, 89, 90, 91, 92, 93] (by decide +kernel) (by decide +kernel)
set_option maxRecDepth 20000 in
theorem gX7_init_X5_init_n9 : GoodIn wsX7_init (wsX5_init) := ggX7_init_X5_init
set_option maxRecDepth 20000 in
theorem ggX7_init_X4_init : GoodIn wsX7_init wsX4_init := goodIn_r _ [51, 52, 2, 3, 22, 53, 37, 54, 55, 106, 107, 108] (by decide +kernel) (by decide +kernel)
set_option maxRecDepth 20000 in
theorem gX7_init_X4_init : GoodIn wsX7_init (wsX4_init) := ggX7_init_X4_init
set_option maxRecDepth 20000 in
theorem ggX7_init_X6_init : GoodIn wsX7_init wsX6_init := goodIn_r _ [57, 58, 2, 3, 22, 59, 60, 109, 110] (by decide +kernel) (by decide +kernel)
set_option maxRecDepth 20000 in
theorem gX7_init_X6_init_n27 : GoodIn wsX7_init (wsX6_init) := ggX7_init_X6_init
set_option maxRecDepth 20000 in
theorem ggX7_init_X0_init : GoodIn wsX7_init wsX0_init := goodIn_r _ [62, 63, 2, 3, 22, 64, 111] (by decide +kernel) (by decide +kernel)
set_option maxRecDepth 20000 in
theorem gX7_init_X0_init_n37 : GoodIn wsX7_init (wsX0_init) := ggX7_init_X0_init
set_option maxRecDepth 20000 in
theorem ggX7_init_X3_init : GoodIn wsX7_init wsX3_init := goodIn_r _ [66, 67, 2, 3, 22, 68, 112] (by decide +kernel) (by decide +kernel)
set_option maxRecDepth 20000 in
theorem gX7_init_X3_init_n51 : GoodIn wsX7_init (wsX3_init) := ggX7_init_X3_init
set_option maxRecDepth 20000 in
theorem ggX7_init_X1_init : GoodIn wsX7_init wsX1_init := goodIn_r _ [70, 71, 2, 3, 72, 22, 73, 74, 75, 76, 77, 78, 113, 114, 115, 116, 117, 118, 119] (by decide +kernel) (by decide +kernel)
set_option maxRecDepth 20000 in
theorem gX7_init_X1_init_n58 : GoodIn wsX7_init (wsX1_init) := ggX7_init_X1_init
set_option maxRecDepth 20000 in
theorem ggX7_init_X2_init : GoodIn wsX7_init wsX2_init := goodIn_r _ [80, 81, 2, 3, 82, 83, 84, 85, 86, 120, 121, 122, 123] (by decide +kernel) (by decide +kernel)
set_option maxRecDepth 20000 in
theorem gX7_init_X2_init_n65 : GoodIn wsX7_init (wsX2_init) := ggX7_init_X2_init
end
section
theorem dX7_init_0 : decode cX7_init 0 = .ok (.aload_n 0, 1) := by decide +kernel
theorem dX7_init_1 : decode cX7_init 1 = .ok (.invokespecial 1, 3) := by decide +kernel
theorem dX7_init_4 : decode cX7_init 4 = .ok (.aload_n 0, 1) := by decide +kernel
theorem dX7_init_5 : decode cX7_init 5 = .ok (.new 7, 3) := by decide +kernel
theorem dX7_init_8 : decode cX7_init 8 = .ok (.dup, 1) := by decide +kernel
theorem dX7_init_9 : decode cX7_init 9 = .ok (.invokespecial 9, 3) := by decide +kernel
theorem dX7_init_12 : decode cX7_init 12 = .ok (.putfield 10, 3) := by decide +kernel
theorem dX7_init_15 : decode cX7_init 15 = .ok (.aload_n 0, 1) := by decide +kernel
theorem dX7_init_16 : decode cX7_init 16 = .ok (.new 16, 3) := by decide +kernel
theorem dX7_init_19 : decode cX7_init 19 = .ok (.dup, 1) := by decide +kernel
theorem dX7_init_20 : decode cX7_init 20 = .ok (.aload_n 0, 1) := by decide +kernel
theorem dX7_init_21 : decode cX7_init 21 = .ok (.getfield 10, 3) := by decide +kernel
theorem dX7_init_24 : decode cX7_init 24 = .ok (.invokespecial 18, 3) := by decide +kernel
theorem dX7_init_27 : decode cX7_init 27 = .ok (.putfield 21, 3) := by decide +kernel
theorem dX7_init_30 : decode cX7_init 30 = .ok (.aload_n 0, 1) := by decide +kernel
theorem dX7_init_31 : decode cX7_init 31 = .ok (.new 25, 3) := by decide +kernel
theorem dX7_init_34 : decode cX7_init 34 = .ok (.dup, 1) := by decide +kernel
theorem dX7_init_35 : decode cX7_init 35 = .ok (.invokespecial 27, 3) := by decide +kernel
theorem dX7_init_38 : decode cX7_init 38 = .ok (.putfield 28, 3) := by decide +kernel
theorem dX7_init_41 : decode cX7_init 41 = .ok (.aload_n 0, 1) := by decide +kernel
theorem dX7_init_42 : decode cX7_init 42 = .ok (.new 25, 3) := by decide +kernel
theorem dX7_init_45 : decode cX7_init 45 = .ok (.dup, 1) := by decide +kernel
theorem dX7_init_46 : decode cX7_init 46 = .ok (.invokespecial 27, 3) := by decide +kernel
theorem dX7_init_49 : decode cX7_init 49 = .ok (.putfield 32, 3) := by decide +kernel
theorem dX7_init_52 : decode cX7_init 52 = .ok (.aload_n 0, 1) := by decide +kernel
theorem dX7_init_53 : decode cX7_init 53 = .ok (.new 35, 3) := by decide +kernel
theorem dX7_init_56 : decode cX7_init 56 = .ok (.dup, 1) := by decide +kernel
theorem dX7_init_57 : decode cX7_init 57 = .ok (.invokespecial 37, 3) := by decide +kernel
theorem dX7_init_60 : decode cX7_init 60 = .ok (.putfield 38, 3) := by decide +kernel
theorem dX7_init_63 : decode cX7_init 63 = .ok (.aload_n 0, 1) := by decide +kernel
theorem dX7_init_64 : decode cX7_init 64 = .ok (.new 35, 3) := by decide +kernel
theorem dX7_init_67 : decode cX7_init 67 = .ok (.dup, 1) := by decide +kernel
theorem dX7_init_68 : decode cX7_init 68 = .ok (.invokespecial 37, 3) := by decide +kernel
theorem dX7_init_71 : decode cX7_init 71 = .ok (.putfield 42, 3) := by decide +kernel
theorem dX7_init_74 : decode cX7_init 74 = .ok (.aload_n 0, 1) := by decide +kernel
theorem dX7_init_75 : decode cX7_init 75 = .ok (.bipush 6, 2) := by decide +kernel
theorem dX7_init_77 : decode cX7_init 77 = .ok (.newarray .int, 2) := by decide +kernel
theorem dX7_init_79 : decode cX7_init 79 = .ok (.putfield 45, 3) := by decide +kernel
theorem dX7_init_82 : decode cX7_init 82 = .ok (.aload_n 0, 1) := by decide +kernel
theorem dX7_init_83 : decode cX7_init 83 = .ok (.new 49, 3) := by decide +kernel
theorem dX7_init_86 : decode cX7_init 86 = .ok (.dup, 1) := by decide +kernel
theorem dX7_init_87 : decode cX7_init 87 = .ok (.invokespecial 51, 3) := by decide +kernel
theorem dX7_init_90 : decode cX7_init 90 = .ok (.putfield 52, 3) := by decide +kernel
theorem dX7_init_93 : decode cX7_init 93 = .ok (.aload_n 0, 1) := by decide +kernel
theorem dX7_init_94 : decode cX7_init 94 = .ok (.new 56, 3) := by decide +kernel
theorem dX7_init_97 : decode cX7_init 97 = .ok (.dup, 1) := by decide +kernel
theorem dX7_init_98 : decode cX7_init 98 = .ok (.invokespecial 58, 3) := by decide +kernel
theorem dX7_init_101 : decode cX7_init 101 = .ok (.putfield 59, 3) := by decide +kernel
theorem dX7_init_104 : decode cX7_init 104 = .ok (.aload_n 0, 1) := by decide +kernel
theorem dX7_init_105 : decode cX7_init 105 = .ok (.new 63, 3) := by decide +kernel
theorem dX7_init_108 : decode cX7_init 108 = .ok (.dup, 1) := by decide +kernel
theorem dX7_init_109 : decode cX7_init 109 = .ok (.invokespecial 65, 3) := by decide +kernel
theorem dX7_init_112 : decode cX7_init 112 = .ok (.putfield 66, 3) := by decide +kernel
theorem dX7_init_115 : decode cX7_init 115 = .ok (.aload_n 0, 1) := by decide +kernel
theorem dX7_init_116 : decode cX7_init 116 = .ok (.iconst 4, 1) := by decide +kernel
theorem dX7_init_117 : decode cX7_init 117 = .ok (.anewarray 7, 3) := by decide +kernel
theorem dX7_init_120 : decode cX7_init 120 = .ok (.dup, 1) := by decide +kernel
theorem dX7_init_121 : decode cX7_init 121 = .ok (.iconst 0, 1) := by decide +kernel
theorem dX7_init_122 : decode cX7_init 122 = .ok (.new 7, 3) := by decide +kernel
theorem dX7_init_125 : decode cX7_init 125 = .ok (.dup, 1) := by decide +kernel
theorem dX7_init_126 : decode cX7_init 126 = .ok (.invokespecial 9, 3) := by decide +kernel
theorem dX7_init_129 : decode cX7_init 129 = .ok (.aastore, 1) := by decide +kernel
theorem dX7_init_130 : decode cX7_init 130 = .ok (.dup, 1) := by decide +kernel
theorem dX7_init_131 : decode cX7_init 131 = .ok (.iconst 1, 1) := by decide +kernel
theorem dX7_init_132 : decode cX7_init 132 = .ok (.new 7, 3) := by decide +kernel
theorem dX7_init_135 : decode cX7_init 135 = .ok (.dup, 1) := by decide +kernel
theorem dX7_init_136 : decode cX7_init 136 = .ok (.invokespecial 9, 3) := by decide +kernel
theorem dX7_init_139 : decode cX7_init 139 = .ok (.aastore, 1) := by decide +kernel
theorem dX7_init_140 : decode cX7_init 140 = .ok (.dup, 1) := by decide +kernel
theorem dX7_init_141 : decode cX7_init 141 = .ok (.iconst 2, 1) := by decide +kernel
theorem dX7_init_142 : decode cX7_init 142 = .ok (.new 7, 3) := by decide +kernel
theorem dX7_init_145 : decode cX7_init 145 = .ok (.dup, 1) := by decide +kernel
theorem dX7_init_146 : decode cX7_init 146 = .ok (.invokespecial 9, 3) := by decide +kernel
theorem dX7_init_149 : decode cX7_init 149 = .ok (.aastore, 1) := by decide +kernel
theorem dX7_init_150 : decode cX7_init 150 = .ok (.dup, 1) := by decide +kernel
theorem dX7_init_151 : decode cX7_init 151 = .ok (.iconst 3, 1) := by decide +kernel
theorem dX7_init_152 : decode cX7_init 152 = .ok (.new 7, 3) := by decide +kernel
theorem dX7_init_155 : decode cX7_init 155 = .ok (.dup, 1) := by decide +kernel
theorem dX7_init_156 : decode cX7_init 156 = .ok (.invokespecial 9, 3) := by decide +kernel
theorem dX7_init_159 : decode cX7_init 159 = .ok (.aastore, 1) := by decide +kernel
theorem dX7_init_160 : decode cX7_init 160 = .ok (.putfield 70, 3) := by decide +kernel
theorem dX7_init_163 : decode cX7_init 163 = .ok (.aload_n 0, 1) := by decide +kernel
theorem dX7_init_164 : decode cX7_init 164 = .ok (.iconst 4, 1) := by decide +kernel
theorem dX7_init_165 : decode cX7_init 165 = .ok (.newarray .boolean, 2) := by decide +kernel
theorem dX7_init_167 : decode cX7_init 167 = .ok (.putfield 74, 3) := by decide +kernel
theorem dX7_init_170 : decode cX7_init 170 = .ok (.return_, 1) := by decide +kernel
set_option maxRecDepth 20000 in
theorem ggX7_field_X7_isSide : GoodIn wsX7_field wsX7_isSide := goodIn_r _ [7] (by decide +kernel) (by decide +kernel)
set_option maxRecDepth 20000 in
theorem gX7_field_X7_isSide : GoodIn wsX7_field (va_wsS RX7 78 yX7_isSide wsX7_isSide) := goodIn_app (goodIn_of _ (by decide +kernel)) ggX7_field_X7_isSide
set_option maxRecDepth 20000 in
theorem ggX7_field_X5_clear : GoodIn wsX7_field wsX5_clear := goodIn_r _ [12, 13, 14, 15, 16, 17, 18, 19, 20, 21, 22, 53, 54, 55, 56, 57, 58, 59] (by decide +kernel) (by decide +kernel)
set_option maxRecDepth 20000 in
theorem gX7_field_X5_clear : GoodIn wsX7_field (wsV RX7 82 RX5 yX5_clear wsX5_clear) := goodIn_app (goodIn_of _ (by decide +kernel)) ggX7_field_X5_clear
set_option maxRecDepth 20000 in
theorem ggX7_field_X4_clear : GoodIn wsX7_field wsX4_clear := goodIn_r _ [27, 28, 29, 30, 20, 21, 22, 60, 61, 62] (by decide +kernel) (by decide +kernel)
set_option maxRecDepth 20000 in
theorem gX7_field_X4_clear : GoodIn wsX7_field (wsV RX7 86 RX4 yX4_clear wsX4_clear) := goodIn_app (goodIn_of _ (by decide +kernel)) ggX7_field_X4_clear
set_option maxRecDepth 20000 in
theorem ggX7_field_X6_keepBelow : GoodIn wsX7_field wsX6_keepBelow := goodIn_r _ [35, 36, 37, 38, 39, 40, 63, 64] (by decide +kernel) (by decide +kernel)
set_option maxRecDepth 20000 in
theorem gX7_field_X6_keepBelow : GoodIn wsX7_field (wsV RX7 88 RX6 yX6_keepBelow wsX6_keepBelow) := goodIn_app (goodIn_of _ (by decide +kernel)) ggX7_field_X6_keepBelow
theorem dX7_field_0 : decode cX7_field 0 = .ok (.iload_n 1, 1) := by decide +kernel
theorem dX7_field_1 : decode cX7_field 1 = .ok (.invokestatic 78, 3) := by decide +kernel
theorem dX7_field_4 : decode cX7_field 4 = .ok (.ifCond .eq 21, 3) := by decide +kernel
theorem dX7_field_7 : decode cX7_field 7 = .ok (.iload_n 2, 1) := by decide +kernel
theorem dX7_field_8 : decode cX7_field 8 = .ok (.invokestatic 78, 3) := by decide +kernel
theorem dX7_field_11 : decode cX7_field 11 = .ok (.ifCond .eq 14, 3) := by decide +kernel
theorem dX7_field_14 : decode cX7_field 14 = .ok (.iload_n 3, 1) := by decide +kernel
theorem dX7_field_15 : decode cX7_field 15 = .ok (.iconst 2, 1) := by decide +kernel
theorem dX7_field_16 : decode cX7_field 16 = .ok (.if_icmp .lt 9, 3) := by decide +kernel
theorem dX7_field_19 : decode cX7_field 19 = .ok (.iload_n 3, 1) := by decide +kernel
theorem dX7_field_20 : decode cX7_field 20 = .ok (.bipush 6, 2) := by decide +kernel
theorem dX7_field_22 : decode cX7_field 22 = .ok (.if_icmp .le 6, 3) := by decide +kernel
theorem dX7_field_25 : decode cX7_field 25 = .ok (.bipush (-2), 2) := by decide +kernel
theorem dX7_field_27 : decode cX7_field 27 = .ok (.ireturn, 1) := by decide +kernel
theorem dX7_field_28 : decode cX7_field 28 = .ok (.aload_n 0, 1) := by decide +kernel
theorem dX7_field_29 : decode cX7_field 29 = .ok (.getfield 10, 3) := by decide +kernel
theorem dX7_field_32 : decode cX7_field 32 = .ok (.iload_n 1, 1) := by decide +kernel
theorem dX7_field_33 : decode cX7_field 33 = .ok (.iload_n 2, 1) := by decide +kernel
theorem dX7_field_34 : decode cX7_field 34 = .ok (.iload_n 3, 1) := by decide +kernel
theorem dX7_field_35 : decode cX7_field 35 = .ok (.invokevirtual 82, 3) := by decide +kernel
theorem dX7_field_38 : decode cX7_field 38 = .ok (.aload_n 0, 1) := by decide +kernel
theorem dX7_field_39 : decode cX7_field 39 = .ok (.getfield 21, 3) := by decide +kernel
theorem dX7_field_42 : decode cX7_field 42 = .ok (.invokevirtual 86, 3) := by decide +kernel
theorem dX7_field_45 : decode cX7_field 45 = .ok (.aload_n 0, 1) := by decide +kernel
theorem dX7_field_46 : decode cX7_field 46 = .ok (.getfield 28, 3) := by decide +kernel
theorem dX7_field_49 : decode cX7_field 49 = .ok (.iconst 0, 1) := by decide +kernel
theorem dX7_field_50 : decode cX7_field 50 = .ok (.invokevirtual 88, 3) := by decide +kernel
theorem dX7_field_53 : decode cX7_field 53 = .ok (.iload_n 1, 1) := by decide +kernel
theorem dX7_field_54 : decode cX7_field 54 = .ok (.iload_n 2, 1) := by decide +kernel
theorem dX7_field_55 : decode cX7_field 55 = .ok (.imul, 1) := by decide +kernel
theorem dX7_field_56 : decode cX7_field 56 = .ok (.ireturn, 1) := by decide +kernel
set_option maxRecDepth 20000 in
theorem ggX7_rule_X6_keepBelow : GoodIn wsX7_rule wsX6_keepBelow := goodIn_r _ [10, 11, 12, 13, 14, 15, 35, 36] (by decide +kernel) (by decide +kernel)
set_option maxRecDepth 20000 in
theorem gX7_rule_X6_keepBelow : GoodIn wsX7_rule (wsV RX7 88 RX6 yX6_keepBelow wsX6_keepBelow) := goodIn_app (goodIn_of _ (by decide +kernel)) ggX7_rule_X6_keepBelow
theorem dX7_rule_0 : decode cX7_rule 0 = .ok (.iload_n 1, 1) := by decide +kernel
theorem dX7_rule_1 : decode cX7_rule 1 = .ok (.ifCond .lt 27, 3) := by decide +kernel
theorem dX7_rule_4 : decode cX7_rule 4 = .ok (.iload_n 1, 1) := by decide +kernel
theorem dX7_rule_5 : decode cX7_rule 5 = .ok (.bipush 6, 2) := by decide +kernel
theorem dX7_rule_7 : decode cX7_rule 7 = .ok (.if_icmp .gt 21, 3) := by decide +kernel
theorem dX7_rule_10 : decode cX7_rule 10 = .ok (.iload_n 2, 1) := by decide +kernel
theorem dX7_rule_11 : decode cX7_rule 11 = .ok (.getstatic 92, 3) := by decide +kernel
theorem dX7_rule_14 : decode cX7_rule 14 = .ok (.iload_n 1, 1) := by decide +kernel
theorem dX7_rule_15 : decode cX7_rule 15 = .ok (.iaload, 1) := by decide +kernel
theorem dX7_rule_16 : decode cX7_rule 16 = .ok (.if_icmp .lt 12, 3) := by decide +kernel
theorem dX7_rule_19 : decode cX7_rule 19 = .ok (.iload_n 2, 1) := by decide +kernel
theorem dX7_rule_20 : decode cX7_rule 20 = .ok (.getstatic 95, 3) := by decide +kernel
theorem dX7_rule_23 : decode cX7_rule 23 = .ok (.iload_n 1, 1) := by decide +kernel
theorem dX7_rule_24 : decode cX7_rule 24 = .ok (.iaload, 1) := by decide +kernel
theorem dX7_rule_25 : decode cX7_rule 25 = .ok (.if_icmp .le 6, 3) := by decide +kernel
theorem dX7_rule_28 : decode cX7_rule 28 = .ok (.bipush (-2), 2) := by decide +kernel
theorem dX7_rule_30 : decode cX7_rule 30 = .ok (.ireturn, 1) := by decide +kernel
theorem dX7_rule_31 : decode cX7_rule 31 = .ok (.aload_n 0, 1) := by decide +kernel
theorem dX7_rule_32 : decode cX7_rule 32 = .ok (.getfield 10, 3) := by decide +kernel
theorem dX7_rule_35 : decode cX7_rule 35 = .ok (.getfield 98, 3) := by decide +kernel
theorem dX7_rule_38 : decode cX7_rule 38 = .ok (.iload_n 1, 1) := by decide +kernel
theorem dX7_rule_39 : decode cX7_rule 39 = .ok (.iaload, 1) := by decide +kernel
theorem dX7_rule_40 : decode cX7_rule 40 = .ok (.istore_n 3, 1) := by decide +kernel
theorem dX7_rule_41 : decode cX7_rule 41 = .ok (.aload_n 0, 1) := by decide +kernel
theorem dX7_rule_42 : decode cX7_rule 42 = .ok (.getfield 10, 3) := by decide +kernel
theorem dX7_rule_45 : decode cX7_rule 45 = .ok (.getfield 98, 3) := by decide +kernel
theorem dX7_rule_48 : decode cX7_rule 48 = .ok (.iload_n 1, 1) := by decide +kernel
theorem dX7_rule_49 : decode cX7_rule 49 = .ok (.iload_n 2, 1) := by decide +kernel
theorem dX7_rule_50 : decode cX7_rule 50 = .ok (.iastore, 1) := by decide +kernel
theorem dX7_rule_51 : decode cX7_rule 51 = .ok (.iload_n 1, 1) := by decide +kernel
theorem dX7_rule_52 : decode cX7_rule 52 = .ok (.iconst 2, 1) := by decide +kernel
theorem dX7_rule_53 : decode cX7_rule 53 = .ok (.if_icmp .gt 11, 3) := by decide +kernel
theorem dX7_rule_56 : decode cX7_rule 56 = .ok (.aload_n 0, 1) := by decide +kernel
theorem dX7_rule_57 : decode cX7_rule 57 = .ok (.getfield 28, 3) := by decide +kernel
theorem dX7_rule_60 : decode cX7_rule 60 = .ok (.iconst 0, 1) := by decide +kernel
theorem dX7_rule_61 : decode cX7_rule 61 = .ok (.invokevirtual 88, 3) := by decide +kernel
theorem dX7_rule_64 : decode cX7_rule 64 = .ok (.iload_n 3, 1) := by decide +kernel
theorem dX7_rule_65 : decode cX7_rule 65 = .ok (.ireturn, 1) := by decide +kernel
set_option maxRecDepth 20000 in
theorem ggX7_press_X7_isHand : GoodIn wsX7_press wsX7_isHand := goodIn_r _ [7, 1, 8, 35, 36, 37, 38, 39, 40, 41, 42, 43, 44, 45, 46, 47, 48, 49, 50, 51, 52, 53] (by decide +kernel) (by decide +kernel)
set_option maxRecDepth 20000 in
theorem gX7_press_X7_isHand : GoodIn wsX7_press (wsV RX7 101 RX7 yX7_isHand wsX7_isHand) := goodIn_app (goodIn_of _ (by decide +kernel)) ggX7_press_X7_isHand
set_option maxRecDepth 20000 in
theorem ggX7_press_X7_isTick : GoodIn wsX7_press wsX7_isTick := goodIn_r _ [11] (by decide +kernel) (by decide +kernel)
set_option maxRecDepth 20000 in
theorem gX7_press_X7_isTick : GoodIn wsX7_press (va_wsS RX7 104 yX7_isTick wsX7_isTick) := goodIn_app (goodIn_of _ (by decide +kernel)) ggX7_press_X7_isTick
set_option maxRecDepth 20000 in
theorem ggX7_press_X7_isPress : GoodIn wsX7_press wsX7_isPress := goodIn_r _ [14] (by decide +kernel) (by decide +kernel)
set_option maxRecDepth 20000 in
theorem gX7_press_X7_isPress : GoodIn wsX7_press (va_wsS RX7 107 yX7_isPress wsX7_isPress) := goodIn_app (goodIn_of _ (by decide +kernel)) ggX7_press_X7_isPress
set_option maxRecDepth 20000 in
theorem ggX7_press_X5_pressOf : GoodIn wsX7_press wsX5_pressOf := goodIn_r _ [19, 20, 47, 48, 49, 50, 51, 52, 53] (by decide +kernel) (by decide +kernel)
set_option maxRecDepth 20000 in
theorem gX7_press_X5_pressOf : GoodIn wsX7_press (wsV RX7 110 RX5 yX5_pressOf wsX5_pressOf) := goodIn_app (goodIn_of _ (by decide +kernel)) ggX7_press_X5_pressOf
set_option maxRecDepth 20000 in
theorem ggX7_press_X5_setPress : GoodIn wsX7_press wsX5_setPress := goodIn_r _ [24, 20, 47, 48, 49, 50, 51, 52, 53] (by decide +kernel) (by decide +kernel)
set_option maxRecDepth 20000 in
theorem gX7_press_X5_setPress : GoodIn wsX7_press (wsV RX7 114 RX5 yX5_setPress wsX5_setPress) := goodIn_app (goodIn_of _ (by decide +kernel)) ggX7_press_X5_setPress
set_option maxRecDepth 20000 in
theorem ggX7_press_X6_keepBelow : GoodIn wsX7_press wsX6_keepBelow := goodIn_r _ [29, 30, 31, 32, 33, 34, 54, 55] (by decide +kernel) (by decide +kernel)
set_option maxRecDepth 20000 in
theorem gX7_press_X6_keepBelow : GoodIn wsX7_press (wsV RX7 88 RX6 yX6_keepBelow wsX6_keepBelow) := goodIn_app (goodIn_of _ (by decide +kernel)) ggX7_press_X6_keepBelow
theorem dX7_press_0 : decode cX7_press 0 = .ok (.aload_n 0, 1) := by decide +kernel
theorem dX7_press_1 : decode cX7_press 1 = .ok (.iload_n 1, 1) := by decide +kernel
theorem dX7_press_2 : decode cX7_press 2 = .ok (.invokevirtual 101, 3) := by decide +kernel
theorem dX7_press_5 : decode cX7_press 5 = .ok (.ifCond .eq 10, 3) := by decide +kernel
theorem dX7_press_8 : decode cX7_press 8 = .ok (.iload_n 2, 1) := by decide +kernel
theorem dX7_press_9 : decode cX7_press 9 = .ok (.invokestatic 104, 3) := by decide +kernel
theorem dX7_press_12 : decode cX7_press 12 = .ok (.ifCond .ne 5, 3) := by decide +kernel
theorem dX7_press_15 : decode cX7_press 15 = .ok (.iconst (-1), 1) := by decide +kernel
theorem dX7_press_16 : decode cX7_press 16 = .ok (.ireturn, 1) := by decide +kernel
theorem dX7_press_17 : decode cX7_press 17 = .ok (.iload_n 3, 1) := by decide +kernel
theorem dX7_press_18 : decode cX7_press 18 = .ok (.invokestatic 107, 3) := by decide +kernel
theorem dX7_press_21 : decode cX7_press 21 = .ok (.ifCond .ne 6, 3) := by decide +kernel
theorem dX7_press_24 : decode cX7_press 24 = .ok (.bipush (-2), 2) := by decide +kernel
theorem dX7_press_26 : decode cX7_press 26 = .ok (.ireturn, 1) := by decide +kernel
theorem dX7_press_27 : decode cX7_press 27 = .ok (.aload_n 0, 1) := by decide +kernel
theorem dX7_press_28 : decode cX7_press 28 = .ok (.getfield 10, 3) := by decide +kernel
theorem dX7_press_31 : decode cX7_press 31 = .ok (.iload_n 1, 1) := by decide +kernel
theorem dX7_press_32 : decode cX7_press 32 = .ok (.iload_n 2, 1) := by decide +kernel
theorem dX7_press_33 : decode cX7_press 33 = .ok (.invokevirtual 110, 3) := by decide +kernel
theorem dX7_press_36 : decode cX7_press 36 = .ok (.istore 4, 2) := by decide +kernel
theorem dX7_press_38 : decode cX7_press 38 = .ok (.aload_n 0, 1) := by decide +kernel
theorem dX7_press_39 : decode cX7_press 39 = .ok (.getfield 10, 3) := by decide +kernel
theorem dX7_press_42 : decode cX7_press 42 = .ok (.iload_n 1, 1) := by decide +kernel
theorem dX7_press_43 : decode cX7_press 43 = .ok (.iload_n 2, 1) := by decide +kernel
theorem dX7_press_44 : decode cX7_press 44 = .ok (.iload_n 3, 1) := by decide +kernel
theorem dX7_press_45 : decode cX7_press 45 = .ok (.invokevirtual 114, 3) := by decide +kernel
theorem dX7_press_48 : decode cX7_press 48 = .ok (.aload_n 0, 1) := by decide +kernel
theorem dX7_press_49 : decode cX7_press 49 = .ok (.getfield 28, 3) := by decide +kernel
theorem dX7_press_52 : decode cX7_press 52 = .ok (.iload_n 2, 1) := by decide +kernel
theorem dX7_press_53 : decode cX7_press 53 = .ok (.invokevirtual 88, 3) := by decide +kernel
theorem dX7_press_56 : decode cX7_press 56 = .ok (.iload 4, 2) := by decide +kernel
theorem dX7_press_58 : decode cX7_press 58 = .ok (.ireturn, 1) := by decide +kernel
set_option maxRecDepth 20000 in
theorem ggX7_hold_X7_isHand : GoodIn wsX7_hold wsX7_isHand := goodIn_r _ [7, 1, 8, 35, 36, 37, 38, 39, 40, 41, 42, 43, 44, 45, 46, 47, 48, 49, 50, 51, 52, 53] (by decide +kernel) (by decide +kernel)
set_option maxRecDepth 20000 in
theorem gX7_hold_X7_isHand : GoodIn wsX7_hold (wsV RX7 101 RX7 yX7_isHand wsX7_isHand) := goodIn_app (goodIn_of _ (by decide +kernel)) ggX7_hold_X7_isHand
set_option maxRecDepth 20000 in
theorem ggX7_hold_X7_isTick : GoodIn wsX7_hold wsX7_isTick := goodIn_r _ [11] (by decide +kernel) (by decide +kernel)
set_option maxRecDepth 20000 in
theorem gX7_hold_X7_isTick : GoodIn wsX7_hold (va_wsS RX7 104 yX7_isTick wsX7_isTick) := goodIn_app (goodIn_of _ (by decide +kernel)) ggX7_hold_X7_isTick
set_option maxRecDepth 20000 in
theorem ggX7_hold_X7_isPress : GoodIn wsX7_hold wsX7_isPress := goodIn_r _ [14] (by decide +kernel) (by decide +kernel)
set_option maxRecDepth 20000 in
theorem gX7_hold_X7_isPress : GoodIn wsX7_hold (va_wsS RX7 107 yX7_isPress wsX7_isPress) := goodIn_app (goodIn_of _ (by decide +kernel)) ggX7_hold_X7_isPress
set_option maxRecDepth 20000 in
theorem ggX7_hold_X5_pressOf : GoodIn wsX7_hold wsX5_pressOf := goodIn_r _ [19, 20, 47, 48, 49, 50, 51, 52, 53] (by decide +kernel) (by decide +kernel)
set_option maxRecDepth 20000 in
theorem gX7_hold_X5_pressOf : GoodIn wsX7_hold (wsV RX7 110 RX5 yX5_pressOf wsX5_pressOf) := goodIn_app (goodIn_of _ (by decide +kernel)) ggX7_hold_X5_pressOf
set_option maxRecDepth 20000 in
theorem ggX7_hold_X5_setPress : GoodIn wsX7_hold wsX5_setPress := goodIn_r _ [24, 20, 47, 48, 49, 50, 51, 52, 53] (by decide +kernel) (by decide +kernel)
set_option maxRecDepth 20000 in
theorem gX7_hold_X5_setPress : GoodIn wsX7_hold (wsV RX7 114 RX5 yX5_setPress wsX5_setPress) := goodIn_app (goodIn_of _ (by decide +kernel)) ggX7_hold_X5_setPress
set_option maxRecDepth 20000 in
theorem ggX7_hold_X6_keepBelow : GoodIn wsX7_hold wsX6_keepBelow := goodIn_r _ [29, 30, 31, 32, 33, 34, 54, 55] (by decide +kernel) (by decide +kernel)
set_option maxRecDepth 20000 in
theorem gX7_hold_X6_keepBelow : GoodIn wsX7_hold (wsV RX7 88 RX6 yX6_keepBelow wsX6_keepBelow) := goodIn_app (goodIn_of _ (by decide +kernel)) ggX7_hold_X6_keepBelow
theorem dX7_hold_0 : decode cX7_hold 0 = .ok (.aload_n 0, 1) := by decide +kernel
theorem dX7_hold_1 : decode cX7_hold 1 = .ok (.iload_n 1, 1) := by decide +kernel
theorem dX7_hold_2 : decode cX7_hold 2 = .ok (.invokevirtual 101, 3) := by decide +kernel
theorem dX7_hold_5 : decode cX7_hold 5 = .ok (.ifCond .eq 17, 3) := by decide +kernel
theorem dX7_hold_8 : decode cX7_hold 8 = .ok (.iload_n 2, 1) := by decide +kernel
theorem dX7_hold_9 : decode cX7_hold 9 = .ok (.invokestatic 104, 3) := by decide +kernel
theorem dX7_hold_12 : decode cX7_hold 12 = .ok (.ifCond .eq 10, 3) := by decide +kernel
theorem dX7_hold_15 : decode cX7_hold 15 = .ok (.iload_n 3, 1) := by decide +kernel
theorem dX7_hold_16 : decode cX7_hold 16 = .ok (.invokestatic 104, 3) := by decide +kernel
theorem dX7_hold_19 : decode cX7_hold 19 = .ok (.ifCond .ne 5, 3) := by decide +kernel
theorem dX7_hold_22 : decode cX7_hold 22 = .ok (.iconst (-1), 1) := by decide +kernel
theorem dX7_hold_23 : decode cX7_hold 23 = .ok (.ireturn, 1) := by decide +kernel
theorem dX7_hold_24 : decode cX7_hold 24 = .ok (.iload_n 3, 1) := by decide +kernel
theorem dX7_hold_25 : decode cX7_hold 25 = .ok (.iload_n 2, 1) := by decide +kernel
theorem dX7_hold_26 : decode cX7_hold 26 = .ok (.if_icmp .lt 11, 3) := by decide +kernel
theorem dX7_hold_29 : decode cX7_hold 29 = .ok (.iload 4, 2) := by decide +kernel
theorem dX7_hold_31 : decode cX7_hold 31 = .ok (.invokestatic 107, 3) := by decide +kernel
theorem dX7_hold_34 : decode cX7_hold 34 = .ok (.ifCond .ne 6, 3) := by decide +kernel
theorem dX7_hold_37 : decode cX7_hold 37 = .ok (.bipush (-2), 2) := by decide +kernel
theorem dX7_hold_39 : decode cX7_hold 39 = .ok (.ireturn, 1) := by decide +kernel
theorem dX7_hold_40 : decode cX7_hold 40 = .ok (.iconst 0, 1) := by decide +kernel
theorem dX7_hold_41 : decode cX7_hold 41 = .ok (.istore 5, 2) := by decide +kernel
theorem dX7_hold_43 : decode cX7_hold 43 = .ok (.iload_n 2, 1) := by decide +kernel
theorem dX7_hold_44 : decode cX7_hold 44 = .ok (.istore 6, 2) := by decide +kernel
theorem dX7_hold_46 : decode cX7_hold 46 = .ok (.iload 6, 2) := by decide +kernel
theorem dX7_hold_48 : decode cX7_hold 48 = .ok (.iload_n 3, 1) := by decide +kernel
theorem dX7_hold_49 : decode cX7_hold 49 = .ok (.if_icmp .gt 39, 3) := by decide +kernel
theorem dX7_hold_52 : decode cX7_hold 52 = .ok (.aload_n 0, 1) := by decide +kernel
theorem dX7_hold_53 : decode cX7_hold 53 = .ok (.getfield 10, 3) := by decide +kernel
theorem dX7_hold_56 : decode cX7_hold 56 = .ok (.iload_n 1, 1) := by decide +kernel
theorem dX7_hold_57 : decode cX7_hold 57 = .ok (.iload 6, 2) := by decide +kernel
theorem dX7_hold_59 : decode cX7_hold 59 = .ok (.invokevirtual 110, 3) := by decide +kernel
theorem dX7_hold_62 : decode cX7_hold 62 = .ok (.iload 4, 2) := by decide +kernel
theorem dX7_hold_64 : decode cX7_hold 64 = .ok (.if_icmp .eq 18, 3) := by decide +kernel
theorem dX7_hold_67 : decode cX7_hold 67 = .ok (.iinc 5 1, 3) := by decide +kernel
theorem dX7_hold_70 : decode cX7_hold 70 = .ok (.aload_n 0, 1) := by decide +kernel
theorem dX7_hold_71 : decode cX7_hold 71 = .ok (.getfield 10, 3) := by decide +kernel
theorem dX7_hold_74 : decode cX7_hold 74 = .ok (.iload_n 1, 1) := by decide +kernel
theorem dX7_hold_75 : decode cX7_hold 75 = .ok (.iload 6, 2) := by decide +kernel
theorem dX7_hold_77 : decode cX7_hold 77 = .ok (.iload 4, 2) := by decide +kernel
theorem dX7_hold_79 : decode cX7_hold 79 = .ok (.invokevirtual 114, 3) := by decide +kernel
theorem dX7_hold_82 : decode cX7_hold 82 = .ok (.iinc 6 1, 3) := by decide +kernel
theorem dX7_hold_85 : decode cX7_hold 85 = .ok (.goto (-39), 3) := by decide +kernel
theorem dX7_hold_88 : decode cX7_hold 88 = .ok (.aload_n 0, 1) := by decide +kernel
theorem dX7_hold_89 : decode cX7_hold 89 = .ok (.getfield 28, 3) := by decide +kernel
theorem dX7_hold_92 : decode cX7_hold 92 = .ok (.iload_n 2, 1) := by decide +kernel
theorem dX7_hold_93 : decode cX7_hold 93 = .ok (.invokevirtual 88, 3) := by decide +kernel
theorem dX7_hold_96 : decode cX7_hold 96 = .ok (.iload 5, 2) := by decide +kernel
theorem dX7_hold_98 : decode cX7_hold 98 = .ok (.ireturn, 1) := by decide +kernel
set_option maxRecDepth 20000 in
theorem ggX7_leave_X7_isHand : GoodIn wsX7_leave wsX7_isHand := goodIn_r _ [9, 1, 10, 21, 22, 23, 24, 25, 26, 27, 28, 29, 30, 31, 32, 33, 34, 35, 36, 37, 38, 39] (by decide +kernel) (by decide +kernel)
set_option maxRecDepth 20000 in
theorem gX7_leave_X7_isHand : GoodIn wsX7_leave (wsV RX7 101 RX7 yX7_isHand wsX7_isHand) := goodIn_app (goodIn_of _ (by decide +kernel)) ggX7_leave_X7_isHand
set_option maxRecDepth 20000 in
theorem ggX7_leave_X6_keepBelow : GoodIn wsX7_leave wsX6_keepBelow := goodIn_r _ [15, 16, 17, 18, 19, 20, 40, 41] (by decide +kernel) (by decide +kernel)
set_option maxRecDepth 20000 in
theorem gX7_leave_X6_keepBelow : GoodIn wsX7_leave (wsV RX7 88 RX6 yX6_keepBelow wsX6_keepBelow) := goodIn_app (goodIn_of _ (by decide +kernel)) ggX7_leave_X6_keepBelow
theorem dX7_leave_0 : decode cX7_leave 0 = .ok (.aload_n 0, 1) := by decide +kernel
theorem dX7_leave_1 : decode cX7_leave 1 = .ok (.iload_n 1, 1) := by decide +kernel
theorem dX7_leave_2 : decode cX7_leave 2 = .ok (.invokevirtual 101, 3) := by decide +kernel
theorem dX7_leave_5 : decode cX7_leave 5 = .ok (.ifCond .ne 5, 3) := by decide +kernel
theorem dX7_leave_8 : decode cX7_leave 8 = .ok (.iconst (-1), 1) := by decide +kernel
theorem dX7_leave_9 : decode cX7_leave 9 = .ok (.ireturn, 1) := by decide +kernel
theorem dX7_leave_10 : decode cX7_leave 10 = .ok (.iload_n 2, 1) := by decide +kernel
theorem dX7_leave_11 : decode cX7_leave 11 = .ok (.ifCond .lt 14, 3) := by decide +kernel
theorem dX7_leave_14 : decode cX7_leave 14 = .ok (.iload_n 3, 1) := by decide +kernel
theorem dX7_leave_15 : decode cX7_leave 15 = .ok (.iload_n 2, 1) := by decide +kernel
theorem dX7_leave_16 : decode cX7_leave 16 = .ok (.if_icmp .lt 9, 3) := by decide +kernel
theorem dX7_leave_19 : decode cX7_leave 19 = .ok (.iload_n 3, 1) := by decide +kernel
theorem dX7_leave_20 : decode cX7_leave 20 = .ok (.bipush 100, 2) := by decide +kernel
theorem dX7_leave_22 : decode cX7_leave 22 = .ok (.if_icmp .le 6, 3) := by decide +kernel
theorem dX7_leave_25 : decode cX7_leave 25 = .ok (.bipush (-2), 2) := by decide +kernel
theorem dX7_leave_27 : decode cX7_leave 27 = .ok (.ireturn, 1) := by decide +kernel
theorem dX7_leave_28 : decode cX7_leave 28 = .ok (.aload_n 0, 1) := by decide +kernel
theorem dX7_leave_29 : decode cX7_leave 29 = .ok (.getfield 10, 3) := by decide +kernel
theorem dX7_leave_32 : decode cX7_leave 32 = .ok (.getfield 117, 3) := by decide +kernel
theorem dX7_leave_35 : decode cX7_leave 35 = .ok (.iload_n 1, 1) := by decide +kernel
theorem dX7_leave_36 : decode cX7_leave 36 = .ok (.iload_n 2, 1) := by decide +kernel
theorem dX7_leave_37 : decode cX7_leave 37 = .ok (.iastore, 1) := by decide +kernel
theorem dX7_leave_38 : decode cX7_leave 38 = .ok (.aload_n 0, 1) := by decide +kernel
theorem dX7_leave_39 : decode cX7_leave 39 = .ok (.getfield 10, 3) := by decide +kernel
theorem dX7_leave_42 : decode cX7_leave 42 = .ok (.getfield 120, 3) := by decide +kernel
theorem dX7_leave_45 : decode cX7_leave 45 = .ok (.iload_n 1, 1) := by decide +kernel
theorem dX7_leave_46 : decode cX7_leave 46 = .ok (.iload_n 3, 1) := by decide +kernel
theorem dX7_leave_47 : decode cX7_leave 47 = .ok (.iastore, 1) := by decide +kernel
theorem dX7_leave_48 : decode cX7_leave 48 = .ok (.aload_n 0, 1) := by decide +kernel
theorem dX7_leave_49 : decode cX7_leave 49 = .ok (.getfield 28, 3) := by decide +kernel
theorem dX7_leave_52 : decode cX7_leave 52 = .ok (.iconst 0, 1) := by decide +kernel
theorem dX7_leave_53 : decode cX7_leave 53 = .ok (.invokevirtual 88, 3) := by decide +kernel
theorem dX7_leave_56 : decode cX7_leave 56 = .ok (.iload_n 3, 1) := by decide +kernel
theorem dX7_leave_57 : decode cX7_leave 57 = .ok (.iload_n 2, 1) := by decide +kernel
theorem dX7_leave_58 : decode cX7_leave 58 = .ok (.isub, 1) := by decide +kernel
theorem dX7_leave_59 : decode cX7_leave 59 = .ok (.ireturn, 1) := by decide +kernel
set_option maxRecDepth 20000 in
theorem ggX7_truly_X7_isTick : GoodIn wsX7_truly wsX7_isTick := goodIn_r _ [7] (by decide +kernel) (by decide +kernel)
set_option maxRecDepth 20000 in
theorem gX7_truly_X7_isTick : GoodIn wsX7_truly (va_wsS RX7 104 yX7_isTick wsX7_isTick) := goodIn_app (goodIn_of _ (by decide +kernel)) ggX7_truly_X7_isTick
set_option maxRecDepth 20000 in
theorem ggX7_truly_X7_columnOf : GoodIn wsX7_truly wsX7_columnOf := goodIn_r _ [10] (by decide +kernel) (by decide +kernel)
set_option maxRecDepth 20000 in
theorem gX7_truly_X7_columnOf : GoodIn wsX7_truly (va_wsS RX7 127 yX7_columnOf wsX7_columnOf) := goodIn_app (goodIn_of _ (by decide +kernel)) ggX7_truly_X7_columnOf
set_option maxRecDepth 20000 in
theorem ggX7_truly_X7_playTrulyTo : GoodIn wsX7_truly wsX7_playTrulyTo := goodIn_r _ [14, 3, 15, 1, 16, 17, 18, 19, 20, 21, 6, 22, 23, 24, 25, 26, 27, 28, 29, 30, 31, 32, 33, 34, 35, 36, 37, 38, 39, 40, 41, 42, 43, 44, 45, 46, 47, 48, 49, 50, 51, 52, 53, 54, 55, 56, 57, 58, 59, 60, 61, 62, 63, 64, 65, 66, 67, 68, 69, 70, 71, 72, 73, 74, 75, 76, 77, 78, 79, 80, 81, 82, 83, 84, 85, 86, 87, 88, 89, 90, 91, 92, 93, 94, 95, 96, 97, 98, 99, 100, 101, 102, 103, 104, 105, 106, 107, 108, 109, 110, 111, 112, 113, 114, 115, 116, 117, 118, 119, 128, 129, 130, 131, 132, 133, 134, 135, 136, 137, 138, 139, 147, 148, 140, 141, 142, 143, 144, 145, 146, 149] (by decide +kernel) (by decide +kernel)
set_option maxRecDepth 20000 in
theorem gX7_truly_X7_playTrulyTo : GoodIn wsX7_truly (wsV RX7 130 RX7 yX7_playTrulyTo wsX7_playTrulyTo) := goodIn_app (goodIn_of _ (by decide +kernel)) ggX7_truly_X7_playTrulyTo
set_option maxRecDepth 20000 in
theorem ggX7_truly_X6_at : GoodIn wsX7_truly wsX6_at := goodIn_r _ [123, 28, 147, 148] (by decide +kernel) (by decide +kernel)
set_option maxRecDepth 20000 in
theorem gX7_truly_X6_at : GoodIn wsX7_truly (wsV RX7 133 RX6 yX6_at wsX6_at) := goodIn_app (goodIn_of _ (by decide +kernel)) ggX7_truly_X6_at
set_option maxRecDepth 20000 in
theorem ggX7_truly_X7_told : GoodIn wsX7_truly wsX7_told := goodIn_r _ [126, 127, 115, 84, 6, 85, 114, 82, 83, 140, 141, 142, 143, 144, 145, 146] (by decide +kernel) (by decide +kernel)
set_option maxRecDepth 20000 in
theorem gX7_truly_X7_told : GoodIn wsX7_truly (va_wsS RX7 136 yX7_told wsX7_told) := goodIn_app (goodIn_of _ (by decide +kernel)) ggX7_truly_X7_told
theorem dX7_truly_0 : decode cX7_truly 0 = .ok (.iload_n 1, 1) := by decide +kernel
theorem dX7_truly_1 : decode cX7_truly 1 = .ok (.invokestatic 104, 3) := by decide +kernel
theorem dX7_truly_4 : decode cX7_truly 4 = .ok (.ifCond .ne 5, 3) := by decide +kernel
theorem dX7_truly_7 : decode cX7_truly 7 = .ok (.iconst (-1), 1) := by decide +kernel
theorem dX7_truly_8 : decode cX7_truly 8 = .ok (.ireturn, 1) := by decide +kernel
theorem dX7_truly_9 : decode cX7_truly 9 = .ok (.iload_n 2, 1) := by decide +kernel
theorem dX7_truly_10 : decode cX7_truly 10 = .ok (.aload_n 0, 1) := by decide +kernel
theorem dX7_truly_11 : decode cX7_truly 11 = .ok (.getfield 10, 3) := by decide +kernel
theorem dX7_truly_14 : decode cX7_truly 14 = .ok (.getfield 123, 3) := by decide +kernel
theorem dX7_truly_17 : decode cX7_truly 17 = .ok (.invokestatic 127, 3) := by decide +kernel
theorem dX7_truly_20 : decode cX7_truly 20 = .ok (.istore_n 3, 1) := by decide +kernel
theorem dX7_truly_21 : decode cX7_truly 21 = .ok (.iload_n 3, 1) := by decide +kernel
theorem dX7_truly_22 : decode cX7_truly 22 = .ok (.ifCond .ge 6, 3) := by decide +kernel
theorem dX7_truly_25 : decode cX7_truly 25 = .ok (.bipush (-2), 2) := by decide +kernel
theorem dX7_truly_27 : decode cX7_truly 27 = .ok (.ireturn, 1) := by decide +kernel
theorem dX7_truly_28 : decode cX7_truly 28 = .ok (.aload_n 0, 1) := by decide +kernel
theorem dX7_truly_29 : decode cX7_truly 29 = .ok (.iload_n 1, 1) := by decide +kernel
theorem dX7_truly_30 : decode cX7_truly 30 = .ok (.invokevirtual 130, 3) := by decide +kernel
theorem dX7_truly_33 : decode cX7_truly 33 = .ok (.aload_n 0, 1) := by decide +kernel
theorem dX7_truly_34 : decode cX7_truly 34 = .ok (.getfield 10, 3) := by decide +kernel
theorem dX7_truly_37 : decode cX7_truly 37 = .ok (.aload_n 0, 1) := by decide +kernel
theorem dX7_truly_38 : decode cX7_truly 38 = .ok (.getfield 28, 3) := by decide +kernel
theorem dX7_truly_41 : decode cX7_truly 41 = .ok (.iload_n 1, 1) := by decide +kernel
theorem dX7_truly_42 : decode cX7_truly 42 = .ok (.iload_n 3, 1) := by decide +kernel
theorem dX7_truly_43 : decode cX7_truly 43 = .ok (.invokevirtual 133, 3) := by decide +kernel
theorem dX7_truly_46 : decode cX7_truly 46 = .ok (.iload_n 3, 1) := by decide +kernel
theorem dX7_truly_47 : decode cX7_truly 47 = .ok (.invokestatic 136, 3) := by decide +kernel
theorem dX7_truly_50 : decode cX7_truly 50 = .ok (.ireturn, 1) := by decide +kernel
set_option maxRecDepth 20000 in
theorem ggX7_machine_X7_isHand : GoodIn wsX7_machine wsX7_isHand := goodIn_r _ [7, 8, 9, 122, 123, 124, 125, 126, 127, 128, 129, 130, 131, 132, 133, 134, 135, 136, 137, 138, 139, 140] (by decide +kernel) (by decide +kernel)
set_option maxRecDepth 20000 in
theorem gX7_machine_X7_isHand : GoodIn wsX7_machine (wsV RX7 101 RX7 yX7_isHand wsX7_isHand) := goodIn_app (goodIn_of _ (by decide +kernel)) ggX7_machine_X7_isHand
set_option maxRecDepth 20000 in
theorem ggX7_machine_X7_isTick : GoodIn wsX7_machine wsX7_isTick := goodIn_r _ [12] (by decide +kernel) (by decide +kernel)
set_option maxRecDepth 20000 in
theorem gX7_machine_X7_isTick : GoodIn wsX7_machine (va_wsS RX7 104 yX7_isTick wsX7_isTick) := goodIn_app (goodIn_of _ (by decide +kernel)) ggX7_machine_X7_isTick
set_option maxRecDepth 20000 in
theorem ggX7_machine_X7_playTrulyTo : GoodIn wsX7_machine wsX7_playTrulyTo := goodIn_r _ [16, 1, 17, 8, 18, 2, 19, 20, 21, 22, 6, 23, 24, 25, 26, 27, 28, 29, 30, 31, 32, 33, 34, 35, 36, 37, 38, 39, 40, 41, 42, 43, 44, 45, 46, 47, 48, 49, 50, 51, 52, 53, 54, 55, 56, 57, 58, 59, 60, 61, 62, 63, 64, 65, 66, 67, 68, 69, 70, 71, 72, 73, 74, 75, 76, 77, 78, 79, 80, 81, 82, 83, 84, 85, 86, 87, 88, 89, 90, 91, 92, 93, 94, 95, 96, 97, 98, 99, 100, 101, 102, 103, 104, 105, 106, 107, 108, 109, 110, 111, 112, 113, 114, 115, 116, 117, 118, 119, 120, 122, 123, 124, 125, 126, 127, 128, 129, 130, 131, 132, 133, 141, 142, 134, 135, 136, 137, 138, 139, 140, 143] (by decide +kernel) (by decide +kernel)
set_option maxRecDepth 20000 in
theorem gX7_machine_X7_playTrulyTo : GoodIn wsX7_machine (wsV RX7 130 RX7 yX7_playTrulyTo wsX7_playTrulyTo) := goodIn_app (goodIn_of _ (by decide +kernel)) ggX7_machine_X7_playTrulyTo
set_option maxRecDepth 20000 in
theorem ggX7_machine_X6_load : GoodIn wsX7_machine wsX6_load := goodIn_r _ [28, 29, 30, 31, 32, 33, 34, 141, 142, 143] (by decide +kernel) (by decide +kernel)
set_option maxRecDepth 20000 in
theorem gX7_machine_X6_load : GoodIn wsX7_machine (wsV RX7 140 RX6 yX6_load wsX6_load) := goodIn_app (goodIn_of _ (by decide +kernel)) ggX7_machine_X6_load
set_option maxRecDepth 20000 in
theorem ggX7_machine_X0_machinePress : GoodIn wsX7_machine wsX0_machinePress := goodIn_r _ [74, 40, 75, 76, 77, 78, 79, 80, 81, 38, 82, 83, 6, 84, 85, 86, 143] (by decide +kernel) (by decide +kernel)
set_option maxRecDepth 20000 in
theorem gX7_machine_X0_machinePress : GoodIn wsX7_machine (wsV RX7 144 RX0 yX0_machinePress wsX0_machinePress) := goodIn_app (goodIn_of _ (by decide +kernel)) ggX7_machine_X0_machinePress
theorem dX7_machine_0 : decode cX7_machine 0 = .ok (.aload_n 0, 1) := by decide +kernel
theorem dX7_machine_1 : decode cX7_machine 1 = .ok (.iload_n 1, 1) := by decide +kernel
theorem dX7_machine_2 : decode cX7_machine 2 = .ok (.invokevirtual 101, 3) := by decide +kernel
theorem dX7_machine_5 : decode cX7_machine 5 = .ok (.ifCond .eq 10, 3) := by decide +kernel
theorem dX7_machine_8 : decode cX7_machine 8 = .ok (.iload_n 2, 1) := by decide +kernel
theorem dX7_machine_9 : decode cX7_machine 9 = .ok (.invokestatic 104, 3) := by decide +kernel
theorem dX7_machine_12 : decode cX7_machine 12 = .ok (.ifCond .ne 5, 3) := by decide +kernel
theorem dX7_machine_15 : decode cX7_machine 15 = .ok (.iconst (-1), 1) := by decide +kernel
theorem dX7_machine_16 : decode cX7_machine 16 = .ok (.ireturn, 1) := by decide +kernel
theorem dX7_machine_17 : decode cX7_machine 17 = .ok (.aload_n 0, 1) := by decide +kernel
theorem dX7_machine_18 : decode cX7_machine 18 = .ok (.iload_n 2, 1) := by decide +kernel
theorem dX7_machine_19 : decode cX7_machine 19 = .ok (.invokevirtual 130, 3) := by decide +kernel
theorem dX7_machine_22 : decode cX7_machine 22 = .ok (.aload_n 0, 1) := by decide +kernel
theorem dX7_machine_23 : decode cX7_machine 23 = .ok (.getfield 28, 3) := by decide +kernel
theorem dX7_machine_26 : decode cX7_machine 26 = .ok (.iload_n 2, 1) := by decide +kernel
theorem dX7_machine_27 : decode cX7_machine 27 = .ok (.aload_n 0, 1) := by decide +kernel
theorem dX7_machine_28 : decode cX7_machine 28 = .ok (.getfield 38, 3) := by decide +kernel
theorem dX7_machine_31 : decode cX7_machine 31 = .ok (.invokevirtual 140, 3) := by decide +kernel
theorem dX7_machine_34 : decode cX7_machine 34 = .ok (.aload_n 0, 1) := by decide +kernel
theorem dX7_machine_35 : decode cX7_machine 35 = .ok (.getfield 38, 3) := by decide +kernel
theorem dX7_machine_38 : decode cX7_machine 38 = .ok (.iload_n 1, 1) := by decide +kernel
theorem dX7_machine_39 : decode cX7_machine 39 = .ok (.invokevirtual 144, 3) := by decide +kernel
theorem dX7_machine_42 : decode cX7_machine 42 = .ok (.ireturn, 1) := by decide +kernel
set_option maxRecDepth 20000 in
theorem ggX7_line_X7_isHand : GoodIn wsX7_line wsX7_isHand := goodIn_r _ [6, 7, 8, 19, 20, 21, 22, 23, 24, 25, 26, 27, 28, 29, 30, 31, 32, 33, 34, 35, 36, 37] (by decide +kernel) (by decide +kernel)
set_option maxRecDepth 20000 in
theorem gX7_line_X7_isHand : GoodIn wsX7_line (wsV RX7 101 RX7 yX7_isHand wsX7_isHand) := goodIn_app (goodIn_of _ (by decide +kernel)) ggX7_line_X7_isHand
set_option maxRecDepth 20000 in
theorem ggX7_line_X4_waitOf : GoodIn wsX7_line wsX4_waitOf := goodIn_r _ [13, 14, 38, 39, 40] (by decide +kernel) (by decide +kernel)
set_option maxRecDepth 20000 in
theorem gX7_line_X4_waitOf : GoodIn wsX7_line (wsV RX7 148 RX4 yX4_waitOf wsX4_waitOf) := goodIn_app (goodIn_of _ (by decide +kernel)) ggX7_line_X4_waitOf
set_option maxRecDepth 20000 in
theorem ggX7_line_X4_setWait : GoodIn wsX7_line wsX4_setWait := goodIn_r _ [18, 14, 38, 39, 40] (by decide +kernel) (by decide +kernel)
set_option maxRecDepth 20000 in
theorem gX7_line_X4_setWait : GoodIn wsX7_line (wsV RX7 151 RX4 yX4_setWait wsX4_setWait) := goodIn_app (goodIn_of _ (by decide +kernel)) ggX7_line_X4_setWait
theorem dX7_line_0 : decode cX7_line 0 = .ok (.aload_n 0, 1) := by decide +kernel
theorem dX7_line_1 : decode cX7_line 1 = .ok (.iload_n 1, 1) := by decide +kernel
theorem dX7_line_2 : decode cX7_line 2 = .ok (.invokevirtual 101, 3) := by decide +kernel
theorem dX7_line_5 : decode cX7_line 5 = .ok (.ifCond .eq 11, 3) := by decide +kernel
theorem dX7_line_8 : decode cX7_line 8 = .ok (.aload_n 0, 1) := by decide +kernel
theorem dX7_line_9 : decode cX7_line 9 = .ok (.iload_n 2, 1) := by decide +kernel
theorem dX7_line_10 : decode cX7_line 10 = .ok (.invokevirtual 101, 3) := by decide +kernel
theorem dX7_line_13 : decode cX7_line 13 = .ok (.ifCond .ne 5, 3) := by decide +kernel
theorem dX7_line_16 : decode cX7_line 16 = .ok (.iconst (-1), 1) := by decide +kernel
theorem dX7_line_17 : decode cX7_line 17 = .ok (.ireturn, 1) := by decide +kernel
theorem dX7_line_18 : decode cX7_line 18 = .ok (.iload_n 3, 1) := by decide +kernel
theorem dX7_line_19 : decode cX7_line 19 = .ok (.ifCond .lt 9, 3) := by decide +kernel
theorem dX7_line_22 : decode cX7_line 22 = .ok (.iload_n 3, 1) := by decide +kernel
theorem dX7_line_23 : decode cX7_line 23 = .ok (.bipush 9, 2) := by decide +kernel
theorem dX7_line_25 : decode cX7_line 25 = .ok (.if_icmp .le 6, 3) := by decide +kernel
theorem dX7_line_28 : decode cX7_line 28 = .ok (.bipush (-2), 2) := by decide +kernel
theorem dX7_line_30 : decode cX7_line 30 = .ok (.ireturn, 1) := by decide +kernel
theorem dX7_line_31 : decode cX7_line 31 = .ok (.iload_n 1, 1) := by decide +kernel
theorem dX7_line_32 : decode cX7_line 32 = .ok (.iload_n 2, 1) := by decide +kernel
theorem dX7_line_33 : decode cX7_line 33 = .ok (.if_icmp .ne 6, 3) := by decide +kernel
theorem dX7_line_36 : decode cX7_line 36 = .ok (.bipush (-3), 2) := by decide +kernel
theorem dX7_line_38 : decode cX7_line 38 = .ok (.ireturn, 1) := by decide +kernel
theorem dX7_line_39 : decode cX7_line 39 = .ok (.aload_n 0, 1) := by decide +kernel
theorem dX7_line_40 : decode cX7_line 40 = .ok (.getfield 21, 3) := by decide +kernel
theorem dX7_line_43 : decode cX7_line 43 = .ok (.iload_n 1, 1) := by decide +kernel
theorem dX7_line_44 : decode cX7_line 44 = .ok (.iload_n 2, 1) := by decide +kernel
theorem dX7_line_45 : decode cX7_line 45 = .ok (.invokevirtual 148, 3) := by decide +kernel
theorem dX7_line_48 : decode cX7_line 48 = .ok (.istore 4, 2) := by decide +kernel
theorem dX7_line_50 : decode cX7_line 50 = .ok (.aload_n 0, 1) := by decide +kernel
theorem dX7_line_51 : decode cX7_line 51 = .ok (.getfield 21, 3) := by decide +kernel
theorem dX7_line_54 : decode cX7_line 54 = .ok (.iload_n 1, 1) := by decide +kernel
theorem dX7_line_55 : decode cX7_line 55 = .ok (.iload_n 2, 1) := by decide +kernel
theorem dX7_line_56 : decode cX7_line 56 = .ok (.iload_n 3, 1) := by decide +kernel
theorem dX7_line_57 : decode cX7_line 57 = .ok (.invokevirtual 151, 3) := by decide +kernel
theorem dX7_line_60 : decode cX7_line 60 = .ok (.iload 4, 2) := by decide +kernel
theorem dX7_line_62 : decode cX7_line 62 = .ok (.ireturn, 1) := by decide +kernel
set_option maxRecDepth 20000 in
theorem ggX7_lose_X7_isHand : GoodIn wsX7_lose wsX7_isHand := goodIn_r _ [6, 7, 8, 22, 23, 24, 25, 26, 27, 28, 29, 30, 31, 32, 33, 34, 35, 36, 37, 38, 39, 40] (by decide +kernel) (by decide +kernel)
set_option maxRecDepth 20000 in
theorem gX7_lose_X7_isHand : GoodIn wsX7_lose (wsV RX7 101 RX7 yX7_isHand wsX7_isHand) := goodIn_app (goodIn_of _ (by decide +kernel)) ggX7_lose_X7_isHand
set_option maxRecDepth 20000 in
theorem ggX7_lose_X7_isTick : GoodIn wsX7_lose wsX7_isTick := goodIn_r _ [11] (by decide +kernel) (by decide +kernel)
set_option maxRecDepth 20000 in
theorem gX7_lose_X7_isTick : GoodIn wsX7_lose (va_wsS RX7 104 yX7_isTick wsX7_isTick) := goodIn_app (goodIn_of _ (by decide +kernel)) ggX7_lose_X7_isTick
set_option maxRecDepth 20000 in
theorem ggX7_lose_X4_isLost : GoodIn wsX7_lose wsX4_isLost := goodIn_r _ [16, 17, 41, 42, 43] (by decide +kernel) (by decide +kernel)
set_option maxRecDepth 20000 in
theorem gX7_lose_X4_isLost : GoodIn wsX7_lose (wsV RX7 154 RX4 yX4_isLost wsX4_isLost) := goodIn_app (goodIn_of _ (by decide +kernel)) ggX7_lose_X4_isLost
set_option maxRecDepth 20000 in
theorem ggX7_lose_X4_setLost : GoodIn wsX7_lose wsX4_setLost := goodIn_r _ [21, 17, 41, 42, 43] (by decide +kernel) (by decide +kernel)
set_option maxRecDepth 20000 in
theorem gX7_lose_X4_setLost : GoodIn wsX7_lose (wsV RX7 158 RX4 yX4_setLost wsX4_setLost) := goodIn_app (goodIn_of _ (by decide +kernel)) ggX7_lose_X4_setLost
theorem dX7_lose_0 : decode cX7_lose 0 = .ok (.aload_n 0, 1) := by decide +kernel
theorem dX7_lose_1 : decode cX7_lose 1 = .ok (.iload_n 1, 1) := by decide +kernel
theorem dX7_lose_2 : decode cX7_lose 2 = .ok (.invokevirtual 101, 3) := by decide +kernel
theorem dX7_lose_5 : decode cX7_lose 5 = .ok (.ifCond .eq 10, 3) := by decide +kernel
theorem dX7_lose_8 : decode cX7_lose 8 = .ok (.iload_n 2, 1) := by decide +kernel
theorem dX7_lose_9 : decode cX7_lose 9 = .ok (.invokestatic 104, 3) := by decide +kernel
theorem dX7_lose_12 : decode cX7_lose 12 = .ok (.ifCond .ne 5, 3) := by decide +kernel
theorem dX7_lose_15 : decode cX7_lose 15 = .ok (.iconst (-1), 1) := by decide +kernel
theorem dX7_lose_16 : decode cX7_lose 16 = .ok (.ireturn, 1) := by decide +kernel
theorem dX7_lose_17 : decode cX7_lose 17 = .ok (.aload_n 0, 1) := by decide +kernel
theorem dX7_lose_18 : decode cX7_lose 18 = .ok (.getfield 21, 3) := by decide +kernel
theorem dX7_lose_21 : decode cX7_lose 21 = .ok (.iload_n 1, 1) := by decide +kernel
theorem dX7_lose_22 : decode cX7_lose 22 = .ok (.iload_n 2, 1) := by decide +kernel
theorem dX7_lose_23 : decode cX7_lose 23 = .ok (.invokevirtual 154, 3) := by decide +kernel
theorem dX7_lose_26 : decode cX7_lose 26 = .ok (.ifCond .eq 7, 3) := by decide +kernel
theorem dX7_lose_29 : decode cX7_lose 29 = .ok (.iconst 1, 1) := by decide +kernel
theorem dX7_lose_30 : decode cX7_lose 30 = .ok (.goto 4, 3) := by decide +kernel
theorem dX7_lose_33 : decode cX7_lose 33 = .ok (.iconst 0, 1) := by decide +kernel
theorem dX7_lose_34 : decode cX7_lose 34 = .ok (.istore 4, 2) := by decide +kernel
theorem dX7_lose_36 : decode cX7_lose 36 = .ok (.aload_n 0, 1) := by decide +kernel
theorem dX7_lose_37 : decode cX7_lose 37 = .ok (.getfield 21, 3) := by decide +kernel
theorem dX7_lose_40 : decode cX7_lose 40 = .ok (.iload_n 1, 1) := by decide +kernel
theorem dX7_lose_41 : decode cX7_lose 41 = .ok (.iload_n 2, 1) := by decide +kernel
theorem dX7_lose_42 : decode cX7_lose 42 = .ok (.iload_n 3, 1) := by decide +kernel
theorem dX7_lose_43 : decode cX7_lose 43 = .ok (.invokevirtual 158, 3) := by decide +kernel
theorem dX7_lose_46 : decode cX7_lose 46 = .ok (.iload 4, 2) := by decide +kernel
theorem dX7_lose_48 : decode cX7_lose 48 = .ok (.ireturn, 1) := by decide +kernel
set_option maxRecDepth 20000 in
theorem ggX7_known_X7_isHand : GoodIn wsX7_known wsX7_isHand := goodIn_r _ [8, 1, 9, 27, 28, 29, 30, 31, 32, 33, 34, 35, 36, 37, 38, 39, 40, 41, 42, 43, 44, 45] (by decide +kernel) (by decide +kernel)
set_option maxRecDepth 20000 in
theorem gX7_known_X7_isHand : GoodIn wsX7_known (wsV RX7 101 RX7 yX7_isHand wsX7_isHand) := goodIn_app (goodIn_of _ (by decide +kernel)) ggX7_known_X7_isHand
set_option maxRecDepth 20000 in
theorem ggX7_known_X7_isTick : GoodIn wsX7_known wsX7_isTick := goodIn_r _ [12] (by decide +kernel) (by decide +kernel)
set_option maxRecDepth 20000 in
theorem gX7_known_X7_isTick : GoodIn wsX7_known (va_wsS RX7 104 yX7_isTick wsX7_isTick) := goodIn_app (goodIn_of _ (by decide +kernel)) ggX7_known_X7_isTick
set_option maxRecDepth 20000 in
theorem ggX7_known_X5_isLeft : GoodIn wsX7_known wsX5_isLeft := goodIn_r _ [17, 18, 19, 39, 40, 41, 42, 43, 44, 45] (by decide +kernel) (by decide +kernel)
set_option maxRecDepth 20000 in
theorem gX7_known_X5_isLeft : GoodIn wsX7_known (wsV RX7 162 RX5 yX5_isLeft wsX5_isLeft) := goodIn_app (goodIn_of _ (by decide +kernel)) ggX7_known_X5_isLeft
set_option maxRecDepth 20000 in
theorem ggX7_known_X4_clockOf : GoodIn wsX7_known wsX4_clockOf := goodIn_r _ [24, 25, 26, 46, 47, 48] (by decide +kernel) (by decide +kernel)
set_option maxRecDepth 20000 in
theorem gX7_known_X4_clockOf : GoodIn wsX7_known (wsV RX7 165 RX4 yX4_clockOf wsX4_clockOf) := goodIn_app (goodIn_of _ (by decide +kernel)) ggX7_known_X4_clockOf
theorem dX7_known_0 : decode cX7_known 0 = .ok (.aload_n 0, 1) := by decide +kernel
theorem dX7_known_1 : decode cX7_known 1 = .ok (.iload_n 1, 1) := by decide +kernel
theorem dX7_known_2 : decode cX7_known 2 = .ok (.invokevirtual 101, 3) := by decide +kernel
theorem dX7_known_5 : decode cX7_known 5 = .ok (.ifCond .eq 18, 3) := by decide +kernel
theorem dX7_known_8 : decode cX7_known 8 = .ok (.aload_n 0, 1) := by decide +kernel
theorem dX7_known_9 : decode cX7_known 9 = .ok (.iload_n 2, 1) := by decide +kernel
theorem dX7_known_10 : decode cX7_known 10 = .ok (.invokevirtual 101, 3) := by decide +kernel
theorem dX7_known_13 : decode cX7_known 13 = .ok (.ifCond .eq 10, 3) := by decide +kernel
theorem dX7_known_16 : decode cX7_known 16 = .ok (.iload_n 3, 1) := by decide +kernel
theorem dX7_known_17 : decode cX7_known 17 = .ok (.invokestatic 104, 3) := by decide +kernel
theorem dX7_known_20 : decode cX7_known 20 = .ok (.ifCond .ne 5, 3) := by decide +kernel
theorem dX7_known_23 : decode cX7_known 23 = .ok (.iconst (-1), 1) := by decide +kernel
theorem dX7_known_24 : decode cX7_known 24 = .ok (.ireturn, 1) := by decide +kernel
theorem dX7_known_25 : decode cX7_known 25 = .ok (.aload_n 0, 1) := by decide +kernel
theorem dX7_known_26 : decode cX7_known 26 = .ok (.getfield 10, 3) := by decide +kernel
theorem dX7_known_29 : decode cX7_known 29 = .ok (.iload_n 2, 1) := by decide +kernel
theorem dX7_known_30 : decode cX7_known 30 = .ok (.iload_n 3, 1) := by decide +kernel
theorem dX7_known_31 : decode cX7_known 31 = .ok (.invokevirtual 162, 3) := by decide +kernel
theorem dX7_known_34 : decode cX7_known 34 = .ok (.ifCond .eq 5, 3) := by decide +kernel
theorem dX7_known_37 : decode cX7_known 37 = .ok (.iconst 0, 1) := by decide +kernel
theorem dX7_known_38 : decode cX7_known 38 = .ok (.ireturn, 1) := by decide +kernel
theorem dX7_known_39 : decode cX7_known 39 = .ok (.aload_n 0, 1) := by decide +kernel
theorem dX7_known_40 : decode cX7_known 40 = .ok (.getfield 21, 3) := by decide +kernel
theorem dX7_known_43 : decode cX7_known 43 = .ok (.aload_n 0, 1) := by decide +kernel
theorem dX7_known_44 : decode cX7_known 44 = .ok (.getfield 10, 3) := by decide +kernel
theorem dX7_known_47 : decode cX7_known 47 = .ok (.getfield 98, 3) := by decide +kernel
theorem dX7_known_50 : decode cX7_known 50 = .ok (.iconst 3, 1) := by decide +kernel
theorem dX7_known_51 : decode cX7_known 51 = .ok (.iaload, 1) := by decide +kernel
theorem dX7_known_52 : decode cX7_known 52 = .ok (.iload_n 1, 1) := by decide +kernel
theorem dX7_known_53 : decode cX7_known 53 = .ok (.iload_n 2, 1) := by decide +kernel
theorem dX7_known_54 : decode cX7_known 54 = .ok (.iload_n 3, 1) := by decide +kernel
theorem dX7_known_55 : decode cX7_known 55 = .ok (.invokevirtual 165, 3) := by decide +kernel
theorem dX7_known_58 : decode cX7_known 58 = .ok (.bipush 100, 2) := by decide +kernel
theorem dX7_known_60 : decode cX7_known 60 = .ok (.iadd, 1) := by decide +kernel
theorem dX7_known_61 : decode cX7_known 61 = .ok (.ireturn, 1) := by decide +kernel
set_option maxRecDepth 20000 in
theorem ggX7_takes_X7_isHand : GoodIn wsX7_takes wsX7_isHand := goodIn_r _ [8, 2, 9, 45, 46, 47, 48, 49, 50, 51, 52, 53, 54, 55, 56, 57, 58, 59, 60, 61, 62, 63] (by decide +kernel) (by decide +kernel)
set_option maxRecDepth 20000 in
theorem gX7_takes_X7_isHand : GoodIn wsX7_takes (wsV RX7 101 RX7 yX7_isHand wsX7_isHand) := goodIn_app (goodIn_of _ (by decide +kernel)) ggX7_takes_X7_isHand
set_option maxRecDepth 20000 in
theorem ggX7_takes_X7_isTick : GoodIn wsX7_takes wsX7_isTick := goodIn_r _ [12] (by decide +kernel) (by decide +kernel)
set_option maxRecDepth 20000 in
theorem gX7_takes_X7_isTick : GoodIn wsX7_takes (va_wsS RX7 104 yX7_isTick wsX7_isTick) := goodIn_app (goodIn_of _ (by decide +kernel)) ggX7_takes_X7_isTick
set_option maxRecDepth 20000 in
theorem ggX7_takes_X4_taken : GoodIn wsX7_takes wsX4_taken := goodIn_r _ [17, 18, 19, 20, 21, 16, 22, 23, 24, 25, 26, 27, 28, 29, 30, 31, 32, 33, 34, 35, 36, 37, 38, 39, 40, 41, 42, 43, 44, 64, 65, 66, 57, 58, 59, 60, 61, 62, 63] (by decide +kernel) (by decide +kernel)
set_option maxRecDepth 20000 in
theorem gX7_takes_X4_taken : GoodIn wsX7_takes (wsV RX7 169 RX4 yX4_taken wsX4_taken) := goodIn_app (goodIn_of _ (by decide +kernel)) ggX7_takes_X4_taken
theorem dX7_takes_0 : decode cX7_takes 0 = .ok (.aload_n 0, 1) := by decide +kernel
theorem dX7_takes_1 : decode cX7_takes 1 = .ok (.iload_n 1, 1) := by decide +kernel
theorem dX7_takes_2 : decode cX7_takes 2 = .ok (.invokevirtual 101, 3) := by decide +kernel
theorem dX7_takes_5 : decode cX7_takes 5 = .ok (.ifCond .eq 29, 3) := by decide +kernel
theorem dX7_takes_8 : decode cX7_takes 8 = .ok (.aload_n 0, 1) := by decide +kernel
theorem dX7_takes_9 : decode cX7_takes 9 = .ok (.iload_n 3, 1) := by decide +kernel
theorem dX7_takes_10 : decode cX7_takes 10 = .ok (.invokevirtual 101, 3) := by decide +kernel
theorem dX7_takes_13 : decode cX7_takes 13 = .ok (.ifCond .eq 21, 3) := by decide +kernel
theorem dX7_takes_16 : decode cX7_takes 16 = .ok (.iload_n 2, 1) := by decide +kernel
theorem dX7_takes_17 : decode cX7_takes 17 = .ok (.invokestatic 104, 3) := by decide +kernel
theorem dX7_takes_20 : decode cX7_takes 20 = .ok (.ifCond .eq 14, 3) := by decide +kernel
theorem dX7_takes_23 : decode cX7_takes 23 = .ok (.iload 4, 2) := by decide +kernel
theorem dX7_takes_25 : decode cX7_takes 25 = .ok (.ifCond .lt 9, 3) := by decide +kernel
theorem dX7_takes_28 : decode cX7_takes 28 = .ok (.iload 4, 2) := by decide +kernel
theorem dX7_takes_30 : decode cX7_takes 30 = .ok (.iload_n 2, 1) := by decide +kernel
theorem dX7_takes_31 : decode cX7_takes 31 = .ok (.if_icmp .le 5, 3) := by decide +kernel
theorem dX7_takes_34 : decode cX7_takes 34 = .ok (.iconst (-1), 1) := by decide +kernel
theorem dX7_takes_35 : decode cX7_takes 35 = .ok (.ireturn, 1) := by decide +kernel
theorem dX7_takes_36 : decode cX7_takes 36 = .ok (.aload_n 0, 1) := by decide +kernel
theorem dX7_takes_37 : decode cX7_takes 37 = .ok (.getfield 21, 3) := by decide +kernel
theorem dX7_takes_40 : decode cX7_takes 40 = .ok (.aload_n 0, 1) := by decide +kernel
theorem dX7_takes_41 : decode cX7_takes 41 = .ok (.getfield 10, 3) := by decide +kernel
theorem dX7_takes_44 : decode cX7_takes 44 = .ok (.getfield 98, 3) := by decide +kernel
theorem dX7_takes_47 : decode cX7_takes 47 = .ok (.iconst 3, 1) := by decide +kernel
theorem dX7_takes_48 : decode cX7_takes 48 = .ok (.iaload, 1) := by decide +kernel
theorem dX7_takes_49 : decode cX7_takes 49 = .ok (.iload_n 1, 1) := by decide +kernel
theorem dX7_takes_50 : decode cX7_takes 50 = .ok (.iload_n 2, 1) := by decide +kernel
theorem dX7_takes_51 : decode cX7_takes 51 = .ok (.iload_n 3, 1) := by decide +kernel
theorem dX7_takes_52 : decode cX7_takes 52 = .ok (.iload 4, 2) := by decide +kernel
theorem dX7_takes_54 : decode cX7_takes 54 = .ok (.invokevirtual 169, 3) := by decide +kernel
theorem dX7_takes_57 : decode cX7_takes 57 = .ok (.ireturn, 1) := by decide +kernel
set_option maxRecDepth 20000 in
theorem ggX7_shown_X7_isHand : GoodIn wsX7_shown wsX7_isHand := goodIn_r _ [8, 1, 2, 148, 149, 150, 151, 152, 153, 154, 155, 156, 157, 158, 159, 160, 161, 162, 163, 164, 165, 166] (by decide +kernel) (by decide +kernel)
set_option maxRecDepth 20000 in
theorem gX7_shown_X7_isHand : GoodIn wsX7_shown (wsV RX7 101 RX7 yX7_isHand wsX7_isHand) := goodIn_app (goodIn_of _ (by decide +kernel)) ggX7_shown_X7_isHand
set_option maxRecDepth 20000 in
theorem ggX7_shown_X7_isTick : GoodIn wsX7_shown wsX7_isTick := goodIn_r _ [11] (by decide +kernel) (by decide +kernel)
set_option maxRecDepth 20000 in
theorem gX7_shown_X7_isTick : GoodIn wsX7_shown (va_wsS RX7 104 yX7_isTick wsX7_isTick) := goodIn_app (goodIn_of _ (by decide +kernel)) ggX7_shown_X7_isTick
set_option maxRecDepth 20000 in
theorem ggX7_shown_X7_columnOf : GoodIn wsX7_shown wsX7_columnOf := goodIn_r _ [14] (by decide +kernel) (by decide +kernel)
set_option maxRecDepth 20000 in
theorem gX7_shown_X7_columnOf : GoodIn wsX7_shown (va_wsS RX7 127 yX7_columnOf wsX7_columnOf) := goodIn_app (goodIn_of _ (by decide +kernel)) ggX7_shown_X7_columnOf
set_option maxRecDepth 20000 in
theorem ggX7_shown_X7_showFrom : GoodIn wsX7_shown wsX7_showFrom := goodIn_r _ [18, 3, 1, 2, 19, 20, 21, 22, 23, 24, 25, 7, 26, 27, 28, 29, 30, 31, 32, 33, 34, 35, 36, 37, 38, 39, 40, 41, 42, 43, 44, 45, 46, 47, 48, 49, 50, 51, 52, 53, 54, 55, 56, 57, 58, 59, 60, 61, 62, 63, 64, 65, 66, 67, 68, 69, 70, 71, 72, 73, 74, 75, 76, 77, 78, 79, 80, 81, 82, 83, 84, 85, 86, 87, 88, 89, 90, 91, 92, 93, 94, 95, 96, 97, 98, 99, 100, 101, 102, 103, 104, 105, 106, 107, 108, 109, 110, 111, 112, 113, 114, 115, 116, 117, 118, 119, 120, 121, 122, 123, 124, 125, 126, 127, 128, 129, 130, 131, 132, 133, 134, 135, 136, 137, 138, 139, 148, 149, 150, 151, 152, 153, 154, 155, 156, 157, 158, 159, 160, 161, 162, 163, 164, 165, 166, 167, 168, 169, 170, 171, 172] (by decide +kernel) (by decide +kernel)
set_option maxRecDepth 20000 in
theorem gX7_shown_X7_showFrom : GoodIn wsX7_shown (wsV RX7 173 RX7 yX7_showFrom wsX7_showFrom) := goodIn_app (goodIn_of _ (by decide +kernel)) ggX7_shown_X7_showFrom
set_option maxRecDepth 20000 in
theorem ggX7_shown_X6_at : GoodIn wsX7_shown wsX6_at := goodIn_r _ [143, 32, 167, 168] (by decide +kernel) (by decide +kernel)
set_option maxRecDepth 20000 in
theorem gX7_shown_X6_at : GoodIn wsX7_shown (wsV RX7 133 RX6 yX6_at wsX6_at) := goodIn_app (goodIn_of _ (by decide +kernel)) ggX7_shown_X6_at
set_option maxRecDepth 20000 in
theorem ggX7_shown_X7_told : GoodIn wsX7_shown wsX7_told := goodIn_r _ [146, 147, 135, 104, 7, 105, 134, 102, 103, 160, 161, 162, 163, 164, 165, 166] (by decide +kernel) (by decide +kernel)
set_option maxRecDepth 20000 in
theorem gX7_shown_X7_told : GoodIn wsX7_shown (va_wsS RX7 136 yX7_told wsX7_told) := goodIn_app (goodIn_of _ (by decide +kernel)) ggX7_shown_X7_told
theorem dX7_shown_0 : decode cX7_shown 0 = .ok (.aload_n 0, 1) := by decide +kernel
theorem dX7_shown_1 : decode cX7_shown 1 = .ok (.iload_n 1, 1) := by decide +kernel
theorem dX7_shown_2 : decode cX7_shown 2 = .ok (.invokevirtual 101, 3) := by decide +kernel
theorem dX7_shown_5 : decode cX7_shown 5 = .ok (.ifCond .eq 10, 3) := by decide +kernel
theorem dX7_shown_8 : decode cX7_shown 8 = .ok (.iload_n 2, 1) := by decide +kernel
theorem dX7_shown_9 : decode cX7_shown 9 = .ok (.invokestatic 104, 3) := by decide +kernel
theorem dX7_shown_12 : decode cX7_shown 12 = .ok (.ifCond .ne 5, 3) := by decide +kernel
theorem dX7_shown_15 : decode cX7_shown 15 = .ok (.iconst (-1), 1) := by decide +kernel
theorem dX7_shown_16 : decode cX7_shown 16 = .ok (.ireturn, 1) := by decide +kernel
theorem dX7_shown_17 : decode cX7_shown 17 = .ok (.iload_n 3, 1) := by decide +kernel
theorem dX7_shown_18 : decode cX7_shown 18 = .ok (.aload_n 0, 1) := by decide +kernel
theorem dX7_shown_19 : decode cX7_shown 19 = .ok (.getfield 10, 3) := by decide +kernel
theorem dX7_shown_22 : decode cX7_shown 22 = .ok (.getfield 123, 3) := by decide +kernel
theorem dX7_shown_25 : decode cX7_shown 25 = .ok (.invokestatic 127, 3) := by decide +kernel
theorem dX7_shown_28 : decode cX7_shown 28 = .ok (.istore 4, 2) := by decide +kernel
theorem dX7_shown_30 : decode cX7_shown 30 = .ok (.iload 4, 2) := by decide +kernel
theorem dX7_shown_32 : decode cX7_shown 32 = .ok (.ifCond .ge 6, 3) := by decide +kernel
theorem dX7_shown_35 : decode cX7_shown 35 = .ok (.bipush (-2), 2) := by decide +kernel
theorem dX7_shown_37 : decode cX7_shown 37 = .ok (.ireturn, 1) := by decide +kernel
theorem dX7_shown_38 : decode cX7_shown 38 = .ok (.aload_n 0, 1) := by decide +kernel
theorem dX7_shown_39 : decode cX7_shown 39 = .ok (.iload_n 1, 1) := by decide +kernel
theorem dX7_shown_40 : decode cX7_shown 40 = .ok (.iload_n 2, 1) := by decide +kernel
theorem dX7_shown_41 : decode cX7_shown 41 = .ok (.iconst 0, 1) := by decide +kernel
theorem dX7_shown_42 : decode cX7_shown 42 = .ok (.invokevirtual 173, 3) := by decide +kernel
theorem dX7_shown_45 : decode cX7_shown 45 = .ok (.aload_n 0, 1) := by decide +kernel
theorem dX7_shown_46 : decode cX7_shown 46 = .ok (.getfield 10, 3) := by decide +kernel
theorem dX7_shown_49 : decode cX7_shown 49 = .ok (.aload_n 0, 1) := by decide +kernel
theorem dX7_shown_50 : decode cX7_shown 50 = .ok (.getfield 32, 3) := by decide +kernel
theorem dX7_shown_53 : decode cX7_shown 53 = .ok (.iload_n 2, 1) := by decide +kernel
theorem dX7_shown_54 : decode cX7_shown 54 = .ok (.iload 4, 2) := by decide +kernel
theorem dX7_shown_56 : decode cX7_shown 56 = .ok (.invokevirtual 133, 3) := by decide +kernel
theorem dX7_shown_59 : decode cX7_shown 59 = .ok (.iload 4, 2) := by decide +kernel
theorem dX7_shown_61 : decode cX7_shown 61 = .ok (.invokestatic 136, 3) := by decide +kernel
theorem dX7_shown_64 : decode cX7_shown 64 = .ok (.ireturn, 1) := by decide +kernel
set_option maxRecDepth 20000 in
theorem ggX7_back_X7_isHand : GoodIn wsX7_back wsX7_isHand := goodIn_r _ [8, 2, 9, 58, 59, 60, 61, 62, 63, 64, 65, 66, 67, 68, 69, 70, 71, 72, 73, 74, 75, 76] (by decide +kernel) (by decide +kernel)
set_option maxRecDepth 20000 in
theorem gX7_back_X7_isHand : GoodIn wsX7_back (wsV RX7 101 RX7 yX7_isHand wsX7_isHand) := goodIn_app (goodIn_of _ (by decide +kernel)) ggX7_back_X7_isHand
set_option maxRecDepth 20000 in
theorem ggX7_back_X7_isTick : GoodIn wsX7_back wsX7_isTick := goodIn_r _ [12] (by decide +kernel) (by decide +kernel)
set_option maxRecDepth 20000 in
theorem gX7_back_X7_isTick : GoodIn wsX7_back (va_wsS RX7 104 yX7_isTick wsX7_isTick) := goodIn_app (goodIn_of _ (by decide +kernel)) ggX7_back_X7_isTick
set_option maxRecDepth 20000 in
theorem ggX7_back_X4_goneBack : GoodIn wsX7_back wsX4_goneBack := goodIn_r _ [17, 18, 19, 20, 21, 22, 23, 24, 25, 26, 16, 27, 28, 29, 30, 31, 32, 33, 34, 35, 36, 37, 38, 39, 40, 41, 42, 43, 44, 45, 46, 47, 48, 49, 50, 51, 52, 53, 54, 55, 56, 57, 77, 78, 79, 70, 71, 72, 73, 74, 75, 76] (by decide +kernel) (by decide +kernel)
set_option maxRecDepth 20000 in
theorem gX7_back_X4_goneBack : GoodIn wsX7_back (wsV RX7 176 RX4 yX4_goneBack wsX4_goneBack) := goodIn_app (goodIn_of _ (by decide +kernel)) ggX7_back_X4_goneBack
theorem dX7_back_0 : decode cX7_back 0 = .ok (.aload_n 0, 1) := by decide +kernel
theorem dX7_back_1 : decode cX7_back 1 = .ok (.iload_n 1, 1) := by decide +kernel
theorem dX7_back_2 : decode cX7_back 2 = .ok (.invokevirtual 101, 3) := by decide +kernel
theorem dX7_back_5 : decode cX7_back 5 = .ok (.ifCond .eq 10, 3) := by decide +kernel
theorem dX7_back_8 : decode cX7_back 8 = .ok (.iload_n 2, 1) := by decide +kernel
theorem dX7_back_9 : decode cX7_back 9 = .ok (.invokestatic 104, 3) := by decide +kernel
theorem dX7_back_12 : decode cX7_back 12 = .ok (.ifCond .ne 5, 3) := by decide +kernel
theorem dX7_back_15 : decode cX7_back 15 = .ok (.iconst (-1), 1) := by decide +kernel
theorem dX7_back_16 : decode cX7_back 16 = .ok (.ireturn, 1) := by decide +kernel
theorem dX7_back_17 : decode cX7_back 17 = .ok (.aload_n 0, 1) := by decide +kernel
theorem dX7_back_18 : decode cX7_back 18 = .ok (.getfield 21, 3) := by decide +kernel
theorem dX7_back_21 : decode cX7_back 21 = .ok (.aload_n 0, 1) := by decide +kernel
theorem dX7_back_22 : decode cX7_back 22 = .ok (.getfield 10, 3) := by decide +kernel
theorem dX7_back_25 : decode cX7_back 25 = .ok (.getfield 98, 3) := by decide +kernel
theorem dX7_back_28 : decode cX7_back 28 = .ok (.iconst 3, 1) := by decide +kernel
theorem dX7_back_29 : decode cX7_back 29 = .ok (.iaload, 1) := by decide +kernel
theorem dX7_back_30 : decode cX7_back 30 = .ok (.iload_n 1, 1) := by decide +kernel
theorem dX7_back_31 : decode cX7_back 31 = .ok (.iload_n 2, 1) := by decide +kernel
theorem dX7_back_32 : decode cX7_back 32 = .ok (.invokevirtual 176, 3) := by decide +kernel
theorem dX7_back_35 : decode cX7_back 35 = .ok (.ireturn, 1) := by decide +kernel
set_option maxRecDepth 20000 in
theorem ggX7_agreed_X7_isHand : GoodIn wsX7_agreed wsX7_isHand := goodIn_r _ [8, 2, 9, 37, 38, 39, 40, 41, 42, 43, 44, 45, 46, 47, 48, 49, 50, 51, 52, 53, 54, 55] (by decide +kernel) (by decide +kernel)
set_option maxRecDepth 20000 in
theorem gX7_agreed_X7_isHand : GoodIn wsX7_agreed (wsV RX7 101 RX7 yX7_isHand wsX7_isHand) := goodIn_app (goodIn_of _ (by decide +kernel)) ggX7_agreed_X7_isHand
set_option maxRecDepth 20000 in
theorem ggX7_agreed_X7_isTick : GoodIn wsX7_agreed wsX7_isTick := goodIn_r _ [12] (by decide +kernel) (by decide +kernel)
set_option maxRecDepth 20000 in
theorem gX7_agreed_X7_isTick : GoodIn wsX7_agreed (va_wsS RX7 104 yX7_isTick wsX7_isTick) := goodIn_app (goodIn_of _ (by decide +kernel)) ggX7_agreed_X7_isTick
set_option maxRecDepth 20000 in
theorem ggX7_agreed_X4_allKnown : GoodIn wsX7_agreed wsX4_allKnown := goodIn_r _ [17, 18, 19, 20, 21, 22, 16, 23, 24, 25, 26, 27, 28, 29, 30, 31, 32, 33, 34, 35, 36, 56, 57, 58, 49, 50, 51, 52, 53, 54, 55] (by decide +kernel) (by decide +kernel)
set_option maxRecDepth 20000 in
theorem gX7_agreed_X4_allKnown : GoodIn wsX7_agreed (wsV RX7 180 RX4 yX4_allKnown wsX4_allKnown) := goodIn_app (goodIn_of _ (by decide +kernel)) ggX7_agreed_X4_allKnown
theorem dX7_agreed_0 : decode cX7_agreed 0 = .ok (.aload_n 0, 1) := by decide +kernel
theorem dX7_agreed_1 : decode cX7_agreed 1 = .ok (.iload_n 1, 1) := by decide +kernel
theorem dX7_agreed_2 : decode cX7_agreed 2 = .ok (.invokevirtual 101, 3) := by decide +kernel
theorem dX7_agreed_5 : decode cX7_agreed 5 = .ok (.ifCond .eq 10, 3) := by decide +kernel
theorem dX7_agreed_8 : decode cX7_agreed 8 = .ok (.iload_n 2, 1) := by decide +kernel
theorem dX7_agreed_9 : decode cX7_agreed 9 = .ok (.invokestatic 104, 3) := by decide +kernel
theorem dX7_agreed_12 : decode cX7_agreed 12 = .ok (.ifCond .ne 5, 3) := by decide +kernel
theorem dX7_agreed_15 : decode cX7_agreed 15 = .ok (.iconst (-1), 1) := by decide +kernel
theorem dX7_agreed_16 : decode cX7_agreed 16 = .ok (.ireturn, 1) := by decide +kernel
theorem dX7_agreed_17 : decode cX7_agreed 17 = .ok (.bipush (-9), 2) := by decide +kernel
theorem dX7_agreed_19 : decode cX7_agreed 19 = .ok (.istore_n 3, 1) := by decide +kernel
theorem dX7_agreed_20 : decode cX7_agreed 20 = .ok (.iconst 0, 1) := by decide +kernel
theorem dX7_agreed_21 : decode cX7_agreed 21 = .ok (.istore 4, 2) := by decide +kernel
theorem dX7_agreed_23 : decode cX7_agreed 23 = .ok (.iload 4, 2) := by decide +kernel
theorem dX7_agreed_25 : decode cX7_agreed 25 = .ok (.iload_n 2, 1) := by decide +kernel
theorem dX7_agreed_26 : decode cX7_agreed 26 = .ok (.if_icmp .gt 37, 3) := by decide +kernel
theorem dX7_agreed_29 : decode cX7_agreed 29 = .ok (.aload_n 0, 1) := by decide +kernel
theorem dX7_agreed_30 : decode cX7_agreed 30 = .ok (.getfield 21, 3) := by decide +kernel
theorem dX7_agreed_33 : decode cX7_agreed 33 = .ok (.aload_n 0, 1) := by decide +kernel
theorem dX7_agreed_34 : decode cX7_agreed 34 = .ok (.getfield 10, 3) := by decide +kernel
theorem dX7_agreed_37 : decode cX7_agreed 37 = .ok (.getfield 98, 3) := by decide +kernel
theorem dX7_agreed_40 : decode cX7_agreed 40 = .ok (.iconst 3, 1) := by decide +kernel
theorem dX7_agreed_41 : decode cX7_agreed 41 = .ok (.iaload, 1) := by decide +kernel
theorem dX7_agreed_42 : decode cX7_agreed 42 = .ok (.iload_n 1, 1) := by decide +kernel
theorem dX7_agreed_43 : decode cX7_agreed 43 = .ok (.iload_n 2, 1) := by decide +kernel
theorem dX7_agreed_44 : decode cX7_agreed 44 = .ok (.iload 4, 2) := by decide +kernel
theorem dX7_agreed_46 : decode cX7_agreed 46 = .ok (.invokevirtual 180, 3) := by decide +kernel
theorem dX7_agreed_49 : decode cX7_agreed 49 = .ok (.ifCond .ne 5, 3) := by decide +kernel
theorem dX7_agreed_52 : decode cX7_agreed 52 = .ok (.iload_n 3, 1) := by decide +kernel
theorem dX7_agreed_53 : decode cX7_agreed 53 = .ok (.ireturn, 1) := by decide +kernel
theorem dX7_agreed_54 : decode cX7_agreed 54 = .ok (.iload 4, 2) := by decide +kernel
theorem dX7_agreed_56 : decode cX7_agreed 56 = .ok (.istore_n 3, 1) := by decide +kernel
theorem dX7_agreed_57 : decode cX7_agreed 57 = .ok (.iinc 4 1, 3) := by decide +kernel
theorem dX7_agreed_60 : decode cX7_agreed 60 = .ok (.goto (-37), 3) := by decide +kernel
theorem dX7_agreed_63 : decode cX7_agreed 63 = .ok (.iload_n 3, 1) := by decide +kernel
theorem dX7_agreed_64 : decode cX7_agreed 64 = .ok (.ireturn, 1) := by decide +kernel
set_option maxRecDepth 20000 in
theorem ggX7_wrong_X7_isHand : GoodIn wsX7_wrong wsX7_isHand := goodIn_r _ [14, 2, 15, 170, 171, 172, 173, 174, 175, 176, 177, 178, 179, 180, 181, 182, 183, 184, 185, 186, 187, 188] (by decide +kernel) (by decide +kernel)
set_option maxRecDepth 20000 in
theorem gX7_wrong_X7_isHand : GoodIn wsX7_wrong (wsV RX7 101 RX7 yX7_isHand wsX7_isHand) := goodIn_app (goodIn_of _ (by decide +kernel)) ggX7_wrong_X7_isHand
set_option maxRecDepth 20000 in
theorem ggX7_wrong_X7_isTick : GoodIn wsX7_wrong wsX7_isTick := goodIn_r _ [18] (by decide +kernel) (by decide +kernel)
set_option maxRecDepth 20000 in
theorem gX7_wrong_X7_isTick : GoodIn wsX7_wrong (va_wsS RX7 104 yX7_isTick wsX7_isTick) := goodIn_app (goodIn_of _ (by decide +kernel)) ggX7_wrong_X7_isTick
set_option maxRecDepth 20000 in
theorem ggX7_wrong_X7_playTrulyTo : GoodIn wsX7_wrong wsX7_playTrulyTo := goodIn_r _ [22, 5, 23, 2, 24, 25, 3, 26, 27, 28, 13, 29, 30, 31, 32, 33, 34, 35, 36, 37, 38, 39, 40, 41, 42, 43, 44, 45, 46, 47, 48, 49, 50, 51, 52, 53, 54, 55, 56, 57, 58, 59, 60, 61, 62, 63, 64, 65, 66, 67, 68, 69, 70, 71, 72, 73, 74, 75, 76, 77, 78, 79, 80, 81, 82, 8, 83, 84, 85, 86, 87, 88, 89, 90, 91, 92, 93, 94, 95, 96, 97, 98, 99, 100, 101, 102, 103, 104, 105, 106, 107, 108, 109, 110, 111, 112, 113, 114, 115, 116, 117, 118, 119, 120, 121, 122, 123, 124, 125, 170, 171, 172, 173, 174, 175, 176, 177, 178, 179, 180, 181, 189, 190, 182, 183, 184, 185, 186, 187, 188, 191] (by decide +kernel) (by decide +kernel)
set_option maxRecDepth 20000 in
theorem gX7_wrong_X7_playTrulyTo : GoodIn wsX7_wrong (wsV RX7 130 RX7 yX7_playTrulyTo wsX7_playTrulyTo) := goodIn_app (goodIn_of _ (by decide +kernel)) ggX7_wrong_X7_playTrulyTo
set_option maxRecDepth 20000 in
theorem ggX7_wrong_X4_goneBack : GoodIn wsX7_wrong wsX4_goneBack := goodIn_r _ [130, 131, 132, 133, 7, 8, 9, 134, 135, 136, 129, 137, 138, 139, 140, 141, 142, 143, 72, 73, 59, 74, 75, 76, 144, 145, 146, 147, 148, 149, 150, 151, 152, 153, 154, 155, 156, 157, 63, 64, 65, 66, 192, 193, 194, 182, 183, 184, 185, 186, 187, 188] (by decide +kernel) (by decide +kernel)
set_option maxRecDepth 20000 in
theorem gX7_wrong_X4_goneBack : GoodIn wsX7_wrong (wsV RX7 176 RX4 yX4_goneBack wsX4_goneBack) := goodIn_app (goodIn_of _ (by decide +kernel)) ggX7_wrong_X4_goneBack
set_option maxRecDepth 20000 in
theorem ggX7_wrong_X7_showFrom : GoodIn wsX7_wrong wsX7_showFrom := goodIn_r _ [161, 4, 2, 15, 24, 1, 3, 25, 26, 27, 28, 13, 29, 30, 31, 32, 33, 34, 35, 36, 37, 38, 39, 40, 41, 42, 43, 44, 45, 46, 47, 48, 49, 50, 51, 52, 53, 54, 55, 162, 163, 164, 129, 165, 131, 153, 154, 155, 156, 143, 72, 73, 59, 74, 75, 76, 144, 145, 146, 147, 138, 148, 157, 63, 64, 65, 66, 149, 150, 151, 152, 67, 68, 69, 70, 71, 77, 78, 79, 80, 81, 82, 8, 83, 84, 85, 86, 87, 88, 89, 90, 91, 92, 93, 94, 95, 96, 97, 98, 99, 100, 101, 102, 103, 104, 105, 106, 107, 108, 109, 110, 111, 112, 113, 114, 115, 116, 117, 118, 119, 120, 121, 122, 123, 124, 125, 170, 171, 172, 173, 174, 175, 176, 177, 178, 179, 180, 181, 182, 183, 184, 185, 186, 187, 188, 189, 190, 191, 192, 193, 194] (by decide +kernel) (by decide +kernel)
set_option maxRecDepth 20000 in
theorem gX7_wrong_X7_showFrom : GoodIn wsX7_wrong (wsV RX7 173 RX7 yX7_showFrom wsX7_showFrom) := goodIn_app (goodIn_of _ (by decide +kernel)) ggX7_wrong_X7_showFrom
set_option maxRecDepth 20000 in
theorem ggX7_wrong_X6_isLike : GoodIn wsX7_wrong wsX6_isLike := goodIn_r _ [169, 35, 189, 190] (by decide +kernel) (by decide +kernel)
set_option maxRecDepth 20000 in
theorem gX7_wrong_X6_isLike : GoodIn wsX7_wrong (wsV RX7 184 RX6 yX6_isLike wsX6_isLike) := goodIn_app (goodIn_of _ (by decide +kernel)) ggX7_wrong_X6_isLike
theorem dX7_wrong_0 : decode cX7_wrong 0 = .ok (.aload_n 0, 1) := by decide +kernel
theorem dX7_wrong_1 : decode cX7_wrong 1 = .ok (.iload_n 1, 1) := by decide +kernel
theorem dX7_wrong_2 : decode cX7_wrong 2 = .ok (.invokevirtual 101, 3) := by decide +kernel
theorem dX7_wrong_5 : decode cX7_wrong 5 = .ok (.ifCond .eq 10, 3) := by decide +kernel
theorem dX7_wrong_8 : decode cX7_wrong 8 = .ok (.iload_n 2, 1) := by decide +kernel
theorem dX7_wrong_9 : decode cX7_wrong 9 = .ok (.invokestatic 104, 3) := by decide +kernel
theorem dX7_wrong_12 : decode cX7_wrong 12 = .ok (.ifCond .ne 5, 3) := by decide +kernel
theorem dX7_wrong_15 : decode cX7_wrong 15 = .ok (.iconst (-1), 1) := by decide +kernel
theorem dX7_wrong_16 : decode cX7_wrong 16 = .ok (.ireturn, 1) := by decide +kernel
theorem dX7_wrong_17 : decode cX7_wrong 17 = .ok (.aload_n 0, 1) := by decide +kernel
theorem dX7_wrong_18 : decode cX7_wrong 18 = .ok (.iload_n 2, 1) := by decide +kernel
theorem dX7_wrong_19 : decode cX7_wrong 19 = .ok (.invokevirtual 130, 3) := by decide +kernel
theorem dX7_wrong_22 : decode cX7_wrong 22 = .ok (.iconst 0, 1) := by decide +kernel
theorem dX7_wrong_23 : decode cX7_wrong 23 = .ok (.istore 4, 2) := by decide +kernel
theorem dX7_wrong_25 : decode cX7_wrong 25 = .ok (.iconst 0, 1) := by decide +kernel
theorem dX7_wrong_26 : decode cX7_wrong 26 = .ok (.istore 5, 2) := by decide +kernel
theorem dX7_wrong_28 : decode cX7_wrong 28 = .ok (.iconst 0, 1) := by decide +kernel
theorem dX7_wrong_29 : decode cX7_wrong 29 = .ok (.istore 6, 2) := by decide +kernel
theorem dX7_wrong_31 : decode cX7_wrong 31 = .ok (.iconst 0, 1) := by decide +kernel
theorem dX7_wrong_32 : decode cX7_wrong 32 = .ok (.istore 7, 2) := by decide +kernel
theorem dX7_wrong_34 : decode cX7_wrong 34 = .ok (.iload 7, 2) := by decide +kernel
theorem dX7_wrong_36 : decode cX7_wrong 36 = .ok (.iload_n 2, 1) := by decide +kernel
theorem dX7_wrong_37 : decode cX7_wrong 37 = .ok (.if_icmp .gt 75, 3) := by decide +kernel
theorem dX7_wrong_40 : decode cX7_wrong 40 = .ok (.aload_n 0, 1) := by decide +kernel
theorem dX7_wrong_41 : decode cX7_wrong 41 = .ok (.iload_n 1, 1) := by decide +kernel
theorem dX7_wrong_42 : decode cX7_wrong 42 = .ok (.iload 7, 2) := by decide +kernel
theorem dX7_wrong_44 : decode cX7_wrong 44 = .ok (.iload 7, 2) := by decide +kernel
theorem dX7_wrong_46 : decode cX7_wrong 46 = .ok (.aload_n 0, 1) := by decide +kernel
theorem dX7_wrong_47 : decode cX7_wrong 47 = .ok (.getfield 21, 3) := by decide +kernel
theorem dX7_wrong_50 : decode cX7_wrong 50 = .ok (.aload_n 0, 1) := by decide +kernel
theorem dX7_wrong_51 : decode cX7_wrong 51 = .ok (.getfield 10, 3) := by decide +kernel
theorem dX7_wrong_54 : decode cX7_wrong 54 = .ok (.getfield 98, 3) := by decide +kernel
theorem dX7_wrong_57 : decode cX7_wrong 57 = .ok (.iconst 3, 1) := by decide +kernel
theorem dX7_wrong_58 : decode cX7_wrong 58 = .ok (.iaload, 1) := by decide +kernel
theorem dX7_wrong_59 : decode cX7_wrong 59 = .ok (.iload_n 1, 1) := by decide +kernel
theorem dX7_wrong_60 : decode cX7_wrong 60 = .ok (.iload 7, 2) := by decide +kernel
theorem dX7_wrong_62 : decode cX7_wrong 62 = .ok (.invokevirtual 176, 3) := by decide +kernel
theorem dX7_wrong_65 : decode cX7_wrong 65 = .ok (.isub, 1) := by decide +kernel
theorem dX7_wrong_66 : decode cX7_wrong 66 = .ok (.invokevirtual 173, 3) := by decide +kernel
theorem dX7_wrong_69 : decode cX7_wrong 69 = .ok (.aload_n 0, 1) := by decide +kernel
theorem dX7_wrong_70 : decode cX7_wrong 70 = .ok (.getfield 32, 3) := by decide +kernel
theorem dX7_wrong_73 : decode cX7_wrong 73 = .ok (.aload_n 0, 1) := by decide +kernel
theorem dX7_wrong_74 : decode cX7_wrong 74 = .ok (.getfield 28, 3) := by decide +kernel
theorem dX7_wrong_77 : decode cX7_wrong 77 = .ok (.iload 7, 2) := by decide +kernel
theorem dX7_wrong_79 : decode cX7_wrong 79 = .ok (.invokevirtual 184, 3) := by decide +kernel
theorem dX7_wrong_82 : decode cX7_wrong 82 = .ok (.ifCond .eq 9, 3) := by decide +kernel
theorem dX7_wrong_85 : decode cX7_wrong 85 = .ok (.iconst 0, 1) := by decide +kernel
theorem dX7_wrong_86 : decode cX7_wrong 86 = .ok (.istore 5, 2) := by decide +kernel
theorem dX7_wrong_88 : decode cX7_wrong 88 = .ok (.goto 18, 3) := by decide +kernel
theorem dX7_wrong_91 : decode cX7_wrong 91 = .ok (.iinc 4 1, 3) := by decide +kernel
theorem dX7_wrong_94 : decode cX7_wrong 94 = .ok (.iinc 5 1, 3) := by decide +kernel
theorem dX7_wrong_97 : decode cX7_wrong 97 = .ok (.iload 6, 2) := by decide +kernel
theorem dX7_wrong_99 : decode cX7_wrong 99 = .ok (.iload 5, 2) := by decide +kernel
theorem dX7_wrong_101 : decode cX7_wrong 101 = .ok (.invokestatic 188, 3) := by decide +kernel
theorem dX7_wrong_104 : decode cX7_wrong 104 = .ok (.istore 6, 2) := by decide +kernel
theorem dX7_wrong_106 : decode cX7_wrong 106 = .ok (.iinc 7 1, 3) := by decide +kernel
theorem dX7_wrong_109 : decode cX7_wrong 109 = .ok (.goto (-75), 3) := by decide +kernel
theorem dX7_wrong_112 : decode cX7_wrong 112 = .ok (.iload_n 3, 1) := by decide +kernel
theorem dX7_wrong_113 : decode cX7_wrong 113 = .ok (.ifCond .eq 8, 3) := by decide +kernel
theorem dX7_wrong_116 : decode cX7_wrong 116 = .ok (.iload 6, 2) := by decide +kernel
theorem dX7_wrong_118 : decode cX7_wrong 118 = .ok (.goto 5, 3) := by decide +kernel
theorem dX7_wrong_121 : decode cX7_wrong 121 = .ok (.iload 4, 2) := by decide +kernel
theorem dX7_wrong_123 : decode cX7_wrong 123 = .ok (.ireturn, 1) := by decide +kernel
set_option maxRecDepth 20000 in
theorem ggX7_price_X7_isTick : GoodIn wsX7_price wsX7_isTick := goodIn_r _ [4] (by decide +kernel) (by decide +kernel)
set_option maxRecDepth 20000 in
theorem gX7_price_X7_isTick : GoodIn wsX7_price (va_wsS RX7 104 yX7_isTick wsX7_isTick) := goodIn_app (goodIn_of _ (by decide +kernel)) ggX7_price_X7_isTick
set_option maxRecDepth 20000 in
theorem ggX7_price_X7_costOf : GoodIn wsX7_price wsX7_costOf := goodIn_r _ [8, 9, 10, 11, 12, 13, 14, 15, 16, 17, 18, 19, 20, 21, 22, 23, 24, 25, 26, 27, 28, 29, 30, 31, 32, 33, 34, 35, 36, 37, 38, 39, 40, 41, 42, 43, 44, 45, 46, 47, 48, 49, 50, 51, 52, 53, 54, 55, 56, 57, 58, 59, 60, 61, 62, 63, 64, 65, 66, 67, 68, 69, 70, 71, 72, 73, 74, 75, 76, 77, 78, 79] (by decide +kernel) (by decide +kernel)
set_option maxRecDepth 20000 in
theorem gX7_price_X7_costOf : GoodIn wsX7_price (wsV RX7 193 RX7 yX7_costOf wsX7_costOf) := goodIn_app (goodIn_of _ (by decide +kernel)) ggX7_price_X7_costOf
theorem dX7_price_0 : decode cX7_price 0 = .ok (.iload_n 1, 1) := by decide +kernel
theorem dX7_price_1 : decode cX7_price 1 = .ok (.ifCond .lt 9, 3) := by decide +kernel
theorem dX7_price_4 : decode cX7_price 4 = .ok (.iload_n 1, 1) := by decide +kernel
theorem dX7_price_5 : decode cX7_price 5 = .ok (.bipush 9, 2) := by decide +kernel
theorem dX7_price_7 : decode cX7_price 7 = .ok (.if_icmp .le 6, 3) := by decide +kernel
theorem dX7_price_10 : decode cX7_price 10 = .ok (.bipush (-2), 2) := by decide +kernel
theorem dX7_price_12 : decode cX7_price 12 = .ok (.ireturn, 1) := by decide +kernel
theorem dX7_price_13 : decode cX7_price 13 = .ok (.iload_n 2, 1) := by decide +kernel
theorem dX7_price_14 : decode cX7_price 14 = .ok (.invokestatic 104, 3) := by decide +kernel
theorem dX7_price_17 : decode cX7_price 17 = .ok (.ifCond .ne 5, 3) := by decide +kernel
theorem dX7_price_20 : decode cX7_price 20 = .ok (.iconst (-1), 1) := by decide +kernel
theorem dX7_price_21 : decode cX7_price 21 = .ok (.ireturn, 1) := by decide +kernel
theorem dX7_price_22 : decode cX7_price 22 = .ok (.aload_n 0, 1) := by decide +kernel
theorem dX7_price_23 : decode cX7_price 23 = .ok (.iload_n 1, 1) := by decide +kernel
theorem dX7_price_24 : decode cX7_price 24 = .ok (.iload_n 2, 1) := by decide +kernel
theorem dX7_price_25 : decode cX7_price 25 = .ok (.invokevirtual 193, 3) := by decide +kernel
theorem dX7_price_28 : decode cX7_price 28 = .ok (.ireturn, 1) := by decide +kernel
set_option maxRecDepth 20000 in
theorem ggX7_best_X7_isTick : GoodIn wsX7_best wsX7_isTick := goodIn_r _ [4] (by decide +kernel) (by decide +kernel)
set_option maxRecDepth 20000 in
theorem gX7_best_X7_isTick : GoodIn wsX7_best (va_wsS RX7 104 yX7_isTick wsX7_isTick) := goodIn_app (goodIn_of _ (by decide +kernel)) ggX7_best_X7_isTick
set_option maxRecDepth 20000 in
theorem ggX7_best_X7_costOf : GoodIn wsX7_best wsX7_costOf := goodIn_r _ [8, 9, 10, 11, 12, 13, 14, 15, 16, 17, 18, 19, 20, 21, 22, 23, 24, 25, 26, 27, 28, 29, 30, 31, 32, 33, 34, 35, 36, 37, 38, 39, 40, 41, 42, 43, 44, 45, 46, 47, 48, 49, 50, 51, 52, 53, 54, 55, 56, 57, 58, 59, 60, 61, 62, 63, 64, 65, 66, 67, 68, 69, 70, 71, 72, 73, 74, 75, 76, 77, 78, 79] (by decide +kernel) (by decide +kernel)
set_option maxRecDepth 20000 in
theorem gX7_best_X7_costOf : GoodIn wsX7_best (wsV RX7 193 RX7 yX7_costOf wsX7_costOf) := goodIn_app (goodIn_of _ (by decide +kernel)) ggX7_best_X7_costOf
theorem dX7_best_0 : decode cX7_best 0 = .ok (.iload_n 1, 1) := by decide +kernel
theorem dX7_best_1 : decode cX7_best 1 = .ok (.invokestatic 104, 3) := by decide +kernel
theorem dX7_best_4 : decode cX7_best 4 = .ok (.ifCond .ne 5, 3) := by decide +kernel
theorem dX7_best_7 : decode cX7_best 7 = .ok (.iconst (-1), 1) := by decide +kernel
theorem dX7_best_8 : decode cX7_best 8 = .ok (.ireturn, 1) := by decide +kernel
theorem dX7_best_9 : decode cX7_best 9 = .ok (.iconst 0, 1) := by decide +kernel
theorem dX7_best_10 : decode cX7_best 10 = .ok (.istore_n 2, 1) := by decide +kernel
theorem dX7_best_11 : decode cX7_best 11 = .ok (.aload_n 0, 1) := by decide +kernel
theorem dX7_best_12 : decode cX7_best 12 = .ok (.iconst 0, 1) := by decide +kernel
theorem dX7_best_13 : decode cX7_best 13 = .ok (.iload_n 1, 1) := by decide +kernel
theorem dX7_best_14 : decode cX7_best 14 = .ok (.invokevirtual 193, 3) := by decide +kernel
theorem dX7_best_17 : decode cX7_best 17 = .ok (.istore_n 3, 1) := by decide +kernel
theorem dX7_best_18 : decode cX7_best 18 = .ok (.iconst 1, 1) := by decide +kernel
theorem dX7_best_19 : decode cX7_best 19 = .ok (.istore 4, 2) := by decide +kernel
theorem dX7_best_21 : decode cX7_best 21 = .ok (.iload 4, 2) := by decide +kernel
theorem dX7_best_23 : decode cX7_best 23 = .ok (.bipush 9, 2) := by decide +kernel
theorem dX7_best_25 : decode cX7_best 25 = .ok (.if_icmp .gt 30, 3) := by decide +kernel
theorem dX7_best_28 : decode cX7_best 28 = .ok (.aload_n 0, 1) := by decide +kernel
theorem dX7_best_29 : decode cX7_best 29 = .ok (.iload 4, 2) := by decide +kernel
theorem dX7_best_31 : decode cX7_best 31 = .ok (.iload_n 1, 1) := by decide +kernel
theorem dX7_best_32 : decode cX7_best 32 = .ok (.invokevirtual 193, 3) := by decide +kernel
theorem dX7_best_35 : decode cX7_best 35 = .ok (.istore 5, 2) := by decide +kernel
theorem dX7_best_37 : decode cX7_best 37 = .ok (.iload 5, 2) := by decide +kernel
theorem dX7_best_39 : decode cX7_best 39 = .ok (.iload_n 3, 1) := by decide +kernel
theorem dX7_best_40 : decode cX7_best 40 = .ok (.if_icmp .ge 9, 3) := by decide +kernel
theorem dX7_best_43 : decode cX7_best 43 = .ok (.iload 4, 2) := by decide +kernel
theorem dX7_best_45 : decode cX7_best 45 = .ok (.istore_n 2, 1) := by decide +kernel
theorem dX7_best_46 : decode cX7_best 46 = .ok (.iload 5, 2) := by decide +kernel
theorem dX7_best_48 : decode cX7_best 48 = .ok (.istore_n 3, 1) := by decide +kernel
theorem dX7_best_49 : decode cX7_best 49 = .ok (.iinc 4 1, 3) := by decide +kernel
theorem dX7_best_52 : decode cX7_best 52 = .ok (.goto (-31), 3) := by decide +kernel
theorem dX7_best_55 : decode cX7_best 55 = .ok (.iload_n 2, 1) := by decide +kernel
theorem dX7_best_56 : decode cX7_best 56 = .ok (.ireturn, 1) := by decide +kernel
set_option maxRecDepth 20000 in
theorem ggX7_sees_X7_isHand : GoodIn wsX7_sees wsX7_isHand := goodIn_r _ [5, 6, 7, 130, 131, 132, 133, 134, 135, 136, 137, 138, 139, 140, 141, 142, 143, 144, 145, 146, 147, 148] (by decide +kernel) (by decide +kernel)
set_option maxRecDepth 20000 in
theorem gX7_sees_X7_isHand : GoodIn wsX7_sees (wsV RX7 101 RX7 yX7_isHand wsX7_isHand) := goodIn_app (goodIn_of _ (by decide +kernel)) ggX7_sees_X7_isHand
set_option maxRecDepth 20000 in
theorem ggX7_sees_X7_isTick : GoodIn wsX7_sees wsX7_isTick := goodIn_r _ [10] (by decide +kernel) (by decide +kernel)
set_option maxRecDepth 20000 in
theorem gX7_sees_X7_isTick : GoodIn wsX7_sees (va_wsS RX7 104 yX7_isTick wsX7_isTick) := goodIn_app (goodIn_of _ (by decide +kernel)) ggX7_sees_X7_isTick
set_option maxRecDepth 20000 in
theorem ggX7_sees_X7_playTrulyTo : GoodIn wsX7_sees wsX7_playTrulyTo := goodIn_r _ [14, 15, 16, 6, 17, 18, 19, 20, 21, 22, 4, 23, 24, 25, 26, 27, 28, 29, 30, 31, 32, 33, 34, 35, 36, 37, 38, 39, 40, 41, 42, 43, 44, 45, 46, 47, 48, 49, 50, 51, 52, 53, 54, 55, 56, 57, 58, 59, 60, 61, 62, 63, 64, 65, 66, 67, 68, 69, 70, 71, 72, 73, 74, 75, 76, 77, 78, 79, 80, 81, 82, 83, 84, 85, 86, 87, 88, 89, 90, 91, 92, 93, 94, 95, 96, 97, 98, 99, 100, 101, 102, 103, 104, 105, 106, 107, 108, 109, 110, 111, 112, 113, 114, 115, 116, 117, 118, 119, 120, 130, 131, 132, 133, 134, 135, 136, 137, 138, 139, 140, 141, 149, 150, 142, 143, 144, 145, 146, 147, 148, 151] (by decide +kernel) (by decide +kernel)
set_option maxRecDepth 20000 in
theorem gX7_sees_X7_playTrulyTo : GoodIn wsX7_sees (wsV RX7 130 RX7 yX7_playTrulyTo wsX7_playTrulyTo) := goodIn_app (goodIn_of _ (by decide +kernel)) ggX7_sees_X7_playTrulyTo
set_option maxRecDepth 20000 in
theorem ggX7_sees_X7_seesThen : GoodIn wsX7_sees wsX7_seesThen := goodIn_r _ [124, 15, 6, 19, 125, 126, 127, 27, 128, 29, 129, 112, 4, 113, 114, 76, 77, 78, 115, 83, 84, 116, 85, 86, 130, 131, 132, 133, 134, 135, 136, 137, 138, 139, 140, 141, 142, 143, 144, 145, 146, 147, 148, 149, 150] (by decide +kernel) (by decide +kernel)
set_option maxRecDepth 20000 in
theorem gX7_sees_X7_seesThen : GoodIn wsX7_sees (wsV RX7 196 RX7 yX7_seesThen wsX7_seesThen) := goodIn_app (goodIn_of _ (by decide +kernel)) ggX7_sees_X7_seesThen
theorem dX7_sees_0 : decode cX7_sees 0 = .ok (.aload_n 0, 1) := by decide +kernel
theorem dX7_sees_1 : decode cX7_sees 1 = .ok (.iload_n 1, 1) := by decide +kernel
theorem dX7_sees_2 : decode cX7_sees 2 = .ok (.invokevirtual 101, 3) := by decide +kernel
theorem dX7_sees_5 : decode cX7_sees 5 = .ok (.ifCond .eq 18, 3) := by decide +kernel
theorem dX7_sees_8 : decode cX7_sees 8 = .ok (.aload_n 0, 1) := by decide +kernel
theorem dX7_sees_9 : decode cX7_sees 9 = .ok (.iload_n 2, 1) := by decide +kernel
theorem dX7_sees_10 : decode cX7_sees 10 = .ok (.invokevirtual 101, 3) := by decide +kernel
theorem dX7_sees_13 : decode cX7_sees 13 = .ok (.ifCond .eq 10, 3) := by decide +kernel
theorem dX7_sees_16 : decode cX7_sees 16 = .ok (.iload_n 3, 1) := by decide +kernel
theorem dX7_sees_17 : decode cX7_sees 17 = .ok (.invokestatic 104, 3) := by decide +kernel
theorem dX7_sees_20 : decode cX7_sees 20 = .ok (.ifCond .ne 5, 3) := by decide +kernel
theorem dX7_sees_23 : decode cX7_sees 23 = .ok (.iconst (-1), 1) := by decide +kernel
theorem dX7_sees_24 : decode cX7_sees 24 = .ok (.ireturn, 1) := by decide +kernel
theorem dX7_sees_25 : decode cX7_sees 25 = .ok (.aload_n 0, 1) := by decide +kernel
theorem dX7_sees_26 : decode cX7_sees 26 = .ok (.iload_n 3, 1) := by decide +kernel
theorem dX7_sees_27 : decode cX7_sees 27 = .ok (.invokevirtual 130, 3) := by decide +kernel
theorem dX7_sees_30 : decode cX7_sees 30 = .ok (.aload_n 0, 1) := by decide +kernel
theorem dX7_sees_31 : decode cX7_sees 31 = .ok (.iload_n 1, 1) := by decide +kernel
theorem dX7_sees_32 : decode cX7_sees 32 = .ok (.iload_n 2, 1) := by decide +kernel
theorem dX7_sees_33 : decode cX7_sees 33 = .ok (.iload_n 3, 1) := by decide +kernel
theorem dX7_sees_34 : decode cX7_sees 34 = .ok (.invokevirtual 196, 3) := by decide +kernel
theorem dX7_sees_37 : decode cX7_sees 37 = .ok (.ifCond .eq 7, 3) := by decide +kernel
theorem dX7_sees_40 : decode cX7_sees 40 = .ok (.iconst 1, 1) := by decide +kernel
theorem dX7_sees_41 : decode cX7_sees 41 = .ok (.goto 4, 3) := by decide +kernel
theorem dX7_sees_44 : decode cX7_sees 44 = .ok (.iconst 0, 1) := by decide +kernel
theorem dX7_sees_45 : decode cX7_sees 45 = .ok (.ireturn, 1) := by decide +kernel
set_option maxRecDepth 20000 in
theorem ggX7_could_X7_isHand : GoodIn wsX7_could wsX7_isHand := goodIn_r _ [8, 2, 9, 168, 169, 170, 171, 172, 173, 174, 175, 176, 177, 178, 179, 180, 181, 182, 183, 184, 185, 186] (by decide +kernel) (by decide +kernel)
set_option maxRecDepth 20000 in
theorem gX7_could_X7_isHand : GoodIn wsX7_could (wsV RX7 101 RX7 yX7_isHand wsX7_isHand) := goodIn_app (goodIn_of _ (by decide +kernel)) ggX7_could_X7_isHand
set_option maxRecDepth 20000 in
theorem ggX7_could_X7_isTick : GoodIn wsX7_could wsX7_isTick := goodIn_r _ [12] (by decide +kernel) (by decide +kernel)
set_option maxRecDepth 20000 in
theorem gX7_could_X7_isTick : GoodIn wsX7_could (va_wsS RX7 104 yX7_isTick wsX7_isTick) := goodIn_app (goodIn_of _ (by decide +kernel)) ggX7_could_X7_isTick
set_option maxRecDepth 20000 in
theorem ggX7_could_X7_playTrulyTo : GoodIn wsX7_could wsX7_playTrulyTo := goodIn_r _ [16, 17, 18, 2, 19, 20, 21, 22, 23, 24, 7, 25, 26, 27, 28, 29, 30, 31, 32, 33, 34, 35, 36, 37, 38, 39, 40, 41, 42, 43, 44, 45, 46, 47, 48, 49, 50, 51, 52, 53, 54, 55, 56, 57, 58, 59, 60, 61, 62, 63, 64, 65, 66, 67, 68, 69, 70, 71, 72, 73, 74, 75, 76, 77, 78, 79, 80, 81, 82, 83, 84, 85, 86, 87, 88, 89, 90, 91, 92, 93, 94, 95, 96, 97, 98, 99, 100, 101, 102, 103, 104, 105, 106, 107, 108, 109, 110, 111, 112, 113, 114, 115, 116, 117, 118, 119, 120, 121, 122, 168, 169, 170, 171, 172, 173, 174, 175, 176, 177, 178, 179, 187, 188, 180, 181, 182, 183, 184, 185, 186, 189] (by decide +kernel) (by decide +kernel)
set_option maxRecDepth 20000 in
theorem gX7_could_X7_playTrulyTo : GoodIn wsX7_could (wsV RX7 130 RX7 yX7_playTrulyTo wsX7_playTrulyTo) := goodIn_app (goodIn_of _ (by decide +kernel)) ggX7_could_X7_playTrulyTo
set_option maxRecDepth 20000 in
theorem ggX7_could_X7_thinkTo : GoodIn wsX7_could wsX7_thinkTo := goodIn_r _ [126, 20, 2, 1, 127, 17, 128, 3, 21, 37, 38, 39, 40, 41, 42, 43, 44, 45, 46, 47, 48, 49, 50, 7, 51, 129, 130, 131, 132, 133, 134, 135, 87, 88, 85, 86, 136, 137, 138, 139, 140, 141, 142, 29, 143, 31, 144, 114, 115, 116, 78, 79, 80, 117, 118, 145, 146, 147, 148, 149, 150, 151, 152, 153, 154, 155, 156, 168, 169, 170, 171, 172, 173, 174, 175, 176, 177, 178, 179, 189, 180, 181, 182, 183, 184, 185, 186, 190, 187, 188] (by decide +kernel) (by decide +kernel)
set_option maxRecDepth 20000 in
theorem gX7_could_X7_thinkTo : GoodIn wsX7_could (wsV RX7 200 RX7 yX7_thinkTo wsX7_thinkTo) := goodIn_app (goodIn_of _ (by decide +kernel)) ggX7_could_X7_thinkTo
set_option maxRecDepth 20000 in
theorem ggX7_could_X3_size : GoodIn wsX7_could wsX3_size := goodIn_r _ [160, 134, 161, 162, 163, 164, 165, 166, 167, 190] (by decide +kernel) (by decide +kernel)
set_option maxRecDepth 20000 in
theorem gX7_could_X3_size : GoodIn wsX7_could (wsV RX7 206 RX3 yX3_size wsX3_size) := goodIn_app (goodIn_of _ (by decide +kernel)) ggX7_could_X3_size
theorem dX7_could_0 : decode cX7_could 0 = .ok (.aload_n 0, 1) := by decide +kernel
theorem dX7_could_1 : decode cX7_could 1 = .ok (.iload_n 1, 1) := by decide +kernel
theorem dX7_could_2 : decode cX7_could 2 = .ok (.invokevirtual 101, 3) := by decide +kernel
theorem dX7_could_5 : decode cX7_could 5 = .ok (.ifCond .eq 18, 3) := by decide +kernel
theorem dX7_could_8 : decode cX7_could 8 = .ok (.aload_n 0, 1) := by decide +kernel
theorem dX7_could_9 : decode cX7_could 9 = .ok (.iload_n 2, 1) := by decide +kernel
theorem dX7_could_10 : decode cX7_could 10 = .ok (.invokevirtual 101, 3) := by decide +kernel
theorem dX7_could_13 : decode cX7_could 13 = .ok (.ifCond .eq 10, 3) := by decide +kernel
theorem dX7_could_16 : decode cX7_could 16 = .ok (.iload_n 3, 1) := by decide +kernel
theorem dX7_could_17 : decode cX7_could 17 = .ok (.invokestatic 104, 3) := by decide +kernel
theorem dX7_could_20 : decode cX7_could 20 = .ok (.ifCond .ne 5, 3) := by decide +kernel
theorem dX7_could_23 : decode cX7_could 23 = .ok (.iconst (-1), 1) := by decide +kernel
theorem dX7_could_24 : decode cX7_could 24 = .ok (.ireturn, 1) := by decide +kernel
theorem dX7_could_25 : decode cX7_could 25 = .ok (.aload_n 0, 1) := by decide +kernel
theorem dX7_could_26 : decode cX7_could 26 = .ok (.iload_n 3, 1) := by decide +kernel
theorem dX7_could_27 : decode cX7_could 27 = .ok (.invokevirtual 130, 3) := by decide +kernel
theorem dX7_could_30 : decode cX7_could 30 = .ok (.aload_n 0, 1) := by decide +kernel
theorem dX7_could_31 : decode cX7_could 31 = .ok (.iload_n 1, 1) := by decide +kernel
theorem dX7_could_32 : decode cX7_could 32 = .ok (.iload_n 2, 1) := by decide +kernel
theorem dX7_could_33 : decode cX7_could 33 = .ok (.iload_n 3, 1) := by decide +kernel
theorem dX7_could_34 : decode cX7_could 34 = .ok (.invokevirtual 200, 3) := by decide +kernel
theorem dX7_could_37 : decode cX7_could 37 = .ok (.aload_n 0, 1) := by decide +kernel
theorem dX7_could_38 : decode cX7_could 38 = .ok (.getfield 52, 3) := by decide +kernel
theorem dX7_could_41 : decode cX7_could 41 = .ok (.aload_n 0, 1) := by decide +kernel
theorem dX7_could_42 : decode cX7_could 42 = .ok (.getfield 10, 3) := by decide +kernel
theorem dX7_could_45 : decode cX7_could 45 = .ok (.getfield 203, 3) := by decide +kernel
theorem dX7_could_48 : decode cX7_could 48 = .ok (.invokevirtual 206, 3) := by decide +kernel
theorem dX7_could_51 : decode cX7_could 51 = .ok (.ireturn, 1) := by decide +kernel
set_option maxRecDepth 20000 in
theorem ggX7_couldBe_X7_isHand : GoodIn wsX7_couldBe wsX7_isHand := goodIn_r _ [9, 1, 10, 162, 163, 164, 165, 166, 167, 168, 169, 170, 171, 172, 173, 174, 175, 176, 177, 178, 179, 180] (by decide +kernel) (by decide +kernel)
set_option maxRecDepth 20000 in
theorem gX7_couldBe_X7_isHand : GoodIn wsX7_couldBe (wsV RX7 101 RX7 yX7_isHand wsX7_isHand) := goodIn_app (goodIn_of _ (by decide +kernel)) ggX7_couldBe_X7_isHand
set_option maxRecDepth 20000 in
theorem ggX7_couldBe_X7_isTick : GoodIn wsX7_couldBe wsX7_isTick := goodIn_r _ [13] (by decide +kernel) (by decide +kernel)
set_option maxRecDepth 20000 in
theorem gX7_couldBe_X7_isTick : GoodIn wsX7_couldBe (va_wsS RX7 104 yX7_isTick wsX7_isTick) := goodIn_app (goodIn_of _ (by decide +kernel)) ggX7_couldBe_X7_isTick
set_option maxRecDepth 20000 in
theorem ggX7_couldBe_X7_playTrulyTo : GoodIn wsX7_couldBe wsX7_playTrulyTo := goodIn_r _ [17, 18, 19, 1, 20, 21, 22, 23, 24, 25, 8, 26, 27, 28, 29, 30, 31, 32, 33, 34, 35, 36, 37, 38, 39, 40, 41, 42, 43, 44, 45, 46, 47, 48, 49, 50, 51, 52, 53, 54, 55, 56, 57, 58, 59, 60, 61, 62, 63, 64, 65, 66, 67, 68, 69, 70, 71, 72, 73, 74, 75, 76, 77, 78, 79, 80, 81, 82, 83, 84, 85, 86, 87, 88, 89, 90, 91, 92, 93, 94, 95, 96, 97, 98, 99, 100, 101, 102, 103, 104, 105, 106, 107, 108, 109, 110, 111, 112, 113, 114, 115, 116, 117, 118, 119, 120, 121, 122, 123, 162, 163, 164, 165, 166, 167, 168, 169, 170, 171, 172, 173, 181, 182, 174, 175, 176, 177, 178, 179, 180, 183] (by decide +kernel) (by decide +kernel)
set_option maxRecDepth 20000 in
theorem gX7_couldBe_X7_playTrulyTo : GoodIn wsX7_couldBe (wsV RX7 130 RX7 yX7_playTrulyTo wsX7_playTrulyTo) := goodIn_app (goodIn_of _ (by decide +kernel)) ggX7_couldBe_X7_playTrulyTo
set_option maxRecDepth 20000 in
theorem ggX7_couldBe_X7_thinkTo : GoodIn wsX7_couldBe wsX7_thinkTo := goodIn_r _ [127, 21, 1, 4, 128, 18, 2, 3, 22, 38, 39, 40, 41, 42, 43, 44, 45, 46, 47, 48, 49, 50, 51, 8, 52, 129, 130, 131, 132, 133, 134, 135, 88, 89, 86, 87, 136, 137, 138, 139, 140, 141, 142, 30, 143, 32, 144, 115, 116, 117, 79, 80, 81, 118, 119, 145, 146, 147, 148, 149, 150, 151, 152, 153, 154, 155, 156, 162, 163, 164, 165, 166, 167, 168, 169, 170, 171, 172, 173, 183, 174, 175, 176, 177, 178, 179, 180, 184, 181, 182] (by decide +kernel) (by decide +kernel)
set_option maxRecDepth 20000 in
theorem gX7_couldBe_X7_thinkTo : GoodIn wsX7_couldBe (wsV RX7 200 RX7 yX7_thinkTo wsX7_thinkTo) := goodIn_app (goodIn_of _ (by decide +kernel)) ggX7_couldBe_X7_thinkTo
set_option maxRecDepth 20000 in
theorem ggX7_couldBe_X7_spotOf : GoodIn wsX7_couldBe wsX7_spotOf := goodIn_r _ [52] (by decide +kernel) (by decide +kernel)
set_option maxRecDepth 20000 in
theorem gX7_couldBe_X7_spotOf : GoodIn wsX7_couldBe (va_wsS RX7 212 yX7_spotOf wsX7_spotOf) := goodIn_app (goodIn_of _ (by decide +kernel)) ggX7_couldBe_X7_spotOf
set_option maxRecDepth 20000 in
theorem ggX7_couldBe_X3_has : GoodIn wsX7_couldBe wsX3_has := goodIn_r _ [161, 134, 88, 8, 89, 86, 87, 184] (by decide +kernel) (by decide +kernel)
set_option maxRecDepth 20000 in
theorem gX7_couldBe_X3_has : GoodIn wsX7_couldBe (wsV RX7 215 RX3 yX3_has wsX3_has) := goodIn_app (goodIn_of _ (by decide +kernel)) ggX7_couldBe_X3_has
theorem dX7_couldBe_0 : decode cX7_couldBe 0 = .ok (.aload_n 0, 1) := by decide +kernel
theorem dX7_couldBe_1 : decode cX7_couldBe 1 = .ok (.iload_n 1, 1) := by decide +kernel
theorem dX7_couldBe_2 : decode cX7_couldBe 2 = .ok (.invokevirtual 101, 3) := by decide +kernel
theorem dX7_couldBe_5 : decode cX7_couldBe 5 = .ok (.ifCond .eq 43, 3) := by decide +kernel
theorem dX7_couldBe_8 : decode cX7_couldBe 8 = .ok (.aload_n 0, 1) := by decide +kernel
theorem dX7_couldBe_9 : decode cX7_couldBe 9 = .ok (.iload_n 2, 1) := by decide +kernel
theorem dX7_couldBe_10 : decode cX7_couldBe 10 = .ok (.invokevirtual 101, 3) := by decide +kernel
theorem dX7_couldBe_13 : decode cX7_couldBe 13 = .ok (.ifCond .eq 35, 3) := by decide +kernel
theorem dX7_couldBe_16 : decode cX7_couldBe 16 = .ok (.iload_n 3, 1) := by decide +kernel
theorem dX7_couldBe_17 : decode cX7_couldBe 17 = .ok (.invokestatic 104, 3) := by decide +kernel
theorem dX7_couldBe_20 : decode cX7_couldBe 20 = .ok (.ifCond .eq 28, 3) := by decide +kernel
theorem dX7_couldBe_23 : decode cX7_couldBe 23 = .ok (.iload 4, 2) := by decide +kernel
theorem dX7_couldBe_25 : decode cX7_couldBe 25 = .ok (.ifCond .lt 23, 3) := by decide +kernel
theorem dX7_couldBe_28 : decode cX7_couldBe 28 = .ok (.iload 4, 2) := by decide +kernel
theorem dX7_couldBe_30 : decode cX7_couldBe 30 = .ok (.aload_n 0, 1) := by decide +kernel
theorem dX7_couldBe_31 : decode cX7_couldBe 31 = .ok (.getfield 10, 3) := by decide +kernel
theorem dX7_couldBe_34 : decode cX7_couldBe 34 = .ok (.getfield 209, 3) := by decide +kernel
theorem dX7_couldBe_37 : decode cX7_couldBe 37 = .ok (.aload_n 0, 1) := by decide +kernel
theorem dX7_couldBe_38 : decode cX7_couldBe 38 = .ok (.getfield 10, 3) := by decide +kernel
theorem dX7_couldBe_41 : decode cX7_couldBe 41 = .ok (.getfield 203, 3) := by decide +kernel
theorem dX7_couldBe_44 : decode cX7_couldBe 44 = .ok (.imul, 1) := by decide +kernel
theorem dX7_couldBe_45 : decode cX7_couldBe 45 = .ok (.if_icmp .lt 5, 3) := by decide +kernel
theorem dX7_couldBe_48 : decode cX7_couldBe 48 = .ok (.iconst (-1), 1) := by decide +kernel
theorem dX7_couldBe_49 : decode cX7_couldBe 49 = .ok (.ireturn, 1) := by decide +kernel
theorem dX7_couldBe_50 : decode cX7_couldBe 50 = .ok (.aload_n 0, 1) := by decide +kernel
theorem dX7_couldBe_51 : decode cX7_couldBe 51 = .ok (.iload_n 3, 1) := by decide +kernel
theorem dX7_couldBe_52 : decode cX7_couldBe 52 = .ok (.invokevirtual 130, 3) := by decide +kernel
theorem dX7_couldBe_55 : decode cX7_couldBe 55 = .ok (.aload_n 0, 1) := by decide +kernel
theorem dX7_couldBe_56 : decode cX7_couldBe 56 = .ok (.iload_n 1, 1) := by decide +kernel
theorem dX7_couldBe_57 : decode cX7_couldBe 57 = .ok (.iload_n 2, 1) := by decide +kernel
theorem dX7_couldBe_58 : decode cX7_couldBe 58 = .ok (.iload_n 3, 1) := by decide +kernel
theorem dX7_couldBe_59 : decode cX7_couldBe 59 = .ok (.invokevirtual 200, 3) := by decide +kernel
theorem dX7_couldBe_62 : decode cX7_couldBe 62 = .ok (.aload_n 0, 1) := by decide +kernel
theorem dX7_couldBe_63 : decode cX7_couldBe 63 = .ok (.getfield 52, 3) := by decide +kernel
theorem dX7_couldBe_66 : decode cX7_couldBe 66 = .ok (.iload 4, 2) := by decide +kernel
theorem dX7_couldBe_68 : decode cX7_couldBe 68 = .ok (.aload_n 0, 1) := by decide +kernel
theorem dX7_couldBe_69 : decode cX7_couldBe 69 = .ok (.getfield 10, 3) := by decide +kernel
theorem dX7_couldBe_72 : decode cX7_couldBe 72 = .ok (.getfield 209, 3) := by decide +kernel
theorem dX7_couldBe_75 : decode cX7_couldBe 75 = .ok (.invokestatic 212, 3) := by decide +kernel
theorem dX7_couldBe_78 : decode cX7_couldBe 78 = .ok (.invokevirtual 215, 3) := by decide +kernel
theorem dX7_couldBe_81 : decode cX7_couldBe 81 = .ok (.ifCond .eq 7, 3) := by decide +kernel
theorem dX7_couldBe_84 : decode cX7_couldBe 84 = .ok (.iconst 1, 1) := by decide +kernel
theorem dX7_couldBe_85 : decode cX7_couldBe 85 = .ok (.goto 4, 3) := by decide +kernel
theorem dX7_couldBe_88 : decode cX7_couldBe 88 = .ok (.iconst 0, 1) := by decide +kernel
theorem dX7_couldBe_89 : decode cX7_couldBe 89 = .ok (.ireturn, 1) := by decide +kernel
set_option maxRecDepth 20000 in
theorem ggX7_player_X7_isShore : GoodIn wsX7_player wsX7_isShore := goodIn_r _ [6] (by decide +kernel) (by decide +kernel)
set_option maxRecDepth 20000 in
theorem gX7_player_X7_isShore : GoodIn wsX7_player (va_wsS RX7 218 yX7_isShore wsX7_isShore) := goodIn_app (goodIn_of _ (by decide +kernel)) ggX7_player_X7_isShore
set_option maxRecDepth 20000 in
theorem ggX7_player_X1_join : GoodIn wsX7_player wsX1_join := goodIn_r _ [11, 12, 13, 14, 15, 28, 29, 30, 31, 32, 33, 34] (by decide +kernel) (by decide +kernel)
set_option maxRecDepth 20000 in
theorem gX7_player_X1_join : GoodIn wsX7_player (wsV RX7 223 RX1 yX1_join wsX1_join) := goodIn_app (goodIn_of _ (by decide +kernel)) ggX7_player_X1_join
theorem dX7_player_0 : decode cX7_player 0 = .ok (.iload_n 1, 1) := by decide +kernel
theorem dX7_player_1 : decode cX7_player 1 = .ok (.ifCond .lt 17, 3) := by decide +kernel
theorem dX7_player_4 : decode cX7_player 4 = .ok (.iload_n 1, 1) := by decide +kernel
theorem dX7_player_5 : decode cX7_player 5 = .ok (.sipush 999, 3) := by decide +kernel
theorem dX7_player_8 : decode cX7_player 8 = .ok (.if_icmp .gt 10, 3) := by decide +kernel
theorem dX7_player_11 : decode cX7_player 11 = .ok (.iload_n 2, 1) := by decide +kernel
theorem dX7_player_12 : decode cX7_player 12 = .ok (.invokestatic 218, 3) := by decide +kernel
theorem dX7_player_15 : decode cX7_player 15 = .ok (.ifCond .ne 6, 3) := by decide +kernel
theorem dX7_player_18 : decode cX7_player 18 = .ok (.bipush (-2), 2) := by decide +kernel
theorem dX7_player_20 : decode cX7_player 20 = .ok (.ireturn, 1) := by decide +kernel
theorem dX7_player_21 : decode cX7_player 21 = .ok (.aload_n 0, 1) := by decide +kernel
theorem dX7_player_22 : decode cX7_player 22 = .ok (.getfield 59, 3) := by decide +kernel
theorem dX7_player_25 : decode cX7_player 25 = .ok (.getfield 221, 3) := by decide +kernel
theorem dX7_player_28 : decode cX7_player 28 = .ok (.bipush 10, 2) := by decide +kernel
theorem dX7_player_30 : decode cX7_player 30 = .ok (.if_icmp .ne 6, 3) := by decide +kernel
theorem dX7_player_33 : decode cX7_player 33 = .ok (.bipush (-4), 2) := by decide +kernel
theorem dX7_player_35 : decode cX7_player 35 = .ok (.ireturn, 1) := by decide +kernel
theorem dX7_player_36 : decode cX7_player 36 = .ok (.aload_n 0, 1) := by decide +kernel
theorem dX7_player_37 : decode cX7_player 37 = .ok (.getfield 59, 3) := by decide +kernel
theorem dX7_player_40 : decode cX7_player 40 = .ok (.iload_n 1, 1) := by decide +kernel
theorem dX7_player_41 : decode cX7_player 41 = .ok (.iload_n 2, 1) := by decide +kernel
theorem dX7_player_42 : decode cX7_player 42 = .ok (.invokevirtual 223, 3) := by decide +kernel
theorem dX7_player_45 : decode cX7_player 45 = .ok (.ireturn, 1) := by decide +kernel
set_option maxRecDepth 20000 in
theorem ggX7_far_X7_isShore : GoodIn wsX7_far wsX7_isShore := goodIn_r _ [5] (by decide +kernel) (by decide +kernel)
set_option maxRecDepth 20000 in
theorem gX7_far_X7_isShore : GoodIn wsX7_far (va_wsS RX7 218 yX7_isShore wsX7_isShore) := goodIn_app (goodIn_of _ (by decide +kernel)) ggX7_far_X7_isShore
set_option maxRecDepth 20000 in
theorem ggX7_far_X1_setFar : GoodIn wsX7_far wsX1_setFar := goodIn_r _ [10, 11, 12, 25, 26, 27, 28, 29, 30, 31] (by decide +kernel) (by decide +kernel)
set_option maxRecDepth 20000 in
theorem gX7_far_X1_setFar : GoodIn wsX7_far (wsV RX7 226 RX1 yX1_setFar wsX1_setFar) := goodIn_app (goodIn_of _ (by decide +kernel)) ggX7_far_X1_setFar
theorem dX7_far_0 : decode cX7_far 0 = .ok (.iload_n 1, 1) := by decide +kernel
theorem dX7_far_1 : decode cX7_far 1 = .ok (.invokestatic 218, 3) := by decide +kernel
theorem dX7_far_4 : decode cX7_far 4 = .ok (.ifCond .eq 10, 3) := by decide +kernel
theorem dX7_far_7 : decode cX7_far 7 = .ok (.iload_n 2, 1) := by decide +kernel
theorem dX7_far_8 : decode cX7_far 8 = .ok (.invokestatic 218, 3) := by decide +kernel
theorem dX7_far_11 : decode cX7_far 11 = .ok (.ifCond .ne 5, 3) := by decide +kernel
theorem dX7_far_14 : decode cX7_far 14 = .ok (.iconst (-1), 1) := by decide +kernel
theorem dX7_far_15 : decode cX7_far 15 = .ok (.ireturn, 1) := by decide +kernel
theorem dX7_far_16 : decode cX7_far 16 = .ok (.iload_n 3, 1) := by decide +kernel
theorem dX7_far_17 : decode cX7_far 17 = .ok (.ifCond .lt 10, 3) := by decide +kernel
theorem dX7_far_20 : decode cX7_far 20 = .ok (.iload_n 3, 1) := by decide +kernel
theorem dX7_far_21 : decode cX7_far 21 = .ok (.sipush 999, 3) := by decide +kernel
theorem dX7_far_24 : decode cX7_far 24 = .ok (.if_icmp .le 6, 3) := by decide +kernel
theorem dX7_far_27 : decode cX7_far 27 = .ok (.bipush (-2), 2) := by decide +kernel
theorem dX7_far_29 : decode cX7_far 29 = .ok (.ireturn, 1) := by decide +kernel
theorem dX7_far_30 : decode cX7_far 30 = .ok (.aload_n 0, 1) := by decide +kernel
theorem dX7_far_31 : decode cX7_far 31 = .ok (.getfield 59, 3) := by decide +kernel
theorem dX7_far_34 : decode cX7_far 34 = .ok (.iload_n 1, 1) := by decide +kernel
theorem dX7_far_35 : decode cX7_far 35 = .ok (.iload_n 2, 1) := by decide +kernel
theorem dX7_far_36 : decode cX7_far 36 = .ok (.iload_n 3, 1) := by decide +kernel
theorem dX7_far_37 : decode cX7_far 37 = .ok (.invokevirtual 226, 3) := by decide +kernel
theorem dX7_far_40 : decode cX7_far 40 = .ok (.ireturn, 1) := by decide +kernel
set_option maxRecDepth 20000 in
theorem ggX7_pairs_X1_pairUp : GoodIn wsX7_pairs wsX1_pairUp := goodIn_r _ [6, 7, 8, 9, 10, 11, 12, 13, 5, 14, 15, 16, 17, 18, 19, 20, 21, 22, 23, 24, 25, 26, 27, 28, 29, 30, 31, 32, 33, 34, 35, 36, 37, 38, 39, 40, 41, 42, 43, 44, 61, 62, 63, 64, 65, 66, 67] (by decide +kernel) (by decide +kernel)
set_option maxRecDepth 20000 in
theorem gX7_pairs_X1_pairUp : GoodIn wsX7_pairs (wsV RX7 229 RX1 yX1_pairUp wsX1_pairUp) := goodIn_app (goodIn_of _ (by decide +kernel)) ggX7_pairs_X1_pairUp
set_option maxRecDepth 20000 in
theorem ggX7_pairs_X1_leastCost : GoodIn wsX7_pairs wsX1_leastCost := goodIn_r _ [48, 9, 8, 61, 62, 63, 64, 65, 66, 67] (by decide +kernel) (by decide +kernel)
set_option maxRecDepth 20000 in
theorem gX7_pairs_X1_leastCost : GoodIn wsX7_pairs (wsV RX7 232 RX1 yX1_leastCost wsX1_leastCost) := goodIn_app (goodIn_of _ (by decide +kernel)) ggX7_pairs_X1_leastCost
theorem dX7_pairs_0 : decode cX7_pairs 0 = .ok (.aload_n 0, 1) := by decide +kernel
theorem dX7_pairs_1 : decode cX7_pairs 1 = .ok (.getfield 59, 3) := by decide +kernel
theorem dX7_pairs_4 : decode cX7_pairs 4 = .ok (.invokevirtual 229, 3) := by decide +kernel
theorem dX7_pairs_7 : decode cX7_pairs 7 = .ok (.aload_n 0, 1) := by decide +kernel
theorem dX7_pairs_8 : decode cX7_pairs 8 = .ok (.getfield 59, 3) := by decide +kernel
theorem dX7_pairs_11 : decode cX7_pairs 11 = .ok (.invokevirtual 232, 3) := by decide +kernel
theorem dX7_pairs_14 : decode cX7_pairs 14 = .ok (.ireturn, 1) := by decide +kernel
set_option maxRecDepth 20000 in
theorem ggX7_mate_X1_pairUp : GoodIn wsX7_mate wsX1_pairUp := goodIn_r _ [8, 9, 10, 11, 12, 13, 14, 15, 7, 16, 17, 18, 19, 20, 21, 22, 23, 24, 25, 26, 27, 28, 29, 30, 31, 32, 33, 34, 35, 36, 37, 38, 39, 40, 41, 42, 43, 44, 45, 46, 59, 60, 61, 62, 63, 64, 65] (by decide +kernel) (by decide +kernel)
set_option maxRecDepth 20000 in
theorem gX7_mate_X1_pairUp : GoodIn wsX7_mate (wsV RX7 229 RX1 yX1_pairUp wsX1_pairUp) := goodIn_app (goodIn_of _ (by decide +kernel)) ggX7_mate_X1_pairUp
theorem dX7_mate_0 : decode cX7_mate 0 = .ok (.iload_n 1, 1) := by decide +kernel
theorem dX7_mate_1 : decode cX7_mate 1 = .ok (.ifCond .lt 14, 3) := by decide +kernel
theorem dX7_mate_4 : decode cX7_mate 4 = .ok (.iload_n 1, 1) := by decide +kernel
theorem dX7_mate_5 : decode cX7_mate 5 = .ok (.aload_n 0, 1) := by decide +kernel
theorem dX7_mate_6 : decode cX7_mate 6 = .ok (.getfield 59, 3) := by decide +kernel
theorem dX7_mate_9 : decode cX7_mate 9 = .ok (.getfield 221, 3) := by decide +kernel
theorem dX7_mate_12 : decode cX7_mate 12 = .ok (.if_icmp .lt 5, 3) := by decide +kernel
theorem dX7_mate_15 : decode cX7_mate 15 = .ok (.iconst (-1), 1) := by decide +kernel
theorem dX7_mate_16 : decode cX7_mate 16 = .ok (.ireturn, 1) := by decide +kernel
theorem dX7_mate_17 : decode cX7_mate 17 = .ok (.aload_n 0, 1) := by decide +kernel
theorem dX7_mate_18 : decode cX7_mate 18 = .ok (.getfield 59, 3) := by decide +kernel
theorem dX7_mate_21 : decode cX7_mate 21 = .ok (.invokevirtual 229, 3) := by decide +kernel
theorem dX7_mate_24 : decode cX7_mate 24 = .ok (.aload_n 0, 1) := by decide +kernel
theorem dX7_mate_25 : decode cX7_mate 25 = .ok (.getfield 59, 3) := by decide +kernel
theorem dX7_mate_28 : decode cX7_mate 28 = .ok (.getfield 236, 3) := by decide +kernel
theorem dX7_mate_31 : decode cX7_mate 31 = .ok (.iload_n 1, 1) := by decide +kernel
theorem dX7_mate_32 : decode cX7_mate 32 = .ok (.iaload, 1) := by decide +kernel
theorem dX7_mate_33 : decode cX7_mate 33 = .ok (.ireturn, 1) := by decide +kernel
set_option maxRecDepth 20000 in
theorem ggX7_odds_X2_reckon : GoodIn wsX7_odds wsX2_reckon := goodIn_r _ [13, 14, 15, 16, 17, 4, 18, 19, 3, 5, 20, 21, 22, 23, 12, 24, 25, 26, 27, 28, 29, 30, 31, 44, 45, 46, 47] (by decide +kernel) (by decide +kernel)
set_option maxRecDepth 20000 in
theorem gX7_odds_X2_reckon : GoodIn wsX7_odds (wsV RX7 244 RX2 yX2_reckon wsX2_reckon) := goodIn_app (goodIn_of _ (by decide +kernel)) ggX7_odds_X2_reckon
theorem dX7_odds_0 : decode cX7_odds 0 = .ok (.iload_n 1, 1) := by decide +kernel
theorem dX7_odds_1 : decode cX7_odds 1 = .ok (.iconst 1, 1) := by decide +kernel
theorem dX7_odds_2 : decode cX7_odds 2 = .ok (.if_icmp .lt 27, 3) := by decide +kernel
theorem dX7_odds_5 : decode cX7_odds 5 = .ok (.iload_n 1, 1) := by decide +kernel
theorem dX7_odds_6 : decode cX7_odds 6 = .ok (.bipush 60, 2) := by decide +kernel
theorem dX7_odds_8 : decode cX7_odds 8 = .ok (.if_icmp .gt 21, 3) := by decide +kernel
theorem dX7_odds_11 : decode cX7_odds 11 = .ok (.iload_n 2, 1) := by decide +kernel
theorem dX7_odds_12 : decode cX7_odds 12 = .ok (.ifCond .lt 17, 3) := by decide +kernel
theorem dX7_odds_15 : decode cX7_odds 15 = .ok (.iload_n 2, 1) := by decide +kernel
theorem dX7_odds_16 : decode cX7_odds 16 = .ok (.iload_n 1, 1) := by decide +kernel
theorem dX7_odds_17 : decode cX7_odds 17 = .ok (.if_icmp .gt 12, 3) := by decide +kernel
theorem dX7_odds_20 : decode cX7_odds 20 = .ok (.iload_n 3, 1) := by decide +kernel
theorem dX7_odds_21 : decode cX7_odds 21 = .ok (.ifCond .lt 8, 3) := by decide +kernel
theorem dX7_odds_24 : decode cX7_odds 24 = .ok (.iload_n 3, 1) := by decide +kernel
theorem dX7_odds_25 : decode cX7_odds 25 = .ok (.iload_n 1, 1) := by decide +kernel
theorem dX7_odds_26 : decode cX7_odds 26 = .ok (.if_icmp .le 7, 3) := by decide +kernel
theorem dX7_odds_29 : decode cX7_odds 29 = .ok (.ldc2_w 239, 3) := by decide +kernel
theorem dX7_odds_32 : decode cX7_odds 32 = .ok (.lreturn, 1) := by decide +kernel
theorem dX7_odds_33 : decode cX7_odds 33 = .ok (.iload 4, 2) := by decide +kernel
theorem dX7_odds_35 : decode cX7_odds 35 = .ok (.ifCond .lt 13, 3) := by decide +kernel
theorem dX7_odds_38 : decode cX7_odds 38 = .ok (.iload 4, 2) := by decide +kernel
theorem dX7_odds_40 : decode cX7_odds 40 = .ok (.iload_n 2, 1) := by decide +kernel
theorem dX7_odds_41 : decode cX7_odds 41 = .ok (.iload_n 3, 1) := by decide +kernel
theorem dX7_odds_42 : decode cX7_odds 42 = .ok (.invokestatic 241, 3) := by decide +kernel
theorem dX7_odds_45 : decode cX7_odds 45 = .ok (.if_icmp .le 7, 3) := by decide +kernel
theorem dX7_odds_48 : decode cX7_odds 48 = .ok (.ldc2_w 239, 3) := by decide +kernel
theorem dX7_odds_51 : decode cX7_odds 51 = .ok (.lreturn, 1) := by decide +kernel
theorem dX7_odds_52 : decode cX7_odds 52 = .ok (.aload_n 0, 1) := by decide +kernel
theorem dX7_odds_53 : decode cX7_odds 53 = .ok (.getfield 66, 3) := by decide +kernel
theorem dX7_odds_56 : decode cX7_odds 56 = .ok (.iload_n 1, 1) := by decide +kernel
theorem dX7_odds_57 : decode cX7_odds 57 = .ok (.iload_n 2, 1) := by decide +kernel
theorem dX7_odds_58 : decode cX7_odds 58 = .ok (.iload_n 3, 1) := by decide +kernel
theorem dX7_odds_59 : decode cX7_odds 59 = .ok (.iload 4, 2) := by decide +kernel
theorem dX7_odds_61 : decode cX7_odds 61 = .ok (.invokevirtual 244, 3) := by decide +kernel
theorem dX7_odds_64 : decode cX7_odds 64 = .ok (.iload 5, 2) := by decide +kernel
theorem dX7_odds_66 : decode cX7_odds 66 = .ok (.ifCond .eq 13, 3) := by decide +kernel
theorem dX7_odds_69 : decode cX7_odds 69 = .ok (.aload_n 0, 1) := by decide +kernel
theorem dX7_odds_70 : decode cX7_odds 70 = .ok (.getfield 66, 3) := by decide +kernel
theorem dX7_odds_73 : decode cX7_odds 73 = .ok (.getfield 248, 3) := by decide +kernel
theorem dX7_odds_76 : decode cX7_odds 76 = .ok (.goto 10, 3) := by decide +kernel
theorem dX7_odds_79 : decode cX7_odds 79 = .ok (.aload_n 0, 1) := by decide +kernel
theorem dX7_odds_80 : decode cX7_odds 80 = .ok (.getfield 66, 3) := by decide +kernel
theorem dX7_odds_83 : decode cX7_odds 83 = .ok (.getfield 252, 3) := by decide +kernel
theorem dX7_odds_86 : decode cX7_odds 86 = .ok (.lreturn, 1) := by decide +kernel
set_option maxRecDepth 20000 in
theorem ggX7_keep_X7_isSlot : GoodIn wsX7_keep wsX7_isSlot := goodIn_r _ [7] (by decide +kernel) (by decide +kernel)
set_option maxRecDepth 20000 in
theorem gX7_keep_X7_isSlot : GoodIn wsX7_keep (va_wsS RX7 255 yX7_isSlot wsX7_isSlot) := goodIn_app (goodIn_of _ (by decide +kernel)) ggX7_keep_X7_isSlot
set_option maxRecDepth 20000 in
theorem ggX7_keep_X5_copyFrom : GoodIn wsX7_keep wsX5_copyFrom := goodIn_r _ [12, 13, 14, 15, 16, 17, 18, 19, 20, 21, 22, 23, 40, 41, 42, 43, 44, 45, 46] (by decide +kernel) (by decide +kernel)
set_option maxRecDepth 20000 in
theorem gX7_keep_X5_copyFrom : GoodIn wsX7_keep (wsV RX7 258 RX5 yX5_copyFrom wsX5_copyFrom) := goodIn_app (goodIn_of _ (by decide +kernel)) ggX7_keep_X5_copyFrom
set_option maxRecDepth 20000 in
theorem ggX7_keep_X5_pressed : GoodIn wsX7_keep wsX5_pressed := goodIn_r _ [27, 15, 21, 40, 41, 42, 43, 44, 45, 46] (by decide +kernel) (by decide +kernel)
set_option maxRecDepth 20000 in
theorem gX7_keep_X5_pressed : GoodIn wsX7_keep (wsV RX7 261 RX5 yX5_pressed wsX5_pressed) := goodIn_app (goodIn_of _ (by decide +kernel)) ggX7_keep_X5_pressed
theorem dX7_keep_0 : decode cX7_keep 0 = .ok (.iload_n 1, 1) := by decide +kernel
theorem dX7_keep_1 : decode cX7_keep 1 = .ok (.invokestatic 255, 3) := by decide +kernel
theorem dX7_keep_4 : decode cX7_keep 4 = .ok (.ifCond .ne 5, 3) := by decide +kernel
theorem dX7_keep_7 : decode cX7_keep 7 = .ok (.iconst (-1), 1) := by decide +kernel
theorem dX7_keep_8 : decode cX7_keep 8 = .ok (.ireturn, 1) := by decide +kernel
theorem dX7_keep_9 : decode cX7_keep 9 = .ok (.aload_n 0, 1) := by decide +kernel
theorem dX7_keep_10 : decode cX7_keep 10 = .ok (.getfield 70, 3) := by decide +kernel
theorem dX7_keep_13 : decode cX7_keep 13 = .ok (.iload_n 1, 1) := by decide +kernel
theorem dX7_keep_14 : decode cX7_keep 14 = .ok (.aaload, 1) := by decide +kernel
theorem dX7_keep_15 : decode cX7_keep 15 = .ok (.aload_n 0, 1) := by decide +kernel
theorem dX7_keep_16 : decode cX7_keep 16 = .ok (.getfield 10, 3) := by decide +kernel
theorem dX7_keep_19 : decode cX7_keep 19 = .ok (.invokevirtual 258, 3) := by decide +kernel
theorem dX7_keep_22 : decode cX7_keep 22 = .ok (.aload_n 0, 1) := by decide +kernel
theorem dX7_keep_23 : decode cX7_keep 23 = .ok (.getfield 74, 3) := by decide +kernel
theorem dX7_keep_26 : decode cX7_keep 26 = .ok (.iload_n 1, 1) := by decide +kernel
theorem dX7_keep_27 : decode cX7_keep 27 = .ok (.iconst 1, 1) := by decide +kernel
theorem dX7_keep_28 : decode cX7_keep 28 = .ok (.bastore, 1) := by decide +kernel
theorem dX7_keep_29 : decode cX7_keep 29 = .ok (.aload_n 0, 1) := by decide +kernel
theorem dX7_keep_30 : decode cX7_keep 30 = .ok (.getfield 10, 3) := by decide +kernel
theorem dX7_keep_33 : decode cX7_keep 33 = .ok (.invokevirtual 261, 3) := by decide +kernel
theorem dX7_keep_36 : decode cX7_keep 36 = .ok (.ireturn, 1) := by decide +kernel
set_option maxRecDepth 20000 in
theorem ggX7_again_X7_isSlot : GoodIn wsX7_again wsX7_isSlot := goodIn_r _ [9] (by decide +kernel) (by decide +kernel)
set_option maxRecDepth 20000 in
theorem gX7_again_X7_isSlot : GoodIn wsX7_again (va_wsS RX7 255 yX7_isSlot wsX7_isSlot) := goodIn_app (goodIn_of _ (by decide +kernel)) ggX7_again_X7_isSlot
set_option maxRecDepth 20000 in
theorem ggX7_again_X5_copyFrom : GoodIn wsX7_again wsX5_copyFrom := goodIn_r _ [14, 15, 16, 17, 18, 19, 20, 21, 22, 23, 24, 25, 48, 49, 50, 51, 52, 53, 54] (by decide +kernel) (by decide +kernel)
set_option maxRecDepth 20000 in
theorem gX7_again_X5_copyFrom : GoodIn wsX7_again (wsV RX7 258 RX5 yX5_copyFrom wsX5_copyFrom) := goodIn_app (goodIn_of _ (by decide +kernel)) ggX7_again_X5_copyFrom
set_option maxRecDepth 20000 in
theorem ggX7_again_X6_keepBelow : GoodIn wsX7_again wsX6_keepBelow := goodIn_r _ [30, 31, 32, 33, 34, 35, 55, 56] (by decide +kernel) (by decide +kernel)
set_option maxRecDepth 20000 in
theorem gX7_again_X6_keepBelow : GoodIn wsX7_again (wsV RX7 88 RX6 yX6_keepBelow wsX6_keepBelow) := goodIn_app (goodIn_of _ (by decide +kernel)) ggX7_again_X6_keepBelow
theorem dX7_again_0 : decode cX7_again 0 = .ok (.iload_n 1, 1) := by decide +kernel
theorem dX7_again_1 : decode cX7_again 1 = .ok (.invokestatic 255, 3) := by decide +kernel
theorem dX7_again_4 : decode cX7_again 4 = .ok (.ifCond .ne 5, 3) := by decide +kernel
theorem dX7_again_7 : decode cX7_again 7 = .ok (.iconst (-1), 1) := by decide +kernel
theorem dX7_again_8 : decode cX7_again 8 = .ok (.ireturn, 1) := by decide +kernel
theorem dX7_again_9 : decode cX7_again 9 = .ok (.aload_n 0, 1) := by decide +kernel
theorem dX7_again_10 : decode cX7_again 10 = .ok (.getfield 74, 3) := by decide +kernel
theorem dX7_again_13 : decode cX7_again 13 = .ok (.iload_n 1, 1) := by decide +kernel
theorem dX7_again_14 : decode cX7_again 14 = .ok (.baload, 1) := by decide +kernel
theorem dX7_again_15 : decode cX7_again 15 = .ok (.ifCond .ne 6, 3) := by decide +kernel
theorem dX7_again_18 : decode cX7_again 18 = .ok (.bipush (-3), 2) := by decide +kernel
theorem dX7_again_20 : decode cX7_again 20 = .ok (.ireturn, 1) := by decide +kernel
theorem dX7_again_21 : decode cX7_again 21 = .ok (.aload_n 0, 1) := by decide +kernel
theorem dX7_again_22 : decode cX7_again 22 = .ok (.getfield 10, 3) := by decide +kernel
theorem dX7_again_25 : decode cX7_again 25 = .ok (.aload_n 0, 1) := by decide +kernel
theorem dX7_again_26 : decode cX7_again 26 = .ok (.getfield 70, 3) := by decide +kernel
theorem dX7_again_29 : decode cX7_again 29 = .ok (.iload_n 1, 1) := by decide +kernel
theorem dX7_again_30 : decode cX7_again 30 = .ok (.aaload, 1) := by decide +kernel
theorem dX7_again_31 : decode cX7_again 31 = .ok (.invokevirtual 258, 3) := by decide +kernel
theorem dX7_again_34 : decode cX7_again 34 = .ok (.aload_n 0, 1) := by decide +kernel
theorem dX7_again_35 : decode cX7_again 35 = .ok (.getfield 28, 3) := by decide +kernel
theorem dX7_again_38 : decode cX7_again 38 = .ok (.iconst 0, 1) := by decide +kernel
theorem dX7_again_39 : decode cX7_again 39 = .ok (.invokevirtual 88, 3) := by decide +kernel
theorem dX7_again_42 : decode cX7_again 42 = .ok (.aload_n 0, 1) := by decide +kernel
theorem dX7_again_43 : decode cX7_again 43 = .ok (.getfield 10, 3) := by decide +kernel
theorem dX7_again_46 : decode cX7_again 46 = .ok (.getfield 123, 3) := by decide +kernel
theorem dX7_again_49 : decode cX7_again 49 = .ok (.ireturn, 1) := by decide +kernel
set_option maxRecDepth 20000 in
theorem ggX7_tried_X7_isSlot : GoodIn wsX7_tried wsX7_isSlot := goodIn_r _ [10] (by decide +kernel) (by decide +kernel)
set_option maxRecDepth 20000 in
theorem gX7_tried_X7_isSlot : GoodIn wsX7_tried (va_wsS RX7 255 yX7_isSlot wsX7_isSlot) := goodIn_app (goodIn_of _ (by decide +kernel)) ggX7_tried_X7_isSlot
set_option maxRecDepth 20000 in
theorem ggX7_tried_X7_isTick : GoodIn wsX7_tried wsX7_isTick := goodIn_r _ [13] (by decide +kernel) (by decide +kernel)
set_option maxRecDepth 20000 in
theorem gX7_tried_X7_isTick : GoodIn wsX7_tried (va_wsS RX7 104 yX7_isTick wsX7_isTick) := goodIn_app (goodIn_of _ (by decide +kernel)) ggX7_tried_X7_isTick
set_option maxRecDepth 20000 in
theorem ggX7_tried_X7_columnOf : GoodIn wsX7_tried wsX7_columnOf := goodIn_r _ [16] (by decide +kernel) (by decide +kernel)
set_option maxRecDepth 20000 in
theorem gX7_tried_X7_columnOf : GoodIn wsX7_tried (va_wsS RX7 127 yX7_columnOf wsX7_columnOf) := goodIn_app (goodIn_of _ (by decide +kernel)) ggX7_tried_X7_columnOf
set_option maxRecDepth 20000 in
theorem ggX7_tried_X7_isPower : GoodIn wsX7_tried wsX7_isPower := goodIn_r _ [19, 20, 21] (by decide +kernel) (by decide +kernel)
set_option maxRecDepth 20000 in
theorem gX7_tried_X7_isPower : GoodIn wsX7_tried (va_wsS RX7 264 yX7_isPower wsX7_isPower) := goodIn_app (goodIn_of _ (by decide +kernel)) ggX7_tried_X7_isPower
set_option maxRecDepth 20000 in
theorem ggX7_tried_X0_start : GoodIn wsX7_tried wsX0_start := goodIn_r _ [26, 27, 28, 29, 30, 31, 32, 33, 34, 35, 9, 36, 127, 120, 121, 122, 123, 124, 125, 126] (by decide +kernel) (by decide +kernel)
set_option maxRecDepth 20000 in
theorem gX7_tried_X0_start : GoodIn wsX7_tried (wsV RX7 267 RX0 yX0_start wsX0_start) := goodIn_app (goodIn_of _ (by decide +kernel)) ggX7_tried_X0_start
set_option maxRecDepth 20000 in
theorem ggX7_tried_X5_fillPresses : GoodIn wsX7_tried wsX5_fillPresses := goodIn_r _ [41, 42, 43, 44, 45, 40, 46, 47, 120, 121, 122, 123, 124, 125, 126] (by decide +kernel) (by decide +kernel)
set_option maxRecDepth 20000 in
theorem gX7_tried_X5_fillPresses : GoodIn wsX7_tried (wsV RX7 270 RX5 yX5_fillPresses wsX5_fillPresses) := goodIn_app (goodIn_of _ (by decide +kernel)) ggX7_tried_X5_fillPresses
set_option maxRecDepth 20000 in
theorem ggX7_tried_X0_advance : GoodIn wsX7_tried wsX0_advance := goodIn_r _ [51, 28, 52, 53, 54, 40, 55, 56, 57, 58, 59, 60, 25, 61, 27, 62, 63, 64, 65, 66, 67, 68, 69, 70, 9, 71, 72, 73, 74, 75, 76, 77, 78, 79, 80, 81, 82, 83, 84, 85, 29, 30, 86, 87, 88, 89, 90, 91, 92, 93, 94, 95, 96, 97, 98, 99, 100, 101, 102, 103, 120, 121, 122, 123, 124, 125, 126, 127] (by decide +kernel) (by decide +kernel)
set_option maxRecDepth 20000 in
theorem gX7_tried_X0_advance : GoodIn wsX7_tried (wsV RX7 274 RX0 yX0_advance wsX0_advance) := goodIn_app (goodIn_of _ (by decide +kernel)) ggX7_tried_X0_advance
set_option maxRecDepth 20000 in
theorem ggX7_tried_X7_told : GoodIn wsX7_tried wsX7_told := goodIn_r _ [106, 107, 103, 72, 9, 73, 102, 70, 71, 120, 121, 122, 123, 124, 125, 126] (by decide +kernel) (by decide +kernel)
set_option maxRecDepth 20000 in
theorem gX7_tried_X7_told : GoodIn wsX7_tried (va_wsS RX7 136 yX7_told wsX7_told) := goodIn_app (goodIn_of _ (by decide +kernel)) ggX7_tried_X7_told
theorem dX7_tried_0 : decode cX7_tried 0 = .ok (.iload_n 1, 1) := by decide +kernel
theorem dX7_tried_1 : decode cX7_tried 1 = .ok (.invokestatic 255, 3) := by decide +kernel
theorem dX7_tried_4 : decode cX7_tried 4 = .ok (.ifCond .eq 10, 3) := by decide +kernel
theorem dX7_tried_7 : decode cX7_tried 7 = .ok (.iload_n 3, 1) := by decide +kernel
theorem dX7_tried_8 : decode cX7_tried 8 = .ok (.invokestatic 104, 3) := by decide +kernel
theorem dX7_tried_11 : decode cX7_tried 11 = .ok (.ifCond .ne 5, 3) := by decide +kernel
theorem dX7_tried_14 : decode cX7_tried 14 = .ok (.iconst (-1), 1) := by decide +kernel
theorem dX7_tried_15 : decode cX7_tried 15 = .ok (.ireturn, 1) := by decide +kernel
theorem dX7_tried_16 : decode cX7_tried 16 = .ok (.aload_n 0, 1) := by decide +kernel
theorem dX7_tried_17 : decode cX7_tried 17 = .ok (.getfield 74, 3) := by decide +kernel
theorem dX7_tried_20 : decode cX7_tried 20 = .ok (.iload_n 1, 1) := by decide +kernel
theorem dX7_tried_21 : decode cX7_tried 21 = .ok (.baload, 1) := by decide +kernel
theorem dX7_tried_22 : decode cX7_tried 22 = .ok (.ifCond .ne 6, 3) := by decide +kernel
theorem dX7_tried_25 : decode cX7_tried 25 = .ok (.bipush (-3), 2) := by decide +kernel
theorem dX7_tried_27 : decode cX7_tried 27 = .ok (.ireturn, 1) := by decide +kernel
theorem dX7_tried_28 : decode cX7_tried 28 = .ok (.aload_n 0, 1) := by decide +kernel
theorem dX7_tried_29 : decode cX7_tried 29 = .ok (.getfield 70, 3) := by decide +kernel
theorem dX7_tried_32 : decode cX7_tried 32 = .ok (.iload_n 1, 1) := by decide +kernel
theorem dX7_tried_33 : decode cX7_tried 33 = .ok (.aaload, 1) := by decide +kernel
theorem dX7_tried_34 : decode cX7_tried 34 = .ok (.astore 5, 2) := by decide +kernel
theorem dX7_tried_36 : decode cX7_tried 36 = .ok (.iload 4, 2) := by decide +kernel
theorem dX7_tried_38 : decode cX7_tried 38 = .ok (.aload 5, 2) := by decide +kernel
theorem dX7_tried_40 : decode cX7_tried 40 = .ok (.getfield 123, 3) := by decide +kernel
theorem dX7_tried_43 : decode cX7_tried 43 = .ok (.invokestatic 127, 3) := by decide +kernel
theorem dX7_tried_46 : decode cX7_tried 46 = .ok (.istore 6, 2) := by decide +kernel
theorem dX7_tried_48 : decode cX7_tried 48 = .ok (.iload_n 2, 1) := by decide +kernel
theorem dX7_tried_49 : decode cX7_tried 49 = .ok (.invokestatic 264, 3) := by decide +kernel
theorem dX7_tried_52 : decode cX7_tried 52 = .ok (.ifCond .eq 8, 3) := by decide +kernel
theorem dX7_tried_55 : decode cX7_tried 55 = .ok (.iload 6, 2) := by decide +kernel
theorem dX7_tried_57 : decode cX7_tried 57 = .ok (.ifCond .ge 6, 3) := by decide +kernel
theorem dX7_tried_60 : decode cX7_tried 60 = .ok (.bipush (-2), 2) := by decide +kernel
theorem dX7_tried_62 : decode cX7_tried 62 = .ok (.ireturn, 1) := by decide +kernel
theorem dX7_tried_63 : decode cX7_tried 63 = .ok (.aload_n 0, 1) := by decide +kernel
theorem dX7_tried_64 : decode cX7_tried 64 = .ok (.getfield 38, 3) := by decide +kernel
theorem dX7_tried_67 : decode cX7_tried 67 = .ok (.aload 5, 2) := by decide +kernel
theorem dX7_tried_69 : decode cX7_tried 69 = .ok (.invokevirtual 267, 3) := by decide +kernel
theorem dX7_tried_72 : decode cX7_tried 72 = .ok (.iconst 0, 1) := by decide +kernel
theorem dX7_tried_73 : decode cX7_tried 73 = .ok (.istore 7, 2) := by decide +kernel
theorem dX7_tried_75 : decode cX7_tried 75 = .ok (.iload 7, 2) := by decide +kernel
theorem dX7_tried_77 : decode cX7_tried 77 = .ok (.iload_n 3, 1) := by decide +kernel
theorem dX7_tried_78 : decode cX7_tried 78 = .ok (.if_icmp .gt 36, 3) := by decide +kernel
theorem dX7_tried_81 : decode cX7_tried 81 = .ok (.aload 5, 2) := by decide +kernel
theorem dX7_tried_83 : decode cX7_tried 83 = .ok (.iload 7, 2) := by decide +kernel
theorem dX7_tried_85 : decode cX7_tried 85 = .ok (.aload_n 0, 1) := by decide +kernel
theorem dX7_tried_86 : decode cX7_tried 86 = .ok (.getfield 45, 3) := by decide +kernel
theorem dX7_tried_89 : decode cX7_tried 89 = .ok (.invokevirtual 270, 3) := by decide +kernel
theorem dX7_tried_92 : decode cX7_tried 92 = .ok (.aload_n 0, 1) := by decide +kernel
theorem dX7_tried_93 : decode cX7_tried 93 = .ok (.getfield 38, 3) := by decide +kernel
theorem dX7_tried_96 : decode cX7_tried 96 = .ok (.aload 5, 2) := by decide +kernel
theorem dX7_tried_98 : decode cX7_tried 98 = .ok (.iload_n 2, 1) := by decide +kernel
theorem dX7_tried_99 : decode cX7_tried 99 = .ok (.iload 7, 2) := by decide +kernel
theorem dX7_tried_101 : decode cX7_tried 101 = .ok (.aload_n 0, 1) := by decide +kernel
theorem dX7_tried_102 : decode cX7_tried 102 = .ok (.getfield 45, 3) := by decide +kernel
theorem dX7_tried_105 : decode cX7_tried 105 = .ok (.invokevirtual 274, 3) := by decide +kernel
theorem dX7_tried_108 : decode cX7_tried 108 = .ok (.iinc 7 1, 3) := by decide +kernel
theorem dX7_tried_111 : decode cX7_tried 111 = .ok (.goto (-36), 3) := by decide +kernel
theorem dX7_tried_114 : decode cX7_tried 114 = .ok (.aload 5, 2) := by decide +kernel
theorem dX7_tried_116 : decode cX7_tried 116 = .ok (.aload_n 0, 1) := by decide +kernel
theorem dX7_tried_117 : decode cX7_tried 117 = .ok (.getfield 38, 3) := by decide +kernel
theorem dX7_tried_120 : decode cX7_tried 120 = .ok (.getfield 278, 3) := by decide +kernel
theorem dX7_tried_123 : decode cX7_tried 123 = .ok (.iload 6, 2) := by decide +kernel
theorem dX7_tried_125 : decode cX7_tried 125 = .ok (.iaload, 1) := by decide +kernel
theorem dX7_tried_126 : decode cX7_tried 126 = .ok (.iload 6, 2) := by decide +kernel
theorem dX7_tried_128 : decode cX7_tried 128 = .ok (.invokestatic 136, 3) := by decide +kernel
theorem dX7_tried_131 : decode cX7_tried 131 = .ok (.ireturn, 1) := by decide +kernel
set_option maxRecDepth 20000 in
theorem ggX7_differs_X7_isSlot : GoodIn wsX7_differs wsX7_isSlot := goodIn_r _ [10] (by decide +kernel) (by decide +kernel)
set_option maxRecDepth 20000 in
theorem gX7_differs_X7_isSlot : GoodIn wsX7_differs (va_wsS RX7 255 yX7_isSlot wsX7_isSlot) := goodIn_app (goodIn_of _ (by decide +kernel)) ggX7_differs_X7_isSlot
set_option maxRecDepth 20000 in
theorem ggX7_differs_X7_isPower : GoodIn wsX7_differs wsX7_isPower := goodIn_r _ [13, 14, 15] (by decide +kernel) (by decide +kernel)
set_option maxRecDepth 20000 in
theorem gX7_differs_X7_isPower : GoodIn wsX7_differs (va_wsS RX7 264 yX7_isPower wsX7_isPower) := goodIn_app (goodIn_of _ (by decide +kernel)) ggX7_differs_X7_isPower
set_option maxRecDepth 20000 in
theorem ggX7_differs_X0_start : GoodIn wsX7_differs wsX0_start := goodIn_r _ [20, 21, 22, 23, 24, 25, 26, 27, 28, 29, 9, 30, 121, 114, 115, 116, 117, 118, 119, 120] (by decide +kernel) (by decide +kernel)
set_option maxRecDepth 20000 in
theorem gX7_differs_X0_start : GoodIn wsX7_differs (wsV RX7 267 RX0 yX0_start wsX0_start) := goodIn_app (goodIn_of _ (by decide +kernel)) ggX7_differs_X0_start
set_option maxRecDepth 20000 in
theorem ggX7_differs_X5_fillPresses : GoodIn wsX7_differs wsX5_fillPresses := goodIn_r _ [35, 36, 37, 38, 39, 34, 40, 41, 114, 115, 116, 117, 118, 119, 120] (by decide +kernel) (by decide +kernel)
set_option maxRecDepth 20000 in
theorem gX7_differs_X5_fillPresses : GoodIn wsX7_differs (wsV RX7 270 RX5 yX5_fillPresses wsX5_fillPresses) := goodIn_app (goodIn_of _ (by decide +kernel)) ggX7_differs_X5_fillPresses
set_option maxRecDepth 20000 in
theorem ggX7_differs_X0_advance : GoodIn wsX7_differs wsX0_advance := goodIn_r _ [45, 22, 46, 47, 48, 34, 49, 50, 51, 52, 53, 54, 19, 55, 21, 56, 57, 58, 59, 60, 61, 62, 63, 64, 9, 65, 66, 67, 68, 69, 70, 71, 72, 73, 74, 75, 76, 77, 78, 79, 23, 24, 80, 81, 82, 83, 84, 85, 86, 87, 88, 89, 90, 91, 92, 93, 94, 95, 96, 97, 114, 115, 116, 117, 118, 119, 120, 121] (by decide +kernel) (by decide +kernel)
set_option maxRecDepth 20000 in
theorem gX7_differs_X0_advance : GoodIn wsX7_differs (wsV RX7 274 RX0 yX0_advance wsX0_advance) := goodIn_app (goodIn_of _ (by decide +kernel)) ggX7_differs_X0_advance
set_option maxRecDepth 20000 in
theorem ggX7_differs_X0_isLike : GoodIn wsX7_differs wsX0_isLike := goodIn_r _ [101, 21, 121] (by decide +kernel) (by decide +kernel)
set_option maxRecDepth 20000 in
theorem gX7_differs_X0_isLike : GoodIn wsX7_differs (wsV RX7 281 RX0 yX0_isLike wsX0_isLike) := goodIn_app (goodIn_of _ (by decide +kernel)) ggX7_differs_X0_isLike
theorem dX7_differs_0 : decode cX7_differs 0 = .ok (.iload_n 1, 1) := by decide +kernel
theorem dX7_differs_1 : decode cX7_differs 1 = .ok (.invokestatic 255, 3) := by decide +kernel
theorem dX7_differs_4 : decode cX7_differs 4 = .ok (.ifCond .ne 5, 3) := by decide +kernel
theorem dX7_differs_7 : decode cX7_differs 7 = .ok (.iconst (-1), 1) := by decide +kernel
theorem dX7_differs_8 : decode cX7_differs 8 = .ok (.ireturn, 1) := by decide +kernel
theorem dX7_differs_9 : decode cX7_differs 9 = .ok (.aload_n 0, 1) := by decide +kernel
theorem dX7_differs_10 : decode cX7_differs 10 = .ok (.getfield 74, 3) := by decide +kernel
theorem dX7_differs_13 : decode cX7_differs 13 = .ok (.iload_n 1, 1) := by decide +kernel
theorem dX7_differs_14 : decode cX7_differs 14 = .ok (.baload, 1) := by decide +kernel
theorem dX7_differs_15 : decode cX7_differs 15 = .ok (.ifCond .ne 6, 3) := by decide +kernel
theorem dX7_differs_18 : decode cX7_differs 18 = .ok (.bipush (-3), 2) := by decide +kernel
theorem dX7_differs_20 : decode cX7_differs 20 = .ok (.ireturn, 1) := by decide +kernel
theorem dX7_differs_21 : decode cX7_differs 21 = .ok (.iload_n 2, 1) := by decide +kernel
theorem dX7_differs_22 : decode cX7_differs 22 = .ok (.invokestatic 264, 3) := by decide +kernel
theorem dX7_differs_25 : decode cX7_differs 25 = .ok (.ifCond .ne 6, 3) := by decide +kernel
theorem dX7_differs_28 : decode cX7_differs 28 = .ok (.bipush (-2), 2) := by decide +kernel
theorem dX7_differs_30 : decode cX7_differs 30 = .ok (.ireturn, 1) := by decide +kernel
theorem dX7_differs_31 : decode cX7_differs 31 = .ok (.aload_n 0, 1) := by decide +kernel
theorem dX7_differs_32 : decode cX7_differs 32 = .ok (.getfield 70, 3) := by decide +kernel
theorem dX7_differs_35 : decode cX7_differs 35 = .ok (.iload_n 1, 1) := by decide +kernel
theorem dX7_differs_36 : decode cX7_differs 36 = .ok (.aaload, 1) := by decide +kernel
theorem dX7_differs_37 : decode cX7_differs 37 = .ok (.astore_n 3, 1) := by decide +kernel
theorem dX7_differs_38 : decode cX7_differs 38 = .ok (.aload_n 0, 1) := by decide +kernel
theorem dX7_differs_39 : decode cX7_differs 39 = .ok (.getfield 38, 3) := by decide +kernel
theorem dX7_differs_42 : decode cX7_differs 42 = .ok (.aload_n 3, 1) := by decide +kernel
theorem dX7_differs_43 : decode cX7_differs 43 = .ok (.invokevirtual 267, 3) := by decide +kernel
theorem dX7_differs_46 : decode cX7_differs 46 = .ok (.aload_n 0, 1) := by decide +kernel
theorem dX7_differs_47 : decode cX7_differs 47 = .ok (.getfield 42, 3) := by decide +kernel
theorem dX7_differs_50 : decode cX7_differs 50 = .ok (.aload_n 3, 1) := by decide +kernel
theorem dX7_differs_51 : decode cX7_differs 51 = .ok (.invokevirtual 267, 3) := by decide +kernel
theorem dX7_differs_54 : decode cX7_differs 54 = .ok (.iconst 0, 1) := by decide +kernel
theorem dX7_differs_55 : decode cX7_differs 55 = .ok (.istore 4, 2) := by decide +kernel
theorem dX7_differs_57 : decode cX7_differs 57 = .ok (.iload 4, 2) := by decide +kernel
theorem dX7_differs_59 : decode cX7_differs 59 = .ok (.bipush 100, 2) := by decide +kernel
theorem dX7_differs_61 : decode cX7_differs 61 = .ok (.if_icmp .ge 71, 3) := by decide +kernel
theorem dX7_differs_64 : decode cX7_differs 64 = .ok (.aload_n 3, 1) := by decide +kernel
theorem dX7_differs_65 : decode cX7_differs 65 = .ok (.iload 4, 2) := by decide +kernel
theorem dX7_differs_67 : decode cX7_differs 67 = .ok (.aload_n 0, 1) := by decide +kernel
theorem dX7_differs_68 : decode cX7_differs 68 = .ok (.getfield 45, 3) := by decide +kernel
theorem dX7_differs_71 : decode cX7_differs 71 = .ok (.invokevirtual 270, 3) := by decide +kernel
theorem dX7_differs_74 : decode cX7_differs 74 = .ok (.aload_n 0, 1) := by decide +kernel
theorem dX7_differs_75 : decode cX7_differs 75 = .ok (.getfield 38, 3) := by decide +kernel
theorem dX7_differs_78 : decode cX7_differs 78 = .ok (.aload_n 3, 1) := by decide +kernel
theorem dX7_differs_79 : decode cX7_differs 79 = .ok (.aload_n 3, 1) := by decide +kernel
theorem dX7_differs_80 : decode cX7_differs 80 = .ok (.getfield 98, 3) := by decide +kernel
theorem dX7_differs_83 : decode cX7_differs 83 = .ok (.iconst 0, 1) := by decide +kernel
theorem dX7_differs_84 : decode cX7_differs 84 = .ok (.iaload, 1) := by decide +kernel
theorem dX7_differs_85 : decode cX7_differs 85 = .ok (.iload 4, 2) := by decide +kernel
theorem dX7_differs_87 : decode cX7_differs 87 = .ok (.aload_n 0, 1) := by decide +kernel
theorem dX7_differs_88 : decode cX7_differs 88 = .ok (.getfield 45, 3) := by decide +kernel
theorem dX7_differs_91 : decode cX7_differs 91 = .ok (.invokevirtual 274, 3) := by decide +kernel
theorem dX7_differs_94 : decode cX7_differs 94 = .ok (.aload_n 0, 1) := by decide +kernel
theorem dX7_differs_95 : decode cX7_differs 95 = .ok (.getfield 42, 3) := by decide +kernel
theorem dX7_differs_98 : decode cX7_differs 98 = .ok (.aload_n 3, 1) := by decide +kernel
theorem dX7_differs_99 : decode cX7_differs 99 = .ok (.iload_n 2, 1) := by decide +kernel
theorem dX7_differs_100 : decode cX7_differs 100 = .ok (.iload 4, 2) := by decide +kernel
theorem dX7_differs_102 : decode cX7_differs 102 = .ok (.aload_n 0, 1) := by decide +kernel
theorem dX7_differs_103 : decode cX7_differs 103 = .ok (.getfield 45, 3) := by decide +kernel
theorem dX7_differs_106 : decode cX7_differs 106 = .ok (.invokevirtual 274, 3) := by decide +kernel
theorem dX7_differs_109 : decode cX7_differs 109 = .ok (.aload_n 0, 1) := by decide +kernel
theorem dX7_differs_110 : decode cX7_differs 110 = .ok (.getfield 38, 3) := by decide +kernel
theorem dX7_differs_113 : decode cX7_differs 113 = .ok (.aload_n 0, 1) := by decide +kernel
theorem dX7_differs_114 : decode cX7_differs 114 = .ok (.getfield 42, 3) := by decide +kernel
theorem dX7_differs_117 : decode cX7_differs 117 = .ok (.invokevirtual 281, 3) := by decide +kernel
theorem dX7_differs_120 : decode cX7_differs 120 = .ok (.ifCond .ne 6, 3) := by decide +kernel
theorem dX7_differs_123 : decode cX7_differs 123 = .ok (.iload 4, 2) := by decide +kernel
theorem dX7_differs_125 : decode cX7_differs 125 = .ok (.ireturn, 1) := by decide +kernel
theorem dX7_differs_126 : decode cX7_differs 126 = .ok (.iinc 4 1, 3) := by decide +kernel
theorem dX7_differs_129 : decode cX7_differs 129 = .ok (.goto (-72), 3) := by decide +kernel
theorem dX7_differs_132 : decode cX7_differs 132 = .ok (.bipush (-9), 2) := by decide +kernel
theorem dX7_differs_134 : decode cX7_differs 134 = .ok (.ireturn, 1) := by decide +kernel
set_option maxRecDepth 20000 in
theorem ggX7_count_X5_pressed : GoodIn wsX7_count wsX5_pressed := goodIn_r _ [12, 13, 14, 47, 48, 49, 50, 51, 52, 53] (by decide +kernel) (by decide +kernel)
set_option maxRecDepth 20000 in
theorem gX7_count_X5_pressed : GoodIn wsX7_count (wsV RX7 261 RX5 yX5_pressed wsX5_pressed) := goodIn_app (goodIn_of _ (by decide +kernel)) ggX7_count_X5_pressed
set_option maxRecDepth 20000 in
theorem ggX7_count_X4_lostOnes : GoodIn wsX7_count wsX4_lostOnes := goodIn_r _ [19, 20, 21, 22, 61, 62, 63, 47, 48, 49, 50, 51, 52, 53] (by decide +kernel) (by decide +kernel)
set_option maxRecDepth 20000 in
theorem gX7_count_X4_lostOnes : GoodIn wsX7_count (wsV RX7 284 RX4 yX4_lostOnes wsX4_lostOnes) := goodIn_app (goodIn_of _ (by decide +kernel)) ggX7_count_X4_lostOnes
set_option maxRecDepth 20000 in
theorem ggX7_count_X5_leftTicks : GoodIn wsX7_count wsX5_leftTicks := goodIn_r _ [26, 13, 27, 28, 47, 48, 49, 50, 51, 52, 53] (by decide +kernel) (by decide +kernel)
set_option maxRecDepth 20000 in
theorem gX7_count_X5_leftTicks : GoodIn wsX7_count (wsV RX7 287 RX5 yX5_leftTicks wsX5_leftTicks) := goodIn_app (goodIn_of _ (by decide +kernel)) ggX7_count_X5_leftTicks
set_option maxRecDepth 20000 in
theorem ggX7_count_X7_slotsKept : GoodIn wsX7_count wsX7_slotsKept := goodIn_r _ [33, 34, 35, 36, 37, 38, 39, 40, 41, 42, 43, 44, 45, 46] (by decide +kernel) (by decide +kernel)
set_option maxRecDepth 20000 in
theorem gX7_count_X7_slotsKept : GoodIn wsX7_count (wsV RX7 290 RX7 yX7_slotsKept wsX7_slotsKept) := goodIn_app (goodIn_of _ (by decide +kernel)) ggX7_count_X7_slotsKept
theorem dX7_count_0 : decode cX7_count 0 = .ok (.iload_n 1, 1) := by decide +kernel
theorem dX7_count_1 : decode cX7_count 1 = .ok (.tableswitch 108 0 7 #[47, 55, 63, 71, 79, 87, 95, 103], 47) := by decide +kernel
theorem dX7_count_48 : decode cX7_count 48 = .ok (.aload_n 0, 1) := by decide +kernel
theorem dX7_count_49 : decode cX7_count 49 = .ok (.getfield 10, 3) := by decide +kernel
theorem dX7_count_52 : decode cX7_count 52 = .ok (.getfield 123, 3) := by decide +kernel
theorem dX7_count_55 : decode cX7_count 55 = .ok (.ireturn, 1) := by decide +kernel
theorem dX7_count_56 : decode cX7_count 56 = .ok (.aload_n 0, 1) := by decide +kernel
theorem dX7_count_57 : decode cX7_count 57 = .ok (.getfield 10, 3) := by decide +kernel
theorem dX7_count_60 : decode cX7_count 60 = .ok (.getfield 209, 3) := by decide +kernel
theorem dX7_count_63 : decode cX7_count 63 = .ok (.ireturn, 1) := by decide +kernel
theorem dX7_count_64 : decode cX7_count 64 = .ok (.aload_n 0, 1) := by decide +kernel
theorem dX7_count_65 : decode cX7_count 65 = .ok (.getfield 10, 3) := by decide +kernel
theorem dX7_count_68 : decode cX7_count 68 = .ok (.getfield 203, 3) := by decide +kernel
theorem dX7_count_71 : decode cX7_count 71 = .ok (.ireturn, 1) := by decide +kernel
theorem dX7_count_72 : decode cX7_count 72 = .ok (.aload_n 0, 1) := by decide +kernel
theorem dX7_count_73 : decode cX7_count 73 = .ok (.getfield 10, 3) := by decide +kernel
theorem dX7_count_76 : decode cX7_count 76 = .ok (.invokevirtual 261, 3) := by decide +kernel
theorem dX7_count_79 : decode cX7_count 79 = .ok (.ireturn, 1) := by decide +kernel
theorem dX7_count_80 : decode cX7_count 80 = .ok (.aload_n 0, 1) := by decide +kernel
theorem dX7_count_81 : decode cX7_count 81 = .ok (.getfield 21, 3) := by decide +kernel
theorem dX7_count_84 : decode cX7_count 84 = .ok (.invokevirtual 284, 3) := by decide +kernel
theorem dX7_count_87 : decode cX7_count 87 = .ok (.ireturn, 1) := by decide +kernel
theorem dX7_count_88 : decode cX7_count 88 = .ok (.aload_n 0, 1) := by decide +kernel
theorem dX7_count_89 : decode cX7_count 89 = .ok (.getfield 10, 3) := by decide +kernel
theorem dX7_count_92 : decode cX7_count 92 = .ok (.invokevirtual 287, 3) := by decide +kernel
theorem dX7_count_95 : decode cX7_count 95 = .ok (.ireturn, 1) := by decide +kernel
theorem dX7_count_96 : decode cX7_count 96 = .ok (.aload_n 0, 1) := by decide +kernel
theorem dX7_count_97 : decode cX7_count 97 = .ok (.getfield 59, 3) := by decide +kernel
theorem dX7_count_100 : decode cX7_count 100 = .ok (.getfield 221, 3) := by decide +kernel
theorem dX7_count_103 : decode cX7_count 103 = .ok (.ireturn, 1) := by decide +kernel
theorem dX7_count_104 : decode cX7_count 104 = .ok (.aload_n 0, 1) := by decide +kernel
theorem dX7_count_105 : decode cX7_count 105 = .ok (.invokevirtual 290, 3) := by decide +kernel
theorem dX7_count_108 : decode cX7_count 108 = .ok (.ireturn, 1) := by decide +kernel
theorem dX7_count_109 : decode cX7_count 109 = .ok (.bipush (-2), 2) := by decide +kernel
theorem dX7_count_111 : decode cX7_count 111 = .ok (.ireturn, 1) := by decide +kernel
theorem dX7_isHand_0 : decode cX7_isHand 0 = .ok (.iload_n 1, 1) := by decide +kernel
theorem dX7_isHand_1 : decode cX7_isHand 1 = .ok (.ifCond .lt 18, 3) := by decide +kernel
theorem dX7_isHand_4 : decode cX7_isHand 4 = .ok (.iload_n 1, 1) := by decide +kernel
theorem dX7_isHand_5 : decode cX7_isHand 5 = .ok (.aload_n 0, 1) := by decide +kernel
theorem dX7_isHand_6 : decode cX7_isHand 6 = .ok (.getfield 10, 3) := by decide +kernel
theorem dX7_isHand_9 : decode cX7_isHand 9 = .ok (.getfield 123, 3) := by decide +kernel
theorem dX7_isHand_12 : decode cX7_isHand 12 = .ok (.if_icmp .ge 7, 3) := by decide +kernel
theorem dX7_isHand_15 : decode cX7_isHand 15 = .ok (.iconst 1, 1) := by decide +kernel
theorem dX7_isHand_16 : decode cX7_isHand 16 = .ok (.goto 4, 3) := by decide +kernel
theorem dX7_isHand_19 : decode cX7_isHand 19 = .ok (.iconst 0, 1) := by decide +kernel
theorem dX7_isHand_20 : decode cX7_isHand 20 = .ok (.ireturn, 1) := by decide +kernel
theorem dX7_isTick_0 : decode cX7_isTick 0 = .ok (.iload_n 0, 1) := by decide +kernel
theorem dX7_isTick_1 : decode cX7_isTick 1 = .ok (.ifCond .lt 13, 3) := by decide +kernel
theorem dX7_isTick_4 : decode cX7_isTick 4 = .ok (.iload_n 0, 1) := by decide +kernel
theorem dX7_isTick_5 : decode cX7_isTick 5 = .ok (.bipush 100, 2) := by decide +kernel
theorem dX7_isTick_7 : decode cX7_isTick 7 = .ok (.if_icmp .ge 7, 3) := by decide +kernel
theorem dX7_isTick_10 : decode cX7_isTick 10 = .ok (.iconst 1, 1) := by decide +kernel
theorem dX7_isTick_11 : decode cX7_isTick 11 = .ok (.goto 4, 3) := by decide +kernel
theorem dX7_isTick_14 : decode cX7_isTick 14 = .ok (.iconst 0, 1) := by decide +kernel
theorem dX7_isTick_15 : decode cX7_isTick 15 = .ok (.ireturn, 1) := by decide +kernel
theorem dX7_isSide_0 : decode cX7_isSide 0 = .ok (.iload_n 0, 1) := by decide +kernel
theorem dX7_isSide_1 : decode cX7_isSide 1 = .ok (.iconst 3, 1) := by decide +kernel
theorem dX7_isSide_2 : decode cX7_isSide 2 = .ok (.if_icmp .lt 13, 3) := by decide +kernel
theorem dX7_isSide_5 : decode cX7_isSide 5 = .ok (.iload_n 0, 1) := by decide +kernel
theorem dX7_isSide_6 : decode cX7_isSide 6 = .ok (.bipush 9, 2) := by decide +kernel
theorem dX7_isSide_8 : decode cX7_isSide 8 = .ok (.if_icmp .gt 7, 3) := by decide +kernel
theorem dX7_isSide_11 : decode cX7_isSide 11 = .ok (.iconst 1, 1) := by decide +kernel
theorem dX7_isSide_12 : decode cX7_isSide 12 = .ok (.goto 4, 3) := by decide +kernel
theorem dX7_isSide_15 : decode cX7_isSide 15 = .ok (.iconst 0, 1) := by decide +kernel
theorem dX7_isSide_16 : decode cX7_isSide 16 = .ok (.ireturn, 1) := by decide +kernel
theorem dX7_isPress_0 : decode cX7_isPress 0 = .ok (.iload_n 0, 1) := by decide +kernel
theorem dX7_isPress_1 : decode cX7_isPress 1 = .ok (.ifCond .lt 12, 3) := by decide +kernel
theorem dX7_isPress_4 : decode cX7_isPress 4 = .ok (.iload_n 0, 1) := by decide +kernel
theorem dX7_isPress_5 : decode cX7_isPress 5 = .ok (.iconst 5, 1) := by decide +kernel
theorem dX7_isPress_6 : decode cX7_isPress 6 = .ok (.if_icmp .gt 7, 3) := by decide +kernel
theorem dX7_isPress_9 : decode cX7_isPress 9 = .ok (.iconst 1, 1) := by decide +kernel
theorem dX7_isPress_10 : decode cX7_isPress 10 = .ok (.goto 4, 3) := by decide +kernel
theorem dX7_isPress_13 : decode cX7_isPress 13 = .ok (.iconst 0, 1) := by decide +kernel
theorem dX7_isPress_14 : decode cX7_isPress 14 = .ok (.ireturn, 1) := by decide +kernel
theorem dX7_isPower_0 : decode cX7_isPower 0 = .ok (.iload_n 0, 1) := by decide +kernel
theorem dX7_isPower_1 : decode cX7_isPower 1 = .ok (.getstatic 92, 3) := by decide +kernel
theorem dX7_isPower_4 : decode cX7_isPower 4 = .ok (.iconst 0, 1) := by decide +kernel
theorem dX7_isPower_5 : decode cX7_isPower 5 = .ok (.iaload, 1) := by decide +kernel
theorem dX7_isPower_6 : decode cX7_isPower 6 = .ok (.if_icmp .lt 16, 3) := by decide +kernel
theorem dX7_isPower_9 : decode cX7_isPower 9 = .ok (.iload_n 0, 1) := by decide +kernel
theorem dX7_isPower_10 : decode cX7_isPower 10 = .ok (.getstatic 95, 3) := by decide +kernel
theorem dX7_isPower_13 : decode cX7_isPower 13 = .ok (.iconst 0, 1) := by decide +kernel
theorem dX7_isPower_14 : decode cX7_isPower 14 = .ok (.iaload, 1) := by decide +kernel
theorem dX7_isPower_15 : decode cX7_isPower 15 = .ok (.if_icmp .gt 7, 3) := by decide +kernel
theorem dX7_isPower_18 : decode cX7_isPower 18 = .ok (.iconst 1, 1) := by decide +kernel
theorem dX7_isPower_19 : decode cX7_isPower 19 = .ok (.goto 4, 3) := by decide +kernel
theorem dX7_isPower_22 : decode cX7_isPower 22 = .ok (.iconst 0, 1) := by decide +kernel
theorem dX7_isPower_23 : decode cX7_isPower 23 = .ok (.ireturn, 1) := by decide +kernel
theorem dX7_isShore_0 : decode cX7_isShore 0 = .ok (.iload_n 0, 1) := by decide +kernel
theorem dX7_isShore_1 : decode cX7_isShore 1 = .ok (.ifCond .lt 12, 3) := by decide +kernel
theorem dX7_isShore_4 : decode cX7_isShore 4 = .ok (.iload_n 0, 1) := by decide +kernel
theorem dX7_isShore_5 : decode cX7_isShore 5 = .ok (.iconst 4, 1) := by decide +kernel
theorem dX7_isShore_6 : decode cX7_isShore 6 = .ok (.if_icmp .ge 7, 3) := by decide +kernel
theorem dX7_isShore_9 : decode cX7_isShore 9 = .ok (.iconst 1, 1) := by decide +kernel
theorem dX7_isShore_10 : decode cX7_isShore 10 = .ok (.goto 4, 3) := by decide +kernel
theorem dX7_isShore_13 : decode cX7_isShore 13 = .ok (.iconst 0, 1) := by decide +kernel
theorem dX7_isShore_14 : decode cX7_isShore 14 = .ok (.ireturn, 1) := by decide +kernel
theorem dX7_isSlot_0 : decode cX7_isSlot 0 = .ok (.iload_n 0, 1) := by decide +kernel
theorem dX7_isSlot_1 : decode cX7_isSlot 1 = .ok (.ifCond .lt 12, 3) := by decide +kernel
theorem dX7_isSlot_4 : decode cX7_isSlot 4 = .ok (.iload_n 0, 1) := by decide +kernel
theorem dX7_isSlot_5 : decode cX7_isSlot 5 = .ok (.iconst 4, 1) := by decide +kernel
theorem dX7_isSlot_6 : decode cX7_isSlot 6 = .ok (.if_icmp .ge 7, 3) := by decide +kernel
theorem dX7_isSlot_9 : decode cX7_isSlot 9 = .ok (.iconst 1, 1) := by decide +kernel
theorem dX7_isSlot_10 : decode cX7_isSlot 10 = .ok (.goto 4, 3) := by decide +kernel
theorem dX7_isSlot_13 : decode cX7_isSlot 13 = .ok (.iconst 0, 1) := by decide +kernel
theorem dX7_isSlot_14 : decode cX7_isSlot 14 = .ok (.ireturn, 1) := by decide +kernel
theorem dX7_columnOf_0 : decode cX7_columnOf 0 = .ok (.iload_n 0, 1) := by decide +kernel
theorem dX7_columnOf_1 : decode cX7_columnOf 1 = .ok (.bipush 6, 2) := by decide +kernel
theorem dX7_columnOf_3 : decode cX7_columnOf 3 = .ok (.if_icmp .eq 12, 3) := by decide +kernel
theorem dX7_columnOf_6 : decode cX7_columnOf 6 = .ok (.iload_n 0, 1) := by decide +kernel
theorem dX7_columnOf_7 : decode cX7_columnOf 7 = .ok (.ifCond .lt 10, 3) := by decide +kernel
theorem dX7_columnOf_10 : decode cX7_columnOf 10 = .ok (.iload_n 0, 1) := by decide +kernel
theorem dX7_columnOf_11 : decode cX7_columnOf 11 = .ok (.iload_n 1, 1) := by decide +kernel
theorem dX7_columnOf_12 : decode cX7_columnOf 12 = .ok (.if_icmp .ge 5, 3) := by decide +kernel
theorem dX7_columnOf_15 : decode cX7_columnOf 15 = .ok (.iload_n 0, 1) := by decide +kernel
theorem dX7_columnOf_16 : decode cX7_columnOf 16 = .ok (.ireturn, 1) := by decide +kernel
theorem dX7_columnOf_17 : decode cX7_columnOf 17 = .ok (.iload_n 0, 1) := by decide +kernel
theorem dX7_columnOf_18 : decode cX7_columnOf 18 = .ok (.bipush 10, 2) := by decide +kernel
theorem dX7_columnOf_20 : decode cX7_columnOf 20 = .ok (.if_icmp .lt 19, 3) := by decide +kernel
theorem dX7_columnOf_23 : decode cX7_columnOf 23 = .ok (.iload_n 0, 1) := by decide +kernel
theorem dX7_columnOf_24 : decode cX7_columnOf 24 = .ok (.bipush 10, 2) := by decide +kernel
theorem dX7_columnOf_26 : decode cX7_columnOf 26 = .ok (.iload_n 1, 1) := by decide +kernel
theorem dX7_columnOf_27 : decode cX7_columnOf 27 = .ok (.iadd, 1) := by decide +kernel
theorem dX7_columnOf_28 : decode cX7_columnOf 28 = .ok (.if_icmp .ge 11, 3) := by decide +kernel
theorem dX7_columnOf_31 : decode cX7_columnOf 31 = .ok (.iload_n 0, 1) := by decide +kernel
theorem dX7_columnOf_32 : decode cX7_columnOf 32 = .ok (.bipush 10, 2) := by decide +kernel
theorem dX7_columnOf_34 : decode cX7_columnOf 34 = .ok (.isub, 1) := by decide +kernel
theorem dX7_columnOf_35 : decode cX7_columnOf 35 = .ok (.bipush 7, 2) := by decide +kernel
theorem dX7_columnOf_37 : decode cX7_columnOf 37 = .ok (.iadd, 1) := by decide +kernel
theorem dX7_columnOf_38 : decode cX7_columnOf 38 = .ok (.ireturn, 1) := by decide +kernel
theorem dX7_columnOf_39 : decode cX7_columnOf 39 = .ok (.iconst (-1), 1) := by decide +kernel
theorem dX7_columnOf_40 : decode cX7_columnOf 40 = .ok (.ireturn, 1) := by decide +kernel
set_option maxRecDepth 20000 in
theorem ggX7_told_X7_yOf : GoodIn wsX7_told wsX7_yOf := goodIn_r _ [5] (by decide +kernel) (by decide +kernel)
set_option maxRecDepth 20000 in
theorem gX7_told_X7_yOf : GoodIn wsX7_told (va_wsS RX7 293 yX7_yOf wsX7_yOf) := goodIn_app (goodIn_of _ (by decide +kernel)) ggX7_told_X7_yOf
set_option maxRecDepth 20000 in
theorem ggX7_told_X7_xOf : GoodIn wsX7_told wsX7_xOf := goodIn_r _ [8] (by decide +kernel) (by decide +kernel)
set_option maxRecDepth 20000 in
theorem gX7_told_X7_xOf : GoodIn wsX7_told (va_wsS RX7 296 yX7_xOf wsX7_xOf) := goodIn_app (goodIn_of _ (by decide +kernel)) ggX7_told_X7_xOf
theorem dX7_told_0 : decode cX7_told 0 = .ok (.iload_n 2, 1) := by decide +kernel
theorem dX7_told_1 : decode cX7_told 1 = .ok (.bipush 7, 2) := by decide +kernel
theorem dX7_told_3 : decode cX7_told 3 = .ok (.if_icmp .ge 20, 3) := by decide +kernel
theorem dX7_told_6 : decode cX7_told 6 = .ok (.iload_n 1, 1) := by decide +kernel
theorem dX7_told_7 : decode cX7_told 7 = .ok (.invokestatic 293, 3) := by decide +kernel
theorem dX7_told_10 : decode cX7_told 10 = .ok (.aload_n 0, 1) := by decide +kernel
theorem dX7_told_11 : decode cX7_told 11 = .ok (.getfield 209, 3) := by decide +kernel
theorem dX7_told_14 : decode cX7_told 14 = .ok (.imul, 1) := by decide +kernel
theorem dX7_told_15 : decode cX7_told 15 = .ok (.iload_n 1, 1) := by decide +kernel
theorem dX7_told_16 : decode cX7_told 16 = .ok (.invokestatic 296, 3) := by decide +kernel
theorem dX7_told_19 : decode cX7_told 19 = .ok (.iadd, 1) := by decide +kernel
theorem dX7_told_20 : decode cX7_told 20 = .ok (.goto 4, 3) := by decide +kernel
theorem dX7_told_23 : decode cX7_told 23 = .ok (.iload_n 1, 1) := by decide +kernel
theorem dX7_told_24 : decode cX7_told 24 = .ok (.ireturn, 1) := by decide +kernel
theorem dX7_xOf_0 : decode cX7_xOf 0 = .ok (.iload_n 0, 1) := by decide +kernel
theorem dX7_xOf_1 : decode cX7_xOf 1 = .ok (.bipush 15, 2) := by decide +kernel
theorem dX7_xOf_3 : decode cX7_xOf 3 = .ok (.iand, 1) := by decide +kernel
theorem dX7_xOf_4 : decode cX7_xOf 4 = .ok (.ireturn, 1) := by decide +kernel
theorem dX7_yOf_0 : decode cX7_yOf 0 = .ok (.iload_n 0, 1) := by decide +kernel
theorem dX7_yOf_1 : decode cX7_yOf 1 = .ok (.iconst 4, 1) := by decide +kernel
theorem dX7_yOf_2 : decode cX7_yOf 2 = .ok (.ishr, 1) := by decide +kernel
theorem dX7_yOf_3 : decode cX7_yOf 3 = .ok (.ireturn, 1) := by decide +kernel
theorem dX7_spotOf_0 : decode cX7_spotOf 0 = .ok (.iload_n 0, 1) := by decide +kernel
theorem dX7_spotOf_1 : decode cX7_spotOf 1 = .ok (.istore_n 2, 1) := by decide +kernel
theorem dX7_spotOf_2 : decode cX7_spotOf 2 = .ok (.iconst 0, 1) := by decide +kernel
theorem dX7_spotOf_3 : decode cX7_spotOf 3 = .ok (.istore_n 3, 1) := by decide +kernel
theorem dX7_spotOf_4 : decode cX7_spotOf 4 = .ok (.iconst 0, 1) := by decide +kernel
theorem dX7_spotOf_5 : decode cX7_spotOf 5 = .ok (.istore 4, 2) := by decide +kernel
theorem dX7_spotOf_7 : decode cX7_spotOf 7 = .ok (.iload 4, 2) := by decide +kernel
theorem dX7_spotOf_9 : decode cX7_spotOf 9 = .ok (.bipush 9, 2) := by decide +kernel
theorem dX7_spotOf_11 : decode cX7_spotOf 11 = .ok (.if_icmp .ge 21, 3) := by decide +kernel
theorem dX7_spotOf_14 : decode cX7_spotOf 14 = .ok (.iload_n 2, 1) := by decide +kernel
theorem dX7_spotOf_15 : decode cX7_spotOf 15 = .ok (.iload_n 1, 1) := by decide +kernel
theorem dX7_spotOf_16 : decode cX7_spotOf 16 = .ok (.if_icmp .lt 16, 3) := by decide +kernel
theorem dX7_spotOf_19 : decode cX7_spotOf 19 = .ok (.iload_n 2, 1) := by decide +kernel
theorem dX7_spotOf_20 : decode cX7_spotOf 20 = .ok (.iload_n 1, 1) := by decide +kernel
theorem dX7_spotOf_21 : decode cX7_spotOf 21 = .ok (.isub, 1) := by decide +kernel
theorem dX7_spotOf_22 : decode cX7_spotOf 22 = .ok (.istore_n 2, 1) := by decide +kernel
theorem dX7_spotOf_23 : decode cX7_spotOf 23 = .ok (.iinc 3 1, 3) := by decide +kernel
theorem dX7_spotOf_26 : decode cX7_spotOf 26 = .ok (.iinc 4 1, 3) := by decide +kernel
theorem dX7_spotOf_29 : decode cX7_spotOf 29 = .ok (.goto (-22), 3) := by decide +kernel
theorem dX7_spotOf_32 : decode cX7_spotOf 32 = .ok (.bipush 16, 2) := by decide +kernel
theorem dX7_spotOf_34 : decode cX7_spotOf 34 = .ok (.iload_n 3, 1) := by decide +kernel
theorem dX7_spotOf_35 : decode cX7_spotOf 35 = .ok (.imul, 1) := by decide +kernel
theorem dX7_spotOf_36 : decode cX7_spotOf 36 = .ok (.iload_n 2, 1) := by decide +kernel
theorem dX7_spotOf_37 : decode cX7_spotOf 37 = .ok (.iadd, 1) := by decide +kernel
theorem dX7_spotOf_38 : decode cX7_spotOf 38 = .ok (.ireturn, 1) := by decide +kernel
set_option maxRecDepth 20000 in
theorem ggX7_distance_X7_xOf : GoodIn wsX7_distance wsX7_xOf := goodIn_r _ [8] (by decide +kernel) (by decide +kernel)
set_option maxRecDepth 20000 in
theorem gX7_distance_X7_xOf : GoodIn wsX7_distance (va_wsS RX7 296 yX7_xOf wsX7_xOf) := goodIn_app (goodIn_of _ (by decide +kernel)) ggX7_distance_X7_xOf
set_option maxRecDepth 20000 in
theorem ggX7_distance_X7_yOf : GoodIn wsX7_distance wsX7_yOf := goodIn_r _ [11] (by decide +kernel) (by decide +kernel)
set_option maxRecDepth 20000 in
theorem gX7_distance_X7_yOf : GoodIn wsX7_distance (va_wsS RX7 293 yX7_yOf wsX7_yOf) := goodIn_app (goodIn_of _ (by decide +kernel)) ggX7_distance_X7_yOf
theorem dX7_distance_0 : decode cX7_distance 0 = .ok (.iload_n 0, 1) := by decide +kernel
theorem dX7_distance_1 : decode cX7_distance 1 = .ok (.invokestatic 296, 3) := by decide +kernel
theorem dX7_distance_4 : decode cX7_distance 4 = .ok (.iload_n 1, 1) := by decide +kernel
theorem dX7_distance_5 : decode cX7_distance 5 = .ok (.invokestatic 296, 3) := by decide +kernel
theorem dX7_distance_8 : decode cX7_distance 8 = .ok (.isub, 1) := by decide +kernel
theorem dX7_distance_9 : decode cX7_distance 9 = .ok (.invokestatic 299, 3) := by decide +kernel
theorem dX7_distance_12 : decode cX7_distance 12 = .ok (.iload_n 0, 1) := by decide +kernel
theorem dX7_distance_13 : decode cX7_distance 13 = .ok (.invokestatic 293, 3) := by decide +kernel
theorem dX7_distance_16 : decode cX7_distance 16 = .ok (.iload_n 1, 1) := by decide +kernel
theorem dX7_distance_17 : decode cX7_distance 17 = .ok (.invokestatic 293, 3) := by decide +kernel
theorem dX7_distance_20 : decode cX7_distance 20 = .ok (.isub, 1) := by decide +kernel
theorem dX7_distance_21 : decode cX7_distance 21 = .ok (.invokestatic 299, 3) := by decide +kernel
theorem dX7_distance_24 : decode cX7_distance 24 = .ok (.iadd, 1) := by decide +kernel
theorem dX7_distance_25 : decode cX7_distance 25 = .ok (.ireturn, 1) := by decide +kernel
set_option maxRecDepth 20000 in
theorem ggX7_playTrulyTo_X7_setBoardAhead : GoodIn wsX7_playTrulyTo wsX7_setBoardAhead := goodIn_r _ [11, 5, 3, 12, 13, 14, 15, 16, 17, 18, 19, 20, 21, 22, 23, 24, 25, 26, 27, 28, 29, 30, 31, 32, 33, 34, 35, 36, 10, 37, 109, 110, 111, 112, 113, 114, 115, 116, 117, 118, 119, 120, 121, 122, 130, 123, 124, 125, 126, 127, 128, 129] (by decide +kernel) (by decide +kernel)
set_option maxRecDepth 20000 in
theorem gX7_playTrulyTo_X7_setBoardAhead : GoodIn wsX7_playTrulyTo (wsV RX7 305 RX7 yX7_setBoardAhead wsX7_setBoardAhead) := goodIn_app (goodIn_of _ (by decide +kernel)) ggX7_playTrulyTo_X7_setBoardAhead
set_option maxRecDepth 20000 in
theorem ggX7_playTrulyTo_X5_fillPresses : GoodIn wsX7_playTrulyTo wsX5_fillPresses := goodIn_r _ [42, 43, 44, 45, 46, 41, 47, 48, 123, 124, 125, 126, 127, 128, 129] (by decide +kernel) (by decide +kernel)
set_option maxRecDepth 20000 in
theorem gX7_playTrulyTo_X5_fillPresses : GoodIn wsX7_playTrulyTo (wsV RX7 270 RX5 yX5_fillPresses wsX5_fillPresses) := goodIn_app (goodIn_of _ (by decide +kernel)) ggX7_playTrulyTo_X5_fillPresses
set_option maxRecDepth 20000 in
theorem ggX7_playTrulyTo_X0_advance : GoodIn wsX7_playTrulyTo wsX0_advance := goodIn_r _ [52, 29, 53, 54, 55, 41, 56, 57, 58, 59, 60, 61, 26, 62, 28, 63, 64, 65, 66, 67, 68, 69, 70, 71, 10, 72, 73, 74, 75, 76, 77, 78, 79, 80, 81, 82, 83, 84, 85, 86, 30, 31, 87, 88, 89, 90, 91, 92, 93, 94, 95, 96, 97, 98, 99, 100, 101, 102, 103, 104, 123, 124, 125, 126, 127, 128, 129, 130] (by decide +kernel) (by decide +kernel)
set_option maxRecDepth 20000 in
theorem gX7_playTrulyTo_X0_advance : GoodIn wsX7_playTrulyTo (wsV RX7 274 RX0 yX0_advance wsX0_advance) := goodIn_app (goodIn_of _ (by decide +kernel)) ggX7_playTrulyTo_X0_advance
set_option maxRecDepth 20000 in
theorem ggX7_playTrulyTo_X6_save : GoodIn wsX7_playTrulyTo wsX6_save := goodIn_r _ [108, 18, 17, 19, 20, 21, 22, 130, 121, 122] (by decide +kernel) (by decide +kernel)
set_option maxRecDepth 20000 in
theorem gX7_playTrulyTo_X6_save : GoodIn wsX7_playTrulyTo (wsV RX7 309 RX6 yX6_save wsX6_save) := goodIn_app (goodIn_of _ (by decide +kernel)) ggX7_playTrulyTo_X6_save
theorem dX7_playTrulyTo_0 : decode cX7_playTrulyTo 0 = .ok (.aload_n 0, 1) := by decide +kernel
theorem dX7_playTrulyTo_1 : decode cX7_playTrulyTo 1 = .ok (.getfield 28, 3) := by decide +kernel
theorem dX7_playTrulyTo_4 : decode cX7_playTrulyTo 4 = .ok (.getfield 302, 3) := by decide +kernel
theorem dX7_playTrulyTo_7 : decode cX7_playTrulyTo 7 = .ok (.istore_n 2, 1) := by decide +kernel
theorem dX7_playTrulyTo_8 : decode cX7_playTrulyTo 8 = .ok (.iload_n 2, 1) := by decide +kernel
theorem dX7_playTrulyTo_9 : decode cX7_playTrulyTo 9 = .ok (.iload_n 1, 1) := by decide +kernel
theorem dX7_playTrulyTo_10 : decode cX7_playTrulyTo 10 = .ok (.if_icmp .le 4, 3) := by decide +kernel
theorem dX7_playTrulyTo_13 : decode cX7_playTrulyTo 13 = .ok (.return_, 1) := by decide +kernel
theorem dX7_playTrulyTo_14 : decode cX7_playTrulyTo 14 = .ok (.aload_n 0, 1) := by decide +kernel
theorem dX7_playTrulyTo_15 : decode cX7_playTrulyTo 15 = .ok (.aload_n 0, 1) := by decide +kernel
theorem dX7_playTrulyTo_16 : decode cX7_playTrulyTo 16 = .ok (.getfield 28, 3) := by decide +kernel
theorem dX7_playTrulyTo_19 : decode cX7_playTrulyTo 19 = .ok (.iload_n 2, 1) := by decide +kernel
theorem dX7_playTrulyTo_20 : decode cX7_playTrulyTo 20 = .ok (.invokevirtual 305, 3) := by decide +kernel
theorem dX7_playTrulyTo_23 : decode cX7_playTrulyTo 23 = .ok (.iload_n 2, 1) := by decide +kernel
theorem dX7_playTrulyTo_24 : decode cX7_playTrulyTo 24 = .ok (.istore_n 3, 1) := by decide +kernel
theorem dX7_playTrulyTo_25 : decode cX7_playTrulyTo 25 = .ok (.iload_n 3, 1) := by decide +kernel
theorem dX7_playTrulyTo_26 : decode cX7_playTrulyTo 26 = .ok (.iload_n 1, 1) := by decide +kernel
theorem dX7_playTrulyTo_27 : decode cX7_playTrulyTo 27 = .ok (.if_icmp .gt 58, 3) := by decide +kernel
theorem dX7_playTrulyTo_30 : decode cX7_playTrulyTo 30 = .ok (.aload_n 0, 1) := by decide +kernel
theorem dX7_playTrulyTo_31 : decode cX7_playTrulyTo 31 = .ok (.getfield 10, 3) := by decide +kernel
theorem dX7_playTrulyTo_34 : decode cX7_playTrulyTo 34 = .ok (.iload_n 3, 1) := by decide +kernel
theorem dX7_playTrulyTo_35 : decode cX7_playTrulyTo 35 = .ok (.aload_n 0, 1) := by decide +kernel
theorem dX7_playTrulyTo_36 : decode cX7_playTrulyTo 36 = .ok (.getfield 45, 3) := by decide +kernel
theorem dX7_playTrulyTo_39 : decode cX7_playTrulyTo 39 = .ok (.invokevirtual 270, 3) := by decide +kernel
theorem dX7_playTrulyTo_42 : decode cX7_playTrulyTo 42 = .ok (.aload_n 0, 1) := by decide +kernel
theorem dX7_playTrulyTo_43 : decode cX7_playTrulyTo 43 = .ok (.getfield 38, 3) := by decide +kernel
theorem dX7_playTrulyTo_46 : decode cX7_playTrulyTo 46 = .ok (.aload_n 0, 1) := by decide +kernel
theorem dX7_playTrulyTo_47 : decode cX7_playTrulyTo 47 = .ok (.getfield 10, 3) := by decide +kernel
theorem dX7_playTrulyTo_50 : decode cX7_playTrulyTo 50 = .ok (.aload_n 0, 1) := by decide +kernel
theorem dX7_playTrulyTo_51 : decode cX7_playTrulyTo 51 = .ok (.getfield 10, 3) := by decide +kernel
theorem dX7_playTrulyTo_54 : decode cX7_playTrulyTo 54 = .ok (.getfield 98, 3) := by decide +kernel
theorem dX7_playTrulyTo_57 : decode cX7_playTrulyTo 57 = .ok (.iconst 0, 1) := by decide +kernel
theorem dX7_playTrulyTo_58 : decode cX7_playTrulyTo 58 = .ok (.iaload, 1) := by decide +kernel
theorem dX7_playTrulyTo_59 : decode cX7_playTrulyTo 59 = .ok (.iload_n 3, 1) := by decide +kernel
theorem dX7_playTrulyTo_60 : decode cX7_playTrulyTo 60 = .ok (.aload_n 0, 1) := by decide +kernel
theorem dX7_playTrulyTo_61 : decode cX7_playTrulyTo 61 = .ok (.getfield 45, 3) := by decide +kernel
theorem dX7_playTrulyTo_64 : decode cX7_playTrulyTo 64 = .ok (.invokevirtual 274, 3) := by decide +kernel
theorem dX7_playTrulyTo_67 : decode cX7_playTrulyTo 67 = .ok (.aload_n 0, 1) := by decide +kernel
theorem dX7_playTrulyTo_68 : decode cX7_playTrulyTo 68 = .ok (.getfield 28, 3) := by decide +kernel
theorem dX7_playTrulyTo_71 : decode cX7_playTrulyTo 71 = .ok (.iload_n 3, 1) := by decide +kernel
theorem dX7_playTrulyTo_72 : decode cX7_playTrulyTo 72 = .ok (.aload_n 0, 1) := by decide +kernel
theorem dX7_playTrulyTo_73 : decode cX7_playTrulyTo 73 = .ok (.getfield 38, 3) := by decide +kernel
theorem dX7_playTrulyTo_76 : decode cX7_playTrulyTo 76 = .ok (.invokevirtual 309, 3) := by decide +kernel
theorem dX7_playTrulyTo_79 : decode cX7_playTrulyTo 79 = .ok (.iinc 3 1, 3) := by decide +kernel
theorem dX7_playTrulyTo_82 : decode cX7_playTrulyTo 82 = .ok (.goto (-57), 3) := by decide +kernel
theorem dX7_playTrulyTo_85 : decode cX7_playTrulyTo 85 = .ok (.aload_n 0, 1) := by decide +kernel
theorem dX7_playTrulyTo_86 : decode cX7_playTrulyTo 86 = .ok (.getfield 28, 3) := by decide +kernel
theorem dX7_playTrulyTo_89 : decode cX7_playTrulyTo 89 = .ok (.iload_n 1, 1) := by decide +kernel
theorem dX7_playTrulyTo_90 : decode cX7_playTrulyTo 90 = .ok (.iconst 1, 1) := by decide +kernel
theorem dX7_playTrulyTo_91 : decode cX7_playTrulyTo 91 = .ok (.iadd, 1) := by decide +kernel
theorem dX7_playTrulyTo_92 : decode cX7_playTrulyTo 92 = .ok (.putfield 302, 3) := by decide +kernel
theorem dX7_playTrulyTo_95 : decode cX7_playTrulyTo 95 = .ok (.return_, 1) := by decide +kernel
set_option maxRecDepth 20000 in
theorem ggX7_showFrom_X7_setBoardAhead : GoodIn wsX7_showFrom wsX7_setBoardAhead := goodIn_r _ [12, 7, 2, 13, 14, 15, 16, 17, 18, 19, 20, 21, 22, 23, 24, 25, 26, 27, 28, 29, 30, 31, 32, 33, 34, 35, 36, 37, 11, 38, 126, 127, 128, 129, 130, 131, 132, 133, 134, 135, 136, 137, 145, 146, 147, 138, 139, 140, 141, 142, 143, 144] (by decide +kernel) (by decide +kernel)
set_option maxRecDepth 20000 in
theorem gX7_showFrom_X7_setBoardAhead : GoodIn wsX7_showFrom (wsV RX7 305 RX7 yX7_setBoardAhead wsX7_setBoardAhead) := goodIn_app (goodIn_of _ (by decide +kernel)) ggX7_showFrom_X7_setBoardAhead
set_option maxRecDepth 20000 in
theorem ggX7_showFrom_X4_taken : GoodIn wsX7_showFrom wsX4_taken := goodIn_r _ [43, 44, 45, 46, 47, 42, 48, 49, 50, 51, 52, 53, 54, 55, 56, 57, 58, 59, 60, 61, 62, 63, 64, 65, 66, 67, 68, 69, 70, 148, 149, 150, 138, 139, 140, 141, 142, 143, 144] (by decide +kernel) (by decide +kernel)
set_option maxRecDepth 20000 in
theorem gX7_showFrom_X4_taken : GoodIn wsX7_showFrom (wsV RX7 169 RX4 yX4_taken wsX4_taken) := goodIn_app (goodIn_of _ (by decide +kernel)) ggX7_showFrom_X4_taken
set_option maxRecDepth 20000 in
theorem ggX7_showFrom_X0_advance : GoodIn wsX7_showFrom wsX0_advance := goodIn_r _ [74, 30, 75, 50, 51, 52, 53, 54, 55, 76, 77, 78, 27, 79, 29, 80, 81, 82, 83, 84, 85, 86, 87, 88, 11, 89, 90, 91, 92, 93, 94, 95, 96, 97, 98, 99, 100, 101, 102, 103, 31, 32, 104, 105, 106, 107, 108, 109, 110, 111, 112, 113, 114, 115, 116, 117, 118, 119, 120, 121, 138, 139, 140, 141, 142, 143, 144, 147] (by decide +kernel) (by decide +kernel)
set_option maxRecDepth 20000 in
theorem gX7_showFrom_X0_advance : GoodIn wsX7_showFrom (wsV RX7 274 RX0 yX0_advance wsX0_advance) := goodIn_app (goodIn_of _ (by decide +kernel)) ggX7_showFrom_X0_advance
set_option maxRecDepth 20000 in
theorem ggX7_showFrom_X6_save : GoodIn wsX7_showFrom wsX6_save := goodIn_r _ [125, 19, 18, 20, 21, 22, 23, 147, 145, 146] (by decide +kernel) (by decide +kernel)
set_option maxRecDepth 20000 in
theorem gX7_showFrom_X6_save : GoodIn wsX7_showFrom (wsV RX7 309 RX6 yX6_save wsX6_save) := goodIn_app (goodIn_of _ (by decide +kernel)) ggX7_showFrom_X6_save
theorem dX7_showFrom_0 : decode cX7_showFrom 0 = .ok (.aload_n 0, 1) := by decide +kernel
theorem dX7_showFrom_1 : decode cX7_showFrom 1 = .ok (.aload_n 0, 1) := by decide +kernel
theorem dX7_showFrom_2 : decode cX7_showFrom 2 = .ok (.getfield 32, 3) := by decide +kernel
theorem dX7_showFrom_5 : decode cX7_showFrom 5 = .ok (.iload_n 3, 1) := by decide +kernel
theorem dX7_showFrom_6 : decode cX7_showFrom 6 = .ok (.invokevirtual 305, 3) := by decide +kernel
theorem dX7_showFrom_9 : decode cX7_showFrom 9 = .ok (.iload_n 3, 1) := by decide +kernel
theorem dX7_showFrom_10 : decode cX7_showFrom 10 = .ok (.istore 4, 2) := by decide +kernel
theorem dX7_showFrom_12 : decode cX7_showFrom 12 = .ok (.iload 4, 2) := by decide +kernel
theorem dX7_showFrom_14 : decode cX7_showFrom 14 = .ok (.iload_n 2, 1) := by decide +kernel
theorem dX7_showFrom_15 : decode cX7_showFrom 15 = .ok (.if_icmp .gt 98, 3) := by decide +kernel
theorem dX7_showFrom_18 : decode cX7_showFrom 18 = .ok (.iconst 0, 1) := by decide +kernel
theorem dX7_showFrom_19 : decode cX7_showFrom 19 = .ok (.istore 5, 2) := by decide +kernel
theorem dX7_showFrom_21 : decode cX7_showFrom 21 = .ok (.iload 5, 2) := by decide +kernel
theorem dX7_showFrom_23 : decode cX7_showFrom 23 = .ok (.aload_n 0, 1) := by decide +kernel
theorem dX7_showFrom_24 : decode cX7_showFrom 24 = .ok (.getfield 10, 3) := by decide +kernel
theorem dX7_showFrom_27 : decode cX7_showFrom 27 = .ok (.getfield 123, 3) := by decide +kernel
theorem dX7_showFrom_30 : decode cX7_showFrom 30 = .ok (.if_icmp .ge 38, 3) := by decide +kernel
theorem dX7_showFrom_33 : decode cX7_showFrom 33 = .ok (.aload_n 0, 1) := by decide +kernel
theorem dX7_showFrom_34 : decode cX7_showFrom 34 = .ok (.getfield 45, 3) := by decide +kernel
theorem dX7_showFrom_37 : decode cX7_showFrom 37 = .ok (.iload 5, 2) := by decide +kernel
theorem dX7_showFrom_39 : decode cX7_showFrom 39 = .ok (.aload_n 0, 1) := by decide +kernel
theorem dX7_showFrom_40 : decode cX7_showFrom 40 = .ok (.getfield 21, 3) := by decide +kernel
theorem dX7_showFrom_43 : decode cX7_showFrom 43 = .ok (.aload_n 0, 1) := by decide +kernel
theorem dX7_showFrom_44 : decode cX7_showFrom 44 = .ok (.getfield 10, 3) := by decide +kernel
theorem dX7_showFrom_47 : decode cX7_showFrom 47 = .ok (.getfield 98, 3) := by decide +kernel
theorem dX7_showFrom_50 : decode cX7_showFrom 50 = .ok (.iconst 3, 1) := by decide +kernel
theorem dX7_showFrom_51 : decode cX7_showFrom 51 = .ok (.iaload, 1) := by decide +kernel
theorem dX7_showFrom_52 : decode cX7_showFrom 52 = .ok (.iload_n 1, 1) := by decide +kernel
theorem dX7_showFrom_53 : decode cX7_showFrom 53 = .ok (.iload_n 2, 1) := by decide +kernel
theorem dX7_showFrom_54 : decode cX7_showFrom 54 = .ok (.iload 5, 2) := by decide +kernel
theorem dX7_showFrom_56 : decode cX7_showFrom 56 = .ok (.iload 4, 2) := by decide +kernel
theorem dX7_showFrom_58 : decode cX7_showFrom 58 = .ok (.invokevirtual 169, 3) := by decide +kernel
theorem dX7_showFrom_61 : decode cX7_showFrom 61 = .ok (.iastore, 1) := by decide +kernel
theorem dX7_showFrom_62 : decode cX7_showFrom 62 = .ok (.iinc 5 1, 3) := by decide +kernel
theorem dX7_showFrom_65 : decode cX7_showFrom 65 = .ok (.goto (-44), 3) := by decide +kernel
theorem dX7_showFrom_68 : decode cX7_showFrom 68 = .ok (.aload_n 0, 1) := by decide +kernel
theorem dX7_showFrom_69 : decode cX7_showFrom 69 = .ok (.getfield 38, 3) := by decide +kernel
theorem dX7_showFrom_72 : decode cX7_showFrom 72 = .ok (.aload_n 0, 1) := by decide +kernel
theorem dX7_showFrom_73 : decode cX7_showFrom 73 = .ok (.getfield 10, 3) := by decide +kernel
theorem dX7_showFrom_76 : decode cX7_showFrom 76 = .ok (.aload_n 0, 1) := by decide +kernel
theorem dX7_showFrom_77 : decode cX7_showFrom 77 = .ok (.getfield 10, 3) := by decide +kernel
theorem dX7_showFrom_80 : decode cX7_showFrom 80 = .ok (.getfield 98, 3) := by decide +kernel
theorem dX7_showFrom_83 : decode cX7_showFrom 83 = .ok (.iconst 0, 1) := by decide +kernel
theorem dX7_showFrom_84 : decode cX7_showFrom 84 = .ok (.iaload, 1) := by decide +kernel
theorem dX7_showFrom_85 : decode cX7_showFrom 85 = .ok (.iload 4, 2) := by decide +kernel
theorem dX7_showFrom_87 : decode cX7_showFrom 87 = .ok (.aload_n 0, 1) := by decide +kernel
theorem dX7_showFrom_88 : decode cX7_showFrom 88 = .ok (.getfield 45, 3) := by decide +kernel
theorem dX7_showFrom_91 : decode cX7_showFrom 91 = .ok (.invokevirtual 274, 3) := by decide +kernel
theorem dX7_showFrom_94 : decode cX7_showFrom 94 = .ok (.aload_n 0, 1) := by decide +kernel
theorem dX7_showFrom_95 : decode cX7_showFrom 95 = .ok (.getfield 32, 3) := by decide +kernel
theorem dX7_showFrom_98 : decode cX7_showFrom 98 = .ok (.iload 4, 2) := by decide +kernel
theorem dX7_showFrom_100 : decode cX7_showFrom 100 = .ok (.aload_n 0, 1) := by decide +kernel
theorem dX7_showFrom_101 : decode cX7_showFrom 101 = .ok (.getfield 38, 3) := by decide +kernel
theorem dX7_showFrom_104 : decode cX7_showFrom 104 = .ok (.invokevirtual 309, 3) := by decide +kernel
theorem dX7_showFrom_107 : decode cX7_showFrom 107 = .ok (.iinc 4 1, 3) := by decide +kernel
theorem dX7_showFrom_110 : decode cX7_showFrom 110 = .ok (.goto (-98), 3) := by decide +kernel
theorem dX7_showFrom_113 : decode cX7_showFrom 113 = .ok (.return_, 1) := by decide +kernel
set_option maxRecDepth 20000 in
theorem ggX7_setBoardAhead_X6_load : GoodIn wsX7_setBoardAhead wsX6_load := goodIn_r _ [7, 8, 9, 10, 11, 12, 13, 42, 43, 44] (by decide +kernel) (by decide +kernel)
set_option maxRecDepth 20000 in
theorem gX7_setBoardAhead_X6_load : GoodIn wsX7_setBoardAhead (wsV RX7 140 RX6 yX6_load wsX6_load) := goodIn_app (goodIn_of _ (by decide +kernel)) ggX7_setBoardAhead_X6_load
set_option maxRecDepth 20000 in
theorem ggX7_setBoardAhead_X0_start : GoodIn wsX7_setBoardAhead wsX0_start := goodIn_r _ [18, 19, 20, 21, 22, 23, 24, 25, 26, 27, 28, 29, 44, 45, 46, 47, 48, 49, 50, 51] (by decide +kernel) (by decide +kernel)
set_option maxRecDepth 20000 in
theorem gX7_setBoardAhead_X0_start : GoodIn wsX7_setBoardAhead (wsV RX7 267 RX0 yX0_start wsX0_start) := goodIn_app (goodIn_of _ (by decide +kernel)) ggX7_setBoardAhead_X0_start
theorem dX7_setBoardAhead_0 : decode cX7_setBoardAhead 0 = .ok (.iload_n 2, 1) := by decide +kernel
theorem dX7_setBoardAhead_1 : decode cX7_setBoardAhead 1 = .ok (.ifCond .le 17, 3) := by decide +kernel
theorem dX7_setBoardAhead_4 : decode cX7_setBoardAhead 4 = .ok (.aload_n 1, 1) := by decide +kernel
theorem dX7_setBoardAhead_5 : decode cX7_setBoardAhead 5 = .ok (.iload_n 2, 1) := by decide +kernel
theorem dX7_setBoardAhead_6 : decode cX7_setBoardAhead 6 = .ok (.iconst 1, 1) := by decide +kernel
theorem dX7_setBoardAhead_7 : decode cX7_setBoardAhead 7 = .ok (.isub, 1) := by decide +kernel
theorem dX7_setBoardAhead_8 : decode cX7_setBoardAhead 8 = .ok (.aload_n 0, 1) := by decide +kernel
theorem dX7_setBoardAhead_9 : decode cX7_setBoardAhead 9 = .ok (.getfield 38, 3) := by decide +kernel
theorem dX7_setBoardAhead_12 : decode cX7_setBoardAhead 12 = .ok (.invokevirtual 140, 3) := by decide +kernel
theorem dX7_setBoardAhead_15 : decode cX7_setBoardAhead 15 = .ok (.goto 14, 3) := by decide +kernel
theorem dX7_setBoardAhead_18 : decode cX7_setBoardAhead 18 = .ok (.aload_n 0, 1) := by decide +kernel
theorem dX7_setBoardAhead_19 : decode cX7_setBoardAhead 19 = .ok (.getfield 38, 3) := by decide +kernel
theorem dX7_setBoardAhead_22 : decode cX7_setBoardAhead 22 = .ok (.aload_n 0, 1) := by decide +kernel
theorem dX7_setBoardAhead_23 : decode cX7_setBoardAhead 23 = .ok (.getfield 10, 3) := by decide +kernel
theorem dX7_setBoardAhead_26 : decode cX7_setBoardAhead 26 = .ok (.invokevirtual 267, 3) := by decide +kernel
theorem dX7_setBoardAhead_29 : decode cX7_setBoardAhead 29 = .ok (.return_, 1) := by decide +kernel
set_option maxRecDepth 20000 in
theorem ggX7_costOf_X4_goneBack : GoodIn wsX7_costOf wsX4_goneBack := goodIn_r _ [9, 10, 11, 12, 13, 14, 15, 16, 17, 18, 8, 19, 20, 21, 22, 23, 24, 25, 26, 27, 28, 29, 30, 31, 32, 33, 34, 35, 36, 37, 38, 39, 40, 41, 42, 43, 44, 45, 46, 47, 48, 49, 69, 70, 71, 62, 63, 64, 65, 66, 67, 68] (by decide +kernel) (by decide +kernel)
set_option maxRecDepth 20000 in
theorem gX7_costOf_X4_goneBack : GoodIn wsX7_costOf (wsV RX7 176 RX4 yX4_goneBack wsX4_goneBack) := goodIn_app (goodIn_of _ (by decide +kernel)) ggX7_costOf_X4_goneBack
theorem dX7_costOf_0 : decode cX7_costOf 0 = .ok (.iconst 0, 1) := by decide +kernel
theorem dX7_costOf_1 : decode cX7_costOf 1 = .ok (.istore_n 3, 1) := by decide +kernel
theorem dX7_costOf_2 : decode cX7_costOf 2 = .ok (.iconst 0, 1) := by decide +kernel
theorem dX7_costOf_3 : decode cX7_costOf 3 = .ok (.istore 4, 2) := by decide +kernel
theorem dX7_costOf_5 : decode cX7_costOf 5 = .ok (.iload 4, 2) := by decide +kernel
theorem dX7_costOf_7 : decode cX7_costOf 7 = .ok (.aload_n 0, 1) := by decide +kernel
theorem dX7_costOf_8 : decode cX7_costOf 8 = .ok (.getfield 10, 3) := by decide +kernel
theorem dX7_costOf_11 : decode cX7_costOf 11 = .ok (.getfield 123, 3) := by decide +kernel
theorem dX7_costOf_14 : decode cX7_costOf 14 = .ok (.if_icmp .ge 39, 3) := by decide +kernel
theorem dX7_costOf_17 : decode cX7_costOf 17 = .ok (.iconst 0, 1) := by decide +kernel
theorem dX7_costOf_18 : decode cX7_costOf 18 = .ok (.istore 5, 2) := by decide +kernel
theorem dX7_costOf_20 : decode cX7_costOf 20 = .ok (.iload 5, 2) := by decide +kernel
theorem dX7_costOf_22 : decode cX7_costOf 22 = .ok (.iload_n 2, 1) := by decide +kernel
theorem dX7_costOf_23 : decode cX7_costOf 23 = .ok (.if_icmp .gt 24, 3) := by decide +kernel
theorem dX7_costOf_26 : decode cX7_costOf 26 = .ok (.iload_n 3, 1) := by decide +kernel
theorem dX7_costOf_27 : decode cX7_costOf 27 = .ok (.aload_n 0, 1) := by decide +kernel
theorem dX7_costOf_28 : decode cX7_costOf 28 = .ok (.getfield 21, 3) := by decide +kernel
theorem dX7_costOf_31 : decode cX7_costOf 31 = .ok (.iload_n 1, 1) := by decide +kernel
theorem dX7_costOf_32 : decode cX7_costOf 32 = .ok (.iload 4, 2) := by decide +kernel
theorem dX7_costOf_34 : decode cX7_costOf 34 = .ok (.iload 5, 2) := by decide +kernel
theorem dX7_costOf_36 : decode cX7_costOf 36 = .ok (.invokevirtual 176, 3) := by decide +kernel
theorem dX7_costOf_39 : decode cX7_costOf 39 = .ok (.iadd, 1) := by decide +kernel
theorem dX7_costOf_40 : decode cX7_costOf 40 = .ok (.istore_n 3, 1) := by decide +kernel
theorem dX7_costOf_41 : decode cX7_costOf 41 = .ok (.iinc 5 1, 3) := by decide +kernel
theorem dX7_costOf_44 : decode cX7_costOf 44 = .ok (.goto (-24), 3) := by decide +kernel
theorem dX7_costOf_47 : decode cX7_costOf 47 = .ok (.iinc 4 1, 3) := by decide +kernel
theorem dX7_costOf_50 : decode cX7_costOf 50 = .ok (.goto (-45), 3) := by decide +kernel
theorem dX7_costOf_53 : decode cX7_costOf 53 = .ok (.aload_n 0, 1) := by decide +kernel
theorem dX7_costOf_54 : decode cX7_costOf 54 = .ok (.getfield 10, 3) := by decide +kernel
theorem dX7_costOf_57 : decode cX7_costOf 57 = .ok (.getfield 98, 3) := by decide +kernel
theorem dX7_costOf_60 : decode cX7_costOf 60 = .ok (.iconst 4, 1) := by decide +kernel
theorem dX7_costOf_61 : decode cX7_costOf 61 = .ok (.iaload, 1) := by decide +kernel
theorem dX7_costOf_62 : decode cX7_costOf 62 = .ok (.iload_n 1, 1) := by decide +kernel
theorem dX7_costOf_63 : decode cX7_costOf 63 = .ok (.imul, 1) := by decide +kernel
theorem dX7_costOf_64 : decode cX7_costOf 64 = .ok (.aload_n 0, 1) := by decide +kernel
theorem dX7_costOf_65 : decode cX7_costOf 65 = .ok (.getfield 10, 3) := by decide +kernel
theorem dX7_costOf_68 : decode cX7_costOf 68 = .ok (.getfield 123, 3) := by decide +kernel
theorem dX7_costOf_71 : decode cX7_costOf 71 = .ok (.imul, 1) := by decide +kernel
theorem dX7_costOf_72 : decode cX7_costOf 72 = .ok (.iload_n 2, 1) := by decide +kernel
theorem dX7_costOf_73 : decode cX7_costOf 73 = .ok (.iconst 1, 1) := by decide +kernel
theorem dX7_costOf_74 : decode cX7_costOf 74 = .ok (.iadd, 1) := by decide +kernel
theorem dX7_costOf_75 : decode cX7_costOf 75 = .ok (.imul, 1) := by decide +kernel
theorem dX7_costOf_76 : decode cX7_costOf 76 = .ok (.aload_n 0, 1) := by decide +kernel
theorem dX7_costOf_77 : decode cX7_costOf 77 = .ok (.getfield 10, 3) := by decide +kernel
theorem dX7_costOf_80 : decode cX7_costOf 80 = .ok (.getfield 98, 3) := by decide +kernel
theorem dX7_costOf_83 : decode cX7_costOf 83 = .ok (.iconst 5, 1) := by decide +kernel
theorem dX7_costOf_84 : decode cX7_costOf 84 = .ok (.iaload, 1) := by decide +kernel
theorem dX7_costOf_85 : decode cX7_costOf 85 = .ok (.iload_n 3, 1) := by decide +kernel
theorem dX7_costOf_86 : decode cX7_costOf 86 = .ok (.imul, 1) := by decide +kernel
theorem dX7_costOf_87 : decode cX7_costOf 87 = .ok (.iadd, 1) := by decide +kernel
theorem dX7_costOf_88 : decode cX7_costOf 88 = .ok (.ireturn, 1) := by decide +kernel
set_option maxRecDepth 20000 in
theorem ggX7_seesThen_X6_at : GoodIn wsX7_seesThen wsX6_at := goodIn_r _ [8, 9, 43, 44] (by decide +kernel) (by decide +kernel)
set_option maxRecDepth 20000 in
theorem gX7_seesThen_X6_at : GoodIn wsX7_seesThen (wsV RX7 133 RX6 yX6_at wsX6_at) := goodIn_app (goodIn_of _ (by decide +kernel)) ggX7_seesThen_X6_at
set_option maxRecDepth 20000 in
theorem ggX7_seesThen_X7_distance : GoodIn wsX7_seesThen wsX7_distance := goodIn_r _ [13, 14, 15, 16, 17, 18, 19, 12, 20, 21, 22, 23] (by decide +kernel) (by decide +kernel)
set_option maxRecDepth 20000 in
theorem gX7_seesThen_X7_distance : GoodIn wsX7_seesThen (va_wsS RX7 312 yX7_distance wsX7_distance) := goodIn_app (goodIn_of _ (by decide +kernel)) ggX7_seesThen_X7_distance
theorem dX7_seesThen_0 : decode cX7_seesThen 0 = .ok (.aload_n 0, 1) := by decide +kernel
theorem dX7_seesThen_1 : decode cX7_seesThen 1 = .ok (.getfield 28, 3) := by decide +kernel
theorem dX7_seesThen_4 : decode cX7_seesThen 4 = .ok (.iload_n 3, 1) := by decide +kernel
theorem dX7_seesThen_5 : decode cX7_seesThen 5 = .ok (.iload_n 1, 1) := by decide +kernel
theorem dX7_seesThen_6 : decode cX7_seesThen 6 = .ok (.invokevirtual 133, 3) := by decide +kernel
theorem dX7_seesThen_9 : decode cX7_seesThen 9 = .ok (.aload_n 0, 1) := by decide +kernel
theorem dX7_seesThen_10 : decode cX7_seesThen 10 = .ok (.getfield 28, 3) := by decide +kernel
theorem dX7_seesThen_13 : decode cX7_seesThen 13 = .ok (.iload_n 3, 1) := by decide +kernel
theorem dX7_seesThen_14 : decode cX7_seesThen 14 = .ok (.iload_n 2, 1) := by decide +kernel
theorem dX7_seesThen_15 : decode cX7_seesThen 15 = .ok (.invokevirtual 133, 3) := by decide +kernel
theorem dX7_seesThen_18 : decode cX7_seesThen 18 = .ok (.invokestatic 312, 3) := by decide +kernel
theorem dX7_seesThen_21 : decode cX7_seesThen 21 = .ok (.aload_n 0, 1) := by decide +kernel
theorem dX7_seesThen_22 : decode cX7_seesThen 22 = .ok (.getfield 10, 3) := by decide +kernel
theorem dX7_seesThen_25 : decode cX7_seesThen 25 = .ok (.getfield 98, 3) := by decide +kernel
theorem dX7_seesThen_28 : decode cX7_seesThen 28 = .ok (.bipush 6, 2) := by decide +kernel
theorem dX7_seesThen_30 : decode cX7_seesThen 30 = .ok (.iaload, 1) := by decide +kernel
theorem dX7_seesThen_31 : decode cX7_seesThen 31 = .ok (.if_icmp .gt 7, 3) := by decide +kernel
theorem dX7_seesThen_34 : decode cX7_seesThen 34 = .ok (.iconst 1, 1) := by decide +kernel
theorem dX7_seesThen_35 : decode cX7_seesThen 35 = .ok (.goto 4, 3) := by decide +kernel
theorem dX7_seesThen_38 : decode cX7_seesThen 38 = .ok (.iconst 0, 1) := by decide +kernel
theorem dX7_seesThen_39 : decode cX7_seesThen 39 = .ok (.ireturn, 1) := by decide +kernel
set_option maxRecDepth 20000 in
theorem ggX7_thinkTo_X0_start : GoodIn wsX7_thinkTo wsX0_start := goodIn_r _ [13, 14, 15, 16, 17, 18, 19, 20, 21, 22, 23, 24, 79, 80, 81, 82, 83, 84, 85, 86] (by decide +kernel) (by decide +kernel)
set_option maxRecDepth 20000 in
theorem gX7_thinkTo_X0_start : GoodIn wsX7_thinkTo (wsV RX7 267 RX0 yX0_start wsX0_start) := goodIn_app (goodIn_of _ (by decide +kernel)) ggX7_thinkTo_X0_start
set_option maxRecDepth 20000 in
theorem ggX7_thinkTo_X3_setOnly : GoodIn wsX7_thinkTo wsX3_setOnly := goodIn_r _ [29, 30, 31, 19, 20, 21, 32, 23, 33, 34, 35, 87] (by decide +kernel) (by decide +kernel)
set_option maxRecDepth 20000 in
theorem gX7_thinkTo_X3_setOnly : GoodIn wsX7_thinkTo (wsV RX7 315 RX3 yX3_setOnly wsX3_setOnly) := goodIn_app (goodIn_of _ (by decide +kernel)) ggX7_thinkTo_X3_setOnly
set_option maxRecDepth 20000 in
theorem ggX7_thinkTo_X7_seesThen : GoodIn wsX7_thinkTo wsX7_seesThen := goodIn_r _ [39, 5, 2, 8, 40, 41, 42, 43, 44, 45, 46, 47, 23, 48, 49, 50, 51, 52, 53, 34, 35, 54, 32, 33, 67, 68, 69, 70, 71, 72, 73, 74, 75, 76, 77, 78, 80, 81, 82, 83, 84, 85, 86, 88, 89] (by decide +kernel) (by decide +kernel)
set_option maxRecDepth 20000 in
theorem gX7_thinkTo_X7_seesThen : GoodIn wsX7_thinkTo (wsV RX7 196 RX7 yX7_seesThen wsX7_seesThen) := goodIn_app (goodIn_of _ (by decide +kernel)) ggX7_thinkTo_X7_seesThen
set_option maxRecDepth 20000 in
theorem ggX7_thinkTo_X6_at : GoodIn wsX7_thinkTo wsX6_at := goodIn_r _ [44, 45, 88, 89] (by decide +kernel) (by decide +kernel)
set_option maxRecDepth 20000 in
theorem gX7_thinkTo_X6_at : GoodIn wsX7_thinkTo (wsV RX7 133 RX6 yX6_at wsX6_at) := goodIn_app (goodIn_of _ (by decide +kernel)) ggX7_thinkTo_X6_at
set_option maxRecDepth 20000 in
theorem ggX7_thinkTo_X3_spread : GoodIn wsX7_thinkTo wsX3_spread := goodIn_r _ [58, 30, 87] (by decide +kernel) (by decide +kernel)
set_option maxRecDepth 20000 in
theorem gX7_thinkTo_X3_spread : GoodIn wsX7_thinkTo (wsV RX7 318 RX3 yX3_spread wsX3_spread) := goodIn_app (goodIn_of _ (by decide +kernel)) ggX7_thinkTo_X3_spread
set_option maxRecDepth 20000 in
theorem ggX7_thinkTo_X3_removeSeen : GoodIn wsX7_thinkTo wsX3_removeSeen := goodIn_r _ [62, 63, 50, 51, 52, 64, 65, 66, 30, 32, 23, 33, 34, 35, 87] (by decide +kernel) (by decide +kernel)
set_option maxRecDepth 20000 in
theorem gX7_thinkTo_X3_removeSeen : GoodIn wsX7_thinkTo (wsV RX7 322 RX3 yX3_removeSeen wsX3_removeSeen) := goodIn_app (goodIn_of _ (by decide +kernel)) ggX7_thinkTo_X3_removeSeen
theorem dX7_thinkTo_0 : decode cX7_thinkTo 0 = .ok (.aload_n 0, 1) := by decide +kernel
theorem dX7_thinkTo_1 : decode cX7_thinkTo 1 = .ok (.getfield 38, 3) := by decide +kernel
theorem dX7_thinkTo_4 : decode cX7_thinkTo 4 = .ok (.aload_n 0, 1) := by decide +kernel
theorem dX7_thinkTo_5 : decode cX7_thinkTo 5 = .ok (.getfield 10, 3) := by decide +kernel
theorem dX7_thinkTo_8 : decode cX7_thinkTo 8 = .ok (.invokevirtual 267, 3) := by decide +kernel
theorem dX7_thinkTo_11 : decode cX7_thinkTo 11 = .ok (.aload_n 0, 1) := by decide +kernel
theorem dX7_thinkTo_12 : decode cX7_thinkTo 12 = .ok (.getfield 52, 3) := by decide +kernel
theorem dX7_thinkTo_15 : decode cX7_thinkTo 15 = .ok (.aload_n 0, 1) := by decide +kernel
theorem dX7_thinkTo_16 : decode cX7_thinkTo 16 = .ok (.getfield 38, 3) := by decide +kernel
theorem dX7_thinkTo_19 : decode cX7_thinkTo 19 = .ok (.getfield 278, 3) := by decide +kernel
theorem dX7_thinkTo_22 : decode cX7_thinkTo 22 = .ok (.iload_n 2, 1) := by decide +kernel
theorem dX7_thinkTo_23 : decode cX7_thinkTo 23 = .ok (.iaload, 1) := by decide +kernel
theorem dX7_thinkTo_24 : decode cX7_thinkTo 24 = .ok (.invokevirtual 315, 3) := by decide +kernel
theorem dX7_thinkTo_27 : decode cX7_thinkTo 27 = .ok (.iconst 0, 1) := by decide +kernel
theorem dX7_thinkTo_28 : decode cX7_thinkTo 28 = .ok (.istore 4, 2) := by decide +kernel
theorem dX7_thinkTo_30 : decode cX7_thinkTo 30 = .ok (.iload 4, 2) := by decide +kernel
theorem dX7_thinkTo_32 : decode cX7_thinkTo 32 = .ok (.iload_n 3, 1) := by decide +kernel
theorem dX7_thinkTo_33 : decode cX7_thinkTo 33 = .ok (.if_icmp .gt 95, 3) := by decide +kernel
theorem dX7_thinkTo_36 : decode cX7_thinkTo 36 = .ok (.aload_n 0, 1) := by decide +kernel
theorem dX7_thinkTo_37 : decode cX7_thinkTo 37 = .ok (.iload_n 1, 1) := by decide +kernel
theorem dX7_thinkTo_38 : decode cX7_thinkTo 38 = .ok (.iload_n 2, 1) := by decide +kernel
theorem dX7_thinkTo_39 : decode cX7_thinkTo 39 = .ok (.iload 4, 2) := by decide +kernel
theorem dX7_thinkTo_41 : decode cX7_thinkTo 41 = .ok (.invokevirtual 196, 3) := by decide +kernel
theorem dX7_thinkTo_44 : decode cX7_thinkTo 44 = .ok (.ifCond .eq 23, 3) := by decide +kernel
theorem dX7_thinkTo_47 : decode cX7_thinkTo 47 = .ok (.aload_n 0, 1) := by decide +kernel
theorem dX7_thinkTo_48 : decode cX7_thinkTo 48 = .ok (.getfield 52, 3) := by decide +kernel
theorem dX7_thinkTo_51 : decode cX7_thinkTo 51 = .ok (.aload_n 0, 1) := by decide +kernel
theorem dX7_thinkTo_52 : decode cX7_thinkTo 52 = .ok (.getfield 28, 3) := by decide +kernel
theorem dX7_thinkTo_55 : decode cX7_thinkTo 55 = .ok (.iload 4, 2) := by decide +kernel
theorem dX7_thinkTo_57 : decode cX7_thinkTo 57 = .ok (.iload_n 2, 1) := by decide +kernel
theorem dX7_thinkTo_58 : decode cX7_thinkTo 58 = .ok (.invokevirtual 133, 3) := by decide +kernel
theorem dX7_thinkTo_61 : decode cX7_thinkTo 61 = .ok (.invokevirtual 315, 3) := by decide +kernel
theorem dX7_thinkTo_64 : decode cX7_thinkTo 64 = .ok (.goto 58, 3) := by decide +kernel
theorem dX7_thinkTo_67 : decode cX7_thinkTo 67 = .ok (.aload_n 0, 1) := by decide +kernel
theorem dX7_thinkTo_68 : decode cX7_thinkTo 68 = .ok (.getfield 52, 3) := by decide +kernel
theorem dX7_thinkTo_71 : decode cX7_thinkTo 71 = .ok (.aload_n 0, 1) := by decide +kernel
theorem dX7_thinkTo_72 : decode cX7_thinkTo 72 = .ok (.getfield 10, 3) := by decide +kernel
theorem dX7_thinkTo_75 : decode cX7_thinkTo 75 = .ok (.getfield 209, 3) := by decide +kernel
theorem dX7_thinkTo_78 : decode cX7_thinkTo 78 = .ok (.aload_n 0, 1) := by decide +kernel
theorem dX7_thinkTo_79 : decode cX7_thinkTo 79 = .ok (.getfield 10, 3) := by decide +kernel
theorem dX7_thinkTo_82 : decode cX7_thinkTo 82 = .ok (.getfield 203, 3) := by decide +kernel
theorem dX7_thinkTo_85 : decode cX7_thinkTo 85 = .ok (.invokevirtual 318, 3) := by decide +kernel
theorem dX7_thinkTo_88 : decode cX7_thinkTo 88 = .ok (.aload_n 0, 1) := by decide +kernel
theorem dX7_thinkTo_89 : decode cX7_thinkTo 89 = .ok (.getfield 52, 3) := by decide +kernel
theorem dX7_thinkTo_92 : decode cX7_thinkTo 92 = .ok (.aload_n 0, 1) := by decide +kernel
theorem dX7_thinkTo_93 : decode cX7_thinkTo 93 = .ok (.getfield 28, 3) := by decide +kernel
theorem dX7_thinkTo_96 : decode cX7_thinkTo 96 = .ok (.iload 4, 2) := by decide +kernel
theorem dX7_thinkTo_98 : decode cX7_thinkTo 98 = .ok (.iload_n 1, 1) := by decide +kernel
theorem dX7_thinkTo_99 : decode cX7_thinkTo 99 = .ok (.invokevirtual 133, 3) := by decide +kernel
theorem dX7_thinkTo_102 : decode cX7_thinkTo 102 = .ok (.aload_n 0, 1) := by decide +kernel
theorem dX7_thinkTo_103 : decode cX7_thinkTo 103 = .ok (.getfield 10, 3) := by decide +kernel
theorem dX7_thinkTo_106 : decode cX7_thinkTo 106 = .ok (.getfield 98, 3) := by decide +kernel
theorem dX7_thinkTo_109 : decode cX7_thinkTo 109 = .ok (.bipush 6, 2) := by decide +kernel
theorem dX7_thinkTo_111 : decode cX7_thinkTo 111 = .ok (.iaload, 1) := by decide +kernel
theorem dX7_thinkTo_112 : decode cX7_thinkTo 112 = .ok (.aload_n 0, 1) := by decide +kernel
theorem dX7_thinkTo_113 : decode cX7_thinkTo 113 = .ok (.getfield 10, 3) := by decide +kernel
theorem dX7_thinkTo_116 : decode cX7_thinkTo 116 = .ok (.getfield 203, 3) := by decide +kernel
theorem dX7_thinkTo_119 : decode cX7_thinkTo 119 = .ok (.invokevirtual 322, 3) := by decide +kernel
theorem dX7_thinkTo_122 : decode cX7_thinkTo 122 = .ok (.iinc 4 1, 3) := by decide +kernel
theorem dX7_thinkTo_125 : decode cX7_thinkTo 125 = .ok (.goto (-95), 3) := by decide +kernel
theorem dX7_thinkTo_128 : decode cX7_thinkTo 128 = .ok (.return_, 1) := by decide +kernel
theorem dX7_slotsKept_0 : decode cX7_slotsKept 0 = .ok (.iconst 0, 1) := by decide +kernel
theorem dX7_slotsKept_1 : decode cX7_slotsKept 1 = .ok (.istore_n 1, 1) := by decide +kernel
theorem dX7_slotsKept_2 : decode cX7_slotsKept 2 = .ok (.iconst 0, 1) := by decide +kernel
theorem dX7_slotsKept_3 : decode cX7_slotsKept 3 = .ok (.istore_n 2, 1) := by decide +kernel
theorem dX7_slotsKept_4 : decode cX7_slotsKept 4 = .ok (.iload_n 2, 1) := by decide +kernel
theorem dX7_slotsKept_5 : decode cX7_slotsKept 5 = .ok (.iconst 4, 1) := by decide +kernel
theorem dX7_slotsKept_6 : decode cX7_slotsKept 6 = .ok (.if_icmp .ge 21, 3) := by decide +kernel
theorem dX7_slotsKept_9 : decode cX7_slotsKept 9 = .ok (.aload_n 0, 1) := by decide +kernel
theorem dX7_slotsKept_10 : decode cX7_slotsKept 10 = .ok (.getfield 74, 3) := by decide +kernel
theorem dX7_slotsKept_13 : decode cX7_slotsKept 13 = .ok (.iload_n 2, 1) := by decide +kernel
theorem dX7_slotsKept_14 : decode cX7_slotsKept 14 = .ok (.baload, 1) := by decide +kernel
theorem dX7_slotsKept_15 : decode cX7_slotsKept 15 = .ok (.ifCond .eq 6, 3) := by decide +kernel
theorem dX7_slotsKept_18 : decode cX7_slotsKept 18 = .ok (.iinc 1 1, 3) := by decide +kernel
theorem dX7_slotsKept_21 : decode cX7_slotsKept 21 = .ok (.iinc 2 1, 3) := by decide +kernel
theorem dX7_slotsKept_24 : decode cX7_slotsKept 24 = .ok (.goto (-20), 3) := by decide +kernel
theorem dX7_slotsKept_27 : decode cX7_slotsKept 27 = .ok (.iload_n 1, 1) := by decide +kernel
theorem dX7_slotsKept_28 : decode cX7_slotsKept 28 = .ok (.ireturn, 1) := by decide +kernel
end
section
theorem dJ6_bitCount_0f7a4_0 : decode cJ6_bitCount_0f7a4 0 = .ok (.iload_n 0, 1) := by decide +kernel
theorem dJ6_bitCount_0f7a4_1 : decode cJ6_bitCount_0f7a4 1 = .ok (.iload_n 0, 1) := by decide +kernel
theorem dJ6_bitCount_0f7a4_2 : decode cJ6_bitCount_0f7a4 2 = .ok (.iconst 1, 1) := by decide +kernel
theorem dJ6_bitCount_0f7a4_3 : decode cJ6_bitCount_0f7a4 3 = .ok (.iushr, 1) := by decide +kernel
theorem dJ6_bitCount_0f7a4_4 : decode cJ6_bitCount_0f7a4 4 = .ok (.ldc_w 265, 3) := by decide +kernel
theorem dJ6_bitCount_0f7a4_7 : decode cJ6_bitCount_0f7a4 7 = .ok (.iand, 1) := by decide +kernel
theorem dJ6_bitCount_0f7a4_8 : decode cJ6_bitCount_0f7a4 8 = .ok (.isub, 1) := by decide +kernel
theorem dJ6_bitCount_0f7a4_9 : decode cJ6_bitCount_0f7a4 9 = .ok (.istore_n 0, 1) := by decide +kernel
theorem dJ6_bitCount_0f7a4_10 : decode cJ6_bitCount_0f7a4 10 = .ok (.iload_n 0, 1) := by decide +kernel
theorem dJ6_bitCount_0f7a4_11 : decode cJ6_bitCount_0f7a4 11 = .ok (.ldc_w 266, 3) := by decide +kernel
theorem dJ6_bitCount_0f7a4_14 : decode cJ6_bitCount_0f7a4 14 = .ok (.iand, 1) := by decide +kernel
theorem dJ6_bitCount_0f7a4_15 : decode cJ6_bitCount_0f7a4 15 = .ok (.iload_n 0, 1) := by decide +kernel
theorem dJ6_bitCount_0f7a4_16 : decode cJ6_bitCount_0f7a4 16 = .ok (.iconst 2, 1) := by decide +kernel
theorem dJ6_bitCount_0f7a4_17 : decode cJ6_bitCount_0f7a4 17 = .ok (.iushr, 1) := by decide +kernel
theorem dJ6_bitCount_0f7a4_18 : decode cJ6_bitCount_0f7a4 18 = .ok (.ldc_w 266, 3) := by decide +kernel
theorem dJ6_bitCount_0f7a4_21 : decode cJ6_bitCount_0f7a4 21 = .ok (.iand, 1) := by decide +kernel
theorem dJ6_bitCount_0f7a4_22 : decode cJ6_bitCount_0f7a4 22 = .ok (.iadd, 1) := by decide +kernel
theorem dJ6_bitCount_0f7a4_23 : decode cJ6_bitCount_0f7a4 23 = .ok (.istore_n 0, 1) := by decide +kernel
theorem dJ6_bitCount_0f7a4_24 : decode cJ6_bitCount_0f7a4 24 = .ok (.iload_n 0, 1) := by decide +kernel
theorem dJ6_bitCount_0f7a4_25 : decode cJ6_bitCount_0f7a4 25 = .ok (.iload_n 0, 1) := by decide +kernel
theorem dJ6_bitCount_0f7a4_26 : decode cJ6_bitCount_0f7a4 26 = .ok (.iconst 4, 1) := by decide +kernel
theorem dJ6_bitCount_0f7a4_27 : decode cJ6_bitCount_0f7a4 27 = .ok (.iushr, 1) := by decide +kernel
theorem dJ6_bitCount_0f7a4_28 : decode cJ6_bitCount_0f7a4 28 = .ok (.iadd, 1) := by decide +kernel
theorem dJ6_bitCount_0f7a4_29 : decode cJ6_bitCount_0f7a4 29 = .ok (.ldc_w 267, 3) := by decide +kernel
theorem dJ6_bitCount_0f7a4_32 : decode cJ6_bitCount_0f7a4 32 = .ok (.iand, 1) := by decide +kernel
theorem dJ6_bitCount_0f7a4_33 : decode cJ6_bitCount_0f7a4 33 = .ok (.istore_n 0, 1) := by decide +kernel
theorem dJ6_bitCount_0f7a4_34 : decode cJ6_bitCount_0f7a4 34 = .ok (.iload_n 0, 1) := by decide +kernel
theorem dJ6_bitCount_0f7a4_35 : decode cJ6_bitCount_0f7a4 35 = .ok (.iload_n 0, 1) := by decide +kernel
theorem dJ6_bitCount_0f7a4_36 : decode cJ6_bitCount_0f7a4 36 = .ok (.bipush 8, 2) := by decide +kernel
theorem dJ6_bitCount_0f7a4_38 : decode cJ6_bitCount_0f7a4 38 = .ok (.iushr, 1) := by decide +kernel
theorem dJ6_bitCount_0f7a4_39 : decode cJ6_bitCount_0f7a4 39 = .ok (.iadd, 1) := by decide +kernel
theorem dJ6_bitCount_0f7a4_40 : decode cJ6_bitCount_0f7a4 40 = .ok (.istore_n 0, 1) := by decide +kernel
theorem dJ6_bitCount_0f7a4_41 : decode cJ6_bitCount_0f7a4 41 = .ok (.iload_n 0, 1) := by decide +kernel
theorem dJ6_bitCount_0f7a4_42 : decode cJ6_bitCount_0f7a4 42 = .ok (.iload_n 0, 1) := by decide +kernel
theorem dJ6_bitCount_0f7a4_43 : decode cJ6_bitCount_0f7a4 43 = .ok (.bipush 16, 2) := by decide +kernel
theorem dJ6_bitCount_0f7a4_45 : decode cJ6_bitCount_0f7a4 45 = .ok (.iushr, 1) := by decide +kernel
theorem dJ6_bitCount_0f7a4_46 : decode cJ6_bitCount_0f7a4 46 = .ok (.iadd, 1) := by decide +kernel
theorem dJ6_bitCount_0f7a4_47 : decode cJ6_bitCount_0f7a4 47 = .ok (.istore_n 0, 1) := by decide +kernel
theorem dJ6_bitCount_0f7a4_48 : decode cJ6_bitCount_0f7a4 48 = .ok (.iload_n 0, 1) := by decide +kernel
theorem dJ6_bitCount_0f7a4_49 : decode cJ6_bitCount_0f7a4 49 = .ok (.bipush 63, 2) := by decide +kernel
theorem dJ6_bitCount_0f7a4_51 : decode cJ6_bitCount_0f7a4 51 = .ok (.iand, 1) := by decide +kernel
theorem dJ6_bitCount_0f7a4_52 : decode cJ6_bitCount_0f7a4 52 = .ok (.ireturn, 1) := by decide +kernel
theorem dJ9_abs_0f7a4_0 : decode cJ9_abs_0f7a4 0 = .ok (.iload_n 0, 1) := by decide +kernel
theorem dJ9_abs_0f7a4_1 : decode cJ9_abs_0f7a4 1 = .ok (.ifCond .ge 8, 3) := by decide +kernel
theorem dJ9_abs_0f7a4_4 : decode cJ9_abs_0f7a4 4 = .ok (.iload_n 0, 1) := by decide +kernel
theorem dJ9_abs_0f7a4_5 : decode cJ9_abs_0f7a4 5 = .ok (.ineg, 1) := by decide +kernel
theorem dJ9_abs_0f7a4_6 : decode cJ9_abs_0f7a4 6 = .ok (.goto 4, 3) := by decide +kernel
theorem dJ9_abs_0f7a4_9 : decode cJ9_abs_0f7a4 9 = .ok (.iload_n 0, 1) := by decide +kernel
theorem dJ9_abs_0f7a4_10 : decode cJ9_abs_0f7a4 10 = .ok (.ireturn, 1) := by decide +kernel
theorem dJ9_max_7cf53_0 : decode cJ9_max_7cf53 0 = .ok (.iload_n 0, 1) := by decide +kernel
theorem dJ9_max_7cf53_1 : decode cJ9_max_7cf53 1 = .ok (.iload_n 1, 1) := by decide +kernel
theorem dJ9_max_7cf53_2 : decode cJ9_max_7cf53 2 = .ok (.if_icmp .lt 7, 3) := by decide +kernel
theorem dJ9_max_7cf53_5 : decode cJ9_max_7cf53 5 = .ok (.iload_n 0, 1) := by decide +kernel
theorem dJ9_max_7cf53_6 : decode cJ9_max_7cf53 6 = .ok (.goto 4, 3) := by decide +kernel
theorem dJ9_max_7cf53_9 : decode cJ9_max_7cf53 9 = .ok (.iload_n 1, 1) := by decide +kernel
theorem dJ9_max_7cf53_10 : decode cJ9_max_7cf53 10 = .ok (.ireturn, 1) := by decide +kernel
theorem dJ9_min_7cf53_0 : decode cJ9_min_7cf53 0 = .ok (.iload_n 0, 1) := by decide +kernel
theorem dJ9_min_7cf53_1 : decode cJ9_min_7cf53 1 = .ok (.iload_n 1, 1) := by decide +kernel
theorem dJ9_min_7cf53_2 : decode cJ9_min_7cf53 2 = .ok (.if_icmp .gt 7, 3) := by decide +kernel
theorem dJ9_min_7cf53_5 : decode cJ9_min_7cf53 5 = .ok (.iload_n 0, 1) := by decide +kernel
theorem dJ9_min_7cf53_6 : decode cJ9_min_7cf53 6 = .ok (.goto 4, 3) := by decide +kernel
theorem dJ9_min_7cf53_9 : decode cJ9_min_7cf53 9 = .ok (.iload_n 1, 1) := by decide +kernel
theorem dJ9_min_7cf53_10 : decode cJ9_min_7cf53 10 = .ok (.ireturn, 1) := by decide +kernel
theorem dJ7_fill_d0a16_0 : decode cJ7_fill_d0a16 0 = .ok (.iconst 0, 1) := by decide +kernel
theorem dJ7_fill_d0a16_1 : decode cJ7_fill_d0a16 1 = .ok (.istore_n 3, 1) := by decide +kernel
theorem dJ7_fill_d0a16_2 : decode cJ7_fill_d0a16 2 = .ok (.aload_n 0, 1) := by decide +kernel
theorem dJ7_fill_d0a16_3 : decode cJ7_fill_d0a16 3 = .ok (.arraylength, 1) := by decide +kernel
theorem dJ7_fill_d0a16_4 : decode cJ7_fill_d0a16 4 = .ok (.istore 4, 2) := by decide +kernel
theorem dJ7_fill_d0a16_6 : decode cJ7_fill_d0a16 6 = .ok (.iload_n 3, 1) := by decide +kernel
theorem dJ7_fill_d0a16_7 : decode cJ7_fill_d0a16 7 = .ok (.iload 4, 2) := by decide +kernel
theorem dJ7_fill_d0a16_9 : decode cJ7_fill_d0a16 9 = .ok (.if_icmp .ge 13, 3) := by decide +kernel
theorem dJ7_fill_d0a16_12 : decode cJ7_fill_d0a16 12 = .ok (.aload_n 0, 1) := by decide +kernel
theorem dJ7_fill_d0a16_13 : decode cJ7_fill_d0a16 13 = .ok (.iload_n 3, 1) := by decide +kernel
theorem dJ7_fill_d0a16_14 : decode cJ7_fill_d0a16 14 = .ok (.lload_n 1, 1) := by decide +kernel
theorem dJ7_fill_d0a16_15 : decode cJ7_fill_d0a16 15 = .ok (.lastore, 1) := by decide +kernel
theorem dJ7_fill_d0a16_16 : decode cJ7_fill_d0a16 16 = .ok (.iinc 3 1, 3) := by decide +kernel
theorem dJ7_fill_d0a16_19 : decode cJ7_fill_d0a16 19 = .ok (.goto (-13), 3) := by decide +kernel
theorem dJ7_fill_d0a16_22 : decode cJ7_fill_d0a16 22 = .ok (.return_, 1) := by decide +kernel
theorem dJ7_fill_53178_0 : decode cJ7_fill_53178 0 = .ok (.iconst 0, 1) := by decide +kernel
theorem dJ7_fill_53178_1 : decode cJ7_fill_53178 1 = .ok (.istore_n 2, 1) := by decide +kernel
theorem dJ7_fill_53178_2 : decode cJ7_fill_53178 2 = .ok (.aload_n 0, 1) := by decide +kernel
theorem dJ7_fill_53178_3 : decode cJ7_fill_53178 3 = .ok (.arraylength, 1) := by decide +kernel
theorem dJ7_fill_53178_4 : decode cJ7_fill_53178 4 = .ok (.istore_n 3, 1) := by decide +kernel
theorem dJ7_fill_53178_5 : decode cJ7_fill_53178 5 = .ok (.iload_n 2, 1) := by decide +kernel
theorem dJ7_fill_53178_6 : decode cJ7_fill_53178 6 = .ok (.iload_n 3, 1) := by decide +kernel
theorem dJ7_fill_53178_7 : decode cJ7_fill_53178 7 = .ok (.if_icmp .ge 13, 3) := by decide +kernel
theorem dJ7_fill_53178_10 : decode cJ7_fill_53178 10 = .ok (.aload_n 0, 1) := by decide +kernel
theorem dJ7_fill_53178_11 : decode cJ7_fill_53178 11 = .ok (.iload_n 2, 1) := by decide +kernel
theorem dJ7_fill_53178_12 : decode cJ7_fill_53178 12 = .ok (.iload_n 1, 1) := by decide +kernel
theorem dJ7_fill_53178_13 : decode cJ7_fill_53178 13 = .ok (.iastore, 1) := by decide +kernel
theorem dJ7_fill_53178_14 : decode cJ7_fill_53178 14 = .ok (.iinc 2 1, 3) := by decide +kernel
theorem dJ7_fill_53178_17 : decode cJ7_fill_53178 17 = .ok (.goto (-12), 3) := by decide +kernel
theorem dJ7_fill_53178_20 : decode cJ7_fill_53178 20 = .ok (.return_, 1) := by decide +kernel
end
section
abbrev rmm (f lo : Nat) : Room := { frames := f, cells := 0, slots := 0, locals := lo }
abbrev TYS (cy : Nat → ClassId) : List (ClassId × FieldType) := [(cy 0, .int), (cy 1, .boolean), (cy 2, .long), (cy 3, .object "SeaGames$Play")]
def st_step : Nat → Int32 := fun k => match k with
  | 0 => 0
  | 1 => 1
  | 2 => 16
  | 3 => (-1)
  | _ => (-16)
def st_least : Nat → Int32 := fun k => match k with
  | 0 => 1
  | _ => 0
def st_most : Nat → Int32 := fun k => match k with
  | 0 => 5
  | 1 => 9
  | 2 => 999
  | 3 => 9
  | 4 => 99
  | 5 => 99
  | _ => 9
def ev_M : List (String × Nat × MethodName) := [(RX7, 9, yX5_init), (RX7, 27, yX6_init), (RX7, 37, yX0_init), (RX7, 51, yX3_init), (RX7, 58, yX1_init), (RX7, 65, yX2_init), (RX0, 30, yX7_spotOf), (RX0, 63, yX7_xOf), (RX0, 66, yX7_yOf), (RX0, 87, yX7_distance), (RX3, 21, yX7_yOf), (RX3, 25, yX7_xOf)]
def EV (t : Nat → Nat) (A : Nat → Prop) (U : State) (H : Heap) : Prop :=
  ((va_Z RX7 "STEP" "[I" (.ref (t 0)) A U H ∧ va_T .int (t 0) 5 (fun k => .int (st_step k)) A U H) ∧
   (va_Z RX7 "LEAST_RULE" "[I" (.ref (t 1)) A U H ∧ va_T .int (t 1) 7 (fun k => .int (st_least k)) A U H) ∧
   (va_Z RX7 "MOST_RULE" "[I" (.ref (t 2)) A U H ∧ va_T .int (t 2) 7 (fun k => .int (st_most k)) A U H)) ∧
  va_Nw (.fieldLinkNest RX0 74 RX7 "STEP" "[I" RX7) U ∧ ∀ q ∈ ev_M, va_Nw (.methodLinkNest q.1 q.2.1 q.2.2 RX7) U
theorem EV.go {t : Nat → Nat} {A B : Nat → Prop} {s U : State} {H0 H : Heap} (h : EV t A s H0) (hq : ∀ a : Nat, a < H0.size → ¬ A a → H[a]? = H0[a]?) (hAB : ∀ q, B q → A q) (hW : s.WarmedH U.vm) : EV t B U H := by
  obtain ⟨⟨⟨z0, t0⟩, ⟨z1, t1⟩, z2, t2⟩, hf, hm⟩ := h
  exact ⟨⟨⟨((z0.kept hq).narrow hAB).moved hW.alike, ((t0.kept hq).narrow hAB).moved hW.alike⟩, ⟨((z1.kept hq).narrow hAB).moved hW.alike, ((t1.kept hq).narrow hAB).moved hW.alike⟩, ((z2.kept hq).narrow hAB).moved hW.alike, ((t2.kept hq).narrow hAB).moved hW.alike⟩, va_Nw.warmF hW hf, fun q h => va_Nw.warmM hW (hm q h)⟩
theorem EV.calling {t : Nat → Nat} {A : Nat → Prop} {U : State} (g : JFrame) (mk : MethodId) (a : Array Value) (h : EV t A U U.heap) : EV t A (U.calling g mk a) (U.calling g mk a).heap := by
  obtain ⟨⟨⟨z0, t0⟩, ⟨z1, t1⟩, z2, t2⟩, hf, hm⟩ := h
  have hv : U.vm.Alike (U.calling g mk a).vm := Vm.Alike.refl U.vm
  exact ⟨⟨⟨z0.moved hv, t0.moved hv⟩, ⟨z1.moved hv, t1.moved hv⟩, z2.moved hv, t2.moved hv⟩, va_Nw.same rfl (rfl : U.vm = (U.calling g mk a).vm) hf, fun q h => va_Nw.same rfl (rfl : U.vm = (U.calling g mk a).vm) (hm q h)⟩
theorem ev_n0 {t : Nat → Nat} {A : Nat → Prop} {U : State} {H : Heap} (h : EV t A U H) : va_Nw (.methodLinkNest RX7 9 yX5_init RX7) U := h.2.2 (RX7, 9, yX5_init) (List.mem_of_getElem? (i := 0) rfl)
theorem ev_n1 {t : Nat → Nat} {A : Nat → Prop} {U : State} {H : Heap} (h : EV t A U H) : va_Nw (.methodLinkNest RX7 27 yX6_init RX7) U := h.2.2 (RX7, 27, yX6_init) (List.mem_of_getElem? (i := 1) rfl)
theorem ev_n2 {t : Nat → Nat} {A : Nat → Prop} {U : State} {H : Heap} (h : EV t A U H) : va_Nw (.methodLinkNest RX7 37 yX0_init RX7) U := h.2.2 (RX7, 37, yX0_init) (List.mem_of_getElem? (i := 2) rfl)
theorem ev_n3 {t : Nat → Nat} {A : Nat → Prop} {U : State} {H : Heap} (h : EV t A U H) : va_Nw (.methodLinkNest RX7 51 yX3_init RX7) U := h.2.2 (RX7, 51, yX3_init) (List.mem_of_getElem? (i := 3) rfl)
theorem ev_n4 {t : Nat → Nat} {A : Nat → Prop} {U : State} {H : Heap} (h : EV t A U H) : va_Nw (.methodLinkNest RX7 58 yX1_init RX7) U := h.2.2 (RX7, 58, yX1_init) (List.mem_of_getElem? (i := 4) rfl)
theorem ev_n5 {t : Nat → Nat} {A : Nat → Prop} {U : State} {H : Heap} (h : EV t A U H) : va_Nw (.methodLinkNest RX7 65 yX2_init RX7) U := h.2.2 (RX7, 65, yX2_init) (List.mem_of_getElem? (i := 5) rfl)
theorem ev_n6 {t : Nat → Nat} {A : Nat → Prop} {U : State} {H : Heap} (h : EV t A U H) : va_Nw (.methodLinkNest RX0 30 yX7_spotOf RX7) U := h.2.2 (RX0, 30, yX7_spotOf) (List.mem_of_getElem? (i := 6) rfl)
theorem ev_n7 {t : Nat → Nat} {A : Nat → Prop} {U : State} {H : Heap} (h : EV t A U H) : va_Nw (.methodLinkNest RX0 63 yX7_xOf RX7) U := h.2.2 (RX0, 63, yX7_xOf) (List.mem_of_getElem? (i := 7) rfl)
theorem ev_n8 {t : Nat → Nat} {A : Nat → Prop} {U : State} {H : Heap} (h : EV t A U H) : va_Nw (.methodLinkNest RX0 66 yX7_yOf RX7) U := h.2.2 (RX0, 66, yX7_yOf) (List.mem_of_getElem? (i := 8) rfl)
theorem ev_n9 {t : Nat → Nat} {A : Nat → Prop} {U : State} {H : Heap} (h : EV t A U H) : va_Nw (.methodLinkNest RX0 87 yX7_distance RX7) U := h.2.2 (RX0, 87, yX7_distance) (List.mem_of_getElem? (i := 9) rfl)
theorem ev_n10 {t : Nat → Nat} {A : Nat → Prop} {U : State} {H : Heap} (h : EV t A U H) : va_Nw (.methodLinkNest RX3 21 yX7_yOf RX7) U := h.2.2 (RX3, 21, yX7_yOf) (List.mem_of_getElem? (i := 10) rfl)
theorem ev_n11 {t : Nat → Nat} {A : Nat → Prop} {U : State} {H : Heap} (h : EV t A U H) : va_Nw (.methodLinkNest RX3 25 yX7_xOf RX7) U := h.2.2 (RX3, 25, yX7_xOf) (List.mem_of_getElem? (i := 11) rfl)
abbrev ctP (D : va_G) (cy : Nat → ClassId) (t : Nat → Nat) (av : List Value) (W0 : va_W) (sz : Nat) : Array Value → State → Prop := va_Pc av (fun U => U.heap.size = sz ∧ va_P D vwCl W0 U.heap ∧ va_K D vwCl (TYS cy) U ∧ va_D (fun _ => True) W0 ∧ EV t (va_A W0 sz) U U.heap)
abbrev ctB (D : va_G) (W1 : va_W) : Unit → State → Prop := fun _ u => va_P D vwCl W1 u.heap
def ctI (l : Launch) (y : MethodName) (ws : List Cond) (f lo : Nat) (D : va_G) (cy : Nat → ClassId) (t : Nat → Nat) (av : List Value) (W0 W1 : va_W) (r : Int32) : Prop := W0.map Prod.fst = W1.map Prod.fst ∧ ∀ sz : Nat, Met l y ws (rmm f lo) (ctP D cy t av W0 sz) (va_Qi (fun x (_ : Unit) => x = r) (ctB D W1) (va_A W0 sz)) 0 0 (va_A W0 sz)
def ctL (l : Launch) (y : MethodName) (ws : List Cond) (f lo : Nat) (D : va_G) (cy : Nat → ClassId) (t : Nat → Nat) (av : List Value) (W0 W1 : va_W) (r : Int64) : Prop := W0.map Prod.fst = W1.map Prod.fst ∧ ∀ sz : Nat, Met l y ws (rmm f lo) (ctP D cy t av W0 sz) (va_Ql (fun x (_ : Unit) => x = r) (ctB D W1) (va_A W0 sz)) 0 0 (va_A W0 sz)
def ctV (l : Launch) (y : MethodName) (ws : List Cond) (f lo : Nat) (D : va_G) (cy : Nat → ClassId) (t : Nat → Nat) (av : List Value) (W0 W1 : va_W) : Prop := W0.map Prod.fst = W1.map Prod.fst ∧ ∀ sz : Nat, Met l y ws (rmm f lo) (ctP D cy t av W0 sz) (va_Qv (fun _ => True) (ctB D W1) (va_A W0 sz)) 0 0 (va_A W0 sz)
def pick (ws : va_W) : List Nat → va_W
  | [] => []
  | i :: is => match ws[i]? with
    | some c => c :: pick ws is
    | none => pick ws is
def repl (ws : va_W) : List Nat → va_W → va_W
  | [], _ => ws
  | _ :: _, [] => ws
  | i :: is, c :: cs => repl (ws.set i c) is cs
def chk (n : Nat) (is : List Nat) : Bool := va_nd is && is.all (fun i => decide (i < n))
theorem pick_map (ws : va_W) : ∀ is : List Nat, (∀ i ∈ is, i < ws.length) → is.map (fun i => ws[i]?) = (pick ws is).map some
  | [], _ => rfl
  | i :: is, h => by
    have h1 : i < ws.length := h i List.mem_cons_self
    have h2 := pick_map ws is (fun j hj => h j (List.mem_cons_of_mem _ hj))
    simp only [List.map_cons, pick, List.getElem?_eq_getElem h1, h2]
theorem repl_get : ∀ (is : List Nat) (cs ws : va_W) (k : Nat) (q : Nat × va_E), is.length = cs.length → (repl ws is cs)[k]? = some q → q ∈ cs ∨ (k ∉ is ∧ ws[k]? = some q)
  | [], [], ws, k, q, _, h => Or.inr ⟨List.not_mem_nil, h⟩
  | [], _ :: _, _, _, _, hl, _ => by simp at hl
  | _ :: _, [], _, _, _, hl, _ => by simp at hl
  | i :: is, c :: cs, ws, k, q, hl, h => by
    have hl2 : is.length = cs.length := by simpa using hl
    rcases repl_get is cs (ws.set i c) k q hl2 h with h1 | ⟨h1, h2⟩
    · exact Or.inl (List.mem_cons_of_mem _ h1)
    · by_cases hk : k = i
      · subst hk
        rw [List.getElem?_set] at h2
        rw [if_pos rfl] at h2
        split at h2
        · cases h2
          exact Or.inl List.mem_cons_self
        · cases h2
      · rw [List.getElem?_set_ne (fun e => hk e.symm)] at h2
        exact Or.inr ⟨fun hm => (List.mem_cons.mp hm).elim hk h1, h2⟩
theorem map_fst_set (ws : va_W) (i : Nat) (c : Nat × va_E) (h : (ws.map Prod.fst)[i]? = some c.1) : (ws.set i c).map Prod.fst = ws.map Prod.fst := by
  apply List.ext_getElem?
  intro k
  rw [List.map_set]
  by_cases hk : i = k
  · subst hk
    rw [List.getElem?_set, if_pos rfl]
    split
    · exact h.symm
    · rename_i hh
      rw [List.getElem?_eq_none (Nat.le_of_not_lt hh)]
  · rw [List.getElem?_set_ne hk]
theorem repl_fst : ∀ (is : List Nat) (cs ws : va_W), is.map (fun i => (ws.map Prod.fst)[i]?) = cs.map (fun c => some c.1) → (repl ws is cs).map Prod.fst = ws.map Prod.fst
  | [], [], _, _ => rfl
  | [], _ :: _, _, h => by simp at h
  | _ :: _, [], _, h => by simp at h
  | i :: is, c :: cs, ws, h => by
    simp only [List.map_cons, List.cons.injEq] at h
    have e := map_fst_set ws i c h.1
    show (repl (ws.set i c) is cs).map Prod.fst = _
    rw [repl_fst is cs (ws.set i c) (by rw [e]; exact h.2), e]
theorem va_D.of_fst {A : Nat → Prop} {ws ws' : va_W} (h : ws'.map Prod.fst = ws.map Prod.fst) (hD : va_D A ws) : va_D A ws' := by
  have g : ∀ (k : Nat) (q : Nat × va_E), ws'[k]? = some q → ∃ e : va_E, ws[k]? = some (q.1, e) := by
    intro k q hq
    have h1 : (ws'.map Prod.fst)[k]? = some q.1 := by rw [List.getElem?_map, hq]; rfl
    rw [h, List.getElem?_map] at h1
    cases h2 : ws[k]? with
    | none => rw [h2] at h1; cases h1
    | some r =>
      rw [h2] at h1
      have h3 : r.1 = q.1 := Option.some.inj h1
      exact ⟨r.2, by rw [← h3]⟩
  refine ⟨fun i j p q hi hj e => ?_, fun k q hq => ?_⟩
  · obtain ⟨e1, h1⟩ := g i p hi
    obtain ⟨e2, h2⟩ := g j q hj
    exact hD.1 i j _ _ h1 h2 e
  · obtain ⟨e1, h1⟩ := g k q hq
    exact hD.2 k (q.1, e1) h1
theorem chk_nd {n : Nat} {is : List Nat} (h : chk n is = true) : va_nd is = true := (Bool.and_eq_true _ _ ▸ h).1
theorem chk_lt {n : Nat} {is : List Nat} (h : chk n is = true) : ∀ i ∈ is, i < n := fun i hi => by
  have h2 := (Bool.and_eq_true _ _ ▸ h).2
  have h3 := List.all_eq_true.mp h2 i hi
  exact of_decide_eq_true h3
theorem pick_hC {WS W0 : va_W} {n : Nat} {isC : List Nat} (hn : WS.length = n) (hk : chk n isC = true) (hp : pick WS isC = W0) : isC.map (fun i => WS[i]?) = W0.map some := by
  rw [← hp]
  exact pick_map WS isC (fun i hi => by rw [hn]; exact chk_lt hk i hi)
theorem repl_P {D : va_G} {WS W0 W1 : va_W} {A : Nat → Prop} {isC : List Nat} {H H1 : Heap} (hP : va_P D vwCl WS H) (hD : va_D A WS) (hC : isC.map (fun i => WS[i]?) = W0.map some) (hlen : isC.length = W1.length) (hk : ∀ q : Nat, q < H.size → ¬ va_A W0 H.size q → H1[q]? = H[q]?) (hP1 : va_P D vwCl W1 H1) : va_P D vwCl (repl WS isC W1) H1 := by
  intro k q hq
  rcases repl_get isC W1 WS k q hlen hq with h1 | ⟨h1, h2⟩
  · obtain ⟨j, hj⟩ := List.mem_iff_getElem?.mp h1
    exact hP1 j q hj
  · have hat := hP k q h2
    refine hat.kept (hk q.1 hat.lt ?_)
    rintro (⟨j, e, hj⟩ | hge)
    · have h3 : (W0.map some)[j]? = some (some (q.1, e)) := by rw [List.getElem?_map, hj]; rfl
      rw [← hC, List.getElem?_map] at h3
      cases h4 : isC[j]? with
      | none => rw [h4] at h3; cases h3
      | some i =>
        rw [h4] at h3
        have h5 : WS[i]? = some (q.1, e) := Option.some.inj h3
        have h6 := hD.1 i k _ _ h5 h2 rfl
        subst h6
        exact h1 (List.mem_of_getElem? h4)
    · exact absurd hat.lt (Nat.not_lt.mpr hge)
theorem repl_D {WS W0 W1 : va_W} {A : Nat → Prop} {isC : List Nat} (hD : va_D A WS) (hC : isC.map (fun i => WS[i]?) = W0.map some) (hf : W0.map Prod.fst = W1.map Prod.fst) : va_D A (repl WS isC W1) := by
  refine hD.of_fst (repl_fst isC W1 WS ?_)
  have h1 : isC.map (fun i => (WS.map Prod.fst)[i]?) = (isC.map (fun i => WS[i]?)).map (fun o => o.map Prod.fst) := by
    rw [List.map_map]
    apply List.map_congr_left
    intro i _
    rw [List.getElem?_map]
    rfl
  rw [h1, hC, List.map_map]
  have h2 : W0.map ((fun o => Option.map Prod.fst o) ∘ some) = (W0.map Prod.fst).map some := by rw [List.map_map]; rfl
  have h3 : W1.map (fun c => some c.1) = (W1.map Prod.fst).map some := by rw [List.map_map]; rfl
  rw [h2, h3, hf]
theorem len_C {WS W0 W1 : va_W} {isC : List Nat} (hC : isC.map (fun i => WS[i]?) = W0.map some) (hf : W0.map Prod.fst = W1.map Prod.fst) : isC.length = W1.length := by
  have h1 := congrArg List.length hC
  have h2 := congrArg List.length hf
  simp only [List.length_map] at h1 h2
  omega
theorem ctB_of {D : va_G} {W1 : va_W} {u : Unit} {H : Heap} {t : State} (ht : t.heap = H) (h : va_P D vwCl W1 H) : ctB D W1 u t := by
  subst ht
  exact h
theorem fm_of {α β : Type} {f : α → Option β} : ∀ {is : List α} {ws : List β}, is.map f = ws.map some → is.filterMap f = ws
  | [], [], _ => rfl
  | [], _ :: _, h => by simp at h
  | _ :: _, [], h => by simp at h
  | i :: is, w :: ws, h => by
    simp only [List.map_cons, List.cons.injEq] at h
    simp only [List.filterMap_cons, h.1]
    rw [fm_of h.2]
theorem ctP_blind {D : va_G} {cy : Nat → ClassId} {t : Nat → Nat} {av : List Value} {W0 : va_W} {sz : Nat} : FrameBlind (ctP D cy t av W0 sz) := fun a U g mk q => by
  obtain ⟨q0, q1, qP, qK, qD, qE⟩ := q
  exact ⟨q0, q1, qP, va_K.moved (u := U) (U := U.calling g mk a) (Vm.Alike.refl U.vm) qK, qD, qE.calling g mk a⟩
section MYC
variable {p : Program} {l : Launch} {e : Env} {R : Room} {s : State} {m : MethodId} {args : Array Value} {below : List Frame} {meth : Method} {c : Code} {H : Heap} {locs : List Loc} {cells slots : Nat} {Q : State → Prop} {A : Nat → Prop} {D : va_G} {cy : Nat → ClassId} {t : Nat → Nat} {cc : ByteArray} {pc : Nat} {ls : Array Slot} {rest st0 : List Value}
theorem ct_pre {av : List Value} {W0 WS : va_W} (hK : va_K D vwCl (TYS cy) s) (hE : EV t A s s.heap) (hP : va_P D vwCl WS H) (hD : va_D A WS) (hS : va_S A s.heap H locs) (hA : ∀ q, s.heap.size ≤ q → A q) (isC : List Nat) (hC : isC.map (fun i => WS[i]?) = W0.map some) (hn : va_nd isC = true) : ∀ U : State, U.heap = H → s.WarmedH U.vm → ctP D cy t av W0 H.size av.toArray U := by
  intro U hU hW
  have hFc := va_free (wc := W0) hD hS hA isC hC
  refine ⟨rfl, by rw [hU], by rw [hU]; exact hP.sub isC (fm_of hC), va_K.moved hW.alike hK, (hD.sub isC hn hC).weaken (fun _ _ _ _ => trivial), ?_⟩
  rw [hU]
  exact hE.go hS.2.1 hFc hW
theorem mc_i {W0 W1 WS WS2 : va_W} {r : Int32} {a : Array Value} (hr : va_Run p l e R s m args below meth c H locs cells slots 0 0 (F0 m pc ls st0) rest (va_Qi (fun x (_ : Unit) => x = r) (ctB D W1) (va_A W0 H.size) a) (va_A W0 H.size)) (hP : va_P D vwCl WS H) (hD : va_D A WS) (hS : va_S A s.heap H locs) (hA : ∀ q, s.heap.size ≤ q → A q) (isC : List Nat) (hC : isC.map (fun i => WS[i]?) = W0.map some) (hfst : W0.map Prod.fst = W1.map Prod.fst) (h2 : repl WS isC W1 = WS2)
    (kk : ∀ (H1 : Heap) (locs1 : List Loc), va_P D vwCl WS2 H1 → va_D A WS2 → va_S A s.heap H1 locs1 → W p l e R s m args below meth c H1 locs1 cells slots Q (F0 m (pc + 3) ls (.int r :: rest))) : W p l e R s m args below meth c H locs cells slots Q (F0 m pc ls st0) := by
  have hFc := va_free (wc := W0) hD hS hA isC hC
  refine va_calli hr hS (fun q _ h => hFc q h) hFc (fun x u t H1 locs1 ht hvm hw hB hz hk hS1 => ?_)
  have hP1 : va_P D vwCl W1 t.heap := hB
  rw [ht] at hP1
  subst hw
  subst h2
  exact kk H1 locs1 (repl_P hP hD hC (len_C hC hfst) hk hP1) (repl_D hD hC hfst) hS1
theorem mc_l {W0 W1 WS WS2 : va_W} {r : Int64} {a : Array Value} (hr : va_Run p l e R s m args below meth c H locs cells slots 0 0 (F0 m pc ls st0) rest (va_Ql (fun x (_ : Unit) => x = r) (ctB D W1) (va_A W0 H.size) a) (va_A W0 H.size)) (hP : va_P D vwCl WS H) (hD : va_D A WS) (hS : va_S A s.heap H locs) (hA : ∀ q, s.heap.size ≤ q → A q) (isC : List Nat) (hC : isC.map (fun i => WS[i]?) = W0.map some) (hfst : W0.map Prod.fst = W1.map Prod.fst) (h2 : repl WS isC W1 = WS2)
    (kk : ∀ (H1 : Heap) (locs1 : List Loc), va_P D vwCl WS2 H1 → va_D A WS2 → va_S A s.heap H1 locs1 → W p l e R s m args below meth c H1 locs1 cells slots Q (F0 m (pc + 3) ls (.long r :: rest))) : W p l e R s m args below meth c H locs cells slots Q (F0 m pc ls st0) := by
  have hFc := va_free (wc := W0) hD hS hA isC hC
  refine va_calll hr hS (fun q _ h => hFc q h) hFc (fun x u t H1 locs1 ht hvm hw hB hz hk hS1 => ?_)
  have hP1 : va_P D vwCl W1 t.heap := hB
  rw [ht] at hP1
  subst hw
  subst h2
  exact kk H1 locs1 (repl_P hP hD hC (len_C hC hfst) hk hP1) (repl_D hD hC hfst) hS1
theorem mc_v {W0 W1 WS WS2 : va_W} {a : Array Value} (hr : va_Run p l e R s m args below meth c H locs cells slots 0 0 (F0 m pc ls st0) rest (va_Qv (fun _ => True) (ctB D W1) (va_A W0 H.size) a) (va_A W0 H.size)) (hP : va_P D vwCl WS H) (hD : va_D A WS) (hS : va_S A s.heap H locs) (hA : ∀ q, s.heap.size ≤ q → A q) (isC : List Nat) (hC : isC.map (fun i => WS[i]?) = W0.map some) (hfst : W0.map Prod.fst = W1.map Prod.fst) (h2 : repl WS isC W1 = WS2)
    (kk : ∀ (H1 : Heap) (locs1 : List Loc), va_P D vwCl WS2 H1 → va_D A WS2 → va_S A s.heap H1 locs1 → W p l e R s m args below meth c H1 locs1 cells slots Q (F0 m (pc + 3) ls rest)) : W p l e R s m args below meth c H locs cells slots Q (F0 m pc ls st0) := by
  have hFc := va_free (wc := W0) hD hS hA isC hC
  refine va_callv hr hS (fun q _ h => hFc q h) hFc (fun u t H1 locs1 ht hvm hw hB hz hk hS1 => ?_)
  have hP1 : va_P D vwCl W1 t.heap := hB
  rw [ht] at hP1
  subst h2
  exact kk H1 locs1 (repl_P hP hD hC (len_C hC hfst) hk hP1) (repl_D hD hC hfst) hS1
theorem my_iald (hexec : p.tables.exec = Jvm.exec) (hb : c.code = cc) {ws : va_W} (hK : va_K D vwCl (TYS cy) s) (hP : va_P D vwCl ws H) (q0 : Nat) {a n : Nat} {f : Nat → Int32} (ha : ws[q0]? = some (a, .inl (cy 0, n, .inl f))) {i v : Int32} (hin : vp_in i n) (hv : v = f i.toNatClampNeg) (hdg : decode cc pc = .ok (.iaload, 1))
    (kk : W p l e R s m args below meth c H locs cells slots Q (F0 m (pc + 1) ls (.int v :: rest))) : W p l e R s m args below meth c H locs cells slots Q (F0 m pc ls (.int i :: .ref a :: rest)) := by
  subst hv
  exact va_iald hexec hb hK hP q0 0 ha rfl hin hdg kk
theorem my_zald (hexec : p.tables.exec = Jvm.exec) (hb : c.code = cc) {ws : va_W} (hK : va_K D vwCl (TYS cy) s) (hP : va_P D vwCl ws H) (q0 : Nat) {a n : Nat} {f : Nat → Int32} (ha : ws[q0]? = some (a, .inl (cy 1, n, .inl f))) {i v : Int32} (hin : vp_in i n) (hv : v = f i.toNatClampNeg) (hdg : decode cc pc = .ok (.baload, 1))
    (kk : W p l e R s m args below meth c H locs cells slots Q (F0 m (pc + 1) ls (.int v :: rest))) : W p l e R s m args below meth c H locs cells slots Q (F0 m pc ls (.int i :: .ref a :: rest)) := by
  subst hv
  exact va_zald hexec hb hK hP q0 1 ha rfl hin hdg kk
theorem my_lald (hexec : p.tables.exec = Jvm.exec) (hb : c.code = cc) {ws : va_W} (hK : va_K D vwCl (TYS cy) s) (hP : va_P D vwCl ws H) (q0 : Nat) {a n : Nat} {f : Nat → Int64} (ha : ws[q0]? = some (a, .inl (cy 2, n, .inr (.inl f)))) {i : Int32} {v : Int64} (hin : vp_in i n) (hv : v = f i.toNatClampNeg) (hdg : decode cc pc = .ok (.laload, 1))
    (kk : W p l e R s m args below meth c H locs cells slots Q (F0 m (pc + 1) ls (.long v :: rest))) : W p l e R s m args below meth c H locs cells slots Q (F0 m pc ls (.int i :: .ref a :: rest)) := by
  subst hv
  exact va_lald hexec hb hK hP q0 2 ha rfl hin hdg kk
theorem my_tald (hexec : p.tables.exec = Jvm.exec) (hb : c.code = cc) {a n : Nat} {f : Nat → Int32} (hT : va_T .int a n (fun k => .int (f k)) A s s.heap) (hS : va_S A s.heap H locs) {i v : Int32} (hin : vp_in i n) (hv : v = f i.toNatClampNeg) (hdg : decode cc pc = .ok (.iaload, 1))
    (kk : W p l e R s m args below meth c H locs cells slots Q (F0 m (pc + 1) ls (.int v :: rest))) : W p l e R s m args below meth c H locs cells slots Q (F0 m pc ls (.int i :: .ref a :: rest)) := by
  subst hv
  exact va_ti hexec hb hT hS hin rfl hdg kk
theorem my_aald (hexec : p.tables.exec = Jvm.exec) (hb : c.code = cc) {ws : va_W} (hK : va_K D vwCl (TYS cy) s) (hP : va_P D vwCl ws H) (q0 : Nat) {a n b : Nat} {f : Nat → Option Nat} (ha : ws[q0]? = some (a, .inl (cy 3, n, .inr (.inr (.inr (.inr f)))))) {i : Int32} (hin : vp_in i n) (hv : f i.toNatClampNeg = some b) (hdg : decode cc pc = .ok (.aaload, 1))
    (kk : W p l e R s m args below meth c H locs cells slots Q (F0 m (pc + 1) ls (.ref b :: rest))) : W p l e R s m args below meth c H locs cells slots Q (F0 m pc ls (.int i :: .ref a :: rest)) := by
  refine va_aldq hexec hb hK hP q0 3 ha rfl hin hdg ?_
  rw [hv]
  exact kk
theorem my_iast (hexec : p.tables.exec = Jvm.exec) (hb : c.code = cc) {ws ws2 : va_W} (hK : va_K D vwCl (TYS cy) s) (hP : va_P D vwCl ws H) (hD : va_D A ws) (hS : va_S A s.heap H locs) (q0 : Nat) {a n : Nat} {f g : Nat → Int32} (ha : ws[q0]? = some (a, .inl (cy 0, n, .inl f))) {i x : Int32} (hin : vp_in i n) (hg : g = upd f i.toNatClampNeg x) (h2 : ws.set q0 (a, .inl (cy 0, n, .inl g)) = ws2) (hdg : decode cc pc = .ok (.iastore, 1))
    (kk : ∀ (H1 : Heap) (locs1 : List Loc), va_P D vwCl ws2 H1 → va_D A ws2 → va_S A s.heap H1 locs1 → W p l e R s m args below meth c H1 locs1 cells slots Q (F0 m (pc + 1) ls rest)) : W p l e R s m args below meth c H locs cells slots Q (F0 m pc ls (.int x :: .int i :: .ref a :: rest)) := by
  subst hg h2
  exact va_iast hexec hb hK hP hD hS q0 0 ha rfl hin hdg kk
theorem my_zast (hexec : p.tables.exec = Jvm.exec) (hb : c.code = cc) {ws ws2 : va_W} (hK : va_K D vwCl (TYS cy) s) (hP : va_P D vwCl ws H) (hD : va_D A ws) (hS : va_S A s.heap H locs) (q0 : Nat) {a n : Nat} {f g : Nat → Int32} (ha : ws[q0]? = some (a, .inl (cy 1, n, .inl f))) {i x : Int32} (hin : vp_in i n) (hg : g = upd f i.toNatClampNeg (vp_nar .boolean x)) (h2 : ws.set q0 (a, .inl (cy 1, n, .inl g)) = ws2) (hdg : decode cc pc = .ok (.bastore, 1))
    (kk : ∀ (H1 : Heap) (locs1 : List Loc), va_P D vwCl ws2 H1 → va_D A ws2 → va_S A s.heap H1 locs1 → W p l e R s m args below meth c H1 locs1 cells slots Q (F0 m (pc + 1) ls rest)) : W p l e R s m args below meth c H locs cells slots Q (F0 m pc ls (.int x :: .int i :: .ref a :: rest)) := by
  subst hg h2
  exact va_zast hexec hb hK hP hD hS q0 1 ha rfl hin hdg kk
theorem my_last (hexec : p.tables.exec = Jvm.exec) (hb : c.code = cc) {ws ws2 : va_W} (hK : va_K D vwCl (TYS cy) s) (hP : va_P D vwCl ws H) (hD : va_D A ws) (hS : va_S A s.heap H locs) (q0 : Nat) {a n : Nat} {f g : Nat → Int64} (ha : ws[q0]? = some (a, .inl (cy 2, n, .inr (.inl f)))) {i : Int32} {x : Int64} (hin : vp_in i n) (hg : g = vp_updL f i.toNatClampNeg x) (h2 : ws.set q0 (a, .inl (cy 2, n, .inr (.inl g))) = ws2) (hdg : decode cc pc = .ok (.lastore, 1))
    (kk : ∀ (H1 : Heap) (locs1 : List Loc), va_P D vwCl ws2 H1 → va_D A ws2 → va_S A s.heap H1 locs1 → W p l e R s m args below meth c H1 locs1 cells slots Q (F0 m (pc + 1) ls rest)) : W p l e R s m args below meth c H locs cells slots Q (F0 m pc ls (.long x :: .int i :: .ref a :: rest)) := by
  subst hg h2
  exact va_last hexec hb hK hP hD hS q0 2 ha rfl hin hdg kk
theorem my_topi {x y : Int32} (h : y = x) (k : W p l e R s m args below meth c H locs cells slots Q (F0 m pc ls (.int y :: rest))) : W p l e R s m args below meth c H locs cells slots Q (F0 m pc ls (.int x :: rest)) := by
  subst h
  exact k
theorem my_topl {x y : Int64} (h : y = x) (k : W p l e R s m args below meth c H locs cells slots Q (F0 m pc ls (.long y :: rest))) : W p l e R s m args below meth c H locs cells slots Q (F0 m pc ls (.long x :: rest)) := by
  subst h
  exact k
theorem my_copy (hexec : p.tables.exec = Jvm.exec) (hb : c.code = cc) (hml : c.maxLocals = ls.size) {own : String} {index : Nat} (hown : s.vm.findClass own = some m.cls) (hlink : (Cond.methodLink own index arraycopyName).before args s = true) (hnat : (Cond.native arraycopyName).before args s = true) (hstat : (Cond.static arraycopyName).before args s = true) (hini : (Cond.initialized "java/lang/System").before args s = true)
    {ws ws2 : va_W} (hK : va_K D vwCl (TYS cy) s) (hP : va_P D vwCl ws H) (hD : va_D A ws) (hS : va_S A s.heap H locs) (q0 q1 : Nat) {a a0 n0 n1 : Nat} {f g g' : Nat → Int32} (ha0 : ws[q0]? = some (a0, .inl (cy 0, n0, .inl f))) (ha1 : ws[q1]? = some (a, .inl (cy 0, n1, .inl g)))
    {sp dp n : Int32} (h1 : ¬ sp < 0) (h2 : ¬ dp < 0) (h3 : ¬ n < 0) (h4 : sp.toNatClampNeg + n.toNatClampNeg ≤ n0) (h5 : dp.toNatClampNeg + n.toNatClampNeg ≤ n1) (hg : g' = va_cpy f g sp.toNatClampNeg dp.toNatClampNeg n.toNatClampNeg) (hw : ws.set q1 (a, .inl (cy 0, n1, .inl g')) = ws2)
    (hframes : 1 ≤ R.frames) (hlocals : (rest.map fun v => v.category).sum + (nativeFrameWords "java/lang/System" "arraycopy" 5 + 11) ≤ R.locals) (hdg : decode cc pc = .ok (.invokestatic index, 3))
    (kk : ∀ (H1 : Heap) (locs1 : List Loc), va_P D vwCl ws2 H1 → va_D A ws2 → va_S A s.heap H1 locs1 → W p l e R s m args below meth c H1 locs1 cells slots Q (F0 m (pc + 3) ls rest)) : W p l e R s m args below meth c H locs cells slots Q (F0 m pc ls (.int n :: .int dp :: .ref a :: .int sp :: .ref a0 :: rest)) := by
  subst hg hw
  exact va_copyi hexec hb hml hown hlink hnat hstat hini hK hP hD hS q0 q1 0 0 ha0 ha1 rfl rfl rfl h1 h2 h3 h4 h5 (fun _ _ => rfl) hframes hlocals hdg kk
section MYRUN
variable {W0 W1 WS WS2 : va_W} {own C : String} {index maxL n nL f lo : Nat} {y : MethodName} {bytes : ByteArray} {ret : Option FieldType} {Ts ws : List Cond} {As : List Value} {b : Nat}
theorem my_Vi {r : Int32} (S : CallFix p m c cc nL s args Ts own) (hM : ctI l y ws f lo D cy t (.ref b :: As) W0 W1 r) (cw : CallW R s args own C index y bytes maxL ret ws (rmm f lo) 0 0 n) (hK : va_K D vwCl (TYS cy) s) (hE : EV t A s s.heap) (hP : va_P D vwCl WS H) (hD : va_D A WS) (hS : va_S A s.heap H locs) (hA : ∀ q, s.heap.size ≤ q → A q) (isC : List Nat) (nW : Nat) (ci q0 : Nat) {T : u_T} {N : Nat} {fs : List Value} (hc : vwCl[ci]? = some (C, T, N)) (he : W0[q0]? = some (b, .inr (ci, fs))) (hp : pick WS isC = W0) (hn : WS.length = nW) (hck : chk nW isC = true) (h2 : repl WS isC W1 = WS2) (hlen : As.length = n) (hsize : ls.size = nL) (hst : st0 = As.reverse ++ .ref b :: rest) (hroom : (rest.map fun v => v.category).sum ≤ 8) (hdg : decode cc pc = .ok (.invokevirtual index, 3)) (hf : cells ≤ R.cells ∧ slots ≤ R.slots)
    (kk : ∀ (H1 : Heap) (locs1 : List Loc), va_P D vwCl WS2 H1 → va_D A WS2 → va_S A s.heap H1 locs1 → W p l e R s m args below meth c H1 locs1 cells slots Q (F0 m (pc + 3) ls (.int r :: rest))) : W p l e R s m args below meth c H locs cells slots Q (F0 m pc ls st0) :=
  mc_i (va_runV S (hM.2 H.size) cw ⟨ctP_blind, va_recv hK (hP.sub isC (fm_of (pick_hC hn hck hp))) (ci := ci) (q0 := q0) hc he, ct_pre hK hE hP hD hS hA isC (pick_hC hn hck hp) (chk_nd hck)⟩ rfl hlen hsize hst (lv_room hroom) hdg hf) hP hD hS hA isC (pick_hC hn hck hp) hM.1 h2 kk
theorem my_Vl {r : Int64} (S : CallFix p m c cc nL s args Ts own) (hM : ctL l y ws f lo D cy t (.ref b :: As) W0 W1 r) (cw : CallW R s args own C index y bytes maxL ret ws (rmm f lo) 0 0 n) (hK : va_K D vwCl (TYS cy) s) (hE : EV t A s s.heap) (hP : va_P D vwCl WS H) (hD : va_D A WS) (hS : va_S A s.heap H locs) (hA : ∀ q, s.heap.size ≤ q → A q) (isC : List Nat) (nW : Nat) (ci q0 : Nat) {T : u_T} {N : Nat} {fs : List Value} (hc : vwCl[ci]? = some (C, T, N)) (he : W0[q0]? = some (b, .inr (ci, fs))) (hp : pick WS isC = W0) (hn : WS.length = nW) (hck : chk nW isC = true) (h2 : repl WS isC W1 = WS2) (hlen : As.length = n) (hsize : ls.size = nL) (hst : st0 = As.reverse ++ .ref b :: rest) (hroom : (rest.map fun v => v.category).sum ≤ 8) (hdg : decode cc pc = .ok (.invokevirtual index, 3)) (hf : cells ≤ R.cells ∧ slots ≤ R.slots)
    (kk : ∀ (H1 : Heap) (locs1 : List Loc), va_P D vwCl WS2 H1 → va_D A WS2 → va_S A s.heap H1 locs1 → W p l e R s m args below meth c H1 locs1 cells slots Q (F0 m (pc + 3) ls (.long r :: rest))) : W p l e R s m args below meth c H locs cells slots Q (F0 m pc ls st0) :=
  mc_l (va_runV S (hM.2 H.size) cw ⟨ctP_blind, va_recv hK (hP.sub isC (fm_of (pick_hC hn hck hp))) (ci := ci) (q0 := q0) hc he, ct_pre hK hE hP hD hS hA isC (pick_hC hn hck hp) (chk_nd hck)⟩ rfl hlen hsize hst (lv_room hroom) hdg hf) hP hD hS hA isC (pick_hC hn hck hp) hM.1 h2 kk
theorem my_Vv (S : CallFix p m c cc nL s args Ts own) (hM : ctV l y ws f lo D cy t (.ref b :: As) W0 W1) (cw : CallW R s args own C index y bytes maxL ret ws (rmm f lo) 0 0 n) (hK : va_K D vwCl (TYS cy) s) (hE : EV t A s s.heap) (hP : va_P D vwCl WS H) (hD : va_D A WS) (hS : va_S A s.heap H locs) (hA : ∀ q, s.heap.size ≤ q → A q) (isC : List Nat) (nW : Nat) (ci q0 : Nat) {T : u_T} {N : Nat} {fs : List Value} (hc : vwCl[ci]? = some (C, T, N)) (he : W0[q0]? = some (b, .inr (ci, fs))) (hp : pick WS isC = W0) (hn : WS.length = nW) (hck : chk nW isC = true) (h2 : repl WS isC W1 = WS2) (hlen : As.length = n) (hsize : ls.size = nL) (hst : st0 = As.reverse ++ .ref b :: rest) (hroom : (rest.map fun v => v.category).sum ≤ 8) (hdg : decode cc pc = .ok (.invokevirtual index, 3)) (hf : cells ≤ R.cells ∧ slots ≤ R.slots)
    (kk : ∀ (H1 : Heap) (locs1 : List Loc), va_P D vwCl WS2 H1 → va_D A WS2 → va_S A s.heap H1 locs1 → W p l e R s m args below meth c H1 locs1 cells slots Q (F0 m (pc + 3) ls rest)) : W p l e R s m args below meth c H locs cells slots Q (F0 m pc ls st0) :=
  mc_v (va_runV S (hM.2 H.size) cw ⟨ctP_blind, va_recv hK (hP.sub isC (fm_of (pick_hC hn hck hp))) (ci := ci) (q0 := q0) hc he, ct_pre hK hE hP hD hS hA isC (pick_hC hn hck hp) (chk_nd hck)⟩ rfl hlen hsize hst (lv_room hroom) hdg hf) hP hD hS hA isC (pick_hC hn hck hp) hM.1 h2 kk
theorem my_Si {r : Int32} (S : CallFix p m c cc nL s args Ts own) (hM : ctI l y ws f lo D cy t As W0 W1 r) (cw : CallB R s args own index y bytes maxL ret ws (rmm f lo) 0 0 n ∧ (Cond.static y).before args s = true) (hK : va_K D vwCl (TYS cy) s) (hE : EV t A s s.heap) (hP : va_P D vwCl WS H) (hD : va_D A WS) (hS : va_S A s.heap H locs) (hA : ∀ q, s.heap.size ≤ q → A q) (isC : List Nat) (nW : Nat) (hp : pick WS isC = W0) (hn : WS.length = nW) (hck : chk nW isC = true) (h2 : repl WS isC W1 = WS2) (hlen : As.length = n) (hsize : ls.size = nL) (hst : st0 = As.reverse ++ rest) (hroom : (rest.map fun v => v.category).sum ≤ 8) (hdg : decode cc pc = .ok (.invokestatic index, 3)) (hf : cells ≤ R.cells ∧ slots ≤ R.slots)
    (kk : ∀ (H1 : Heap) (locs1 : List Loc), va_P D vwCl WS2 H1 → va_D A WS2 → va_S A s.heap H1 locs1 → W p l e R s m args below meth c H1 locs1 cells slots Q (F0 m (pc + 3) ls (.int r :: rest))) : W p l e R s m args below meth c H locs cells slots Q (F0 m pc ls st0) :=
  mc_i (va_runS S (hM.2 H.size) cw ⟨ctP_blind, ct_pre hK hE hP hD hS hA isC (pick_hC hn hck hp) (chk_nd hck)⟩ rfl hlen hsize hst (lv_room hroom) hdg hf) hP hD hS hA isC (pick_hC hn hck hp) hM.1 h2 kk
theorem my_Sl {r : Int64} (S : CallFix p m c cc nL s args Ts own) (hM : ctL l y ws f lo D cy t As W0 W1 r) (cw : CallB R s args own index y bytes maxL ret ws (rmm f lo) 0 0 n ∧ (Cond.static y).before args s = true) (hK : va_K D vwCl (TYS cy) s) (hE : EV t A s s.heap) (hP : va_P D vwCl WS H) (hD : va_D A WS) (hS : va_S A s.heap H locs) (hA : ∀ q, s.heap.size ≤ q → A q) (isC : List Nat) (nW : Nat) (hp : pick WS isC = W0) (hn : WS.length = nW) (hck : chk nW isC = true) (h2 : repl WS isC W1 = WS2) (hlen : As.length = n) (hsize : ls.size = nL) (hst : st0 = As.reverse ++ rest) (hroom : (rest.map fun v => v.category).sum ≤ 8) (hdg : decode cc pc = .ok (.invokestatic index, 3)) (hf : cells ≤ R.cells ∧ slots ≤ R.slots)
    (kk : ∀ (H1 : Heap) (locs1 : List Loc), va_P D vwCl WS2 H1 → va_D A WS2 → va_S A s.heap H1 locs1 → W p l e R s m args below meth c H1 locs1 cells slots Q (F0 m (pc + 3) ls (.long r :: rest))) : W p l e R s m args below meth c H locs cells slots Q (F0 m pc ls st0) :=
  mc_l (va_runS S (hM.2 H.size) cw ⟨ctP_blind, ct_pre hK hE hP hD hS hA isC (pick_hC hn hck hp) (chk_nd hck)⟩ rfl hlen hsize hst (lv_room hroom) hdg hf) hP hD hS hA isC (pick_hC hn hck hp) hM.1 h2 kk
theorem my_Sv (S : CallFix p m c cc nL s args Ts own) (hM : ctV l y ws f lo D cy t As W0 W1) (cw : CallB R s args own index y bytes maxL ret ws (rmm f lo) 0 0 n ∧ (Cond.static y).before args s = true) (hK : va_K D vwCl (TYS cy) s) (hE : EV t A s s.heap) (hP : va_P D vwCl WS H) (hD : va_D A WS) (hS : va_S A s.heap H locs) (hA : ∀ q, s.heap.size ≤ q → A q) (isC : List Nat) (nW : Nat) (hp : pick WS isC = W0) (hn : WS.length = nW) (hck : chk nW isC = true) (h2 : repl WS isC W1 = WS2) (hlen : As.length = n) (hsize : ls.size = nL) (hst : st0 = As.reverse ++ rest) (hroom : (rest.map fun v => v.category).sum ≤ 8) (hdg : decode cc pc = .ok (.invokestatic index, 3)) (hf : cells ≤ R.cells ∧ slots ≤ R.slots)
    (kk : ∀ (H1 : Heap) (locs1 : List Loc), va_P D vwCl WS2 H1 → va_D A WS2 → va_S A s.heap H1 locs1 → W p l e R s m args below meth c H1 locs1 cells slots Q (F0 m (pc + 3) ls rest)) : W p l e R s m args below meth c H locs cells slots Q (F0 m pc ls st0) :=
  mc_v (va_runS S (hM.2 H.size) cw ⟨ctP_blind, ct_pre hK hE hP hD hS hA isC (pick_hC hn hck hp) (chk_nd hck)⟩ rfl hlen hsize hst (lv_room hroom) hdg hf) hP hD hS hA isC (pick_hC hn hck hp) hM.1 h2 kk
theorem my_Ni {host : String} {r : Int32} (S : CallFix p m c cc nL s args Ts own) (hM : ctI l y ws f lo D cy t As W0 W1 r) (cw : va_CN R s args own index y host bytes maxL ret ws (rmm f lo) 0 0 n) (hst9 : (Cond.static y).before args s = true) (hK : va_K D vwCl (TYS cy) s) (hE : EV t A s s.heap) (hP : va_P D vwCl WS H) (hD : va_D A WS) (hS : va_S A s.heap H locs) (hA : ∀ q, s.heap.size ≤ q → A q) (isC : List Nat) (nW : Nat) (hp : pick WS isC = W0) (hn : WS.length = nW) (hck : chk nW isC = true) (h2 : repl WS isC W1 = WS2) (hlen : As.length = n) (hsize : ls.size = nL) (hst : st0 = As.reverse ++ rest) (hroom : (rest.map fun v => v.category).sum ≤ 8) (hdg : decode cc pc = .ok (.invokestatic index, 3)) (hf : cells ≤ R.cells ∧ slots ≤ R.slots)
    (kk : ∀ (H1 : Heap) (locs1 : List Loc), va_P D vwCl WS2 H1 → va_D A WS2 → va_S A s.heap H1 locs1 → W p l e R s m args below meth c H1 locs1 cells slots Q (F0 m (pc + 3) ls (.int r :: rest))) : W p l e R s m args below meth c H locs cells slots Q (F0 m pc ls st0) :=
  mc_i (va_runSN S (hM.2 H.size) ⟨cw, hst9, trivial⟩ ⟨ctP_blind, ct_pre hK hE hP hD hS hA isC (pick_hC hn hck hp) (chk_nd hck)⟩ rfl hlen hsize hst (lv_room hroom) hdg hf) hP hD hS hA isC (pick_hC hn hck hp) hM.1 h2 kk
end MYRUN
end MYC
noncomputable def rd {α β : Type} (f : Nat → α) (n : Nat) (i : Int32) (k : α → Option β) : Option β := if ¬ (i < 0 ∨ n ≤ i.toNatClampNeg) then k (f i.toNatClampNeg) else none
theorem rd_s {α β : Type} {f : Nat → α} {n : Nat} {i : Int32} {k : α → Option β} {o : β} (h : rd f n i k = some o) : ∃ v, vp_in i n ∧ v = f i.toNatClampNeg ∧ k v = some o := by
  unfold rd at h
  by_cases hc : ¬ (i < 0 ∨ n ≤ i.toNatClampNeg)
  · rw [if_pos hc] at h
    exact ⟨_, hc, rfl, h⟩
  · rw [if_neg hc] at h
    cases h
noncomputable def wrI {β : Type} (f : Nat → Int32) (n : Nat) (i x : Int32) (k : (Nat → Int32) → Option β) : Option β := if ¬ (i < 0 ∨ n ≤ i.toNatClampNeg) then k (upd f i.toNatClampNeg x) else none
theorem wrI_s {β : Type} {f : Nat → Int32} {n : Nat} {i x : Int32} {k : (Nat → Int32) → Option β} {o : β} (h : wrI f n i x k = some o) : ∃ g, vp_in i n ∧ g = upd f i.toNatClampNeg x ∧ k g = some o := by
  unfold wrI at h
  by_cases hc : ¬ (i < 0 ∨ n ≤ i.toNatClampNeg)
  · rw [if_pos hc] at h
    exact ⟨_, hc, rfl, h⟩
  · rw [if_neg hc] at h
    cases h
noncomputable def wrZ {β : Type} (f : Nat → Int32) (n : Nat) (i x : Int32) (k : (Nat → Int32) → Option β) : Option β := if ¬ (i < 0 ∨ n ≤ i.toNatClampNeg) then k (upd f i.toNatClampNeg (vp_nar .boolean x)) else none
theorem wrZ_s {β : Type} {f : Nat → Int32} {n : Nat} {i x : Int32} {k : (Nat → Int32) → Option β} {o : β} (h : wrZ f n i x k = some o) : ∃ g, vp_in i n ∧ g = upd f i.toNatClampNeg (vp_nar .boolean x) ∧ k g = some o := by
  unfold wrZ at h
  by_cases hc : ¬ (i < 0 ∨ n ≤ i.toNatClampNeg)
  · rw [if_pos hc] at h
    exact ⟨_, hc, rfl, h⟩
  · rw [if_neg hc] at h
    cases h
noncomputable def wrJ {β : Type} (f : Nat → Int64) (n : Nat) (i : Int32) (x : Int64) (k : (Nat → Int64) → Option β) : Option β := if ¬ (i < 0 ∨ n ≤ i.toNatClampNeg) then k (vp_updL f i.toNatClampNeg x) else none
theorem wrJ_s {β : Type} {f : Nat → Int64} {n : Nat} {i : Int32} {x : Int64} {k : (Nat → Int64) → Option β} {o : β} (h : wrJ f n i x k = some o) : ∃ g, vp_in i n ∧ g = vp_updL f i.toNatClampNeg x ∧ k g = some o := by
  unfold wrJ at h
  by_cases hc : ¬ (i < 0 ∨ n ≤ i.toNatClampNeg)
  · rw [if_pos hc] at h
    exact ⟨_, hc, rfl, h⟩
  · rw [if_neg hc] at h
    cases h
noncomputable def gdp {β : Type} (i : Int32) (n : Nat) (k : Option β) : Option β := if ¬ (i < 0 ∨ n ≤ i.toNatClampNeg) then k else none
theorem gdp_s {β : Type} {i : Int32} {n : Nat} {k : Option β} {o : β} (h : gdp i n k = some o) : vp_in i n ∧ k = some o := by
  unfold gdp at h
  by_cases hc : ¬ (i < 0 ∨ n ≤ i.toNatClampNeg)
  · rw [if_pos hc] at h
    exact ⟨hc, h⟩
  · rw [if_neg hc] at h
    cases h
noncomputable def dvI {β : Type} (y : Int32) (k : Option β) : Option β := if y = 0 then none else k
theorem dvI_s {β : Type} {y : Int32} {k : Option β} {o : β} (h : dvI y k = some o) : ¬ y = 0 ∧ k = some o := by
  unfold dvI at h
  by_cases hc : y = 0
  · rw [if_pos hc] at h
    cases h
  · rw [if_neg hc] at h
    exact ⟨hc, h⟩
noncomputable def dvL {β : Type} (y : Int64) (k : Option β) : Option β := if y = 0 then none else k
theorem dvL_s {β : Type} {y : Int64} {k : Option β} {o : β} (h : dvL y k = some o) : ¬ y = 0 ∧ k = some o := by
  unfold dvL at h
  by_cases hc : y = 0
  · rw [if_pos hc] at h
    cases h
  · rw [if_neg hc] at h
    exact ⟨hc, h⟩
noncomputable def zb {β : Type} (v : Int32) (k : Option β) : Option β := if v = 0 ∨ v = 1 then k else none
theorem zb_s {β : Type} {v : Int32} {k : Option β} {o : β} (h : zb v k = some o) : narrow .boolean (.int v) = .int v ∧ k = some o := by
  unfold zb at h
  by_cases hc : v = 0 ∨ v = 1
  · rw [if_pos hc] at h
    exact ⟨by rcases hc with q | q <;> subst q <;> decide, h⟩
  · rw [if_neg hc] at h
    cases h
def nm {α β : Type} (x : α) (k : α → Option β) : Option β := k x
theorem nm_s {α β : Type} {x : α} {k : α → Option β} {o : β} (h : nm x k = some o) : ∃ y, y = x ∧ k y = some o := ⟨x, rfl, h⟩
def bd {α β : Type} (x : Option α) (k : α → Option β) : Option β := match x with
  | none => none
  | some a => k a
theorem bd_s {α β : Type} {x : Option α} {k : α → Option β} {o : β} (h : bd x k = some o) : ∃ r, x = some r ∧ k r = some o := by
  cases x with
  | none => cases h
  | some a => exact ⟨a, rfl, h⟩
theorem ifp {β : Type} {c : Prop} {dc : Decidable c} {a b o : Option β} (hc : c) (h : @ite _ c dc a b = o) : a = o := by
  rw [if_pos hc] at h
  exact h
theorem ifn {β : Type} {c : Prop} {dc : Decidable c} {a b o : Option β} (hc : ¬ c) (h : @ite _ c dc a b = o) : b = o := by
  rw [if_neg hc] at h
  exact h
noncomputable def cpI {β : Type} (f g : Nat → Int32) (n0 n1 : Nat) (sp dp n : Int32) (k : (Nat → Int32) → Option β) : Option β := if ¬ sp < 0 ∧ ¬ dp < 0 ∧ ¬ n < 0 ∧ sp.toNatClampNeg + n.toNatClampNeg ≤ n0 ∧ dp.toNatClampNeg + n.toNatClampNeg ≤ n1 then k (va_cpy f g sp.toNatClampNeg dp.toNatClampNeg n.toNatClampNeg) else none
theorem cpI_s {β : Type} {f g : Nat → Int32} {n0 n1 : Nat} {sp dp n : Int32} {k : (Nat → Int32) → Option β} {o : β} (h : cpI f g n0 n1 sp dp n k = some o) : ∃ g', ¬ sp < 0 ∧ ¬ dp < 0 ∧ ¬ n < 0 ∧ sp.toNatClampNeg + n.toNatClampNeg ≤ n0 ∧ dp.toNatClampNeg + n.toNatClampNeg ≤ n1 ∧ g' = va_cpy f g sp.toNatClampNeg dp.toNatClampNeg n.toNatClampNeg ∧ k g' = some o := by
  unfold cpI at h
  by_cases hc : ¬ sp < 0 ∧ ¬ dp < 0 ∧ ¬ n < 0 ∧ sp.toNatClampNeg + n.toNatClampNeg ≤ n0 ∧ dp.toNatClampNeg + n.toNatClampNeg ≤ n1
  · rw [if_pos hc] at h
    exact ⟨_, hc.1, hc.2.1, hc.2.2.1, hc.2.2.2.1, hc.2.2.2.2, rfl, h⟩
  · rw [if_neg hc] at h
    cases h
def FU : Nat := 4096
theorem ne_ti {x y : Int32} (h : ¬ x = y) : ¬ x.toInt = y.toInt := fun q => h (Int32.toInt_inj.mp q)
end
section
noncomputable def X7_isHand (x_play_hands : Int32) (p1 : Int32) : Option (Int32) :=
  if p1 < (0 : Int32) then (zb (0 : Int32) <| some (0 : Int32)) else (if x_play_hands ≤ p1 then (zb (0 : Int32) <| some (0 : Int32)) else (zb (1 : Int32) <| some (1 : Int32)))
abbrev wd_X7_isHand (cy : Nat → ClassId) (o_t o_t_play o_t_lines o_t_truth o_t_glassTrack o_t_board o_t_otherBoard o_t_fog o_t_crowd o_t_deal : Nat → Nat) (x_play_w : Int32) (x_play_h : Int32) (x_play_hands : Int32) : va_W := [(o_t 0, .inr (7, [.ref (o_t_play 0), .ref (o_t_lines 0), .ref (o_t_truth 0), .ref (o_t_glassTrack 0), .ref (o_t_board 0), .ref (o_t_otherBoard 0), .ref (o_t 7), .ref (o_t_fog 0), .ref (o_t_crowd 0), .ref (o_t_deal 0), .ref (o_t 11), .ref (o_t 12)])), (o_t_play 0, .inr (5, [.int x_play_w, .int x_play_h, .int x_play_hands, .ref (o_t_play 4), .ref (o_t_play 5), .ref (o_t_play 6), .ref (o_t_play 7)]))]
set_option maxHeartbeats 4000000 in
set_option maxRecDepth 100000 in
theorem w_X7_isHand {p : Program} {l : Launch} {e : Env} {s : State} {m : MethodId} {args : Array Value} {below : List Frame} {meth : Method} {c : Code} {Q : State → Prop} {A : Nat → Prop} {H : Heap} {locs : List Loc} {ls : Array Slot} (D : va_G) (cy : Nat → ClassId) (t : Nat → Nat) (o_t o_t_play o_t_lines o_t_truth o_t_glassTrack o_t_board o_t_otherBoard o_t_fog o_t_crowd o_t_deal : Nat → Nat) (x_play_w : Int32) (x_play_h : Int32) (x_play_hands : Int32) (p1 : Int32) {out : Int32} (hf : X7_isHand x_play_hands p1 = some out) (hx : p.tables.exec = Jvm.exec) (hb : c.code = cX7_isHand) (hml : c.maxLocals = 2) (hown : s.vm.findClass RX7 = some m.cls) (hts : ∀ w ∈ wsX7_isHand, w.before args s = true) (hK : va_K D vwCl (TYS cy) s) (hE : EV t A s s.heap) (hA : ∀ q, s.heap.size ≤ q → A q) (hP : va_P D vwCl (wd_X7_isHand cy o_t o_t_play o_t_lines o_t_truth o_t_glassTrack o_t_board o_t_otherBoard o_t_fog o_t_crowd o_t_deal x_play_w x_play_h x_play_hands) H) (hD : va_D A (wd_X7_isHand cy o_t o_t_play o_t_lines o_t_truth o_t_glassTrack o_t_board o_t_otherBoard o_t_fog o_t_crowd o_t_deal x_play_w x_play_h x_play_hands)) (hS : va_S A s.heap H locs) (hl : lv_has ls 2 [(0, .ref (o_t 0)), (1, .int p1)]) (hR : ∀ (H : Heap) (locs : List Loc) (ls : Array Slot) (pc : Nat), va_P D vwCl (wd_X7_isHand cy o_t o_t_play o_t_lines o_t_truth o_t_glassTrack o_t_board o_t_otherBoard o_t_fog o_t_crowd o_t_deal x_play_w x_play_h x_play_hands) H → va_D A (wd_X7_isHand cy o_t o_t_play o_t_lines o_t_truth o_t_glassTrack o_t_board o_t_otherBoard o_t_fog o_t_crowd o_t_deal x_play_w x_play_h x_play_hands) → va_S A s.heap H locs → narrow .boolean (.int out) = .int out → decode cX7_isHand pc = .ok (.ireturn, 1) → W p l e (rmm 0 0) s m args below meth c H locs 0 0 Q (F0 m pc ls [.int out])) : W p l e (rmm 0 0) s m args below meth c H locs 0 0 Q (F0 m 0 ls []) := by
  have k0 := hts (.fieldLink RX7 10 "SeaGames" "play" "LSeaGames$Play;") (List.mem_cons_of_mem _ (List.mem_append_left _ (List.mem_append_left _ (List.mem_of_getElem? (i := 0) rfl))))
  have k1 : ∀ w ∈ u_ws RX7 TX7 12, w ∈ wsX7_isHand := fun _ h => List.mem_cons_of_mem _ (List.mem_append_left _ (List.mem_append_right _ h))
  have k2 := hts (.fieldLink RX7 123 "SeaGames$Play" "hands" "I") (List.mem_cons_of_mem _ (List.mem_append_left _ (List.mem_append_left _ (List.mem_of_getElem? (i := 1) rfl))))
  have k3 : ∀ w ∈ u_ws RX5 TX5 7, w ∈ wsX7_isHand := fun _ h => List.mem_cons_of_mem _ (List.mem_append_right _ h)
  rw [X7_isHand] at hf
  refine lv_iload_n hx hb dX7_isHand_0 rfl (lv_at hl 1 rfl) ?_
  refine lv_if_lt (tgt := 19) hx hb dX7_isHand_1 (by decide) (fun c1 => ?_) (fun c1 => ?_)
  · have hf := ifp c1 hf
    refine lv_iconst (v := (0 : Int32)) hx hb dX7_isHand_19 (by decide) ?_
    obtain ⟨z20, hf⟩ := zb_s hf
    obtain rfl := Option.some.inj hf
    exact hR _ _ _ _ hP hD hS z20 dX7_isHand_20
  · have hf := ifn c1 hf
    refine lv_iload_n hx hb dX7_isHand_4 rfl (lv_at hl 1 rfl) ?_
    refine lv_aload_n hx hb dX7_isHand_5 rfl (lv_at hl 0 rfl) ?_
    refine va_get (D := D) (ci := 7) (v := .ref (o_t_play 0)) (C := RX7) (T := TX7) (N := 12) hx hb hts k1 hown hK hP 0 rfl rfl 0 (by decide) k0 (fun _ h9 => h9) rfl dX7_isHand_6 ?_
    refine va_get (D := D) (ci := 5) (v := .int x_play_hands) (C := RX5) (T := TX5) (N := 7) hx hb hts k3 hown hK hP 1 rfl rfl 2 (by decide) k2 (fun _ h9 => h9) rfl dX7_isHand_9 ?_
    refine lv_icmp_ge (tgt := 19) hx hb dX7_isHand_12 (by decide) (fun c12 => ?_) (fun c12 => ?_)
    · have hf := ifp c12 hf
      refine lv_iconst (v := (0 : Int32)) hx hb dX7_isHand_19 (by decide) ?_
      obtain ⟨z20, hf⟩ := zb_s hf
      obtain rfl := Option.some.inj hf
      exact hR _ _ _ _ hP hD hS z20 dX7_isHand_20
    · have hf := ifn c12 hf
      refine lv_iconst (v := (1 : Int32)) hx hb dX7_isHand_15 (by decide) ?_
      refine lv_goto (tgt := 20) hx hb dX7_isHand_16 (by decide) ?_
      obtain ⟨z20, hf⟩ := zb_s hf
      obtain rfl := Option.some.inj hf
      exact hR _ _ _ _ hP hD hS z20 dX7_isHand_20
theorem hd_X7_isHand : yX7_isHand.cls ≠ "java/lang/invoke/MethodHandle" ∧ yX7_isHand.cls ≠ "java/lang/invoke/VarHandle" ∧ (parseMethodDescriptor yX7_isHand.desc).map (fun d => d.parameters.length) = some 1 := by decide +kernel
set_option maxRecDepth 100000 in
theorem c_X7_isHand (l : Launch) (D : va_G) (cy : Nat → ClassId) (t : Nat → Nat) (o_t o_t_play o_t_lines o_t_truth o_t_glassTrack o_t_board o_t_otherBoard o_t_fog o_t_crowd o_t_deal : Nat → Nat) (x_play_w : Int32) (x_play_h : Int32) (x_play_hands : Int32) (p1 : Int32) {out : Int32} (hf : X7_isHand x_play_hands p1 = some out) : ctI l yX7_isHand wsX7_isHand 0 0 D cy t [.ref (o_t 0), .int p1] (wd_X7_isHand cy o_t o_t_play o_t_lines o_t_truth o_t_glassTrack o_t_board o_t_otherBoard o_t_fog o_t_crowd o_t_deal x_play_w x_play_h x_play_hands) (wd_X7_isHand cy o_t o_t_play o_t_lines o_t_truth o_t_glassTrack o_t_board o_t_otherBoard o_t_fog o_t_crowd o_t_deal x_play_w x_play_h x_play_hands) out := by
  refine ⟨rfl, ?_⟩
  intro sz
  refine Met.ofW (cc := cX7_isHand) (maxL := 2) (ret := (some .boolean)) (by decide) rfl ?_
  intro p e s m args below meth c s₁ B hml hv
  obtain ⟨rfl, hsz, hP, hK, hD0, hE⟩ := hv
  have hts := atoms_spec (ws := wsX7_isHand) B.pre
  have hown : s.vm.findClass RX7 = some m.cls := findClass_of_methodNamed B.named
  have hlocks := B.notSynchronized
  subst hsz
  have hD := hD0.self (sz := s.heap.size)
  have hl := lv_entry ([.ref (o_t 0), .int p1]) (n := 2) (Nat.le_of_ble_eq_true rfl)
  rw [lg_entry_eq]
  generalize (lg_sl ([.ref (o_t 0), .int p1]) ++ List.replicate (2 - (lg_sl ([.ref (o_t 0), .int p1])).length) Slot.unset).toArray = ls at hl ⊢
  exact w_X7_isHand D cy t o_t o_t_play o_t_lines o_t_truth o_t_glassTrack o_t_board o_t_otherBoard o_t_fog o_t_crowd o_t_deal x_play_w x_play_h x_play_hands p1 hf B.exec B.bytes hml hown hts hK hE (fun q h => Or.inr h) hP hD va_S.rf hl (fun H locs ls pc hP hD hS z hdg => W.zret B.exec B.bytes B.returns z (fun t ht hW => ⟨⟨_, (), rfl, rfl, ctB_of ht hP⟩, hS.F ht⟩) hS.2.2 hdg)

noncomputable def X7_isTick (p0 : Int32) : Option (Int32) :=
  if p0 < (0 : Int32) then (zb (0 : Int32) <| some (0 : Int32)) else (if (100 : Int32) ≤ p0 then (zb (0 : Int32) <| some (0 : Int32)) else (zb (1 : Int32) <| some (1 : Int32)))
abbrev wd_X7_isTick (cy : Nat → ClassId) : va_W := []
set_option maxHeartbeats 4000000 in
set_option maxRecDepth 100000 in
theorem w_X7_isTick {p : Program} {l : Launch} {e : Env} {s : State} {m : MethodId} {args : Array Value} {below : List Frame} {meth : Method} {c : Code} {Q : State → Prop} {A : Nat → Prop} {H : Heap} {locs : List Loc} {ls : Array Slot} (D : va_G) (cy : Nat → ClassId) (t : Nat → Nat) (p0 : Int32) {out : Int32} (hf : X7_isTick p0 = some out) (hx : p.tables.exec = Jvm.exec) (hb : c.code = cX7_isTick) (hml : c.maxLocals = 1) (hown : s.vm.findClass RX7 = some m.cls) (hts : ∀ w ∈ wsX7_isTick, w.before args s = true) (hK : va_K D vwCl (TYS cy) s) (hE : EV t A s s.heap) (hA : ∀ q, s.heap.size ≤ q → A q) (hP : va_P D vwCl (wd_X7_isTick cy) H) (hD : va_D A (wd_X7_isTick cy)) (hS : va_S A s.heap H locs) (hl : lv_has ls 1 [(0, .int p0)]) (hR : ∀ (H : Heap) (locs : List Loc) (ls : Array Slot) (pc : Nat), va_P D vwCl (wd_X7_isTick cy) H → va_D A (wd_X7_isTick cy) → va_S A s.heap H locs → narrow .boolean (.int out) = .int out → decode cX7_isTick pc = .ok (.ireturn, 1) → W p l e (rmm 0 0) s m args below meth c H locs 0 0 Q (F0 m pc ls [.int out])) : W p l e (rmm 0 0) s m args below meth c H locs 0 0 Q (F0 m 0 ls []) := by
  rw [X7_isTick] at hf
  refine lv_iload_n hx hb dX7_isTick_0 rfl (lv_at hl 0 rfl) ?_
  refine lv_if_lt (tgt := 14) hx hb dX7_isTick_1 (by decide) (fun c1 => ?_) (fun c1 => ?_)
  · have hf := ifp c1 hf
    refine lv_iconst (v := (0 : Int32)) hx hb dX7_isTick_14 (by decide) ?_
    obtain ⟨z15, hf⟩ := zb_s hf
    obtain rfl := Option.some.inj hf
    exact hR _ _ _ _ hP hD hS z15 dX7_isTick_15
  · have hf := ifn c1 hf
    refine lv_iload_n hx hb dX7_isTick_4 rfl (lv_at hl 0 rfl) ?_
    refine lv_bipush (v := (100 : Int32)) hx hb dX7_isTick_5 (by decide) ?_
    refine lv_icmp_ge (tgt := 14) hx hb dX7_isTick_7 (by decide) (fun c7 => ?_) (fun c7 => ?_)
    · have hf := ifp c7 hf
      refine lv_iconst (v := (0 : Int32)) hx hb dX7_isTick_14 (by decide) ?_
      obtain ⟨z15, hf⟩ := zb_s hf
      obtain rfl := Option.some.inj hf
      exact hR _ _ _ _ hP hD hS z15 dX7_isTick_15
    · have hf := ifn c7 hf
      refine lv_iconst (v := (1 : Int32)) hx hb dX7_isTick_10 (by decide) ?_
      refine lv_goto (tgt := 15) hx hb dX7_isTick_11 (by decide) ?_
      obtain ⟨z15, hf⟩ := zb_s hf
      obtain rfl := Option.some.inj hf
      exact hR _ _ _ _ hP hD hS z15 dX7_isTick_15
theorem hd_X7_isTick : yX7_isTick.cls ≠ "java/lang/invoke/MethodHandle" ∧ yX7_isTick.cls ≠ "java/lang/invoke/VarHandle" ∧ (parseMethodDescriptor yX7_isTick.desc).map (fun d => d.parameters.length) = some 1 := by decide +kernel
set_option maxRecDepth 100000 in
theorem c_X7_isTick (l : Launch) (D : va_G) (cy : Nat → ClassId) (t : Nat → Nat) (p0 : Int32) {out : Int32} (hf : X7_isTick p0 = some out) : ctI l yX7_isTick wsX7_isTick 0 0 D cy t [.int p0] (wd_X7_isTick cy) (wd_X7_isTick cy) out := by
  refine ⟨rfl, ?_⟩
  intro sz
  refine Met.ofW (cc := cX7_isTick) (maxL := 1) (ret := (some .boolean)) (by decide) rfl ?_
  intro p e s m args below meth c s₁ B hml hv
  obtain ⟨rfl, hsz, hP, hK, hD0, hE⟩ := hv
  have hts := atoms_spec (ws := wsX7_isTick) B.pre
  have hown : s.vm.findClass RX7 = some m.cls := findClass_of_methodNamed B.named
  have hlocks := B.notSynchronized
  subst hsz
  have hD := hD0.self (sz := s.heap.size)
  have hl := lv_entry ([.int p0]) (n := 1) (Nat.le_of_ble_eq_true rfl)
  rw [lg_entry_eq]
  generalize (lg_sl ([.int p0]) ++ List.replicate (1 - (lg_sl ([.int p0])).length) Slot.unset).toArray = ls at hl ⊢
  exact w_X7_isTick D cy t  p0 hf B.exec B.bytes hml hown hts hK hE (fun q h => Or.inr h) hP hD va_S.rf hl (fun H locs ls pc hP hD hS z hdg => W.zret B.exec B.bytes B.returns z (fun t ht hW => ⟨⟨_, (), rfl, rfl, ctB_of ht hP⟩, hS.F ht⟩) hS.2.2 hdg)

noncomputable def X7_isSide (p0 : Int32) : Option (Int32) :=
  if p0 < (3 : Int32) then (zb (0 : Int32) <| some (0 : Int32)) else (if (9 : Int32) < p0 then (zb (0 : Int32) <| some (0 : Int32)) else (zb (1 : Int32) <| some (1 : Int32)))
abbrev wd_X7_isSide (cy : Nat → ClassId) : va_W := []
set_option maxHeartbeats 4000000 in
set_option maxRecDepth 100000 in
theorem w_X7_isSide {p : Program} {l : Launch} {e : Env} {s : State} {m : MethodId} {args : Array Value} {below : List Frame} {meth : Method} {c : Code} {Q : State → Prop} {A : Nat → Prop} {H : Heap} {locs : List Loc} {ls : Array Slot} (D : va_G) (cy : Nat → ClassId) (t : Nat → Nat) (p0 : Int32) {out : Int32} (hf : X7_isSide p0 = some out) (hx : p.tables.exec = Jvm.exec) (hb : c.code = cX7_isSide) (hml : c.maxLocals = 1) (hown : s.vm.findClass RX7 = some m.cls) (hts : ∀ w ∈ wsX7_isSide, w.before args s = true) (hK : va_K D vwCl (TYS cy) s) (hE : EV t A s s.heap) (hA : ∀ q, s.heap.size ≤ q → A q) (hP : va_P D vwCl (wd_X7_isSide cy) H) (hD : va_D A (wd_X7_isSide cy)) (hS : va_S A s.heap H locs) (hl : lv_has ls 1 [(0, .int p0)]) (hR : ∀ (H : Heap) (locs : List Loc) (ls : Array Slot) (pc : Nat), va_P D vwCl (wd_X7_isSide cy) H → va_D A (wd_X7_isSide cy) → va_S A s.heap H locs → narrow .boolean (.int out) = .int out → decode cX7_isSide pc = .ok (.ireturn, 1) → W p l e (rmm 0 0) s m args below meth c H locs 0 0 Q (F0 m pc ls [.int out])) : W p l e (rmm 0 0) s m args below meth c H locs 0 0 Q (F0 m 0 ls []) := by
  rw [X7_isSide] at hf
  refine lv_iload_n hx hb dX7_isSide_0 rfl (lv_at hl 0 rfl) ?_
  refine lv_iconst (v := (3 : Int32)) hx hb dX7_isSide_1 (by decide) ?_
  refine lv_icmp_lt (tgt := 15) hx hb dX7_isSide_2 (by decide) (fun c2 => ?_) (fun c2 => ?_)
  · have hf := ifp c2 hf
    refine lv_iconst (v := (0 : Int32)) hx hb dX7_isSide_15 (by decide) ?_
    obtain ⟨z16, hf⟩ := zb_s hf
    obtain rfl := Option.some.inj hf
    exact hR _ _ _ _ hP hD hS z16 dX7_isSide_16
  · have hf := ifn c2 hf
    refine lv_iload_n hx hb dX7_isSide_5 rfl (lv_at hl 0 rfl) ?_
    refine lv_bipush (v := (9 : Int32)) hx hb dX7_isSide_6 (by decide) ?_
    refine lv_icmp_gt (tgt := 15) hx hb dX7_isSide_8 (by decide) (fun c8 => ?_) (fun c8 => ?_)
    · have hf := ifp c8 hf
      refine lv_iconst (v := (0 : Int32)) hx hb dX7_isSide_15 (by decide) ?_
      obtain ⟨z16, hf⟩ := zb_s hf
      obtain rfl := Option.some.inj hf
      exact hR _ _ _ _ hP hD hS z16 dX7_isSide_16
    · have hf := ifn c8 hf
      refine lv_iconst (v := (1 : Int32)) hx hb dX7_isSide_11 (by decide) ?_
      refine lv_goto (tgt := 16) hx hb dX7_isSide_12 (by decide) ?_
      obtain ⟨z16, hf⟩ := zb_s hf
      obtain rfl := Option.some.inj hf
      exact hR _ _ _ _ hP hD hS z16 dX7_isSide_16
theorem hd_X7_isSide : yX7_isSide.cls ≠ "java/lang/invoke/MethodHandle" ∧ yX7_isSide.cls ≠ "java/lang/invoke/VarHandle" ∧ (parseMethodDescriptor yX7_isSide.desc).map (fun d => d.parameters.length) = some 1 := by decide +kernel
set_option maxRecDepth 100000 in
theorem c_X7_isSide (l : Launch) (D : va_G) (cy : Nat → ClassId) (t : Nat → Nat) (p0 : Int32) {out : Int32} (hf : X7_isSide p0 = some out) : ctI l yX7_isSide wsX7_isSide 0 0 D cy t [.int p0] (wd_X7_isSide cy) (wd_X7_isSide cy) out := by
  refine ⟨rfl, ?_⟩
  intro sz
  refine Met.ofW (cc := cX7_isSide) (maxL := 1) (ret := (some .boolean)) (by decide) rfl ?_
  intro p e s m args below meth c s₁ B hml hv
  obtain ⟨rfl, hsz, hP, hK, hD0, hE⟩ := hv
  have hts := atoms_spec (ws := wsX7_isSide) B.pre
  have hown : s.vm.findClass RX7 = some m.cls := findClass_of_methodNamed B.named
  have hlocks := B.notSynchronized
  subst hsz
  have hD := hD0.self (sz := s.heap.size)
  have hl := lv_entry ([.int p0]) (n := 1) (Nat.le_of_ble_eq_true rfl)
  rw [lg_entry_eq]
  generalize (lg_sl ([.int p0]) ++ List.replicate (1 - (lg_sl ([.int p0])).length) Slot.unset).toArray = ls at hl ⊢
  exact w_X7_isSide D cy t  p0 hf B.exec B.bytes hml hown hts hK hE (fun q h => Or.inr h) hP hD va_S.rf hl (fun H locs ls pc hP hD hS z hdg => W.zret B.exec B.bytes B.returns z (fun t ht hW => ⟨⟨_, (), rfl, rfl, ctB_of ht hP⟩, hS.F ht⟩) hS.2.2 hdg)

noncomputable def X7_isPress (p0 : Int32) : Option (Int32) :=
  if p0 < (0 : Int32) then (zb (0 : Int32) <| some (0 : Int32)) else (if (5 : Int32) < p0 then (zb (0 : Int32) <| some (0 : Int32)) else (zb (1 : Int32) <| some (1 : Int32)))
abbrev wd_X7_isPress (cy : Nat → ClassId) : va_W := []
set_option maxHeartbeats 4000000 in
set_option maxRecDepth 100000 in
theorem w_X7_isPress {p : Program} {l : Launch} {e : Env} {s : State} {m : MethodId} {args : Array Value} {below : List Frame} {meth : Method} {c : Code} {Q : State → Prop} {A : Nat → Prop} {H : Heap} {locs : List Loc} {ls : Array Slot} (D : va_G) (cy : Nat → ClassId) (t : Nat → Nat) (p0 : Int32) {out : Int32} (hf : X7_isPress p0 = some out) (hx : p.tables.exec = Jvm.exec) (hb : c.code = cX7_isPress) (hml : c.maxLocals = 1) (hown : s.vm.findClass RX7 = some m.cls) (hts : ∀ w ∈ wsX7_isPress, w.before args s = true) (hK : va_K D vwCl (TYS cy) s) (hE : EV t A s s.heap) (hA : ∀ q, s.heap.size ≤ q → A q) (hP : va_P D vwCl (wd_X7_isPress cy) H) (hD : va_D A (wd_X7_isPress cy)) (hS : va_S A s.heap H locs) (hl : lv_has ls 1 [(0, .int p0)]) (hR : ∀ (H : Heap) (locs : List Loc) (ls : Array Slot) (pc : Nat), va_P D vwCl (wd_X7_isPress cy) H → va_D A (wd_X7_isPress cy) → va_S A s.heap H locs → narrow .boolean (.int out) = .int out → decode cX7_isPress pc = .ok (.ireturn, 1) → W p l e (rmm 0 0) s m args below meth c H locs 0 0 Q (F0 m pc ls [.int out])) : W p l e (rmm 0 0) s m args below meth c H locs 0 0 Q (F0 m 0 ls []) := by
  rw [X7_isPress] at hf
  refine lv_iload_n hx hb dX7_isPress_0 rfl (lv_at hl 0 rfl) ?_
  refine lv_if_lt (tgt := 13) hx hb dX7_isPress_1 (by decide) (fun c1 => ?_) (fun c1 => ?_)
  · have hf := ifp c1 hf
    refine lv_iconst (v := (0 : Int32)) hx hb dX7_isPress_13 (by decide) ?_
    obtain ⟨z14, hf⟩ := zb_s hf
    obtain rfl := Option.some.inj hf
    exact hR _ _ _ _ hP hD hS z14 dX7_isPress_14
  · have hf := ifn c1 hf
    refine lv_iload_n hx hb dX7_isPress_4 rfl (lv_at hl 0 rfl) ?_
    refine lv_iconst (v := (5 : Int32)) hx hb dX7_isPress_5 (by decide) ?_
    refine lv_icmp_gt (tgt := 13) hx hb dX7_isPress_6 (by decide) (fun c6 => ?_) (fun c6 => ?_)
    · have hf := ifp c6 hf
      refine lv_iconst (v := (0 : Int32)) hx hb dX7_isPress_13 (by decide) ?_
      obtain ⟨z14, hf⟩ := zb_s hf
      obtain rfl := Option.some.inj hf
      exact hR _ _ _ _ hP hD hS z14 dX7_isPress_14
    · have hf := ifn c6 hf
      refine lv_iconst (v := (1 : Int32)) hx hb dX7_isPress_9 (by decide) ?_
      refine lv_goto (tgt := 14) hx hb dX7_isPress_10 (by decide) ?_
      obtain ⟨z14, hf⟩ := zb_s hf
      obtain rfl := Option.some.inj hf
      exact hR _ _ _ _ hP hD hS z14 dX7_isPress_14
theorem hd_X7_isPress : yX7_isPress.cls ≠ "java/lang/invoke/MethodHandle" ∧ yX7_isPress.cls ≠ "java/lang/invoke/VarHandle" ∧ (parseMethodDescriptor yX7_isPress.desc).map (fun d => d.parameters.length) = some 1 := by decide +kernel
set_option maxRecDepth 100000 in
theorem c_X7_isPress (l : Launch) (D : va_G) (cy : Nat → ClassId) (t : Nat → Nat) (p0 : Int32) {out : Int32} (hf : X7_isPress p0 = some out) : ctI l yX7_isPress wsX7_isPress 0 0 D cy t [.int p0] (wd_X7_isPress cy) (wd_X7_isPress cy) out := by
  refine ⟨rfl, ?_⟩
  intro sz
  refine Met.ofW (cc := cX7_isPress) (maxL := 1) (ret := (some .boolean)) (by decide) rfl ?_
  intro p e s m args below meth c s₁ B hml hv
  obtain ⟨rfl, hsz, hP, hK, hD0, hE⟩ := hv
  have hts := atoms_spec (ws := wsX7_isPress) B.pre
  have hown : s.vm.findClass RX7 = some m.cls := findClass_of_methodNamed B.named
  have hlocks := B.notSynchronized
  subst hsz
  have hD := hD0.self (sz := s.heap.size)
  have hl := lv_entry ([.int p0]) (n := 1) (Nat.le_of_ble_eq_true rfl)
  rw [lg_entry_eq]
  generalize (lg_sl ([.int p0]) ++ List.replicate (1 - (lg_sl ([.int p0])).length) Slot.unset).toArray = ls at hl ⊢
  exact w_X7_isPress D cy t  p0 hf B.exec B.bytes hml hown hts hK hE (fun q h => Or.inr h) hP hD va_S.rf hl (fun H locs ls pc hP hD hS z hdg => W.zret B.exec B.bytes B.returns z (fun t ht hW => ⟨⟨_, (), rfl, rfl, ctB_of ht hP⟩, hS.F ht⟩) hS.2.2 hdg)

noncomputable def X7_isPower (p0 : Int32) : Option (Int32) :=
  rd st_least 7 (0 : Int32) fun v5 => if p0 < v5 then (zb (0 : Int32) <| some (0 : Int32)) else (rd st_most 7 (0 : Int32) fun v14 => if v14 < p0 then (zb (0 : Int32) <| some (0 : Int32)) else (zb (1 : Int32) <| some (1 : Int32)))
abbrev wd_X7_isPower (cy : Nat → ClassId) : va_W := []
set_option maxHeartbeats 4000000 in
set_option maxRecDepth 100000 in
theorem w_X7_isPower {p : Program} {l : Launch} {e : Env} {s : State} {m : MethodId} {args : Array Value} {below : List Frame} {meth : Method} {c : Code} {Q : State → Prop} {A : Nat → Prop} {H : Heap} {locs : List Loc} {ls : Array Slot} (D : va_G) (cy : Nat → ClassId) (t : Nat → Nat) (p0 : Int32) {out : Int32} (hf : X7_isPower p0 = some out) (hx : p.tables.exec = Jvm.exec) (hb : c.code = cX7_isPower) (hml : c.maxLocals = 1) (hown : s.vm.findClass RX7 = some m.cls) (hts : ∀ w ∈ wsX7_isPower, w.before args s = true) (hK : va_K D vwCl (TYS cy) s) (hE : EV t A s s.heap) (hA : ∀ q, s.heap.size ≤ q → A q) (hP : va_P D vwCl (wd_X7_isPower cy) H) (hD : va_D A (wd_X7_isPower cy)) (hS : va_S A s.heap H locs) (hl : lv_has ls 1 [(0, .int p0)]) (hR : ∀ (H : Heap) (locs : List Loc) (ls : Array Slot) (pc : Nat), va_P D vwCl (wd_X7_isPower cy) H → va_D A (wd_X7_isPower cy) → va_S A s.heap H locs → narrow .boolean (.int out) = .int out → decode cX7_isPower pc = .ok (.ireturn, 1) → W p l e (rmm 0 0) s m args below meth c H locs 0 0 Q (F0 m pc ls [.int out])) : W p l e (rmm 0 0) s m args below meth c H locs 0 0 Q (F0 m 0 ls []) := by
  have k0 := hts (.fieldLink RX7 92 "SeaGames" "LEAST_RULE" "[I") (List.mem_cons_of_mem _ (List.mem_of_getElem? (i := 0) rfl))
  have k1 := hts (.fieldLink RX7 95 "SeaGames" "MOST_RULE" "[I") (List.mem_cons_of_mem _ (List.mem_of_getElem? (i := 1) rfl))
  rw [X7_isPower] at hf
  refine lv_iload_n hx hb dX7_isPower_0 rfl (lv_at hl 0 rfl) ?_
  refine va_gets hx hb hE.1.2.1.1 hS hown k0 (fun _ h9 => h9) dX7_isPower_1 ?_
  refine lv_iconst (v := (0 : Int32)) hx hb dX7_isPower_4 (by decide) ?_
  obtain ⟨v5, b5, ev5, hf⟩ := rd_s hf
  refine my_tald hx hb hE.1.2.1.2 hS b5 ev5 dX7_isPower_5 ?_
  refine lv_icmp_lt (tgt := 22) hx hb dX7_isPower_6 (by decide) (fun c6 => ?_) (fun c6 => ?_)
  · have hf := ifp c6 hf
    refine lv_iconst (v := (0 : Int32)) hx hb dX7_isPower_22 (by decide) ?_
    obtain ⟨z23, hf⟩ := zb_s hf
    obtain rfl := Option.some.inj hf
    exact hR _ _ _ _ hP hD hS z23 dX7_isPower_23
  · have hf := ifn c6 hf
    refine lv_iload_n hx hb dX7_isPower_9 rfl (lv_at hl 0 rfl) ?_
    refine va_gets hx hb hE.1.2.2.1 hS hown k1 (fun _ h9 => h9) dX7_isPower_10 ?_
    refine lv_iconst (v := (0 : Int32)) hx hb dX7_isPower_13 (by decide) ?_
    obtain ⟨v14, b14, ev14, hf⟩ := rd_s hf
    refine my_tald hx hb hE.1.2.2.2 hS b14 ev14 dX7_isPower_14 ?_
    refine lv_icmp_gt (tgt := 22) hx hb dX7_isPower_15 (by decide) (fun c15 => ?_) (fun c15 => ?_)
    · have hf := ifp c15 hf
      refine lv_iconst (v := (0 : Int32)) hx hb dX7_isPower_22 (by decide) ?_
      obtain ⟨z23, hf⟩ := zb_s hf
      obtain rfl := Option.some.inj hf
      exact hR _ _ _ _ hP hD hS z23 dX7_isPower_23
    · have hf := ifn c15 hf
      refine lv_iconst (v := (1 : Int32)) hx hb dX7_isPower_18 (by decide) ?_
      refine lv_goto (tgt := 23) hx hb dX7_isPower_19 (by decide) ?_
      obtain ⟨z23, hf⟩ := zb_s hf
      obtain rfl := Option.some.inj hf
      exact hR _ _ _ _ hP hD hS z23 dX7_isPower_23
theorem hd_X7_isPower : yX7_isPower.cls ≠ "java/lang/invoke/MethodHandle" ∧ yX7_isPower.cls ≠ "java/lang/invoke/VarHandle" ∧ (parseMethodDescriptor yX7_isPower.desc).map (fun d => d.parameters.length) = some 1 := by decide +kernel
set_option maxRecDepth 100000 in
theorem c_X7_isPower (l : Launch) (D : va_G) (cy : Nat → ClassId) (t : Nat → Nat) (p0 : Int32) {out : Int32} (hf : X7_isPower p0 = some out) : ctI l yX7_isPower wsX7_isPower 0 0 D cy t [.int p0] (wd_X7_isPower cy) (wd_X7_isPower cy) out := by
  refine ⟨rfl, ?_⟩
  intro sz
  refine Met.ofW (cc := cX7_isPower) (maxL := 1) (ret := (some .boolean)) (by decide) rfl ?_
  intro p e s m args below meth c s₁ B hml hv
  obtain ⟨rfl, hsz, hP, hK, hD0, hE⟩ := hv
  have hts := atoms_spec (ws := wsX7_isPower) B.pre
  have hown : s.vm.findClass RX7 = some m.cls := findClass_of_methodNamed B.named
  have hlocks := B.notSynchronized
  subst hsz
  have hD := hD0.self (sz := s.heap.size)
  have hl := lv_entry ([.int p0]) (n := 1) (Nat.le_of_ble_eq_true rfl)
  rw [lg_entry_eq]
  generalize (lg_sl ([.int p0]) ++ List.replicate (1 - (lg_sl ([.int p0])).length) Slot.unset).toArray = ls at hl ⊢
  exact w_X7_isPower D cy t  p0 hf B.exec B.bytes hml hown hts hK hE (fun q h => Or.inr h) hP hD va_S.rf hl (fun H locs ls pc hP hD hS z hdg => W.zret B.exec B.bytes B.returns z (fun t ht hW => ⟨⟨_, (), rfl, rfl, ctB_of ht hP⟩, hS.F ht⟩) hS.2.2 hdg)

noncomputable def X7_isShore (p0 : Int32) : Option (Int32) :=
  if p0 < (0 : Int32) then (zb (0 : Int32) <| some (0 : Int32)) else (if (4 : Int32) ≤ p0 then (zb (0 : Int32) <| some (0 : Int32)) else (zb (1 : Int32) <| some (1 : Int32)))
abbrev wd_X7_isShore (cy : Nat → ClassId) : va_W := []
set_option maxHeartbeats 4000000 in
set_option maxRecDepth 100000 in
theorem w_X7_isShore {p : Program} {l : Launch} {e : Env} {s : State} {m : MethodId} {args : Array Value} {below : List Frame} {meth : Method} {c : Code} {Q : State → Prop} {A : Nat → Prop} {H : Heap} {locs : List Loc} {ls : Array Slot} (D : va_G) (cy : Nat → ClassId) (t : Nat → Nat) (p0 : Int32) {out : Int32} (hf : X7_isShore p0 = some out) (hx : p.tables.exec = Jvm.exec) (hb : c.code = cX7_isShore) (hml : c.maxLocals = 1) (hown : s.vm.findClass RX7 = some m.cls) (hts : ∀ w ∈ wsX7_isShore, w.before args s = true) (hK : va_K D vwCl (TYS cy) s) (hE : EV t A s s.heap) (hA : ∀ q, s.heap.size ≤ q → A q) (hP : va_P D vwCl (wd_X7_isShore cy) H) (hD : va_D A (wd_X7_isShore cy)) (hS : va_S A s.heap H locs) (hl : lv_has ls 1 [(0, .int p0)]) (hR : ∀ (H : Heap) (locs : List Loc) (ls : Array Slot) (pc : Nat), va_P D vwCl (wd_X7_isShore cy) H → va_D A (wd_X7_isShore cy) → va_S A s.heap H locs → narrow .boolean (.int out) = .int out → decode cX7_isShore pc = .ok (.ireturn, 1) → W p l e (rmm 0 0) s m args below meth c H locs 0 0 Q (F0 m pc ls [.int out])) : W p l e (rmm 0 0) s m args below meth c H locs 0 0 Q (F0 m 0 ls []) := by
  rw [X7_isShore] at hf
  refine lv_iload_n hx hb dX7_isShore_0 rfl (lv_at hl 0 rfl) ?_
  refine lv_if_lt (tgt := 13) hx hb dX7_isShore_1 (by decide) (fun c1 => ?_) (fun c1 => ?_)
  · have hf := ifp c1 hf
    refine lv_iconst (v := (0 : Int32)) hx hb dX7_isShore_13 (by decide) ?_
    obtain ⟨z14, hf⟩ := zb_s hf
    obtain rfl := Option.some.inj hf
    exact hR _ _ _ _ hP hD hS z14 dX7_isShore_14
  · have hf := ifn c1 hf
    refine lv_iload_n hx hb dX7_isShore_4 rfl (lv_at hl 0 rfl) ?_
    refine lv_iconst (v := (4 : Int32)) hx hb dX7_isShore_5 (by decide) ?_
    refine lv_icmp_ge (tgt := 13) hx hb dX7_isShore_6 (by decide) (fun c6 => ?_) (fun c6 => ?_)
    · have hf := ifp c6 hf
      refine lv_iconst (v := (0 : Int32)) hx hb dX7_isShore_13 (by decide) ?_
      obtain ⟨z14, hf⟩ := zb_s hf
      obtain rfl := Option.some.inj hf
      exact hR _ _ _ _ hP hD hS z14 dX7_isShore_14
    · have hf := ifn c6 hf
      refine lv_iconst (v := (1 : Int32)) hx hb dX7_isShore_9 (by decide) ?_
      refine lv_goto (tgt := 14) hx hb dX7_isShore_10 (by decide) ?_
      obtain ⟨z14, hf⟩ := zb_s hf
      obtain rfl := Option.some.inj hf
      exact hR _ _ _ _ hP hD hS z14 dX7_isShore_14
theorem hd_X7_isShore : yX7_isShore.cls ≠ "java/lang/invoke/MethodHandle" ∧ yX7_isShore.cls ≠ "java/lang/invoke/VarHandle" ∧ (parseMethodDescriptor yX7_isShore.desc).map (fun d => d.parameters.length) = some 1 := by decide +kernel
set_option maxRecDepth 100000 in
theorem c_X7_isShore (l : Launch) (D : va_G) (cy : Nat → ClassId) (t : Nat → Nat) (p0 : Int32) {out : Int32} (hf : X7_isShore p0 = some out) : ctI l yX7_isShore wsX7_isShore 0 0 D cy t [.int p0] (wd_X7_isShore cy) (wd_X7_isShore cy) out := by
  refine ⟨rfl, ?_⟩
  intro sz
  refine Met.ofW (cc := cX7_isShore) (maxL := 1) (ret := (some .boolean)) (by decide) rfl ?_
  intro p e s m args below meth c s₁ B hml hv
  obtain ⟨rfl, hsz, hP, hK, hD0, hE⟩ := hv
  have hts := atoms_spec (ws := wsX7_isShore) B.pre
  have hown : s.vm.findClass RX7 = some m.cls := findClass_of_methodNamed B.named
  have hlocks := B.notSynchronized
  subst hsz
  have hD := hD0.self (sz := s.heap.size)
  have hl := lv_entry ([.int p0]) (n := 1) (Nat.le_of_ble_eq_true rfl)
  rw [lg_entry_eq]
  generalize (lg_sl ([.int p0]) ++ List.replicate (1 - (lg_sl ([.int p0])).length) Slot.unset).toArray = ls at hl ⊢
  exact w_X7_isShore D cy t  p0 hf B.exec B.bytes hml hown hts hK hE (fun q h => Or.inr h) hP hD va_S.rf hl (fun H locs ls pc hP hD hS z hdg => W.zret B.exec B.bytes B.returns z (fun t ht hW => ⟨⟨_, (), rfl, rfl, ctB_of ht hP⟩, hS.F ht⟩) hS.2.2 hdg)

noncomputable def X7_isSlot (p0 : Int32) : Option (Int32) :=
  if p0 < (0 : Int32) then (zb (0 : Int32) <| some (0 : Int32)) else (if (4 : Int32) ≤ p0 then (zb (0 : Int32) <| some (0 : Int32)) else (zb (1 : Int32) <| some (1 : Int32)))
abbrev wd_X7_isSlot (cy : Nat → ClassId) : va_W := []
set_option maxHeartbeats 4000000 in
set_option maxRecDepth 100000 in
theorem w_X7_isSlot {p : Program} {l : Launch} {e : Env} {s : State} {m : MethodId} {args : Array Value} {below : List Frame} {meth : Method} {c : Code} {Q : State → Prop} {A : Nat → Prop} {H : Heap} {locs : List Loc} {ls : Array Slot} (D : va_G) (cy : Nat → ClassId) (t : Nat → Nat) (p0 : Int32) {out : Int32} (hf : X7_isSlot p0 = some out) (hx : p.tables.exec = Jvm.exec) (hb : c.code = cX7_isSlot) (hml : c.maxLocals = 1) (hown : s.vm.findClass RX7 = some m.cls) (hts : ∀ w ∈ wsX7_isSlot, w.before args s = true) (hK : va_K D vwCl (TYS cy) s) (hE : EV t A s s.heap) (hA : ∀ q, s.heap.size ≤ q → A q) (hP : va_P D vwCl (wd_X7_isSlot cy) H) (hD : va_D A (wd_X7_isSlot cy)) (hS : va_S A s.heap H locs) (hl : lv_has ls 1 [(0, .int p0)]) (hR : ∀ (H : Heap) (locs : List Loc) (ls : Array Slot) (pc : Nat), va_P D vwCl (wd_X7_isSlot cy) H → va_D A (wd_X7_isSlot cy) → va_S A s.heap H locs → narrow .boolean (.int out) = .int out → decode cX7_isSlot pc = .ok (.ireturn, 1) → W p l e (rmm 0 0) s m args below meth c H locs 0 0 Q (F0 m pc ls [.int out])) : W p l e (rmm 0 0) s m args below meth c H locs 0 0 Q (F0 m 0 ls []) := by
  rw [X7_isSlot] at hf
  refine lv_iload_n hx hb dX7_isSlot_0 rfl (lv_at hl 0 rfl) ?_
  refine lv_if_lt (tgt := 13) hx hb dX7_isSlot_1 (by decide) (fun c1 => ?_) (fun c1 => ?_)
  · have hf := ifp c1 hf
    refine lv_iconst (v := (0 : Int32)) hx hb dX7_isSlot_13 (by decide) ?_
    obtain ⟨z14, hf⟩ := zb_s hf
    obtain rfl := Option.some.inj hf
    exact hR _ _ _ _ hP hD hS z14 dX7_isSlot_14
  · have hf := ifn c1 hf
    refine lv_iload_n hx hb dX7_isSlot_4 rfl (lv_at hl 0 rfl) ?_
    refine lv_iconst (v := (4 : Int32)) hx hb dX7_isSlot_5 (by decide) ?_
    refine lv_icmp_ge (tgt := 13) hx hb dX7_isSlot_6 (by decide) (fun c6 => ?_) (fun c6 => ?_)
    · have hf := ifp c6 hf
      refine lv_iconst (v := (0 : Int32)) hx hb dX7_isSlot_13 (by decide) ?_
      obtain ⟨z14, hf⟩ := zb_s hf
      obtain rfl := Option.some.inj hf
      exact hR _ _ _ _ hP hD hS z14 dX7_isSlot_14
    · have hf := ifn c6 hf
      refine lv_iconst (v := (1 : Int32)) hx hb dX7_isSlot_9 (by decide) ?_
      refine lv_goto (tgt := 14) hx hb dX7_isSlot_10 (by decide) ?_
      obtain ⟨z14, hf⟩ := zb_s hf
      obtain rfl := Option.some.inj hf
      exact hR _ _ _ _ hP hD hS z14 dX7_isSlot_14
theorem hd_X7_isSlot : yX7_isSlot.cls ≠ "java/lang/invoke/MethodHandle" ∧ yX7_isSlot.cls ≠ "java/lang/invoke/VarHandle" ∧ (parseMethodDescriptor yX7_isSlot.desc).map (fun d => d.parameters.length) = some 1 := by decide +kernel
set_option maxRecDepth 100000 in
theorem c_X7_isSlot (l : Launch) (D : va_G) (cy : Nat → ClassId) (t : Nat → Nat) (p0 : Int32) {out : Int32} (hf : X7_isSlot p0 = some out) : ctI l yX7_isSlot wsX7_isSlot 0 0 D cy t [.int p0] (wd_X7_isSlot cy) (wd_X7_isSlot cy) out := by
  refine ⟨rfl, ?_⟩
  intro sz
  refine Met.ofW (cc := cX7_isSlot) (maxL := 1) (ret := (some .boolean)) (by decide) rfl ?_
  intro p e s m args below meth c s₁ B hml hv
  obtain ⟨rfl, hsz, hP, hK, hD0, hE⟩ := hv
  have hts := atoms_spec (ws := wsX7_isSlot) B.pre
  have hown : s.vm.findClass RX7 = some m.cls := findClass_of_methodNamed B.named
  have hlocks := B.notSynchronized
  subst hsz
  have hD := hD0.self (sz := s.heap.size)
  have hl := lv_entry ([.int p0]) (n := 1) (Nat.le_of_ble_eq_true rfl)
  rw [lg_entry_eq]
  generalize (lg_sl ([.int p0]) ++ List.replicate (1 - (lg_sl ([.int p0])).length) Slot.unset).toArray = ls at hl ⊢
  exact w_X7_isSlot D cy t  p0 hf B.exec B.bytes hml hown hts hK hE (fun q h => Or.inr h) hP hD va_S.rf hl (fun H locs ls pc hP hD hS z hdg => W.zret B.exec B.bytes B.returns z (fun t ht hW => ⟨⟨_, (), rfl, rfl, ctB_of ht hP⟩, hS.F ht⟩) hS.2.2 hdg)

noncomputable def X7_columnOf_J17 (l0 : Int32) (l1 : Int32) : Option (Int32) :=
  if l0 < (10 : Int32) then (some (-1 : Int32)) else (if ((10 : Int32) + l1) ≤ l0 then (some (-1 : Int32)) else (some ((l0 - (10 : Int32)) + (7 : Int32))))
noncomputable def X7_columnOf (p0 : Int32) (p1 : Int32) : Option (Int32) :=
  if p0 = (6 : Int32) then (some p0) else (if p0 < (0 : Int32) then (X7_columnOf_J17   p0 p1) else (if p1 ≤ p0 then (X7_columnOf_J17   p0 p1) else (some p0)))
abbrev wd_X7_columnOf (cy : Nat → ClassId) : va_W := []
set_option maxHeartbeats 4000000 in
set_option maxRecDepth 100000 in
theorem w_X7_columnOf {p : Program} {l : Launch} {e : Env} {s : State} {m : MethodId} {args : Array Value} {below : List Frame} {meth : Method} {c : Code} {Q : State → Prop} {A : Nat → Prop} {H : Heap} {locs : List Loc} {ls : Array Slot} (D : va_G) (cy : Nat → ClassId) (t : Nat → Nat) (p0 : Int32) (p1 : Int32) {out : Int32} (hf : X7_columnOf p0 p1 = some out) (hx : p.tables.exec = Jvm.exec) (hb : c.code = cX7_columnOf) (hml : c.maxLocals = 2) (hown : s.vm.findClass RX7 = some m.cls) (hts : ∀ w ∈ wsX7_columnOf, w.before args s = true) (hK : va_K D vwCl (TYS cy) s) (hE : EV t A s s.heap) (hA : ∀ q, s.heap.size ≤ q → A q) (hP : va_P D vwCl (wd_X7_columnOf cy) H) (hD : va_D A (wd_X7_columnOf cy)) (hS : va_S A s.heap H locs) (hl : lv_has ls 2 [(0, .int p0), (1, .int p1)]) (hR : ∀ (H : Heap) (locs : List Loc) (ls : Array Slot) (pc : Nat), va_P D vwCl (wd_X7_columnOf cy) H → va_D A (wd_X7_columnOf cy) → va_S A s.heap H locs → decode cX7_columnOf pc = .ok (.ireturn, 1) → W p l e (rmm 0 0) s m args below meth c H locs 0 0 Q (F0 m pc ls [.int out])) : W p l e (rmm 0 0) s m args below meth c H locs 0 0 Q (F0 m 0 ls []) := by
  rw [X7_columnOf] at hf
  refine lv_iload_n hx hb dX7_columnOf_0 rfl (lv_at hl 0 rfl) ?_
  refine lv_bipush (v := (6 : Int32)) hx hb dX7_columnOf_1 (by decide) ?_
  refine lv_icmp_eq (tgt := 15) hx hb dX7_columnOf_3 (by decide) (fun c3 => ?_) (fun c3 => ?_)
  · have hf := ifp c3 hf
    refine lv_iload_n hx hb dX7_columnOf_15 rfl (lv_at hl 0 rfl) ?_
    obtain rfl := Option.some.inj hf
    exact hR _ _ _ _ hP hD hS dX7_columnOf_16
  · have hf := ifn c3 hf
    have h17 : ∀ (l0 : Int32) (l1 : Int32) (H : Heap) (locs : List Loc) (ls : Array Slot), X7_columnOf_J17 l0 l1 = some out → va_P D vwCl (wd_X7_columnOf cy) H → va_D A (wd_X7_columnOf cy) → va_S A s.heap H locs → lv_has ls 2 [(0, .int l0), (1, .int l1)] → W p l e (rmm 0 0) s m args below meth c H locs 0 0 Q (F0 m 17 ls []) := by
      intro l0 l1 H locs ls hf hP hD hS hl
      rw [X7_columnOf_J17] at hf
      refine lv_iload_n hx hb dX7_columnOf_17 rfl (lv_at hl 0 rfl) ?_
      refine lv_bipush (v := (10 : Int32)) hx hb dX7_columnOf_18 (by decide) ?_
      refine lv_icmp_lt (tgt := 39) hx hb dX7_columnOf_20 (by decide) (fun c20 => ?_) (fun c20 => ?_)
      · have hf := ifp c20 hf
        refine lv_iconst (v := (-1 : Int32)) hx hb dX7_columnOf_39 (by decide) ?_
        obtain rfl := Option.some.inj hf
        exact hR _ _ _ _ hP hD hS dX7_columnOf_40
      · have hf := ifn c20 hf
        refine lv_iload_n hx hb dX7_columnOf_23 rfl (lv_at hl 0 rfl) ?_
        refine lv_bipush (v := (10 : Int32)) hx hb dX7_columnOf_24 (by decide) ?_
        refine lv_iload_n hx hb dX7_columnOf_26 rfl (lv_at hl 1 rfl) ?_
        refine lv_iadd hx hb dX7_columnOf_27 ?_
        refine lv_icmp_ge (tgt := 39) hx hb dX7_columnOf_28 (by decide) (fun c28 => ?_) (fun c28 => ?_)
        · have hf := ifp c28 hf
          refine lv_iconst (v := (-1 : Int32)) hx hb dX7_columnOf_39 (by decide) ?_
          obtain rfl := Option.some.inj hf
          exact hR _ _ _ _ hP hD hS dX7_columnOf_40
        · have hf := ifn c28 hf
          refine lv_iload_n hx hb dX7_columnOf_31 rfl (lv_at hl 0 rfl) ?_
          refine lv_bipush (v := (10 : Int32)) hx hb dX7_columnOf_32 (by decide) ?_
          refine lv_isub hx hb dX7_columnOf_34 ?_
          refine lv_bipush (v := (7 : Int32)) hx hb dX7_columnOf_35 (by decide) ?_
          refine lv_iadd hx hb dX7_columnOf_37 ?_
          obtain rfl := Option.some.inj hf
          exact hR _ _ _ _ hP hD hS dX7_columnOf_38
    refine lv_iload_n hx hb dX7_columnOf_6 rfl (lv_at hl 0 rfl) ?_
    refine lv_if_lt (tgt := 17) hx hb dX7_columnOf_7 (by decide) (fun c7 => ?_) (fun c7 => ?_)
    · have hf := ifp c7 hf
      exact h17 _ _ _ _ _ hf hP hD hS (lv_sub hl [0, 1] rfl)
    · have hf := ifn c7 hf
      refine lv_iload_n hx hb dX7_columnOf_10 rfl (lv_at hl 0 rfl) ?_
      refine lv_iload_n hx hb dX7_columnOf_11 rfl (lv_at hl 1 rfl) ?_
      refine lv_icmp_ge (tgt := 17) hx hb dX7_columnOf_12 (by decide) (fun c12 => ?_) (fun c12 => ?_)
      · have hf := ifp c12 hf
        exact h17 _ _ _ _ _ hf hP hD hS (lv_sub hl [0, 1] rfl)
      · have hf := ifn c12 hf
        refine lv_iload_n hx hb dX7_columnOf_15 rfl (lv_at hl 0 rfl) ?_
        obtain rfl := Option.some.inj hf
        exact hR _ _ _ _ hP hD hS dX7_columnOf_16
theorem hd_X7_columnOf : yX7_columnOf.cls ≠ "java/lang/invoke/MethodHandle" ∧ yX7_columnOf.cls ≠ "java/lang/invoke/VarHandle" ∧ (parseMethodDescriptor yX7_columnOf.desc).map (fun d => d.parameters.length) = some 2 := by decide +kernel
set_option maxRecDepth 100000 in
theorem c_X7_columnOf (l : Launch) (D : va_G) (cy : Nat → ClassId) (t : Nat → Nat) (p0 : Int32) (p1 : Int32) {out : Int32} (hf : X7_columnOf p0 p1 = some out) : ctI l yX7_columnOf wsX7_columnOf 0 0 D cy t [.int p0, .int p1] (wd_X7_columnOf cy) (wd_X7_columnOf cy) out := by
  refine ⟨rfl, ?_⟩
  intro sz
  refine Met.ofW (cc := cX7_columnOf) (maxL := 2) (ret := (some .int)) (by decide) rfl ?_
  intro p e s m args below meth c s₁ B hml hv
  obtain ⟨rfl, hsz, hP, hK, hD0, hE⟩ := hv
  have hts := atoms_spec (ws := wsX7_columnOf) B.pre
  have hown : s.vm.findClass RX7 = some m.cls := findClass_of_methodNamed B.named
  have hlocks := B.notSynchronized
  subst hsz
  have hD := hD0.self (sz := s.heap.size)
  have hl := lv_entry ([.int p0, .int p1]) (n := 2) (Nat.le_of_ble_eq_true rfl)
  rw [lg_entry_eq]
  generalize (lg_sl ([.int p0, .int p1]) ++ List.replicate (2 - (lg_sl ([.int p0, .int p1])).length) Slot.unset).toArray = ls at hl ⊢
  exact w_X7_columnOf D cy t  p0 p1 hf B.exec B.bytes hml hown hts hK hE (fun q h => Or.inr h) hP hD va_S.rf hl (fun H locs ls pc hP hD hS hdg => W.iret B.exec B.bytes B.returns (fun t ht hW => ⟨⟨_, (), rfl, rfl, ctB_of ht hP⟩, hS.F ht⟩) hS.2.2 hdg)

noncomputable def X7_yOf (p0 : Int32) : Option (Int32) :=
  some (p0 >>> ((4 : Int32) &&& (31 : Int32)))
abbrev wd_X7_yOf (cy : Nat → ClassId) : va_W := []
set_option maxHeartbeats 4000000 in
set_option maxRecDepth 100000 in
theorem w_X7_yOf {p : Program} {l : Launch} {e : Env} {s : State} {m : MethodId} {args : Array Value} {below : List Frame} {meth : Method} {c : Code} {Q : State → Prop} {A : Nat → Prop} {H : Heap} {locs : List Loc} {ls : Array Slot} (D : va_G) (cy : Nat → ClassId) (t : Nat → Nat) (p0 : Int32) {out : Int32} (hf : X7_yOf p0 = some out) (hx : p.tables.exec = Jvm.exec) (hb : c.code = cX7_yOf) (hml : c.maxLocals = 1) (hown : s.vm.findClass RX7 = some m.cls) (hts : ∀ w ∈ wsX7_yOf, w.before args s = true) (hK : va_K D vwCl (TYS cy) s) (hE : EV t A s s.heap) (hA : ∀ q, s.heap.size ≤ q → A q) (hP : va_P D vwCl (wd_X7_yOf cy) H) (hD : va_D A (wd_X7_yOf cy)) (hS : va_S A s.heap H locs) (hl : lv_has ls 1 [(0, .int p0)]) (hR : ∀ (H : Heap) (locs : List Loc) (ls : Array Slot) (pc : Nat), va_P D vwCl (wd_X7_yOf cy) H → va_D A (wd_X7_yOf cy) → va_S A s.heap H locs → decode cX7_yOf pc = .ok (.ireturn, 1) → W p l e (rmm 0 0) s m args below meth c H locs 0 0 Q (F0 m pc ls [.int out])) : W p l e (rmm 0 0) s m args below meth c H locs 0 0 Q (F0 m 0 ls []) := by
  rw [X7_yOf] at hf
  refine lv_iload_n hx hb dX7_yOf_0 rfl (lv_at hl 0 rfl) ?_
  refine lv_iconst (v := (4 : Int32)) hx hb dX7_yOf_1 (by decide) ?_
  refine lv_ishr hx hb dX7_yOf_2 ?_
  obtain rfl := Option.some.inj hf
  exact hR _ _ _ _ hP hD hS dX7_yOf_3
theorem hd_X7_yOf : yX7_yOf.cls ≠ "java/lang/invoke/MethodHandle" ∧ yX7_yOf.cls ≠ "java/lang/invoke/VarHandle" ∧ (parseMethodDescriptor yX7_yOf.desc).map (fun d => d.parameters.length) = some 1 := by decide +kernel
set_option maxRecDepth 100000 in
theorem c_X7_yOf (l : Launch) (D : va_G) (cy : Nat → ClassId) (t : Nat → Nat) (p0 : Int32) {out : Int32} (hf : X7_yOf p0 = some out) : ctI l yX7_yOf wsX7_yOf 0 0 D cy t [.int p0] (wd_X7_yOf cy) (wd_X7_yOf cy) out := by
  refine ⟨rfl, ?_⟩
  intro sz
  refine Met.ofW (cc := cX7_yOf) (maxL := 1) (ret := (some .int)) (by decide) rfl ?_
  intro p e s m args below meth c s₁ B hml hv
  obtain ⟨rfl, hsz, hP, hK, hD0, hE⟩ := hv
  have hts := atoms_spec (ws := wsX7_yOf) B.pre
  have hown : s.vm.findClass RX7 = some m.cls := findClass_of_methodNamed B.named
  have hlocks := B.notSynchronized
  subst hsz
  have hD := hD0.self (sz := s.heap.size)
  have hl := lv_entry ([.int p0]) (n := 1) (Nat.le_of_ble_eq_true rfl)
  rw [lg_entry_eq]
  generalize (lg_sl ([.int p0]) ++ List.replicate (1 - (lg_sl ([.int p0])).length) Slot.unset).toArray = ls at hl ⊢
  exact w_X7_yOf D cy t  p0 hf B.exec B.bytes hml hown hts hK hE (fun q h => Or.inr h) hP hD va_S.rf hl (fun H locs ls pc hP hD hS hdg => W.iret B.exec B.bytes B.returns (fun t ht hW => ⟨⟨_, (), rfl, rfl, ctB_of ht hP⟩, hS.F ht⟩) hS.2.2 hdg)

noncomputable def X7_xOf (p0 : Int32) : Option (Int32) :=
  some (p0 &&& (15 : Int32))
abbrev wd_X7_xOf (cy : Nat → ClassId) : va_W := []
set_option maxHeartbeats 4000000 in
set_option maxRecDepth 100000 in
theorem w_X7_xOf {p : Program} {l : Launch} {e : Env} {s : State} {m : MethodId} {args : Array Value} {below : List Frame} {meth : Method} {c : Code} {Q : State → Prop} {A : Nat → Prop} {H : Heap} {locs : List Loc} {ls : Array Slot} (D : va_G) (cy : Nat → ClassId) (t : Nat → Nat) (p0 : Int32) {out : Int32} (hf : X7_xOf p0 = some out) (hx : p.tables.exec = Jvm.exec) (hb : c.code = cX7_xOf) (hml : c.maxLocals = 1) (hown : s.vm.findClass RX7 = some m.cls) (hts : ∀ w ∈ wsX7_xOf, w.before args s = true) (hK : va_K D vwCl (TYS cy) s) (hE : EV t A s s.heap) (hA : ∀ q, s.heap.size ≤ q → A q) (hP : va_P D vwCl (wd_X7_xOf cy) H) (hD : va_D A (wd_X7_xOf cy)) (hS : va_S A s.heap H locs) (hl : lv_has ls 1 [(0, .int p0)]) (hR : ∀ (H : Heap) (locs : List Loc) (ls : Array Slot) (pc : Nat), va_P D vwCl (wd_X7_xOf cy) H → va_D A (wd_X7_xOf cy) → va_S A s.heap H locs → decode cX7_xOf pc = .ok (.ireturn, 1) → W p l e (rmm 0 0) s m args below meth c H locs 0 0 Q (F0 m pc ls [.int out])) : W p l e (rmm 0 0) s m args below meth c H locs 0 0 Q (F0 m 0 ls []) := by
  rw [X7_xOf] at hf
  refine lv_iload_n hx hb dX7_xOf_0 rfl (lv_at hl 0 rfl) ?_
  refine lv_bipush (v := (15 : Int32)) hx hb dX7_xOf_1 (by decide) ?_
  refine lv_iand hx hb dX7_xOf_3 ?_
  obtain rfl := Option.some.inj hf
  exact hR _ _ _ _ hP hD hS dX7_xOf_4
theorem hd_X7_xOf : yX7_xOf.cls ≠ "java/lang/invoke/MethodHandle" ∧ yX7_xOf.cls ≠ "java/lang/invoke/VarHandle" ∧ (parseMethodDescriptor yX7_xOf.desc).map (fun d => d.parameters.length) = some 1 := by decide +kernel
set_option maxRecDepth 100000 in
theorem c_X7_xOf (l : Launch) (D : va_G) (cy : Nat → ClassId) (t : Nat → Nat) (p0 : Int32) {out : Int32} (hf : X7_xOf p0 = some out) : ctI l yX7_xOf wsX7_xOf 0 0 D cy t [.int p0] (wd_X7_xOf cy) (wd_X7_xOf cy) out := by
  refine ⟨rfl, ?_⟩
  intro sz
  refine Met.ofW (cc := cX7_xOf) (maxL := 1) (ret := (some .int)) (by decide) rfl ?_
  intro p e s m args below meth c s₁ B hml hv
  obtain ⟨rfl, hsz, hP, hK, hD0, hE⟩ := hv
  have hts := atoms_spec (ws := wsX7_xOf) B.pre
  have hown : s.vm.findClass RX7 = some m.cls := findClass_of_methodNamed B.named
  have hlocks := B.notSynchronized
  subst hsz
  have hD := hD0.self (sz := s.heap.size)
  have hl := lv_entry ([.int p0]) (n := 1) (Nat.le_of_ble_eq_true rfl)
  rw [lg_entry_eq]
  generalize (lg_sl ([.int p0]) ++ List.replicate (1 - (lg_sl ([.int p0])).length) Slot.unset).toArray = ls at hl ⊢
  exact w_X7_xOf D cy t  p0 hf B.exec B.bytes hml hown hts hK hE (fun q h => Or.inr h) hP hD va_S.rf hl (fun H locs ls pc hP hD hS hdg => W.iret B.exec B.bytes B.returns (fun t ht hW => ⟨⟨_, (), rfl, rfl, ctB_of ht hP⟩, hS.F ht⟩) hS.2.2 hdg)

noncomputable def X7_told (x_a1_w : Int32) (p1 : Int32) (p2 : Int32) : Option (Int32) :=
  if (7 : Int32) ≤ p2 then (some p1) else (bd (X7_yOf p1) fun r7 => bd (X7_xOf p1) fun r16 => some ((r7 * x_a1_w) + r16))
abbrev wd_X7_told (cy : Nat → ClassId) (o_a1 : Nat → Nat) (x_a1_w : Int32) (x_a1_h : Int32) (x_a1_hands : Int32) : va_W := [(o_a1 0, .inr (5, [.int x_a1_w, .int x_a1_h, .int x_a1_hands, .ref (o_a1 4), .ref (o_a1 5), .ref (o_a1 6), .ref (o_a1 7)]))]
set_option maxHeartbeats 4000000 in
set_option maxRecDepth 100000 in
theorem w_X7_told {p : Program} {l : Launch} {e : Env} {s : State} {m : MethodId} {args : Array Value} {below : List Frame} {meth : Method} {c : Code} {Q : State → Prop} {A : Nat → Prop} {H : Heap} {locs : List Loc} {ls : Array Slot} (D : va_G) (cy : Nat → ClassId) (t : Nat → Nat) (o_a1 : Nat → Nat) (x_a1_w : Int32) (x_a1_h : Int32) (x_a1_hands : Int32) (p1 : Int32) (p2 : Int32) {out : Int32} (hf : X7_told x_a1_w p1 p2 = some out) (hx : p.tables.exec = Jvm.exec) (hb : c.code = cX7_told) (hml : c.maxLocals = 3) (hown : s.vm.findClass RX7 = some m.cls) (hts : ∀ w ∈ wsX7_told, w.before args s = true) (hK : va_K D vwCl (TYS cy) s) (hE : EV t A s s.heap) (hA : ∀ q, s.heap.size ≤ q → A q) (hP : va_P D vwCl (wd_X7_told cy o_a1 x_a1_w x_a1_h x_a1_hands) H) (hD : va_D A (wd_X7_told cy o_a1 x_a1_w x_a1_h x_a1_hands)) (hS : va_S A s.heap H locs) (hl : lv_has ls 3 [(0, .ref (o_a1 0)), (1, .int p1), (2, .int p2)]) (hR : ∀ (H : Heap) (locs : List Loc) (ls : Array Slot) (pc : Nat), va_P D vwCl (wd_X7_told cy o_a1 x_a1_w x_a1_h x_a1_hands) H → va_D A (wd_X7_told cy o_a1 x_a1_w x_a1_h x_a1_hands) → va_S A s.heap H locs → decode cX7_told pc = .ok (.ireturn, 1) → W p l e (rmm 1 20) s m args below meth c H locs 0 0 Q (F0 m pc ls [.int out])) : W p l e (rmm 1 20) s m args below meth c H locs 0 0 Q (F0 m 0 ls []) := by
  have k0 := hts (.fieldLink RX7 209 "SeaGames$Play" "w" "I") (List.mem_cons_of_mem _ (List.mem_append_left _ (List.mem_of_getElem? (i := 0) rfl)))
  have k1 : ∀ w ∈ u_ws RX5 TX5 7, w ∈ wsX7_told := fun _ h => List.mem_cons_of_mem _ (List.mem_append_right _ h)
  rw [X7_told] at hf
  refine lv_iload_n hx hb dX7_told_0 rfl (lv_at hl 2 rfl) ?_
  refine lv_bipush (v := (7 : Int32)) hx hb dX7_told_1 (by decide) ?_
  refine lv_icmp_ge (tgt := 23) hx hb dX7_told_3 (by decide) (fun c3 => ?_) (fun c3 => ?_)
  · have hf := ifp c3 hf
    refine lv_iload_n hx hb dX7_told_23 rfl (lv_at hl 1 rfl) ?_
    obtain rfl := Option.some.inj hf
    exact hR _ _ _ _ hP hD hS dX7_told_24
  · have hf := ifn c3 hf
    refine lv_iload_n hx hb dX7_told_6 rfl (lv_at hl 1 rfl) ?_
    obtain ⟨r7, hr7, hf⟩ := bd_s hf
    refine my_Si (WS2 := (wd_X7_told cy o_a1 x_a1_w x_a1_h x_a1_hands)) ⟨hx, hb, hml, hown, hts⟩ (c_X7_yOf l D cy t p1 hr7) (va_cwS 1 hts gX7_told_X7_yOf rfl rfl rfl hd_X7_yOf ⟨Nat.le_of_ble_eq_true rfl, Nat.le_of_ble_eq_true rfl⟩) hK hE hP hD hS hA [] 1 rfl rfl (by decide +kernel) rfl rfl hl.1 rfl (Nat.le_of_ble_eq_true rfl) dX7_told_7 ⟨Nat.le_of_ble_eq_true rfl, Nat.le_of_ble_eq_true rfl⟩ (fun H locs hP hD hS => ?_)
    refine lv_aload_n hx hb dX7_told_10 rfl (lv_at hl 0 rfl) ?_
    refine va_get (D := D) (ci := 5) (v := .int x_a1_w) (C := RX5) (T := TX5) (N := 7) hx hb hts k1 hown hK hP 0 rfl rfl 0 (by decide) k0 (fun _ h9 => h9) rfl dX7_told_11 ?_
    refine lv_imul hx hb dX7_told_14 ?_
    refine lv_iload_n hx hb dX7_told_15 rfl (lv_at hl 1 rfl) ?_
    obtain ⟨r16, hr16, hf⟩ := bd_s hf
    refine my_Si (WS2 := (wd_X7_told cy o_a1 x_a1_w x_a1_h x_a1_hands)) ⟨hx, hb, hml, hown, hts⟩ (c_X7_xOf l D cy t p1 hr16) (va_cwS 1 hts gX7_told_X7_xOf rfl rfl rfl hd_X7_xOf ⟨Nat.le_of_ble_eq_true rfl, Nat.le_of_ble_eq_true rfl⟩) hK hE hP hD hS hA [] 1 rfl rfl (by decide +kernel) rfl rfl hl.1 rfl (Nat.le_of_ble_eq_true rfl) dX7_told_16 ⟨Nat.le_of_ble_eq_true rfl, Nat.le_of_ble_eq_true rfl⟩ (fun H locs hP hD hS => ?_)
    refine lv_iadd hx hb dX7_told_19 ?_
    refine lv_goto (tgt := 24) hx hb dX7_told_20 (by decide) ?_
    obtain rfl := Option.some.inj hf
    exact hR _ _ _ _ hP hD hS dX7_told_24
theorem hd_X7_told : yX7_told.cls ≠ "java/lang/invoke/MethodHandle" ∧ yX7_told.cls ≠ "java/lang/invoke/VarHandle" ∧ (parseMethodDescriptor yX7_told.desc).map (fun d => d.parameters.length) = some 3 := by decide +kernel
set_option maxRecDepth 100000 in
theorem c_X7_told (l : Launch) (D : va_G) (cy : Nat → ClassId) (t : Nat → Nat) (o_a1 : Nat → Nat) (x_a1_w : Int32) (x_a1_h : Int32) (x_a1_hands : Int32) (p1 : Int32) (p2 : Int32) {out : Int32} (hf : X7_told x_a1_w p1 p2 = some out) : ctI l yX7_told wsX7_told 1 20 D cy t [.ref (o_a1 0), .int p1, .int p2] (wd_X7_told cy o_a1 x_a1_w x_a1_h x_a1_hands) (wd_X7_told cy o_a1 x_a1_w x_a1_h x_a1_hands) out := by
  refine ⟨rfl, ?_⟩
  intro sz
  refine Met.ofW (cc := cX7_told) (maxL := 3) (ret := (some .int)) (by decide) rfl ?_
  intro p e s m args below meth c s₁ B hml hv
  obtain ⟨rfl, hsz, hP, hK, hD0, hE⟩ := hv
  have hts := atoms_spec (ws := wsX7_told) B.pre
  have hown : s.vm.findClass RX7 = some m.cls := findClass_of_methodNamed B.named
  have hlocks := B.notSynchronized
  subst hsz
  have hD := hD0.self (sz := s.heap.size)
  have hl := lv_entry ([.ref (o_a1 0), .int p1, .int p2]) (n := 3) (Nat.le_of_ble_eq_true rfl)
  rw [lg_entry_eq]
  generalize (lg_sl ([.ref (o_a1 0), .int p1, .int p2]) ++ List.replicate (3 - (lg_sl ([.ref (o_a1 0), .int p1, .int p2])).length) Slot.unset).toArray = ls at hl ⊢
  exact w_X7_told D cy t o_a1 x_a1_w x_a1_h x_a1_hands p1 p2 hf B.exec B.bytes hml hown hts hK hE (fun q h => Or.inr h) hP hD va_S.rf hl (fun H locs ls pc hP hD hS hdg => W.iret B.exec B.bytes B.returns (fun t ht hW => ⟨⟨_, (), rfl, rfl, ctB_of ht hP⟩, hS.F ht⟩) hS.2.2 hdg)

noncomputable def X7_spotOf_J32 (l2 : Int32) (l3 : Int32) : Option (Int32) :=
  some (((16 : Int32) * l3) + l2)
noncomputable def X7_spotOf_L7_B (rec7 : Int32 → Int32 → Int32 → Int32 → Option (Int32)) (l1 : Int32) (l2 : Int32) (l3 : Int32) (l4 : Int32) : Option (Int32) :=
  if (9 : Int32) ≤ l4 then (X7_spotOf_J32   l2 l3) else (if l2 < l1 then (X7_spotOf_J32   l2 l3) else (nm (l2 - l1) fun v22 => nm (l3 + (1 : Int32)) fun v23 => nm (l4 + (1 : Int32)) fun v26 => rec7  l1 v22 v23 v26))
noncomputable def X7_spotOf_L7 : Nat → Int32 → Int32 → Int32 → Int32 → Option (Int32)
  | 0, _, _, _, _ => none
  | n + 1, y0, y1, y2, y3 => X7_spotOf_L7_B  (X7_spotOf_L7  n) y0 y1 y2 y3
noncomputable def X7_spotOf (p0 : Int32) (p1 : Int32) : Option (Int32) :=
  X7_spotOf_L7  FU  p1 p0 (0 : Int32) (0 : Int32)
abbrev wd_X7_spotOf (cy : Nat → ClassId) : va_W := []
set_option maxHeartbeats 4000000 in
set_option maxRecDepth 100000 in
theorem w_X7_spotOf {p : Program} {l : Launch} {e : Env} {s : State} {m : MethodId} {args : Array Value} {below : List Frame} {meth : Method} {c : Code} {Q : State → Prop} {A : Nat → Prop} {H : Heap} {locs : List Loc} {ls : Array Slot} (D : va_G) (cy : Nat → ClassId) (t : Nat → Nat) (p0 : Int32) (p1 : Int32) {out : Int32} (hf : X7_spotOf p0 p1 = some out) (hx : p.tables.exec = Jvm.exec) (hb : c.code = cX7_spotOf) (hml : c.maxLocals = 5) (hown : s.vm.findClass RX7 = some m.cls) (hts : ∀ w ∈ wsX7_spotOf, w.before args s = true) (hK : va_K D vwCl (TYS cy) s) (hE : EV t A s s.heap) (hA : ∀ q, s.heap.size ≤ q → A q) (hP : va_P D vwCl (wd_X7_spotOf cy) H) (hD : va_D A (wd_X7_spotOf cy)) (hS : va_S A s.heap H locs) (hl : lv_has ls 5 [(0, .int p0), (1, .int p1)]) (hR : ∀ (H : Heap) (locs : List Loc) (ls : Array Slot) (pc : Nat), va_P D vwCl (wd_X7_spotOf cy) H → va_D A (wd_X7_spotOf cy) → va_S A s.heap H locs → decode cX7_spotOf pc = .ok (.ireturn, 1) → W p l e (rmm 0 0) s m args below meth c H locs 0 0 Q (F0 m pc ls [.int out])) : W p l e (rmm 0 0) s m args below meth c H locs 0 0 Q (F0 m 0 ls []) := by
  rw [X7_spotOf] at hf
  have h7 : ∀ (n7 : Nat) (l1 : Int32) (l2 : Int32) (l3 : Int32) (l4 : Int32) (H : Heap) (locs : List Loc) (ls : Array Slot), X7_spotOf_L7 n7 l1 l2 l3 l4 = some out → va_P D vwCl (wd_X7_spotOf cy) H → va_D A (wd_X7_spotOf cy) → va_S A s.heap H locs → lv_has ls 5 [(1, .int l1), (2, .int l2), (3, .int l3), (4, .int l4)] → W p l e (rmm 0 0) s m args below meth c H locs 0 0 Q (F0 m 7 ls []) := by
    intro n7
    induction n7 with
    | zero =>
      intro _ _ _ _ _ _ _ hf
      exact nomatch (show (none : Option _) = some out from hf)
    | succ n7 ih7 =>
      intro l1 l2 l3 l4 H locs ls hf hP hD hS hl
      have hf : X7_spotOf_L7_B (X7_spotOf_L7 n7) l1 l2 l3 l4 = some out := hf
      rw [X7_spotOf_L7_B] at hf
      have h32 : ∀ (l2 : Int32) (l3 : Int32) (H : Heap) (locs : List Loc) (ls : Array Slot), X7_spotOf_J32 l2 l3 = some out → va_P D vwCl (wd_X7_spotOf cy) H → va_D A (wd_X7_spotOf cy) → va_S A s.heap H locs → lv_has ls 5 [(2, .int l2), (3, .int l3)] → W p l e (rmm 0 0) s m args below meth c H locs 0 0 Q (F0 m 32 ls []) := by
        intro l2 l3 H locs ls hf hP hD hS hl
        rw [X7_spotOf_J32] at hf
        refine lv_bipush (v := (16 : Int32)) hx hb dX7_spotOf_32 (by decide) ?_
        refine lv_iload_n hx hb dX7_spotOf_34 rfl (lv_at hl 1 rfl) ?_
        refine lv_imul hx hb dX7_spotOf_35 ?_
        refine lv_iload_n hx hb dX7_spotOf_36 rfl (lv_at hl 0 rfl) ?_
        refine lv_iadd hx hb dX7_spotOf_37 ?_
        obtain rfl := Option.some.inj hf
        exact hR _ _ _ _ hP hD hS dX7_spotOf_38
      refine lv_iload hx hb dX7_spotOf_7 (lv_at hl 3 rfl) ?_
      refine lv_bipush (v := (9 : Int32)) hx hb dX7_spotOf_9 (by decide) ?_
      refine lv_icmp_ge (tgt := 32) hx hb dX7_spotOf_11 (by decide) (fun c11 => ?_) (fun c11 => ?_)
      · have hf := ifp c11 hf
        exact h32 _ _ _ _ _ hf hP hD hS (lv_sub hl [1, 2] rfl)
      · have hf := ifn c11 hf
        refine lv_iload_n hx hb dX7_spotOf_14 rfl (lv_at hl 1 rfl) ?_
        refine lv_iload_n hx hb dX7_spotOf_15 rfl (lv_at hl 0 rfl) ?_
        refine lv_icmp_lt (tgt := 32) hx hb dX7_spotOf_16 (by decide) (fun c16 => ?_) (fun c16 => ?_)
        · have hf := ifp c16 hf
          exact h32 _ _ _ _ _ hf hP hD hS (lv_sub hl [1, 2] rfl)
        · have hf := ifn c16 hf
          refine lv_iload_n hx hb dX7_spotOf_19 rfl (lv_at hl 1 rfl) ?_
          refine lv_iload_n hx hb dX7_spotOf_20 rfl (lv_at hl 0 rfl) ?_
          refine lv_isub hx hb dX7_spotOf_21 ?_
          obtain ⟨v22, ev22, hf⟩ := nm_s hf
          refine my_topi ev22 ?_
          refine lv_istore_n (lv' := [(2, .int v22), (1, .int l1), (3, .int l3), (4, .int l4)]) hx hb dX7_spotOf_22 rfl hl (by decide) rfl (fun ls hl => ?_)
          obtain ⟨v23, ev23, hf⟩ := nm_s hf
          refine lv_iinc (v := v23) (lv' := [(3, .int v23), (2, .int v22), (1, .int l1), (4, .int l4)]) hx hb dX7_spotOf_23 hl (k := 2) rfl (by rw [ev23]; rfl) (by decide) rfl (fun ls hl => ?_)
          obtain ⟨v26, ev26, hf⟩ := nm_s hf
          refine lv_iinc (v := v26) (lv' := [(4, .int v26), (3, .int v23), (2, .int v22), (1, .int l1)]) hx hb dX7_spotOf_26 hl (k := 3) rfl (by rw [ev26]; rfl) (by decide) rfl (fun ls hl => ?_)
          refine lv_goto (tgt := 7) hx hb dX7_spotOf_29 (by decide) ?_
          exact ih7 _ _ _ _ _ _ _ hf hP hD hS (lv_sub hl [3, 2, 1, 0] rfl)
  refine lv_iload_n hx hb dX7_spotOf_0 rfl (lv_at hl 0 rfl) ?_
  refine lv_istore_n (lv' := [(2, .int p0), (0, .int p0), (1, .int p1)]) hx hb dX7_spotOf_1 rfl hl (by decide) rfl (fun ls hl => ?_)
  refine lv_iconst (v := (0 : Int32)) hx hb dX7_spotOf_2 (by decide) ?_
  refine lv_istore_n (lv' := [(3, .int (0 : Int32)), (2, .int p0), (0, .int p0), (1, .int p1)]) hx hb dX7_spotOf_3 rfl hl (by decide) rfl (fun ls hl => ?_)
  refine lv_iconst (v := (0 : Int32)) hx hb dX7_spotOf_4 (by decide) ?_
  refine lv_istore (lv' := [(4, .int (0 : Int32)), (3, .int (0 : Int32)), (2, .int p0), (0, .int p0), (1, .int p1)]) hx hb dX7_spotOf_5 hl (by decide) rfl (fun ls hl => ?_)
  exact h7 FU _ _ _ _ _ _ _ hf hP hD hS (lv_sub hl [4, 2, 1, 0] rfl)
theorem hd_X7_spotOf : yX7_spotOf.cls ≠ "java/lang/invoke/MethodHandle" ∧ yX7_spotOf.cls ≠ "java/lang/invoke/VarHandle" ∧ (parseMethodDescriptor yX7_spotOf.desc).map (fun d => d.parameters.length) = some 2 := by decide +kernel
set_option maxRecDepth 100000 in
theorem c_X7_spotOf (l : Launch) (D : va_G) (cy : Nat → ClassId) (t : Nat → Nat) (p0 : Int32) (p1 : Int32) {out : Int32} (hf : X7_spotOf p0 p1 = some out) : ctI l yX7_spotOf wsX7_spotOf 0 0 D cy t [.int p0, .int p1] (wd_X7_spotOf cy) (wd_X7_spotOf cy) out := by
  refine ⟨rfl, ?_⟩
  intro sz
  refine Met.ofW (cc := cX7_spotOf) (maxL := 5) (ret := (some .int)) (by decide) rfl ?_
  intro p e s m args below meth c s₁ B hml hv
  obtain ⟨rfl, hsz, hP, hK, hD0, hE⟩ := hv
  have hts := atoms_spec (ws := wsX7_spotOf) B.pre
  have hown : s.vm.findClass RX7 = some m.cls := findClass_of_methodNamed B.named
  have hlocks := B.notSynchronized
  subst hsz
  have hD := hD0.self (sz := s.heap.size)
  have hl := lv_entry ([.int p0, .int p1]) (n := 5) (Nat.le_of_ble_eq_true rfl)
  rw [lg_entry_eq]
  generalize (lg_sl ([.int p0, .int p1]) ++ List.replicate (5 - (lg_sl ([.int p0, .int p1])).length) Slot.unset).toArray = ls at hl ⊢
  exact w_X7_spotOf D cy t  p0 p1 hf B.exec B.bytes hml hown hts hK hE (fun q h => Or.inr h) hP hD va_S.rf hl (fun H locs ls pc hP hD hS hdg => W.iret B.exec B.bytes B.returns (fun t ht hW => ⟨⟨_, (), rfl, rfl, ctB_of ht hP⟩, hS.F ht⟩) hS.2.2 hdg)

noncomputable def X7_distance (p0 : Int32) (p1 : Int32) : Option (Int32) :=
  bd (X7_xOf p0) fun r1 => bd (X7_xOf p1) fun r5 => bd (X7_yOf p0) fun r13 => bd (X7_yOf p1) fun r17 => some ((if (0 : Int32) ≤ (r1 - r5) then (r1 - r5) else (0 : Int32) - (r1 - r5)) + (if (0 : Int32) ≤ (r13 - r17) then (r13 - r17) else (0 : Int32) - (r13 - r17)))
abbrev wd_X7_distance (cy : Nat → ClassId) : va_W := []
set_option maxHeartbeats 4000000 in
set_option maxRecDepth 100000 in
theorem w_X7_distance {p : Program} {l : Launch} {e : Env} {s : State} {m : MethodId} {args : Array Value} {below : List Frame} {meth : Method} {c : Code} {Q : State → Prop} {A : Nat → Prop} {H : Heap} {locs : List Loc} {ls : Array Slot} (D : va_G) (cy : Nat → ClassId) (t : Nat → Nat) (p0 : Int32) (p1 : Int32) {out : Int32} (hf : X7_distance p0 p1 = some out) (hx : p.tables.exec = Jvm.exec) (hb : c.code = cX7_distance) (hml : c.maxLocals = 2) (hown : s.vm.findClass RX7 = some m.cls) (hts : ∀ w ∈ wsX7_distance, w.before args s = true) (hK : va_K D vwCl (TYS cy) s) (hE : EV t A s s.heap) (hA : ∀ q, s.heap.size ≤ q → A q) (hP : va_P D vwCl (wd_X7_distance cy) H) (hD : va_D A (wd_X7_distance cy)) (hS : va_S A s.heap H locs) (hl : lv_has ls 2 [(0, .int p0), (1, .int p1)]) (hR : ∀ (H : Heap) (locs : List Loc) (ls : Array Slot) (pc : Nat), va_P D vwCl (wd_X7_distance cy) H → va_D A (wd_X7_distance cy) → va_S A s.heap H locs → decode cX7_distance pc = .ok (.ireturn, 1) → W p l e (rmm 1 21) s m args below meth c H locs 0 0 Q (F0 m pc ls [.int out])) : W p l e (rmm 1 21) s m args below meth c H locs 0 0 Q (F0 m 0 ls []) := by
  have k0 := hts (.methodLink RX7 299 Lib.Math.abs.name) (List.mem_cons_of_mem _ (List.mem_of_getElem? (i := 0) rfl))
  have k1 := hts (.static Lib.Math.abs.name) (List.mem_cons_of_mem _ (List.mem_of_getElem? (i := 1) rfl))
  have k2 := hts (.initialized "java/lang/Math") (List.mem_cons_of_mem _ (List.mem_of_getElem? (i := 2) rfl))
  have k3 := hts (.code Lib.Math.abs.name Lib.Math.abs.code 1 (some .int)) (List.mem_cons_of_mem _ (List.mem_of_getElem? (i := 3) rfl))
  rw [X7_distance] at hf
  refine lv_iload_n hx hb dX7_distance_0 rfl (lv_at hl 0 rfl) ?_
  obtain ⟨r1, hr1, hf⟩ := bd_s hf
  refine my_Si (WS2 := (wd_X7_distance cy)) ⟨hx, hb, hml, hown, hts⟩ (c_X7_xOf l D cy t p0 hr1) (va_cwS 1 hts gX7_distance_X7_xOf rfl rfl rfl hd_X7_xOf ⟨Nat.le_of_ble_eq_true rfl, Nat.le_of_ble_eq_true rfl⟩) hK hE hP hD hS hA [] 0 rfl rfl (by decide +kernel) rfl rfl hl.1 rfl (Nat.le_of_ble_eq_true rfl) dX7_distance_1 ⟨Nat.le_of_ble_eq_true rfl, Nat.le_of_ble_eq_true rfl⟩ (fun H locs hP hD hS => ?_)
  refine lv_iload_n hx hb dX7_distance_4 rfl (lv_at hl 1 rfl) ?_
  obtain ⟨r5, hr5, hf⟩ := bd_s hf
  refine my_Si (WS2 := (wd_X7_distance cy)) ⟨hx, hb, hml, hown, hts⟩ (c_X7_xOf l D cy t p1 hr5) (va_cwS 1 hts gX7_distance_X7_xOf rfl rfl rfl hd_X7_xOf ⟨Nat.le_of_ble_eq_true rfl, Nat.le_of_ble_eq_true rfl⟩) hK hE hP hD hS hA [] 0 rfl rfl (by decide +kernel) rfl rfl hl.1 rfl (Nat.le_of_ble_eq_true rfl) dX7_distance_5 ⟨Nat.le_of_ble_eq_true rfl, Nat.le_of_ble_eq_true rfl⟩ (fun H locs hP hD hS => ?_)
  refine lv_isub hx hb dX7_distance_8 ?_
  refine va_mabs hx hb (hml.trans hl.1.symm) hown k0 k1 k2 k3 (Nat.le_of_ble_eq_true rfl) (Nat.le_of_ble_eq_true rfl) (Nat.le_of_ble_eq_true rfl) (Nat.le_of_ble_eq_true rfl) dX7_distance_9 ?_
  refine lv_iload_n hx hb dX7_distance_12 rfl (lv_at hl 0 rfl) ?_
  obtain ⟨r13, hr13, hf⟩ := bd_s hf
  refine my_Si (WS2 := (wd_X7_distance cy)) ⟨hx, hb, hml, hown, hts⟩ (c_X7_yOf l D cy t p0 hr13) (va_cwS 1 hts gX7_distance_X7_yOf rfl rfl rfl hd_X7_yOf ⟨Nat.le_of_ble_eq_true rfl, Nat.le_of_ble_eq_true rfl⟩) hK hE hP hD hS hA [] 0 rfl rfl (by decide +kernel) rfl rfl hl.1 rfl (Nat.le_of_ble_eq_true rfl) dX7_distance_13 ⟨Nat.le_of_ble_eq_true rfl, Nat.le_of_ble_eq_true rfl⟩ (fun H locs hP hD hS => ?_)
  refine lv_iload_n hx hb dX7_distance_16 rfl (lv_at hl 1 rfl) ?_
  obtain ⟨r17, hr17, hf⟩ := bd_s hf
  refine my_Si (WS2 := (wd_X7_distance cy)) ⟨hx, hb, hml, hown, hts⟩ (c_X7_yOf l D cy t p1 hr17) (va_cwS 1 hts gX7_distance_X7_yOf rfl rfl rfl hd_X7_yOf ⟨Nat.le_of_ble_eq_true rfl, Nat.le_of_ble_eq_true rfl⟩) hK hE hP hD hS hA [] 0 rfl rfl (by decide +kernel) rfl rfl hl.1 rfl (Nat.le_of_ble_eq_true rfl) dX7_distance_17 ⟨Nat.le_of_ble_eq_true rfl, Nat.le_of_ble_eq_true rfl⟩ (fun H locs hP hD hS => ?_)
  refine lv_isub hx hb dX7_distance_20 ?_
  refine va_mabs hx hb (hml.trans hl.1.symm) hown k0 k1 k2 k3 (Nat.le_of_ble_eq_true rfl) (Nat.le_of_ble_eq_true rfl) (Nat.le_of_ble_eq_true rfl) (Nat.le_of_ble_eq_true rfl) dX7_distance_21 ?_
  refine lv_iadd hx hb dX7_distance_24 ?_
  obtain rfl := Option.some.inj hf
  exact hR _ _ _ _ hP hD hS dX7_distance_25
theorem hd_X7_distance : yX7_distance.cls ≠ "java/lang/invoke/MethodHandle" ∧ yX7_distance.cls ≠ "java/lang/invoke/VarHandle" ∧ (parseMethodDescriptor yX7_distance.desc).map (fun d => d.parameters.length) = some 2 := by decide +kernel
set_option maxRecDepth 100000 in
theorem c_X7_distance (l : Launch) (D : va_G) (cy : Nat → ClassId) (t : Nat → Nat) (p0 : Int32) (p1 : Int32) {out : Int32} (hf : X7_distance p0 p1 = some out) : ctI l yX7_distance wsX7_distance 1 21 D cy t [.int p0, .int p1] (wd_X7_distance cy) (wd_X7_distance cy) out := by
  refine ⟨rfl, ?_⟩
  intro sz
  refine Met.ofW (cc := cX7_distance) (maxL := 2) (ret := (some .int)) (by decide) rfl ?_
  intro p e s m args below meth c s₁ B hml hv
  obtain ⟨rfl, hsz, hP, hK, hD0, hE⟩ := hv
  have hts := atoms_spec (ws := wsX7_distance) B.pre
  have hown : s.vm.findClass RX7 = some m.cls := findClass_of_methodNamed B.named
  have hlocks := B.notSynchronized
  subst hsz
  have hD := hD0.self (sz := s.heap.size)
  have hl := lv_entry ([.int p0, .int p1]) (n := 2) (Nat.le_of_ble_eq_true rfl)
  rw [lg_entry_eq]
  generalize (lg_sl ([.int p0, .int p1]) ++ List.replicate (2 - (lg_sl ([.int p0, .int p1])).length) Slot.unset).toArray = ls at hl ⊢
  exact w_X7_distance D cy t  p0 p1 hf B.exec B.bytes hml hown hts hK hE (fun q h => Or.inr h) hP hD va_S.rf hl (fun H locs ls pc hP hD hS hdg => W.iret B.exec B.bytes B.returns (fun t ht hW => ⟨⟨_, (), rfl, rfl, ctB_of ht hP⟩, hS.F ht⟩) hS.2.2 hdg)

noncomputable def J7_fill_53178_L5_B (n_a1 : Nat) (rec5 : (Nat → Int32) → Int32 → Int32 → Int32 → Option ((Nat → Int32))) (x_a1 : Nat → Int32) (l1 : Int32) (l2 : Int32) (l3 : Int32) : Option ((Nat → Int32)) :=
  if l3 ≤ l2 then (some x_a1) else (wrI x_a1 n_a1 l2 l1 fun w13 => nm (l2 + (1 : Int32)) fun v14 => rec5 w13 l1 v14 l3)
noncomputable def J7_fill_53178_L5 (n_a1 : Nat) : Nat → (Nat → Int32) → Int32 → Int32 → Int32 → Option ((Nat → Int32))
  | 0, _, _, _, _ => none
  | n + 1, y0, y1, y2, y3 => J7_fill_53178_L5_B n_a1  (J7_fill_53178_L5 n_a1  n) y0 y1 y2 y3
noncomputable def J7_fill_53178 (n_a1 : Nat) (x_a1 : Nat → Int32) (p1 : Int32) : Option ((Nat → Int32)) :=
  nm (Int32.ofNat n_a1) fun v4 => J7_fill_53178_L5 n_a1  FU x_a1 p1 (0 : Int32) v4
abbrev wd_J7_fill_53178 (cy : Nat → ClassId) (r_a1 n_a1 : Nat) (x_a1 : Nat → Int32) : va_W := [(r_a1, .inl (cy 0, n_a1, .inl x_a1))]
set_option maxHeartbeats 4000000 in
set_option maxRecDepth 100000 in
theorem w_J7_fill_53178 {p : Program} {l : Launch} {e : Env} {s : State} {m : MethodId} {args : Array Value} {below : List Frame} {meth : Method} {c : Code} {Q : State → Prop} {A : Nat → Prop} {H : Heap} {locs : List Loc} {ls : Array Slot} (D : va_G) (cy : Nat → ClassId) (t : Nat → Nat) (r_a1 n_a1 : Nat) (x_a1 : Nat → Int32) (p1 : Int32) {out : (Nat → Int32)} (hf : J7_fill_53178 n_a1 x_a1 p1 = some out) (hx : p.tables.exec = Jvm.exec) (hb : c.code = cJ7_fill_53178) (hml : c.maxLocals = 4) (hown : s.vm.findClass RJ7 = some m.cls) (hts : ∀ w ∈ wsJ7_fill_53178, w.before args s = true) (hK : va_K D vwCl (TYS cy) s) (hE : EV t A s s.heap) (hA : ∀ q, s.heap.size ≤ q → A q) (hP : va_P D vwCl (wd_J7_fill_53178 cy r_a1 n_a1 x_a1) H) (hD : va_D A (wd_J7_fill_53178 cy r_a1 n_a1 x_a1)) (hS : va_S A s.heap H locs) (hl : lv_has ls 4 [(0, .ref r_a1), (1, .int p1)]) (hR : ∀ (H : Heap) (locs : List Loc) (ls : Array Slot) (pc : Nat), va_P D vwCl (wd_J7_fill_53178 cy r_a1 n_a1 out) H → va_D A (wd_J7_fill_53178 cy r_a1 n_a1 out) → va_S A s.heap H locs → decode cJ7_fill_53178 pc = .ok (.return_, 1) → W p l e (rmm 0 0) s m args below meth c H locs 0 0 Q (F0 m pc ls [])) : W p l e (rmm 0 0) s m args below meth c H locs 0 0 Q (F0 m 0 ls []) := by
  rw [J7_fill_53178] at hf
  have h5 : ∀ (n5 : Nat) (x_a1 : Nat → Int32) (l1 : Int32) (l2 : Int32) (l3 : Int32) (H : Heap) (locs : List Loc) (ls : Array Slot), J7_fill_53178_L5 n_a1 n5 x_a1 l1 l2 l3 = some out → va_P D vwCl (wd_J7_fill_53178 cy r_a1 n_a1 x_a1) H → va_D A (wd_J7_fill_53178 cy r_a1 n_a1 x_a1) → va_S A s.heap H locs → lv_has ls 4 [(0, .ref r_a1), (1, .int l1), (2, .int l2), (3, .int l3)] → W p l e (rmm 0 0) s m args below meth c H locs 0 0 Q (F0 m 5 ls []) := by
    intro n5
    induction n5 with
    | zero =>
      intro _ _ _ _ _ _ _ hf
      exact nomatch (show (none : Option _) = some out from hf)
    | succ n5 ih5 =>
      intro x_a1 l1 l2 l3 H locs ls hf hP hD hS hl
      have hf : J7_fill_53178_L5_B n_a1 (J7_fill_53178_L5 n_a1 n5) x_a1 l1 l2 l3 = some out := hf
      rw [J7_fill_53178_L5_B] at hf
      refine lv_iload_n hx hb dJ7_fill_53178_5 rfl (lv_at hl 2 rfl) ?_
      refine lv_iload_n hx hb dJ7_fill_53178_6 rfl (lv_at hl 3 rfl) ?_
      refine lv_icmp_ge (tgt := 20) hx hb dJ7_fill_53178_7 (by decide) (fun c7 => ?_) (fun c7 => ?_)
      · have hf := ifp c7 hf
        obtain rfl := Option.some.inj hf
        exact hR _ _ _ _ hP hD hS dJ7_fill_53178_20
      · have hf := ifn c7 hf
        refine lv_aload_n hx hb dJ7_fill_53178_10 rfl (lv_at hl 0 rfl) ?_
        refine lv_iload_n hx hb dJ7_fill_53178_11 rfl (lv_at hl 2 rfl) ?_
        refine lv_iload_n hx hb dJ7_fill_53178_12 rfl (lv_at hl 1 rfl) ?_
        obtain ⟨w13, b13, ew13, hf⟩ := wrI_s hf
        refine my_iast (ws2 := (wd_J7_fill_53178 cy r_a1 n_a1 w13)) hx hb hK hP hD hS 0 rfl b13 ew13 rfl dJ7_fill_53178_13 (fun H locs hP hD hS => ?_)
        obtain ⟨v14, ev14, hf⟩ := nm_s hf
        refine lv_iinc (v := v14) (lv' := [(2, .int v14), (0, .ref r_a1), (1, .int l1), (3, .int l3)]) hx hb dJ7_fill_53178_14 hl (k := 2) rfl (by rw [ev14]; rfl) (by decide) rfl (fun ls hl => ?_)
        refine lv_goto (tgt := 5) hx hb dJ7_fill_53178_17 (by decide) ?_
        exact ih5 _ _ _ _ _ _ _ hf hP hD hS (lv_sub hl [1, 2, 0, 3] rfl)
  refine lv_iconst (v := (0 : Int32)) hx hb dJ7_fill_53178_0 (by decide) ?_
  refine lv_istore_n (lv' := [(2, .int (0 : Int32)), (0, .ref r_a1), (1, .int p1)]) hx hb dJ7_fill_53178_1 rfl hl (by decide) rfl (fun ls hl => ?_)
  refine lv_aload_n hx hb dJ7_fill_53178_2 rfl (lv_at hl 1 rfl) ?_
  refine va_alen hx hb hK hP 0 0 rfl rfl (v := (Int32.ofNat n_a1)) rfl dJ7_fill_53178_3 ?_
  obtain ⟨v4, ev4, hf⟩ := nm_s hf
  refine my_topi ev4 ?_
  refine lv_istore_n (lv' := [(3, .int v4), (2, .int (0 : Int32)), (0, .ref r_a1), (1, .int p1)]) hx hb dJ7_fill_53178_4 rfl hl (by decide) rfl (fun ls hl => ?_)
  exact h5 FU _ _ _ _ _ _ _ hf hP hD hS (lv_sub hl [2, 3, 1, 0] rfl)
theorem hd_J7_fill_53178 : yJ7_fill_53178.cls ≠ "java/lang/invoke/MethodHandle" ∧ yJ7_fill_53178.cls ≠ "java/lang/invoke/VarHandle" ∧ (parseMethodDescriptor yJ7_fill_53178.desc).map (fun d => d.parameters.length) = some 2 := by decide +kernel
set_option maxRecDepth 100000 in
theorem c_J7_fill_53178 (l : Launch) (D : va_G) (cy : Nat → ClassId) (t : Nat → Nat) (r_a1 n_a1 : Nat) (x_a1 : Nat → Int32) (p1 : Int32) {out : (Nat → Int32)} (hf : J7_fill_53178 n_a1 x_a1 p1 = some out) : ctV l yJ7_fill_53178 wsJ7_fill_53178 0 0 D cy t [.ref r_a1, .int p1] (wd_J7_fill_53178 cy r_a1 n_a1 x_a1) (wd_J7_fill_53178 cy r_a1 n_a1 out) := by
  refine ⟨rfl, ?_⟩
  intro sz
  refine Met.ofW (cc := cJ7_fill_53178) (maxL := 4) (ret := none) (by decide) rfl ?_
  intro p e s m args below meth c s₁ B hml hv
  obtain ⟨rfl, hsz, hP, hK, hD0, hE⟩ := hv
  have hts := atoms_spec (ws := wsJ7_fill_53178) B.pre
  have hown : s.vm.findClass RJ7 = some m.cls := findClass_of_methodNamed B.named
  have hlocks := B.notSynchronized
  subst hsz
  have hD := hD0.self (sz := s.heap.size)
  have hl := lv_entry ([.ref r_a1, .int p1]) (n := 4) (Nat.le_of_ble_eq_true rfl)
  rw [lg_entry_eq]
  generalize (lg_sl ([.ref r_a1, .int p1]) ++ List.replicate (4 - (lg_sl ([.ref r_a1, .int p1])).length) Slot.unset).toArray = ls at hl ⊢
  exact w_J7_fill_53178 D cy t  r_a1 n_a1 x_a1 p1 hf B.exec B.bytes hml hown hts hK hE (fun q h => Or.inr h) hP hD va_S.rf hl (fun H locs ls pc hP hD hS hdg => W.vret B.exec B.bytes B.returns (fun t ht hW => ⟨⟨(), rfl, trivial, ctB_of ht hP⟩, hS.F ht⟩) hS.2.2 hdg)

noncomputable def J7_fill_d0a16_L6_B (n_a1 : Nat) (rec6 : (Nat → Int64) → Int64 → Int32 → Int32 → Option ((Nat → Int64))) (x_a1 : Nat → Int64) (l1 : Int64) (l3 : Int32) (l4 : Int32) : Option ((Nat → Int64)) :=
  if l4 ≤ l3 then (some x_a1) else (wrJ x_a1 n_a1 l3 l1 fun w15 => nm (l3 + (1 : Int32)) fun v16 => rec6 w15 l1 v16 l4)
noncomputable def J7_fill_d0a16_L6 (n_a1 : Nat) : Nat → (Nat → Int64) → Int64 → Int32 → Int32 → Option ((Nat → Int64))
  | 0, _, _, _, _ => none
  | n + 1, y0, y1, y2, y3 => J7_fill_d0a16_L6_B n_a1  (J7_fill_d0a16_L6 n_a1  n) y0 y1 y2 y3
noncomputable def J7_fill_d0a16 (n_a1 : Nat) (x_a1 : Nat → Int64) (p1 : Int64) : Option ((Nat → Int64)) :=
  nm (Int32.ofNat n_a1) fun v4 => J7_fill_d0a16_L6 n_a1  FU x_a1 p1 (0 : Int32) v4
abbrev wd_J7_fill_d0a16 (cy : Nat → ClassId) (r_a1 n_a1 : Nat) (x_a1 : Nat → Int64) : va_W := [(r_a1, .inl (cy 2, n_a1, .inr (.inl x_a1)))]
set_option maxHeartbeats 4000000 in
set_option maxRecDepth 100000 in
theorem w_J7_fill_d0a16 {p : Program} {l : Launch} {e : Env} {s : State} {m : MethodId} {args : Array Value} {below : List Frame} {meth : Method} {c : Code} {Q : State → Prop} {A : Nat → Prop} {H : Heap} {locs : List Loc} {ls : Array Slot} (D : va_G) (cy : Nat → ClassId) (t : Nat → Nat) (r_a1 n_a1 : Nat) (x_a1 : Nat → Int64) (p1 : Int64) {out : (Nat → Int64)} (hf : J7_fill_d0a16 n_a1 x_a1 p1 = some out) (hx : p.tables.exec = Jvm.exec) (hb : c.code = cJ7_fill_d0a16) (hml : c.maxLocals = 5) (hown : s.vm.findClass RJ7 = some m.cls) (hts : ∀ w ∈ wsJ7_fill_d0a16, w.before args s = true) (hK : va_K D vwCl (TYS cy) s) (hE : EV t A s s.heap) (hA : ∀ q, s.heap.size ≤ q → A q) (hP : va_P D vwCl (wd_J7_fill_d0a16 cy r_a1 n_a1 x_a1) H) (hD : va_D A (wd_J7_fill_d0a16 cy r_a1 n_a1 x_a1)) (hS : va_S A s.heap H locs) (hl : lv_has ls 5 [(0, .ref r_a1), (1, .long p1)]) (hR : ∀ (H : Heap) (locs : List Loc) (ls : Array Slot) (pc : Nat), va_P D vwCl (wd_J7_fill_d0a16 cy r_a1 n_a1 out) H → va_D A (wd_J7_fill_d0a16 cy r_a1 n_a1 out) → va_S A s.heap H locs → decode cJ7_fill_d0a16 pc = .ok (.return_, 1) → W p l e (rmm 0 0) s m args below meth c H locs 0 0 Q (F0 m pc ls [])) : W p l e (rmm 0 0) s m args below meth c H locs 0 0 Q (F0 m 0 ls []) := by
  rw [J7_fill_d0a16] at hf
  have h6 : ∀ (n6 : Nat) (x_a1 : Nat → Int64) (l1 : Int64) (l3 : Int32) (l4 : Int32) (H : Heap) (locs : List Loc) (ls : Array Slot), J7_fill_d0a16_L6 n_a1 n6 x_a1 l1 l3 l4 = some out → va_P D vwCl (wd_J7_fill_d0a16 cy r_a1 n_a1 x_a1) H → va_D A (wd_J7_fill_d0a16 cy r_a1 n_a1 x_a1) → va_S A s.heap H locs → lv_has ls 5 [(0, .ref r_a1), (1, .long l1), (3, .int l3), (4, .int l4)] → W p l e (rmm 0 0) s m args below meth c H locs 0 0 Q (F0 m 6 ls []) := by
    intro n6
    induction n6 with
    | zero =>
      intro _ _ _ _ _ _ _ hf
      exact nomatch (show (none : Option _) = some out from hf)
    | succ n6 ih6 =>
      intro x_a1 l1 l3 l4 H locs ls hf hP hD hS hl
      have hf : J7_fill_d0a16_L6_B n_a1 (J7_fill_d0a16_L6 n_a1 n6) x_a1 l1 l3 l4 = some out := hf
      rw [J7_fill_d0a16_L6_B] at hf
      refine lv_iload_n hx hb dJ7_fill_d0a16_6 rfl (lv_at hl 2 rfl) ?_
      refine lv_iload hx hb dJ7_fill_d0a16_7 (lv_at hl 3 rfl) ?_
      refine lv_icmp_ge (tgt := 22) hx hb dJ7_fill_d0a16_9 (by decide) (fun c9 => ?_) (fun c9 => ?_)
      · have hf := ifp c9 hf
        obtain rfl := Option.some.inj hf
        exact hR _ _ _ _ hP hD hS dJ7_fill_d0a16_22
      · have hf := ifn c9 hf
        refine lv_aload_n hx hb dJ7_fill_d0a16_12 rfl (lv_at hl 0 rfl) ?_
        refine lv_iload_n hx hb dJ7_fill_d0a16_13 rfl (lv_at hl 2 rfl) ?_
        refine lv_lload_n hx hb dJ7_fill_d0a16_14 rfl (lv_at hl 1 rfl) ?_
        obtain ⟨w15, b15, ew15, hf⟩ := wrJ_s hf
        refine my_last (ws2 := (wd_J7_fill_d0a16 cy r_a1 n_a1 w15)) hx hb hK hP hD hS 0 rfl b15 ew15 rfl dJ7_fill_d0a16_15 (fun H locs hP hD hS => ?_)
        obtain ⟨v16, ev16, hf⟩ := nm_s hf
        refine lv_iinc (v := v16) (lv' := [(3, .int v16), (0, .ref r_a1), (1, .long l1), (4, .int l4)]) hx hb dJ7_fill_d0a16_16 hl (k := 2) rfl (by rw [ev16]; rfl) (by decide) rfl (fun ls hl => ?_)
        refine lv_goto (tgt := 6) hx hb dJ7_fill_d0a16_19 (by decide) ?_
        exact ih6 _ _ _ _ _ _ _ hf hP hD hS (lv_sub hl [1, 2, 0, 3] rfl)
  refine lv_iconst (v := (0 : Int32)) hx hb dJ7_fill_d0a16_0 (by decide) ?_
  refine lv_istore_n (lv' := [(3, .int (0 : Int32)), (0, .ref r_a1), (1, .long p1)]) hx hb dJ7_fill_d0a16_1 rfl hl (by decide) rfl (fun ls hl => ?_)
  refine lv_aload_n hx hb dJ7_fill_d0a16_2 rfl (lv_at hl 1 rfl) ?_
  refine va_alen hx hb hK hP 0 2 rfl rfl (v := (Int32.ofNat n_a1)) rfl dJ7_fill_d0a16_3 ?_
  obtain ⟨v4, ev4, hf⟩ := nm_s hf
  refine my_topi ev4 ?_
  refine lv_istore (lv' := [(4, .int v4), (3, .int (0 : Int32)), (0, .ref r_a1), (1, .long p1)]) hx hb dJ7_fill_d0a16_4 hl (by decide) rfl (fun ls hl => ?_)
  exact h6 FU _ _ _ _ _ _ _ hf hP hD hS (lv_sub hl [2, 3, 1, 0] rfl)
theorem hd_J7_fill_d0a16 : yJ7_fill_d0a16.cls ≠ "java/lang/invoke/MethodHandle" ∧ yJ7_fill_d0a16.cls ≠ "java/lang/invoke/VarHandle" ∧ (parseMethodDescriptor yJ7_fill_d0a16.desc).map (fun d => d.parameters.length) = some 2 := by decide +kernel
set_option maxRecDepth 100000 in
theorem c_J7_fill_d0a16 (l : Launch) (D : va_G) (cy : Nat → ClassId) (t : Nat → Nat) (r_a1 n_a1 : Nat) (x_a1 : Nat → Int64) (p1 : Int64) {out : (Nat → Int64)} (hf : J7_fill_d0a16 n_a1 x_a1 p1 = some out) : ctV l yJ7_fill_d0a16 wsJ7_fill_d0a16 0 0 D cy t [.ref r_a1, .long p1] (wd_J7_fill_d0a16 cy r_a1 n_a1 x_a1) (wd_J7_fill_d0a16 cy r_a1 n_a1 out) := by
  refine ⟨rfl, ?_⟩
  intro sz
  refine Met.ofW (cc := cJ7_fill_d0a16) (maxL := 5) (ret := none) (by decide) rfl ?_
  intro p e s m args below meth c s₁ B hml hv
  obtain ⟨rfl, hsz, hP, hK, hD0, hE⟩ := hv
  have hts := atoms_spec (ws := wsJ7_fill_d0a16) B.pre
  have hown : s.vm.findClass RJ7 = some m.cls := findClass_of_methodNamed B.named
  have hlocks := B.notSynchronized
  subst hsz
  have hD := hD0.self (sz := s.heap.size)
  have hl := lv_entry ([.ref r_a1, .long p1]) (n := 5) (Nat.le_of_ble_eq_true rfl)
  rw [lg_entry_eq]
  generalize (lg_sl ([.ref r_a1, .long p1]) ++ List.replicate (5 - (lg_sl ([.ref r_a1, .long p1])).length) Slot.unset).toArray = ls at hl ⊢
  exact w_J7_fill_d0a16 D cy t  r_a1 n_a1 x_a1 p1 hf B.exec B.bytes hml hown hts hK hE (fun q h => Or.inr h) hP hD va_S.rf hl (fun H locs ls pc hP hD hS hdg => W.vret B.exec B.bytes B.returns (fun t ht hW => ⟨⟨(), rfl, trivial, ctB_of ht hP⟩, hS.F ht⟩) hS.2.2 hdg)

noncomputable def J6_bitCount_0f7a4 (p0 : Int32) : Option (Int32) :=
  nm (p0 - ((((p0).toUInt32 >>> (((1 : Int32)).toUInt32 &&& Int32.toUInt32 31)).toInt32) &&& (1431655765 : Int32))) fun v9 => nm ((v9 &&& (858993459 : Int32)) + ((((v9).toUInt32 >>> (((2 : Int32)).toUInt32 &&& Int32.toUInt32 31)).toInt32) &&& (858993459 : Int32))) fun v23 => nm ((v23 + (((v23).toUInt32 >>> (((4 : Int32)).toUInt32 &&& Int32.toUInt32 31)).toInt32)) &&& (252645135 : Int32)) fun v33 => nm (v33 + (((v33).toUInt32 >>> (((8 : Int32)).toUInt32 &&& Int32.toUInt32 31)).toInt32)) fun v40 => nm (v40 + (((v40).toUInt32 >>> (((16 : Int32)).toUInt32 &&& Int32.toUInt32 31)).toInt32)) fun v47 => some (v47 &&& (63 : Int32))
abbrev wd_J6_bitCount_0f7a4 (cy : Nat → ClassId) : va_W := []
set_option maxHeartbeats 4000000 in
set_option maxRecDepth 100000 in
theorem w_J6_bitCount_0f7a4 {p : Program} {l : Launch} {e : Env} {s : State} {m : MethodId} {args : Array Value} {below : List Frame} {meth : Method} {c : Code} {Q : State → Prop} {A : Nat → Prop} {H : Heap} {locs : List Loc} {ls : Array Slot} (D : va_G) (cy : Nat → ClassId) (t : Nat → Nat) (p0 : Int32) {out : Int32} (hf : J6_bitCount_0f7a4 p0 = some out) (hx : p.tables.exec = Jvm.exec) (hb : c.code = cJ6_bitCount_0f7a4) (hml : c.maxLocals = 1) (hown : s.vm.findClass RJ6 = some m.cls) (hts : ∀ w ∈ wsJ6_bitCount_0f7a4, w.before args s = true) (hK : va_K D vwCl (TYS cy) s) (hE : EV t A s s.heap) (hA : ∀ q, s.heap.size ≤ q → A q) (hP : va_P D vwCl (wd_J6_bitCount_0f7a4 cy) H) (hD : va_D A (wd_J6_bitCount_0f7a4 cy)) (hS : va_S A s.heap H locs) (hl : lv_has ls 1 [(0, .int p0)]) (hR : ∀ (H : Heap) (locs : List Loc) (ls : Array Slot) (pc : Nat), va_P D vwCl (wd_J6_bitCount_0f7a4 cy) H → va_D A (wd_J6_bitCount_0f7a4 cy) → va_S A s.heap H locs → decode cJ6_bitCount_0f7a4 pc = .ok (.ireturn, 1) → W p l e (rmm 0 0) s m args below meth c H locs 0 0 Q (F0 m pc ls [.int out])) : W p l e (rmm 0 0) s m args below meth c H locs 0 0 Q (F0 m 0 ls []) := by
  have k0 := hts (.constant RJ6 265 (1431655765)) (List.mem_cons_of_mem _ (List.mem_of_getElem? (i := 0) rfl))
  have k1 := hts (.constant RJ6 266 (858993459)) (List.mem_cons_of_mem _ (List.mem_of_getElem? (i := 1) rfl))
  have k2 := hts (.constant RJ6 267 (252645135)) (List.mem_cons_of_mem _ (List.mem_of_getElem? (i := 2) rfl))
  rw [J6_bitCount_0f7a4] at hf
  refine lv_iload_n hx hb dJ6_bitCount_0f7a4_0 rfl (lv_at hl 0 rfl) ?_
  refine lv_iload_n hx hb dJ6_bitCount_0f7a4_1 rfl (lv_at hl 0 rfl) ?_
  refine lv_iconst (v := (1 : Int32)) hx hb dJ6_bitCount_0f7a4_2 (by decide) ?_
  refine lv_iushr hx hb dJ6_bitCount_0f7a4_3 rfl ?_
  refine lv_ldcw (v := (1431655765 : Int32)) hx hb hown k0 dJ6_bitCount_0f7a4_4 ?_
  refine lv_iand hx hb dJ6_bitCount_0f7a4_7 ?_
  refine lv_isub hx hb dJ6_bitCount_0f7a4_8 ?_
  obtain ⟨v9, ev9, hf⟩ := nm_s hf
  refine my_topi ev9 ?_
  refine lv_istore_n (lv' := [(0, .int v9)]) hx hb dJ6_bitCount_0f7a4_9 rfl hl (by decide) rfl (fun ls hl => ?_)
  refine lv_iload_n hx hb dJ6_bitCount_0f7a4_10 rfl (lv_at hl 0 rfl) ?_
  refine lv_ldcw (v := (858993459 : Int32)) hx hb hown k1 dJ6_bitCount_0f7a4_11 ?_
  refine lv_iand hx hb dJ6_bitCount_0f7a4_14 ?_
  refine lv_iload_n hx hb dJ6_bitCount_0f7a4_15 rfl (lv_at hl 0 rfl) ?_
  refine lv_iconst (v := (2 : Int32)) hx hb dJ6_bitCount_0f7a4_16 (by decide) ?_
  refine lv_iushr hx hb dJ6_bitCount_0f7a4_17 rfl ?_
  refine lv_ldcw (v := (858993459 : Int32)) hx hb hown k1 dJ6_bitCount_0f7a4_18 ?_
  refine lv_iand hx hb dJ6_bitCount_0f7a4_21 ?_
  refine lv_iadd hx hb dJ6_bitCount_0f7a4_22 ?_
  obtain ⟨v23, ev23, hf⟩ := nm_s hf
  refine my_topi ev23 ?_
  refine lv_istore_n (lv' := [(0, .int v23)]) hx hb dJ6_bitCount_0f7a4_23 rfl hl (by decide) rfl (fun ls hl => ?_)
  refine lv_iload_n hx hb dJ6_bitCount_0f7a4_24 rfl (lv_at hl 0 rfl) ?_
  refine lv_iload_n hx hb dJ6_bitCount_0f7a4_25 rfl (lv_at hl 0 rfl) ?_
  refine lv_iconst (v := (4 : Int32)) hx hb dJ6_bitCount_0f7a4_26 (by decide) ?_
  refine lv_iushr hx hb dJ6_bitCount_0f7a4_27 rfl ?_
  refine lv_iadd hx hb dJ6_bitCount_0f7a4_28 ?_
  refine lv_ldcw (v := (252645135 : Int32)) hx hb hown k2 dJ6_bitCount_0f7a4_29 ?_
  refine lv_iand hx hb dJ6_bitCount_0f7a4_32 ?_
  obtain ⟨v33, ev33, hf⟩ := nm_s hf
  refine my_topi ev33 ?_
  refine lv_istore_n (lv' := [(0, .int v33)]) hx hb dJ6_bitCount_0f7a4_33 rfl hl (by decide) rfl (fun ls hl => ?_)
  refine lv_iload_n hx hb dJ6_bitCount_0f7a4_34 rfl (lv_at hl 0 rfl) ?_
  refine lv_iload_n hx hb dJ6_bitCount_0f7a4_35 rfl (lv_at hl 0 rfl) ?_
  refine lv_bipush (v := (8 : Int32)) hx hb dJ6_bitCount_0f7a4_36 (by decide) ?_
  refine lv_iushr hx hb dJ6_bitCount_0f7a4_38 rfl ?_
  refine lv_iadd hx hb dJ6_bitCount_0f7a4_39 ?_
  obtain ⟨v40, ev40, hf⟩ := nm_s hf
  refine my_topi ev40 ?_
  refine lv_istore_n (lv' := [(0, .int v40)]) hx hb dJ6_bitCount_0f7a4_40 rfl hl (by decide) rfl (fun ls hl => ?_)
  refine lv_iload_n hx hb dJ6_bitCount_0f7a4_41 rfl (lv_at hl 0 rfl) ?_
  refine lv_iload_n hx hb dJ6_bitCount_0f7a4_42 rfl (lv_at hl 0 rfl) ?_
  refine lv_bipush (v := (16 : Int32)) hx hb dJ6_bitCount_0f7a4_43 (by decide) ?_
  refine lv_iushr hx hb dJ6_bitCount_0f7a4_45 rfl ?_
  refine lv_iadd hx hb dJ6_bitCount_0f7a4_46 ?_
  obtain ⟨v47, ev47, hf⟩ := nm_s hf
  refine my_topi ev47 ?_
  refine lv_istore_n (lv' := [(0, .int v47)]) hx hb dJ6_bitCount_0f7a4_47 rfl hl (by decide) rfl (fun ls hl => ?_)
  refine lv_iload_n hx hb dJ6_bitCount_0f7a4_48 rfl (lv_at hl 0 rfl) ?_
  refine lv_bipush (v := (63 : Int32)) hx hb dJ6_bitCount_0f7a4_49 (by decide) ?_
  refine lv_iand hx hb dJ6_bitCount_0f7a4_51 ?_
  obtain rfl := Option.some.inj hf
  exact hR _ _ _ _ hP hD hS dJ6_bitCount_0f7a4_52
theorem hd_J6_bitCount_0f7a4 : yJ6_bitCount_0f7a4.cls ≠ "java/lang/invoke/MethodHandle" ∧ yJ6_bitCount_0f7a4.cls ≠ "java/lang/invoke/VarHandle" ∧ (parseMethodDescriptor yJ6_bitCount_0f7a4.desc).map (fun d => d.parameters.length) = some 1 := by decide +kernel
set_option maxRecDepth 100000 in
theorem c_J6_bitCount_0f7a4 (l : Launch) (D : va_G) (cy : Nat → ClassId) (t : Nat → Nat) (p0 : Int32) {out : Int32} (hf : J6_bitCount_0f7a4 p0 = some out) : ctI l yJ6_bitCount_0f7a4 wsJ6_bitCount_0f7a4 0 0 D cy t [.int p0] (wd_J6_bitCount_0f7a4 cy) (wd_J6_bitCount_0f7a4 cy) out := by
  refine ⟨rfl, ?_⟩
  intro sz
  refine Met.ofW (cc := cJ6_bitCount_0f7a4) (maxL := 1) (ret := (some .int)) (by decide) rfl ?_
  intro p e s m args below meth c s₁ B hml hv
  obtain ⟨rfl, hsz, hP, hK, hD0, hE⟩ := hv
  have hts := atoms_spec (ws := wsJ6_bitCount_0f7a4) B.pre
  have hown : s.vm.findClass RJ6 = some m.cls := findClass_of_methodNamed B.named
  have hlocks := B.notSynchronized
  subst hsz
  have hD := hD0.self (sz := s.heap.size)
  have hl := lv_entry ([.int p0]) (n := 1) (Nat.le_of_ble_eq_true rfl)
  rw [lg_entry_eq]
  generalize (lg_sl ([.int p0]) ++ List.replicate (1 - (lg_sl ([.int p0])).length) Slot.unset).toArray = ls at hl ⊢
  exact w_J6_bitCount_0f7a4 D cy t  p0 hf B.exec B.bytes hml hown hts hK hE (fun q h => Or.inr h) hP hD va_S.rf hl (fun H locs ls pc hP hD hS hdg => W.iret B.exec B.bytes B.returns (fun t ht hW => ⟨⟨_, (), rfl, rfl, ctB_of ht hP⟩, hS.F ht⟩) hS.2.2 hdg)
end
section
noncomputable def X5_clear (x_w : Int32) (x_h : Int32) (x_hands : Int32) (x_pressRow : Nat → Int32) (x_leftFrom : Nat → Int32) (x_leftTo : Nat → Int32) (p1 : Int32) (p2 : Int32) (p3 : Int32) : Option (Int32 × Int32 × Int32 × (Nat → Int32) × (Nat → Int32) × (Nat → Int32)) :=
  bd (J7_fill_53178 600 x_pressRow (0 : Int32)) fun r20 => bd (J7_fill_53178 6 x_leftFrom (0 : Int32)) fun r28 => bd (J7_fill_53178 6 x_leftTo (0 : Int32)) fun r36 => some (p1, p2, p3, r20, r28, r36)
abbrev wd_X5_clear (cy : Nat → ClassId) (o_t : Nat → Nat) (x_w : Int32) (x_h : Int32) (x_hands : Int32) (x_pressRow : Nat → Int32) (x_leftFrom : Nat → Int32) (x_leftTo : Nat → Int32) : va_W := [(o_t 0, .inr (5, [.int x_w, .int x_h, .int x_hands, .ref (o_t 4), .ref (o_t 5), .ref (o_t 6), .ref (o_t 7)])), (o_t 5, .inl (cy 0, 600, .inl x_pressRow)), (o_t 6, .inl (cy 0, 6, .inl x_leftFrom)), (o_t 7, .inl (cy 0, 6, .inl x_leftTo))]
set_option maxHeartbeats 4000000 in
set_option maxRecDepth 100000 in
theorem w_X5_clear {p : Program} {l : Launch} {e : Env} {s : State} {m : MethodId} {args : Array Value} {below : List Frame} {meth : Method} {c : Code} {Q : State → Prop} {A : Nat → Prop} {H : Heap} {locs : List Loc} {ls : Array Slot} (D : va_G) (cy : Nat → ClassId) (t : Nat → Nat) (o_t : Nat → Nat) (x_w : Int32) (x_h : Int32) (x_hands : Int32) (x_pressRow : Nat → Int32) (x_leftFrom : Nat → Int32) (x_leftTo : Nat → Int32) (p1 : Int32) (p2 : Int32) (p3 : Int32) {out : Int32 × Int32 × Int32 × (Nat → Int32) × (Nat → Int32) × (Nat → Int32)} (hf : X5_clear x_w x_h x_hands x_pressRow x_leftFrom x_leftTo p1 p2 p3 = some out) (hx : p.tables.exec = Jvm.exec) (hb : c.code = cX5_clear) (hml : c.maxLocals = 4) (hown : s.vm.findClass RX5 = some m.cls) (hts : ∀ w ∈ wsX5_clear, w.before args s = true) (hK : va_K D vwCl (TYS cy) s) (hE : EV t A s s.heap) (hA : ∀ q, s.heap.size ≤ q → A q) (hP : va_P D vwCl (wd_X5_clear cy o_t x_w x_h x_hands x_pressRow x_leftFrom x_leftTo) H) (hD : va_D A (wd_X5_clear cy o_t x_w x_h x_hands x_pressRow x_leftFrom x_leftTo)) (hS : va_S A s.heap H locs) (hl : lv_has ls 4 [(0, .ref (o_t 0)), (1, .int p1), (2, .int p2), (3, .int p3)]) (hR : ∀ (H : Heap) (locs : List Loc) (ls : Array Slot) (pc : Nat), va_P D vwCl (wd_X5_clear cy o_t out.1 out.2.1 out.2.2.1 out.2.2.2.1 out.2.2.2.2.1 out.2.2.2.2.2) H → va_D A (wd_X5_clear cy o_t out.1 out.2.1 out.2.2.1 out.2.2.2.1 out.2.2.2.2.1 out.2.2.2.2.2) → va_S A s.heap H locs → decode cX5_clear pc = .ok (.return_, 1) → W p l e (rmm 1 23) s m args below meth c H locs 0 0 Q (F0 m pc ls [])) : W p l e (rmm 1 23) s m args below meth c H locs 0 0 Q (F0 m 0 ls []) := by
  have k0 := hts (.fieldLink RX5 9 "SeaGames$Play" "w" "I") (List.mem_cons_of_mem _ (List.mem_append_left _ (List.mem_of_getElem? (i := 0) rfl)))
  have k1 : ∀ w ∈ u_ws RX5 TX5 7, w ∈ wsX5_clear := fun _ h => List.mem_cons_of_mem _ (List.mem_append_right _ h)
  have k2 := hts (.fieldLink RX5 15 "SeaGames$Play" "h" "I") (List.mem_cons_of_mem _ (List.mem_append_left _ (List.mem_of_getElem? (i := 1) rfl)))
  have k3 := hts (.fieldLink RX5 18 "SeaGames$Play" "hands" "I") (List.mem_cons_of_mem _ (List.mem_append_left _ (List.mem_of_getElem? (i := 2) rfl)))
  have k4 := hts (.fieldLink RX5 25 "SeaGames$Play" "pressRow" "[I") (List.mem_cons_of_mem _ (List.mem_append_left _ (List.mem_of_getElem? (i := 3) rfl)))
  have k5 := hts (.fieldLink RX5 28 "SeaGames$Play" "leftFrom" "[I") (List.mem_cons_of_mem _ (List.mem_append_left _ (List.mem_of_getElem? (i := 4) rfl)))
  have k6 := hts (.fieldLink RX5 31 "SeaGames$Play" "leftTo" "[I") (List.mem_cons_of_mem _ (List.mem_append_left _ (List.mem_of_getElem? (i := 5) rfl)))
  rw [X5_clear] at hf
  refine lv_aload_n hx hb dX5_clear_0 rfl (lv_at hl 0 rfl) ?_
  refine lv_iload_n hx hb dX5_clear_1 rfl (lv_at hl 1 rfl) ?_
  refine va_put (D := D) (ci := 5) (v := .int p1) (ty := .int) (C := RX5) (T := TX5) (N := 7) hx hb hts k1 tyX5 tyX5_ok nmX5 hown hK hP hD hS 0 rfl rfl 0 (by decide) k0 (fun _ h9 => h9) rfl (by decide +kernel) rfl rfl (Nat.le_of_ble_eq_true rfl) dX5_clear_2 (fun H locs hP hD hS => ?_)
  have hP : va_P D vwCl (wd_X5_clear cy o_t p1 x_h x_hands x_pressRow x_leftFrom x_leftTo) H := hP
  have hD : va_D A (wd_X5_clear cy o_t p1 x_h x_hands x_pressRow x_leftFrom x_leftTo) := hD
  refine lv_aload_n hx hb dX5_clear_5 rfl (lv_at hl 0 rfl) ?_
  refine lv_iload_n hx hb dX5_clear_6 rfl (lv_at hl 2 rfl) ?_
  refine va_put (D := D) (ci := 5) (v := .int p2) (ty := .int) (C := RX5) (T := TX5) (N := 7) hx hb hts k1 tyX5 tyX5_ok nmX5 hown hK hP hD hS 0 rfl rfl 1 (by decide) k2 (fun _ h9 => h9) rfl (by decide +kernel) rfl rfl (Nat.le_of_ble_eq_true rfl) dX5_clear_7 (fun H locs hP hD hS => ?_)
  have hP : va_P D vwCl (wd_X5_clear cy o_t p1 p2 x_hands x_pressRow x_leftFrom x_leftTo) H := hP
  have hD : va_D A (wd_X5_clear cy o_t p1 p2 x_hands x_pressRow x_leftFrom x_leftTo) := hD
  refine lv_aload_n hx hb dX5_clear_10 rfl (lv_at hl 0 rfl) ?_
  refine lv_iload_n hx hb dX5_clear_11 rfl (lv_at hl 3 rfl) ?_
  refine va_put (D := D) (ci := 5) (v := .int p3) (ty := .int) (C := RX5) (T := TX5) (N := 7) hx hb hts k1 tyX5 tyX5_ok nmX5 hown hK hP hD hS 0 rfl rfl 2 (by decide) k3 (fun _ h9 => h9) rfl (by decide +kernel) rfl rfl (Nat.le_of_ble_eq_true rfl) dX5_clear_12 (fun H locs hP hD hS => ?_)
  have hP : va_P D vwCl (wd_X5_clear cy o_t p1 p2 p3 x_pressRow x_leftFrom x_leftTo) H := hP
  have hD : va_D A (wd_X5_clear cy o_t p1 p2 p3 x_pressRow x_leftFrom x_leftTo) := hD
  refine lv_aload_n hx hb dX5_clear_15 rfl (lv_at hl 0 rfl) ?_
  refine va_get (D := D) (ci := 5) (v := .ref (o_t 5)) (C := RX5) (T := TX5) (N := 7) hx hb hts k1 hown hK hP 0 rfl rfl 4 (by decide) k4 (fun _ h9 => h9) rfl dX5_clear_16 ?_
  refine lv_iconst (v := (0 : Int32)) hx hb dX5_clear_19 (by decide) ?_
  obtain ⟨r20, hr20, hf⟩ := bd_s hf
  refine my_Sv (WS2 := (wd_X5_clear cy o_t p1 p2 p3 r20 x_leftFrom x_leftTo)) ⟨hx, hb, hml, hown, hts⟩ (c_J7_fill_53178 l D cy t (o_t 5) 600 x_pressRow (0 : Int32) hr20) (va_cwS 2 hts gX5_clear_J7_fill_53178 rfl rfl rfl hd_J7_fill_53178 ⟨Nat.le_of_ble_eq_true rfl, Nat.le_of_ble_eq_true rfl⟩) hK hE hP hD hS hA [1] 4 rfl rfl (by decide +kernel) rfl rfl hl.1 rfl (Nat.le_of_ble_eq_true rfl) dX5_clear_20 ⟨Nat.le_of_ble_eq_true rfl, Nat.le_of_ble_eq_true rfl⟩ (fun H locs hP hD hS => ?_)
  refine lv_aload_n hx hb dX5_clear_23 rfl (lv_at hl 0 rfl) ?_
  refine va_get (D := D) (ci := 5) (v := .ref (o_t 6)) (C := RX5) (T := TX5) (N := 7) hx hb hts k1 hown hK hP 0 rfl rfl 5 (by decide) k5 (fun _ h9 => h9) rfl dX5_clear_24 ?_
  refine lv_iconst (v := (0 : Int32)) hx hb dX5_clear_27 (by decide) ?_
  obtain ⟨r28, hr28, hf⟩ := bd_s hf
  refine my_Sv (WS2 := (wd_X5_clear cy o_t p1 p2 p3 r20 r28 x_leftTo)) ⟨hx, hb, hml, hown, hts⟩ (c_J7_fill_53178 l D cy t (o_t 6) 6 x_leftFrom (0 : Int32) hr28) (va_cwS 2 hts gX5_clear_J7_fill_53178 rfl rfl rfl hd_J7_fill_53178 ⟨Nat.le_of_ble_eq_true rfl, Nat.le_of_ble_eq_true rfl⟩) hK hE hP hD hS hA [2] 4 rfl rfl (by decide +kernel) rfl rfl hl.1 rfl (Nat.le_of_ble_eq_true rfl) dX5_clear_28 ⟨Nat.le_of_ble_eq_true rfl, Nat.le_of_ble_eq_true rfl⟩ (fun H locs hP hD hS => ?_)
  refine lv_aload_n hx hb dX5_clear_31 rfl (lv_at hl 0 rfl) ?_
  refine va_get (D := D) (ci := 5) (v := .ref (o_t 7)) (C := RX5) (T := TX5) (N := 7) hx hb hts k1 hown hK hP 0 rfl rfl 6 (by decide) k6 (fun _ h9 => h9) rfl dX5_clear_32 ?_
  refine lv_iconst (v := (0 : Int32)) hx hb dX5_clear_35 (by decide) ?_
  obtain ⟨r36, hr36, hf⟩ := bd_s hf
  refine my_Sv (WS2 := (wd_X5_clear cy o_t p1 p2 p3 r20 r28 r36)) ⟨hx, hb, hml, hown, hts⟩ (c_J7_fill_53178 l D cy t (o_t 7) 6 x_leftTo (0 : Int32) hr36) (va_cwS 2 hts gX5_clear_J7_fill_53178 rfl rfl rfl hd_J7_fill_53178 ⟨Nat.le_of_ble_eq_true rfl, Nat.le_of_ble_eq_true rfl⟩) hK hE hP hD hS hA [3] 4 rfl rfl (by decide +kernel) rfl rfl hl.1 rfl (Nat.le_of_ble_eq_true rfl) dX5_clear_36 ⟨Nat.le_of_ble_eq_true rfl, Nat.le_of_ble_eq_true rfl⟩ (fun H locs hP hD hS => ?_)
  obtain rfl := Option.some.inj hf
  exact hR _ _ _ _ hP hD hS dX5_clear_39
theorem hd_X5_clear : yX5_clear.cls ≠ "java/lang/invoke/MethodHandle" ∧ yX5_clear.cls ≠ "java/lang/invoke/VarHandle" ∧ (parseMethodDescriptor yX5_clear.desc).map (fun d => d.parameters.length) = some 3 := by decide +kernel
set_option maxRecDepth 100000 in
theorem c_X5_clear (l : Launch) (D : va_G) (cy : Nat → ClassId) (t : Nat → Nat) (o_t : Nat → Nat) (x_w : Int32) (x_h : Int32) (x_hands : Int32) (x_pressRow : Nat → Int32) (x_leftFrom : Nat → Int32) (x_leftTo : Nat → Int32) (p1 : Int32) (p2 : Int32) (p3 : Int32) {out : Int32 × Int32 × Int32 × (Nat → Int32) × (Nat → Int32) × (Nat → Int32)} (hf : X5_clear x_w x_h x_hands x_pressRow x_leftFrom x_leftTo p1 p2 p3 = some out) : ctV l yX5_clear wsX5_clear 1 23 D cy t [.ref (o_t 0), .int p1, .int p2, .int p3] (wd_X5_clear cy o_t x_w x_h x_hands x_pressRow x_leftFrom x_leftTo) (wd_X5_clear cy o_t out.1 out.2.1 out.2.2.1 out.2.2.2.1 out.2.2.2.2.1 out.2.2.2.2.2) := by
  refine ⟨rfl, ?_⟩
  intro sz
  refine Met.ofW (cc := cX5_clear) (maxL := 4) (ret := none) (by decide) rfl ?_
  intro p e s m args below meth c s₁ B hml hv
  obtain ⟨rfl, hsz, hP, hK, hD0, hE⟩ := hv
  have hts := atoms_spec (ws := wsX5_clear) B.pre
  have hown : s.vm.findClass RX5 = some m.cls := findClass_of_methodNamed B.named
  have hlocks := B.notSynchronized
  subst hsz
  have hD := hD0.self (sz := s.heap.size)
  have hl := lv_entry ([.ref (o_t 0), .int p1, .int p2, .int p3]) (n := 4) (Nat.le_of_ble_eq_true rfl)
  rw [lg_entry_eq]
  generalize (lg_sl ([.ref (o_t 0), .int p1, .int p2, .int p3]) ++ List.replicate (4 - (lg_sl ([.ref (o_t 0), .int p1, .int p2, .int p3])).length) Slot.unset).toArray = ls at hl ⊢
  exact w_X5_clear D cy t o_t x_w x_h x_hands x_pressRow x_leftFrom x_leftTo p1 p2 p3 hf B.exec B.bytes hml hown hts hK hE (fun q h => Or.inr h) hP hD va_S.rf hl (fun H locs ls pc hP hD hS hdg => W.vret B.exec B.bytes B.returns (fun t ht hW => ⟨⟨(), rfl, trivial, ctB_of ht hP⟩, hS.F ht⟩) hS.2.2 hdg)

noncomputable def X5_copyFrom (x_a1_w : Int32) (x_a1_h : Int32) (x_a1_hands : Int32) (x_a1_rules : Nat → Int32) (x_a1_pressRow : Nat → Int32) (x_a1_leftFrom : Nat → Int32) (x_a1_leftTo : Nat → Int32) (x_w : Int32) (x_h : Int32) (x_hands : Int32) (x_rules : Nat → Int32) (x_pressRow : Nat → Int32) (x_leftFrom : Nat → Int32) (x_leftTo : Nat → Int32) : Option (Int32 × Int32 × Int32 × (Nat → Int32) × (Nat → Int32) × (Nat → Int32) × (Nat → Int32)) :=
  cpI x_a1_rules x_rules 7 7 (0 : Int32) (0 : Int32) (3 : Int32) fun w35 => cpI x_a1_pressRow x_pressRow 600 600 (0 : Int32) (0 : Int32) (Int32.ofNat 600) fun w53 => cpI x_a1_leftFrom x_leftFrom 6 6 (0 : Int32) (0 : Int32) (Int32.ofNat 6) fun w71 => cpI x_a1_leftTo x_leftTo 6 6 (0 : Int32) (0 : Int32) (Int32.ofNat 6) fun w89 => some (x_a1_w, x_a1_h, x_a1_hands, w35, w53, w71, w89)
abbrev wd_X5_copyFrom (cy : Nat → ClassId) (o_t o_a1 : Nat → Nat) (x_w : Int32) (x_h : Int32) (x_hands : Int32) (x_rules : Nat → Int32) (x_pressRow : Nat → Int32) (x_leftFrom : Nat → Int32) (x_leftTo : Nat → Int32) (x_a1_w : Int32) (x_a1_h : Int32) (x_a1_hands : Int32) (x_a1_rules : Nat → Int32) (x_a1_pressRow : Nat → Int32) (x_a1_leftFrom : Nat → Int32) (x_a1_leftTo : Nat → Int32) : va_W := [(o_t 0, .inr (5, [.int x_w, .int x_h, .int x_hands, .ref (o_t 4), .ref (o_t 5), .ref (o_t 6), .ref (o_t 7)])), (o_t 4, .inl (cy 0, 7, .inl x_rules)), (o_t 5, .inl (cy 0, 600, .inl x_pressRow)), (o_t 6, .inl (cy 0, 6, .inl x_leftFrom)), (o_t 7, .inl (cy 0, 6, .inl x_leftTo)), (o_a1 0, .inr (5, [.int x_a1_w, .int x_a1_h, .int x_a1_hands, .ref (o_a1 4), .ref (o_a1 5), .ref (o_a1 6), .ref (o_a1 7)])), (o_a1 4, .inl (cy 0, 7, .inl x_a1_rules)), (o_a1 5, .inl (cy 0, 600, .inl x_a1_pressRow)), (o_a1 6, .inl (cy 0, 6, .inl x_a1_leftFrom)), (o_a1 7, .inl (cy 0, 6, .inl x_a1_leftTo))]
set_option maxHeartbeats 4000000 in
set_option maxRecDepth 100000 in
theorem w_X5_copyFrom {p : Program} {l : Launch} {e : Env} {s : State} {m : MethodId} {args : Array Value} {below : List Frame} {meth : Method} {c : Code} {Q : State → Prop} {A : Nat → Prop} {H : Heap} {locs : List Loc} {ls : Array Slot} (D : va_G) (cy : Nat → ClassId) (t : Nat → Nat) (o_t o_a1 : Nat → Nat) (x_w : Int32) (x_h : Int32) (x_hands : Int32) (x_rules : Nat → Int32) (x_pressRow : Nat → Int32) (x_leftFrom : Nat → Int32) (x_leftTo : Nat → Int32) (x_a1_w : Int32) (x_a1_h : Int32) (x_a1_hands : Int32) (x_a1_rules : Nat → Int32) (x_a1_pressRow : Nat → Int32) (x_a1_leftFrom : Nat → Int32) (x_a1_leftTo : Nat → Int32) {out : Int32 × Int32 × Int32 × (Nat → Int32) × (Nat → Int32) × (Nat → Int32) × (Nat → Int32)} (hf : X5_copyFrom x_a1_w x_a1_h x_a1_hands x_a1_rules x_a1_pressRow x_a1_leftFrom x_a1_leftTo x_w x_h x_hands x_rules x_pressRow x_leftFrom x_leftTo = some out) (hx : p.tables.exec = Jvm.exec) (hb : c.code = cX5_copyFrom) (hml : c.maxLocals = 2) (hown : s.vm.findClass RX5 = some m.cls) (hts : ∀ w ∈ wsX5_copyFrom, w.before args s = true) (hK : va_K D vwCl (TYS cy) s) (hE : EV t A s s.heap) (hA : ∀ q, s.heap.size ≤ q → A q) (hP : va_P D vwCl (wd_X5_copyFrom cy o_t o_a1 x_w x_h x_hands x_rules x_pressRow x_leftFrom x_leftTo x_a1_w x_a1_h x_a1_hands x_a1_rules x_a1_pressRow x_a1_leftFrom x_a1_leftTo) H) (hD : va_D A (wd_X5_copyFrom cy o_t o_a1 x_w x_h x_hands x_rules x_pressRow x_leftFrom x_leftTo x_a1_w x_a1_h x_a1_hands x_a1_rules x_a1_pressRow x_a1_leftFrom x_a1_leftTo)) (hS : va_S A s.heap H locs) (hl : lv_has ls 2 [(0, .ref (o_t 0)), (1, .ref (o_a1 0))]) (hR : ∀ (H : Heap) (locs : List Loc) (ls : Array Slot) (pc : Nat), va_P D vwCl (wd_X5_copyFrom cy o_t o_a1 out.1 out.2.1 out.2.2.1 out.2.2.2.1 out.2.2.2.2.1 out.2.2.2.2.2.1 out.2.2.2.2.2.2 x_a1_w x_a1_h x_a1_hands x_a1_rules x_a1_pressRow x_a1_leftFrom x_a1_leftTo) H → va_D A (wd_X5_copyFrom cy o_t o_a1 out.1 out.2.1 out.2.2.1 out.2.2.2.1 out.2.2.2.2.1 out.2.2.2.2.2.1 out.2.2.2.2.2.2 x_a1_w x_a1_h x_a1_hands x_a1_rules x_a1_pressRow x_a1_leftFrom x_a1_leftTo) → va_S A s.heap H locs → decode cX5_copyFrom pc = .ok (.return_, 1) → W p l e (rmm 1 40) s m args below meth c H locs 0 0 Q (F0 m pc ls [])) : W p l e (rmm 1 40) s m args below meth c H locs 0 0 Q (F0 m 0 ls []) := by
  have k0 := hts (.fieldLink RX5 9 "SeaGames$Play" "w" "I") (List.mem_cons_of_mem _ (List.mem_append_left _ (List.mem_of_getElem? (i := 0) rfl)))
  have k1 : ∀ w ∈ u_ws RX5 TX5 7, w ∈ wsX5_copyFrom := fun _ h => List.mem_cons_of_mem _ (List.mem_append_right _ h)
  have k2 := hts (.fieldLink RX5 15 "SeaGames$Play" "h" "I") (List.mem_cons_of_mem _ (List.mem_append_left _ (List.mem_of_getElem? (i := 1) rfl)))
  have k3 := hts (.fieldLink RX5 18 "SeaGames$Play" "hands" "I") (List.mem_cons_of_mem _ (List.mem_append_left _ (List.mem_of_getElem? (i := 2) rfl)))
  have k4 := hts (.fieldLink RX5 21 "SeaGames$Play" "rules" "[I") (List.mem_cons_of_mem _ (List.mem_append_left _ (List.mem_of_getElem? (i := 3) rfl)))
  have k5 := hts (.methodLink RX5 40 arraycopyName) (List.mem_cons_of_mem _ (List.mem_append_left _ (List.mem_of_getElem? (i := 4) rfl)))
  have k6 := hts (.native arraycopyName) (List.mem_cons_of_mem _ (List.mem_append_left _ (List.mem_of_getElem? (i := 5) rfl)))
  have k7 := hts (.static arraycopyName) (List.mem_cons_of_mem _ (List.mem_append_left _ (List.mem_of_getElem? (i := 6) rfl)))
  have k8 := hts (.initialized "java/lang/System") (List.mem_cons_of_mem _ (List.mem_append_left _ (List.mem_of_getElem? (i := 7) rfl)))
  have k9 := hts (.fieldLink RX5 25 "SeaGames$Play" "pressRow" "[I") (List.mem_cons_of_mem _ (List.mem_append_left _ (List.mem_of_getElem? (i := 8) rfl)))
  have k10 := hts (.fieldLink RX5 28 "SeaGames$Play" "leftFrom" "[I") (List.mem_cons_of_mem _ (List.mem_append_left _ (List.mem_of_getElem? (i := 9) rfl)))
  have k11 := hts (.fieldLink RX5 31 "SeaGames$Play" "leftTo" "[I") (List.mem_cons_of_mem _ (List.mem_append_left _ (List.mem_of_getElem? (i := 10) rfl)))
  rw [X5_copyFrom] at hf
  refine lv_aload_n hx hb dX5_copyFrom_0 rfl (lv_at hl 0 rfl) ?_
  refine lv_aload_n hx hb dX5_copyFrom_1 rfl (lv_at hl 1 rfl) ?_
  refine va_get (D := D) (ci := 5) (v := .int x_a1_w) (C := RX5) (T := TX5) (N := 7) hx hb hts k1 hown hK hP 5 rfl rfl 0 (by decide) k0 (fun _ h9 => h9) rfl dX5_copyFrom_2 ?_
  refine va_put (D := D) (ci := 5) (v := .int x_a1_w) (ty := .int) (C := RX5) (T := TX5) (N := 7) hx hb hts k1 tyX5 tyX5_ok nmX5 hown hK hP hD hS 0 rfl rfl 0 (by decide) k0 (fun _ h9 => h9) rfl (by decide +kernel) rfl rfl (Nat.le_of_ble_eq_true rfl) dX5_copyFrom_5 (fun H locs hP hD hS => ?_)
  have hP : va_P D vwCl (wd_X5_copyFrom cy o_t o_a1 x_a1_w x_h x_hands x_rules x_pressRow x_leftFrom x_leftTo x_a1_w x_a1_h x_a1_hands x_a1_rules x_a1_pressRow x_a1_leftFrom x_a1_leftTo) H := hP
  have hD : va_D A (wd_X5_copyFrom cy o_t o_a1 x_a1_w x_h x_hands x_rules x_pressRow x_leftFrom x_leftTo x_a1_w x_a1_h x_a1_hands x_a1_rules x_a1_pressRow x_a1_leftFrom x_a1_leftTo) := hD
  refine lv_aload_n hx hb dX5_copyFrom_8 rfl (lv_at hl 0 rfl) ?_
  refine lv_aload_n hx hb dX5_copyFrom_9 rfl (lv_at hl 1 rfl) ?_
  refine va_get (D := D) (ci := 5) (v := .int x_a1_h) (C := RX5) (T := TX5) (N := 7) hx hb hts k1 hown hK hP 5 rfl rfl 1 (by decide) k2 (fun _ h9 => h9) rfl dX5_copyFrom_10 ?_
  refine va_put (D := D) (ci := 5) (v := .int x_a1_h) (ty := .int) (C := RX5) (T := TX5) (N := 7) hx hb hts k1 tyX5 tyX5_ok nmX5 hown hK hP hD hS 0 rfl rfl 1 (by decide) k2 (fun _ h9 => h9) rfl (by decide +kernel) rfl rfl (Nat.le_of_ble_eq_true rfl) dX5_copyFrom_13 (fun H locs hP hD hS => ?_)
  have hP : va_P D vwCl (wd_X5_copyFrom cy o_t o_a1 x_a1_w x_a1_h x_hands x_rules x_pressRow x_leftFrom x_leftTo x_a1_w x_a1_h x_a1_hands x_a1_rules x_a1_pressRow x_a1_leftFrom x_a1_leftTo) H := hP
  have hD : va_D A (wd_X5_copyFrom cy o_t o_a1 x_a1_w x_a1_h x_hands x_rules x_pressRow x_leftFrom x_leftTo x_a1_w x_a1_h x_a1_hands x_a1_rules x_a1_pressRow x_a1_leftFrom x_a1_leftTo) := hD
  refine lv_aload_n hx hb dX5_copyFrom_16 rfl (lv_at hl 0 rfl) ?_
  refine lv_aload_n hx hb dX5_copyFrom_17 rfl (lv_at hl 1 rfl) ?_
  refine va_get (D := D) (ci := 5) (v := .int x_a1_hands) (C := RX5) (T := TX5) (N := 7) hx hb hts k1 hown hK hP 5 rfl rfl 2 (by decide) k3 (fun _ h9 => h9) rfl dX5_copyFrom_18 ?_
  refine va_put (D := D) (ci := 5) (v := .int x_a1_hands) (ty := .int) (C := RX5) (T := TX5) (N := 7) hx hb hts k1 tyX5 tyX5_ok nmX5 hown hK hP hD hS 0 rfl rfl 2 (by decide) k3 (fun _ h9 => h9) rfl (by decide +kernel) rfl rfl (Nat.le_of_ble_eq_true rfl) dX5_copyFrom_21 (fun H locs hP hD hS => ?_)
  have hP : va_P D vwCl (wd_X5_copyFrom cy o_t o_a1 x_a1_w x_a1_h x_a1_hands x_rules x_pressRow x_leftFrom x_leftTo x_a1_w x_a1_h x_a1_hands x_a1_rules x_a1_pressRow x_a1_leftFrom x_a1_leftTo) H := hP
  have hD : va_D A (wd_X5_copyFrom cy o_t o_a1 x_a1_w x_a1_h x_a1_hands x_rules x_pressRow x_leftFrom x_leftTo x_a1_w x_a1_h x_a1_hands x_a1_rules x_a1_pressRow x_a1_leftFrom x_a1_leftTo) := hD
  refine lv_aload_n hx hb dX5_copyFrom_24 rfl (lv_at hl 1 rfl) ?_
  refine va_get (D := D) (ci := 5) (v := .ref (o_a1 4)) (C := RX5) (T := TX5) (N := 7) hx hb hts k1 hown hK hP 5 rfl rfl 3 (by decide) k4 (fun _ h9 => h9) rfl dX5_copyFrom_25 ?_
  refine lv_iconst (v := (0 : Int32)) hx hb dX5_copyFrom_28 (by decide) ?_
  refine lv_aload_n hx hb dX5_copyFrom_29 rfl (lv_at hl 0 rfl) ?_
  refine va_get (D := D) (ci := 5) (v := .ref (o_t 4)) (C := RX5) (T := TX5) (N := 7) hx hb hts k1 hown hK hP 0 rfl rfl 3 (by decide) k4 (fun _ h9 => h9) rfl dX5_copyFrom_30 ?_
  refine lv_iconst (v := (0 : Int32)) hx hb dX5_copyFrom_33 (by decide) ?_
  refine lv_iconst (v := (3 : Int32)) hx hb dX5_copyFrom_34 (by decide) ?_
  obtain ⟨w35, g1, g2, g3, g4, g5, ew35, hf⟩ := cpI_s hf
  refine my_copy (ws2 := (wd_X5_copyFrom cy o_t o_a1 x_a1_w x_a1_h x_a1_hands w35 x_pressRow x_leftFrom x_leftTo x_a1_w x_a1_h x_a1_hands x_a1_rules x_a1_pressRow x_a1_leftFrom x_a1_leftTo)) hx hb (hml.trans hl.1.symm) hown k5 k6 k7 k8 hK hP hD hS 6 1 rfl rfl g1 g2 g3 g4 g5 ew35 rfl (Nat.le_of_ble_eq_true rfl) (Nat.le_of_ble_eq_true rfl) dX5_copyFrom_35 (fun H locs hP hD hS => ?_)
  refine lv_aload_n hx hb dX5_copyFrom_38 rfl (lv_at hl 1 rfl) ?_
  refine va_get (D := D) (ci := 5) (v := .ref (o_a1 5)) (C := RX5) (T := TX5) (N := 7) hx hb hts k1 hown hK hP 5 rfl rfl 4 (by decide) k9 (fun _ h9 => h9) rfl dX5_copyFrom_39 ?_
  refine lv_iconst (v := (0 : Int32)) hx hb dX5_copyFrom_42 (by decide) ?_
  refine lv_aload_n hx hb dX5_copyFrom_43 rfl (lv_at hl 0 rfl) ?_
  refine va_get (D := D) (ci := 5) (v := .ref (o_t 5)) (C := RX5) (T := TX5) (N := 7) hx hb hts k1 hown hK hP 0 rfl rfl 4 (by decide) k9 (fun _ h9 => h9) rfl dX5_copyFrom_44 ?_
  refine lv_iconst (v := (0 : Int32)) hx hb dX5_copyFrom_47 (by decide) ?_
  refine lv_aload_n hx hb dX5_copyFrom_48 rfl (lv_at hl 0 rfl) ?_
  refine va_get (D := D) (ci := 5) (v := .ref (o_t 5)) (C := RX5) (T := TX5) (N := 7) hx hb hts k1 hown hK hP 0 rfl rfl 4 (by decide) k9 (fun _ h9 => h9) rfl dX5_copyFrom_49 ?_
  refine va_alen hx hb hK hP 2 0 rfl rfl (v := (Int32.ofNat 600)) rfl dX5_copyFrom_52 ?_
  obtain ⟨w53, g1, g2, g3, g4, g5, ew53, hf⟩ := cpI_s hf
  refine my_copy (ws2 := (wd_X5_copyFrom cy o_t o_a1 x_a1_w x_a1_h x_a1_hands w35 w53 x_leftFrom x_leftTo x_a1_w x_a1_h x_a1_hands x_a1_rules x_a1_pressRow x_a1_leftFrom x_a1_leftTo)) hx hb (hml.trans hl.1.symm) hown k5 k6 k7 k8 hK hP hD hS 7 2 rfl rfl g1 g2 g3 g4 g5 ew53 rfl (Nat.le_of_ble_eq_true rfl) (Nat.le_of_ble_eq_true rfl) dX5_copyFrom_53 (fun H locs hP hD hS => ?_)
  refine lv_aload_n hx hb dX5_copyFrom_56 rfl (lv_at hl 1 rfl) ?_
  refine va_get (D := D) (ci := 5) (v := .ref (o_a1 6)) (C := RX5) (T := TX5) (N := 7) hx hb hts k1 hown hK hP 5 rfl rfl 5 (by decide) k10 (fun _ h9 => h9) rfl dX5_copyFrom_57 ?_
  refine lv_iconst (v := (0 : Int32)) hx hb dX5_copyFrom_60 (by decide) ?_
  refine lv_aload_n hx hb dX5_copyFrom_61 rfl (lv_at hl 0 rfl) ?_
  refine va_get (D := D) (ci := 5) (v := .ref (o_t 6)) (C := RX5) (T := TX5) (N := 7) hx hb hts k1 hown hK hP 0 rfl rfl 5 (by decide) k10 (fun _ h9 => h9) rfl dX5_copyFrom_62 ?_
  refine lv_iconst (v := (0 : Int32)) hx hb dX5_copyFrom_65 (by decide) ?_
  refine lv_aload_n hx hb dX5_copyFrom_66 rfl (lv_at hl 0 rfl) ?_
  refine va_get (D := D) (ci := 5) (v := .ref (o_t 6)) (C := RX5) (T := TX5) (N := 7) hx hb hts k1 hown hK hP 0 rfl rfl 5 (by decide) k10 (fun _ h9 => h9) rfl dX5_copyFrom_67 ?_
  refine va_alen hx hb hK hP 3 0 rfl rfl (v := (Int32.ofNat 6)) rfl dX5_copyFrom_70 ?_
  obtain ⟨w71, g1, g2, g3, g4, g5, ew71, hf⟩ := cpI_s hf
  refine my_copy (ws2 := (wd_X5_copyFrom cy o_t o_a1 x_a1_w x_a1_h x_a1_hands w35 w53 w71 x_leftTo x_a1_w x_a1_h x_a1_hands x_a1_rules x_a1_pressRow x_a1_leftFrom x_a1_leftTo)) hx hb (hml.trans hl.1.symm) hown k5 k6 k7 k8 hK hP hD hS 8 3 rfl rfl g1 g2 g3 g4 g5 ew71 rfl (Nat.le_of_ble_eq_true rfl) (Nat.le_of_ble_eq_true rfl) dX5_copyFrom_71 (fun H locs hP hD hS => ?_)
  refine lv_aload_n hx hb dX5_copyFrom_74 rfl (lv_at hl 1 rfl) ?_
  refine va_get (D := D) (ci := 5) (v := .ref (o_a1 7)) (C := RX5) (T := TX5) (N := 7) hx hb hts k1 hown hK hP 5 rfl rfl 6 (by decide) k11 (fun _ h9 => h9) rfl dX5_copyFrom_75 ?_
  refine lv_iconst (v := (0 : Int32)) hx hb dX5_copyFrom_78 (by decide) ?_
  refine lv_aload_n hx hb dX5_copyFrom_79 rfl (lv_at hl 0 rfl) ?_
  refine va_get (D := D) (ci := 5) (v := .ref (o_t 7)) (C := RX5) (T := TX5) (N := 7) hx hb hts k1 hown hK hP 0 rfl rfl 6 (by decide) k11 (fun _ h9 => h9) rfl dX5_copyFrom_80 ?_
  refine lv_iconst (v := (0 : Int32)) hx hb dX5_copyFrom_83 (by decide) ?_
  refine lv_aload_n hx hb dX5_copyFrom_84 rfl (lv_at hl 0 rfl) ?_
  refine va_get (D := D) (ci := 5) (v := .ref (o_t 7)) (C := RX5) (T := TX5) (N := 7) hx hb hts k1 hown hK hP 0 rfl rfl 6 (by decide) k11 (fun _ h9 => h9) rfl dX5_copyFrom_85 ?_
  refine va_alen hx hb hK hP 4 0 rfl rfl (v := (Int32.ofNat 6)) rfl dX5_copyFrom_88 ?_
  obtain ⟨w89, g1, g2, g3, g4, g5, ew89, hf⟩ := cpI_s hf
  refine my_copy (ws2 := (wd_X5_copyFrom cy o_t o_a1 x_a1_w x_a1_h x_a1_hands w35 w53 w71 w89 x_a1_w x_a1_h x_a1_hands x_a1_rules x_a1_pressRow x_a1_leftFrom x_a1_leftTo)) hx hb (hml.trans hl.1.symm) hown k5 k6 k7 k8 hK hP hD hS 9 4 rfl rfl g1 g2 g3 g4 g5 ew89 rfl (Nat.le_of_ble_eq_true rfl) (Nat.le_of_ble_eq_true rfl) dX5_copyFrom_89 (fun H locs hP hD hS => ?_)
  obtain rfl := Option.some.inj hf
  exact hR _ _ _ _ hP hD hS dX5_copyFrom_92
theorem hd_X5_copyFrom : yX5_copyFrom.cls ≠ "java/lang/invoke/MethodHandle" ∧ yX5_copyFrom.cls ≠ "java/lang/invoke/VarHandle" ∧ (parseMethodDescriptor yX5_copyFrom.desc).map (fun d => d.parameters.length) = some 1 := by decide +kernel
set_option maxRecDepth 100000 in
theorem c_X5_copyFrom (l : Launch) (D : va_G) (cy : Nat → ClassId) (t : Nat → Nat) (o_t o_a1 : Nat → Nat) (x_w : Int32) (x_h : Int32) (x_hands : Int32) (x_rules : Nat → Int32) (x_pressRow : Nat → Int32) (x_leftFrom : Nat → Int32) (x_leftTo : Nat → Int32) (x_a1_w : Int32) (x_a1_h : Int32) (x_a1_hands : Int32) (x_a1_rules : Nat → Int32) (x_a1_pressRow : Nat → Int32) (x_a1_leftFrom : Nat → Int32) (x_a1_leftTo : Nat → Int32) {out : Int32 × Int32 × Int32 × (Nat → Int32) × (Nat → Int32) × (Nat → Int32) × (Nat → Int32)} (hf : X5_copyFrom x_a1_w x_a1_h x_a1_hands x_a1_rules x_a1_pressRow x_a1_leftFrom x_a1_leftTo x_w x_h x_hands x_rules x_pressRow x_leftFrom x_leftTo = some out) : ctV l yX5_copyFrom wsX5_copyFrom 1 40 D cy t [.ref (o_t 0), .ref (o_a1 0)] (wd_X5_copyFrom cy o_t o_a1 x_w x_h x_hands x_rules x_pressRow x_leftFrom x_leftTo x_a1_w x_a1_h x_a1_hands x_a1_rules x_a1_pressRow x_a1_leftFrom x_a1_leftTo) (wd_X5_copyFrom cy o_t o_a1 out.1 out.2.1 out.2.2.1 out.2.2.2.1 out.2.2.2.2.1 out.2.2.2.2.2.1 out.2.2.2.2.2.2 x_a1_w x_a1_h x_a1_hands x_a1_rules x_a1_pressRow x_a1_leftFrom x_a1_leftTo) := by
  refine ⟨rfl, ?_⟩
  intro sz
  refine Met.ofW (cc := cX5_copyFrom) (maxL := 2) (ret := none) (by decide) rfl ?_
  intro p e s m args below meth c s₁ B hml hv
  obtain ⟨rfl, hsz, hP, hK, hD0, hE⟩ := hv
  have hts := atoms_spec (ws := wsX5_copyFrom) B.pre
  have hown : s.vm.findClass RX5 = some m.cls := findClass_of_methodNamed B.named
  have hlocks := B.notSynchronized
  subst hsz
  have hD := hD0.self (sz := s.heap.size)
  have hl := lv_entry ([.ref (o_t 0), .ref (o_a1 0)]) (n := 2) (Nat.le_of_ble_eq_true rfl)
  rw [lg_entry_eq]
  generalize (lg_sl ([.ref (o_t 0), .ref (o_a1 0)]) ++ List.replicate (2 - (lg_sl ([.ref (o_t 0), .ref (o_a1 0)])).length) Slot.unset).toArray = ls at hl ⊢
  exact w_X5_copyFrom D cy t o_t o_a1 x_w x_h x_hands x_rules x_pressRow x_leftFrom x_leftTo x_a1_w x_a1_h x_a1_hands x_a1_rules x_a1_pressRow x_a1_leftFrom x_a1_leftTo hf B.exec B.bytes hml hown hts hK hE (fun q h => Or.inr h) hP hD va_S.rf hl (fun H locs ls pc hP hD hS hdg => W.vret B.exec B.bytes B.returns (fun t ht hW => ⟨⟨(), rfl, trivial, ctB_of ht hP⟩, hS.F ht⟩) hS.2.2 hdg)

noncomputable def X5_pressOf (x_pressRow : Nat → Int32) (p1 : Int32) (p2 : Int32) : Option (Int32) :=
  rd x_pressRow 600 ((p1 * (100 : Int32)) + p2) fun v10 => some v10
abbrev wd_X5_pressOf (cy : Nat → ClassId) (o_t : Nat → Nat) (x_w : Int32) (x_h : Int32) (x_hands : Int32) (x_pressRow : Nat → Int32) : va_W := [(o_t 0, .inr (5, [.int x_w, .int x_h, .int x_hands, .ref (o_t 4), .ref (o_t 5), .ref (o_t 6), .ref (o_t 7)])), (o_t 5, .inl (cy 0, 600, .inl x_pressRow))]
set_option maxHeartbeats 4000000 in
set_option maxRecDepth 100000 in
theorem w_X5_pressOf {p : Program} {l : Launch} {e : Env} {s : State} {m : MethodId} {args : Array Value} {below : List Frame} {meth : Method} {c : Code} {Q : State → Prop} {A : Nat → Prop} {H : Heap} {locs : List Loc} {ls : Array Slot} (D : va_G) (cy : Nat → ClassId) (t : Nat → Nat) (o_t : Nat → Nat) (x_w : Int32) (x_h : Int32) (x_hands : Int32) (x_pressRow : Nat → Int32) (p1 : Int32) (p2 : Int32) {out : Int32} (hf : X5_pressOf x_pressRow p1 p2 = some out) (hx : p.tables.exec = Jvm.exec) (hb : c.code = cX5_pressOf) (hml : c.maxLocals = 3) (hown : s.vm.findClass RX5 = some m.cls) (hts : ∀ w ∈ wsX5_pressOf, w.before args s = true) (hK : va_K D vwCl (TYS cy) s) (hE : EV t A s s.heap) (hA : ∀ q, s.heap.size ≤ q → A q) (hP : va_P D vwCl (wd_X5_pressOf cy o_t x_w x_h x_hands x_pressRow) H) (hD : va_D A (wd_X5_pressOf cy o_t x_w x_h x_hands x_pressRow)) (hS : va_S A s.heap H locs) (hl : lv_has ls 3 [(0, .ref (o_t 0)), (1, .int p1), (2, .int p2)]) (hR : ∀ (H : Heap) (locs : List Loc) (ls : Array Slot) (pc : Nat), va_P D vwCl (wd_X5_pressOf cy o_t x_w x_h x_hands x_pressRow) H → va_D A (wd_X5_pressOf cy o_t x_w x_h x_hands x_pressRow) → va_S A s.heap H locs → decode cX5_pressOf pc = .ok (.ireturn, 1) → W p l e (rmm 0 0) s m args below meth c H locs 0 0 Q (F0 m pc ls [.int out])) : W p l e (rmm 0 0) s m args below meth c H locs 0 0 Q (F0 m 0 ls []) := by
  have k0 := hts (.fieldLink RX5 25 "SeaGames$Play" "pressRow" "[I") (List.mem_cons_of_mem _ (List.mem_append_left _ (List.mem_of_getElem? (i := 0) rfl)))
  have k1 : ∀ w ∈ u_ws RX5 TX5 7, w ∈ wsX5_pressOf := fun _ h => List.mem_cons_of_mem _ (List.mem_append_right _ h)
  rw [X5_pressOf] at hf
  refine lv_aload_n hx hb dX5_pressOf_0 rfl (lv_at hl 0 rfl) ?_
  refine va_get (D := D) (ci := 5) (v := .ref (o_t 5)) (C := RX5) (T := TX5) (N := 7) hx hb hts k1 hown hK hP 0 rfl rfl 4 (by decide) k0 (fun _ h9 => h9) rfl dX5_pressOf_1 ?_
  refine lv_iload_n hx hb dX5_pressOf_4 rfl (lv_at hl 1 rfl) ?_
  refine lv_bipush (v := (100 : Int32)) hx hb dX5_pressOf_5 (by decide) ?_
  refine lv_imul hx hb dX5_pressOf_7 ?_
  refine lv_iload_n hx hb dX5_pressOf_8 rfl (lv_at hl 2 rfl) ?_
  refine lv_iadd hx hb dX5_pressOf_9 ?_
  obtain ⟨v10, b10, ev10, hf⟩ := rd_s hf
  refine my_iald hx hb hK hP 1 rfl b10 ev10 dX5_pressOf_10 ?_
  obtain rfl := Option.some.inj hf
  exact hR _ _ _ _ hP hD hS dX5_pressOf_11
theorem hd_X5_pressOf : yX5_pressOf.cls ≠ "java/lang/invoke/MethodHandle" ∧ yX5_pressOf.cls ≠ "java/lang/invoke/VarHandle" ∧ (parseMethodDescriptor yX5_pressOf.desc).map (fun d => d.parameters.length) = some 2 := by decide +kernel
set_option maxRecDepth 100000 in
theorem c_X5_pressOf (l : Launch) (D : va_G) (cy : Nat → ClassId) (t : Nat → Nat) (o_t : Nat → Nat) (x_w : Int32) (x_h : Int32) (x_hands : Int32) (x_pressRow : Nat → Int32) (p1 : Int32) (p2 : Int32) {out : Int32} (hf : X5_pressOf x_pressRow p1 p2 = some out) : ctI l yX5_pressOf wsX5_pressOf 0 0 D cy t [.ref (o_t 0), .int p1, .int p2] (wd_X5_pressOf cy o_t x_w x_h x_hands x_pressRow) (wd_X5_pressOf cy o_t x_w x_h x_hands x_pressRow) out := by
  refine ⟨rfl, ?_⟩
  intro sz
  refine Met.ofW (cc := cX5_pressOf) (maxL := 3) (ret := (some .int)) (by decide) rfl ?_
  intro p e s m args below meth c s₁ B hml hv
  obtain ⟨rfl, hsz, hP, hK, hD0, hE⟩ := hv
  have hts := atoms_spec (ws := wsX5_pressOf) B.pre
  have hown : s.vm.findClass RX5 = some m.cls := findClass_of_methodNamed B.named
  have hlocks := B.notSynchronized
  subst hsz
  have hD := hD0.self (sz := s.heap.size)
  have hl := lv_entry ([.ref (o_t 0), .int p1, .int p2]) (n := 3) (Nat.le_of_ble_eq_true rfl)
  rw [lg_entry_eq]
  generalize (lg_sl ([.ref (o_t 0), .int p1, .int p2]) ++ List.replicate (3 - (lg_sl ([.ref (o_t 0), .int p1, .int p2])).length) Slot.unset).toArray = ls at hl ⊢
  exact w_X5_pressOf D cy t o_t x_w x_h x_hands x_pressRow p1 p2 hf B.exec B.bytes hml hown hts hK hE (fun q h => Or.inr h) hP hD va_S.rf hl (fun H locs ls pc hP hD hS hdg => W.iret B.exec B.bytes B.returns (fun t ht hW => ⟨⟨_, (), rfl, rfl, ctB_of ht hP⟩, hS.F ht⟩) hS.2.2 hdg)

noncomputable def X5_setPress (x_pressRow : Nat → Int32) (p1 : Int32) (p2 : Int32) (p3 : Int32) : Option ((Nat → Int32)) :=
  wrI x_pressRow 600 ((p1 * (100 : Int32)) + p2) p3 fun w11 => some w11
abbrev wd_X5_setPress (cy : Nat → ClassId) (o_t : Nat → Nat) (x_w : Int32) (x_h : Int32) (x_hands : Int32) (x_pressRow : Nat → Int32) : va_W := [(o_t 0, .inr (5, [.int x_w, .int x_h, .int x_hands, .ref (o_t 4), .ref (o_t 5), .ref (o_t 6), .ref (o_t 7)])), (o_t 5, .inl (cy 0, 600, .inl x_pressRow))]
set_option maxHeartbeats 4000000 in
set_option maxRecDepth 100000 in
theorem w_X5_setPress {p : Program} {l : Launch} {e : Env} {s : State} {m : MethodId} {args : Array Value} {below : List Frame} {meth : Method} {c : Code} {Q : State → Prop} {A : Nat → Prop} {H : Heap} {locs : List Loc} {ls : Array Slot} (D : va_G) (cy : Nat → ClassId) (t : Nat → Nat) (o_t : Nat → Nat) (x_w : Int32) (x_h : Int32) (x_hands : Int32) (x_pressRow : Nat → Int32) (p1 : Int32) (p2 : Int32) (p3 : Int32) {out : (Nat → Int32)} (hf : X5_setPress x_pressRow p1 p2 p3 = some out) (hx : p.tables.exec = Jvm.exec) (hb : c.code = cX5_setPress) (hml : c.maxLocals = 4) (hown : s.vm.findClass RX5 = some m.cls) (hts : ∀ w ∈ wsX5_setPress, w.before args s = true) (hK : va_K D vwCl (TYS cy) s) (hE : EV t A s s.heap) (hA : ∀ q, s.heap.size ≤ q → A q) (hP : va_P D vwCl (wd_X5_setPress cy o_t x_w x_h x_hands x_pressRow) H) (hD : va_D A (wd_X5_setPress cy o_t x_w x_h x_hands x_pressRow)) (hS : va_S A s.heap H locs) (hl : lv_has ls 4 [(0, .ref (o_t 0)), (1, .int p1), (2, .int p2), (3, .int p3)]) (hR : ∀ (H : Heap) (locs : List Loc) (ls : Array Slot) (pc : Nat), va_P D vwCl (wd_X5_setPress cy o_t x_w x_h x_hands out) H → va_D A (wd_X5_setPress cy o_t x_w x_h x_hands out) → va_S A s.heap H locs → decode cX5_setPress pc = .ok (.return_, 1) → W p l e (rmm 0 0) s m args below meth c H locs 0 0 Q (F0 m pc ls [])) : W p l e (rmm 0 0) s m args below meth c H locs 0 0 Q (F0 m 0 ls []) := by
  have k0 := hts (.fieldLink RX5 25 "SeaGames$Play" "pressRow" "[I") (List.mem_cons_of_mem _ (List.mem_append_left _ (List.mem_of_getElem? (i := 0) rfl)))
  have k1 : ∀ w ∈ u_ws RX5 TX5 7, w ∈ wsX5_setPress := fun _ h => List.mem_cons_of_mem _ (List.mem_append_right _ h)
  rw [X5_setPress] at hf
  refine lv_aload_n hx hb dX5_setPress_0 rfl (lv_at hl 0 rfl) ?_
  refine va_get (D := D) (ci := 5) (v := .ref (o_t 5)) (C := RX5) (T := TX5) (N := 7) hx hb hts k1 hown hK hP 0 rfl rfl 4 (by decide) k0 (fun _ h9 => h9) rfl dX5_setPress_1 ?_
  refine lv_iload_n hx hb dX5_setPress_4 rfl (lv_at hl 1 rfl) ?_
  refine lv_bipush (v := (100 : Int32)) hx hb dX5_setPress_5 (by decide) ?_
  refine lv_imul hx hb dX5_setPress_7 ?_
  refine lv_iload_n hx hb dX5_setPress_8 rfl (lv_at hl 2 rfl) ?_
  refine lv_iadd hx hb dX5_setPress_9 ?_
  refine lv_iload_n hx hb dX5_setPress_10 rfl (lv_at hl 3 rfl) ?_
  obtain ⟨w11, b11, ew11, hf⟩ := wrI_s hf
  refine my_iast (ws2 := (wd_X5_setPress cy o_t x_w x_h x_hands w11)) hx hb hK hP hD hS 1 rfl b11 ew11 rfl dX5_setPress_11 (fun H locs hP hD hS => ?_)
  obtain rfl := Option.some.inj hf
  exact hR _ _ _ _ hP hD hS dX5_setPress_12
theorem hd_X5_setPress : yX5_setPress.cls ≠ "java/lang/invoke/MethodHandle" ∧ yX5_setPress.cls ≠ "java/lang/invoke/VarHandle" ∧ (parseMethodDescriptor yX5_setPress.desc).map (fun d => d.parameters.length) = some 3 := by decide +kernel
set_option maxRecDepth 100000 in
theorem c_X5_setPress (l : Launch) (D : va_G) (cy : Nat → ClassId) (t : Nat → Nat) (o_t : Nat → Nat) (x_w : Int32) (x_h : Int32) (x_hands : Int32) (x_pressRow : Nat → Int32) (p1 : Int32) (p2 : Int32) (p3 : Int32) {out : (Nat → Int32)} (hf : X5_setPress x_pressRow p1 p2 p3 = some out) : ctV l yX5_setPress wsX5_setPress 0 0 D cy t [.ref (o_t 0), .int p1, .int p2, .int p3] (wd_X5_setPress cy o_t x_w x_h x_hands x_pressRow) (wd_X5_setPress cy o_t x_w x_h x_hands out) := by
  refine ⟨rfl, ?_⟩
  intro sz
  refine Met.ofW (cc := cX5_setPress) (maxL := 4) (ret := none) (by decide) rfl ?_
  intro p e s m args below meth c s₁ B hml hv
  obtain ⟨rfl, hsz, hP, hK, hD0, hE⟩ := hv
  have hts := atoms_spec (ws := wsX5_setPress) B.pre
  have hown : s.vm.findClass RX5 = some m.cls := findClass_of_methodNamed B.named
  have hlocks := B.notSynchronized
  subst hsz
  have hD := hD0.self (sz := s.heap.size)
  have hl := lv_entry ([.ref (o_t 0), .int p1, .int p2, .int p3]) (n := 4) (Nat.le_of_ble_eq_true rfl)
  rw [lg_entry_eq]
  generalize (lg_sl ([.ref (o_t 0), .int p1, .int p2, .int p3]) ++ List.replicate (4 - (lg_sl ([.ref (o_t 0), .int p1, .int p2, .int p3])).length) Slot.unset).toArray = ls at hl ⊢
  exact w_X5_setPress D cy t o_t x_w x_h x_hands x_pressRow p1 p2 p3 hf B.exec B.bytes hml hown hts hK hE (fun q h => Or.inr h) hP hD va_S.rf hl (fun H locs ls pc hP hD hS hdg => W.vret B.exec B.bytes B.returns (fun t ht hW => ⟨⟨(), rfl, trivial, ctB_of ht hP⟩, hS.F ht⟩) hS.2.2 hdg)

noncomputable def X5_isLeft (x_leftFrom : Nat → Int32) (x_leftTo : Nat → Int32) (p1 : Int32) (p2 : Int32) : Option (Int32) :=
  rd x_leftFrom 6 p1 fun v6 => if p2 < v6 then (zb (0 : Int32) <| some (0 : Int32)) else (rd x_leftTo 6 p1 fun v16 => if v16 ≤ p2 then (zb (0 : Int32) <| some (0 : Int32)) else (zb (1 : Int32) <| some (1 : Int32)))
abbrev wd_X5_isLeft (cy : Nat → ClassId) (o_t : Nat → Nat) (x_w : Int32) (x_h : Int32) (x_hands : Int32) (x_leftFrom : Nat → Int32) (x_leftTo : Nat → Int32) : va_W := [(o_t 0, .inr (5, [.int x_w, .int x_h, .int x_hands, .ref (o_t 4), .ref (o_t 5), .ref (o_t 6), .ref (o_t 7)])), (o_t 6, .inl (cy 0, 6, .inl x_leftFrom)), (o_t 7, .inl (cy 0, 6, .inl x_leftTo))]
set_option maxHeartbeats 4000000 in
set_option maxRecDepth 100000 in
theorem w_X5_isLeft {p : Program} {l : Launch} {e : Env} {s : State} {m : MethodId} {args : Array Value} {below : List Frame} {meth : Method} {c : Code} {Q : State → Prop} {A : Nat → Prop} {H : Heap} {locs : List Loc} {ls : Array Slot} (D : va_G) (cy : Nat → ClassId) (t : Nat → Nat) (o_t : Nat → Nat) (x_w : Int32) (x_h : Int32) (x_hands : Int32) (x_leftFrom : Nat → Int32) (x_leftTo : Nat → Int32) (p1 : Int32) (p2 : Int32) {out : Int32} (hf : X5_isLeft x_leftFrom x_leftTo p1 p2 = some out) (hx : p.tables.exec = Jvm.exec) (hb : c.code = cX5_isLeft) (hml : c.maxLocals = 3) (hown : s.vm.findClass RX5 = some m.cls) (hts : ∀ w ∈ wsX5_isLeft, w.before args s = true) (hK : va_K D vwCl (TYS cy) s) (hE : EV t A s s.heap) (hA : ∀ q, s.heap.size ≤ q → A q) (hP : va_P D vwCl (wd_X5_isLeft cy o_t x_w x_h x_hands x_leftFrom x_leftTo) H) (hD : va_D A (wd_X5_isLeft cy o_t x_w x_h x_hands x_leftFrom x_leftTo)) (hS : va_S A s.heap H locs) (hl : lv_has ls 3 [(0, .ref (o_t 0)), (1, .int p1), (2, .int p2)]) (hR : ∀ (H : Heap) (locs : List Loc) (ls : Array Slot) (pc : Nat), va_P D vwCl (wd_X5_isLeft cy o_t x_w x_h x_hands x_leftFrom x_leftTo) H → va_D A (wd_X5_isLeft cy o_t x_w x_h x_hands x_leftFrom x_leftTo) → va_S A s.heap H locs → narrow .boolean (.int out) = .int out → decode cX5_isLeft pc = .ok (.ireturn, 1) → W p l e (rmm 0 0) s m args below meth c H locs 0 0 Q (F0 m pc ls [.int out])) : W p l e (rmm 0 0) s m args below meth c H locs 0 0 Q (F0 m 0 ls []) := by
  have k0 := hts (.fieldLink RX5 28 "SeaGames$Play" "leftFrom" "[I") (List.mem_cons_of_mem _ (List.mem_append_left _ (List.mem_of_getElem? (i := 0) rfl)))
  have k1 : ∀ w ∈ u_ws RX5 TX5 7, w ∈ wsX5_isLeft := fun _ h => List.mem_cons_of_mem _ (List.mem_append_right _ h)
  have k2 := hts (.fieldLink RX5 31 "SeaGames$Play" "leftTo" "[I") (List.mem_cons_of_mem _ (List.mem_append_left _ (List.mem_of_getElem? (i := 1) rfl)))
  rw [X5_isLeft] at hf
  refine lv_iload_n hx hb dX5_isLeft_0 rfl (lv_at hl 2 rfl) ?_
  refine lv_aload_n hx hb dX5_isLeft_1 rfl (lv_at hl 0 rfl) ?_
  refine va_get (D := D) (ci := 5) (v := .ref (o_t 6)) (C := RX5) (T := TX5) (N := 7) hx hb hts k1 hown hK hP 0 rfl rfl 5 (by decide) k0 (fun _ h9 => h9) rfl dX5_isLeft_2 ?_
  refine lv_iload_n hx hb dX5_isLeft_5 rfl (lv_at hl 1 rfl) ?_
  obtain ⟨v6, b6, ev6, hf⟩ := rd_s hf
  refine my_iald hx hb hK hP 1 rfl b6 ev6 dX5_isLeft_6 ?_
  refine lv_icmp_lt (tgt := 24) hx hb dX5_isLeft_7 (by decide) (fun c7 => ?_) (fun c7 => ?_)
  · have hf := ifp c7 hf
    refine lv_iconst (v := (0 : Int32)) hx hb dX5_isLeft_24 (by decide) ?_
    obtain ⟨z25, hf⟩ := zb_s hf
    obtain rfl := Option.some.inj hf
    exact hR _ _ _ _ hP hD hS z25 dX5_isLeft_25
  · have hf := ifn c7 hf
    refine lv_iload_n hx hb dX5_isLeft_10 rfl (lv_at hl 2 rfl) ?_
    refine lv_aload_n hx hb dX5_isLeft_11 rfl (lv_at hl 0 rfl) ?_
    refine va_get (D := D) (ci := 5) (v := .ref (o_t 7)) (C := RX5) (T := TX5) (N := 7) hx hb hts k1 hown hK hP 0 rfl rfl 6 (by decide) k2 (fun _ h9 => h9) rfl dX5_isLeft_12 ?_
    refine lv_iload_n hx hb dX5_isLeft_15 rfl (lv_at hl 1 rfl) ?_
    obtain ⟨v16, b16, ev16, hf⟩ := rd_s hf
    refine my_iald hx hb hK hP 2 rfl b16 ev16 dX5_isLeft_16 ?_
    refine lv_icmp_ge (tgt := 24) hx hb dX5_isLeft_17 (by decide) (fun c17 => ?_) (fun c17 => ?_)
    · have hf := ifp c17 hf
      refine lv_iconst (v := (0 : Int32)) hx hb dX5_isLeft_24 (by decide) ?_
      obtain ⟨z25, hf⟩ := zb_s hf
      obtain rfl := Option.some.inj hf
      exact hR _ _ _ _ hP hD hS z25 dX5_isLeft_25
    · have hf := ifn c17 hf
      refine lv_iconst (v := (1 : Int32)) hx hb dX5_isLeft_20 (by decide) ?_
      refine lv_goto (tgt := 25) hx hb dX5_isLeft_21 (by decide) ?_
      obtain ⟨z25, hf⟩ := zb_s hf
      obtain rfl := Option.some.inj hf
      exact hR _ _ _ _ hP hD hS z25 dX5_isLeft_25
theorem hd_X5_isLeft : yX5_isLeft.cls ≠ "java/lang/invoke/MethodHandle" ∧ yX5_isLeft.cls ≠ "java/lang/invoke/VarHandle" ∧ (parseMethodDescriptor yX5_isLeft.desc).map (fun d => d.parameters.length) = some 2 := by decide +kernel
set_option maxRecDepth 100000 in
theorem c_X5_isLeft (l : Launch) (D : va_G) (cy : Nat → ClassId) (t : Nat → Nat) (o_t : Nat → Nat) (x_w : Int32) (x_h : Int32) (x_hands : Int32) (x_leftFrom : Nat → Int32) (x_leftTo : Nat → Int32) (p1 : Int32) (p2 : Int32) {out : Int32} (hf : X5_isLeft x_leftFrom x_leftTo p1 p2 = some out) : ctI l yX5_isLeft wsX5_isLeft 0 0 D cy t [.ref (o_t 0), .int p1, .int p2] (wd_X5_isLeft cy o_t x_w x_h x_hands x_leftFrom x_leftTo) (wd_X5_isLeft cy o_t x_w x_h x_hands x_leftFrom x_leftTo) out := by
  refine ⟨rfl, ?_⟩
  intro sz
  refine Met.ofW (cc := cX5_isLeft) (maxL := 3) (ret := (some .boolean)) (by decide) rfl ?_
  intro p e s m args below meth c s₁ B hml hv
  obtain ⟨rfl, hsz, hP, hK, hD0, hE⟩ := hv
  have hts := atoms_spec (ws := wsX5_isLeft) B.pre
  have hown : s.vm.findClass RX5 = some m.cls := findClass_of_methodNamed B.named
  have hlocks := B.notSynchronized
  subst hsz
  have hD := hD0.self (sz := s.heap.size)
  have hl := lv_entry ([.ref (o_t 0), .int p1, .int p2]) (n := 3) (Nat.le_of_ble_eq_true rfl)
  rw [lg_entry_eq]
  generalize (lg_sl ([.ref (o_t 0), .int p1, .int p2]) ++ List.replicate (3 - (lg_sl ([.ref (o_t 0), .int p1, .int p2])).length) Slot.unset).toArray = ls at hl ⊢
  exact w_X5_isLeft D cy t o_t x_w x_h x_hands x_leftFrom x_leftTo p1 p2 hf B.exec B.bytes hml hown hts hK hE (fun q h => Or.inr h) hP hD va_S.rf hl (fun H locs ls pc hP hD hS z hdg => W.zret B.exec B.bytes B.returns z (fun t ht hW => ⟨⟨_, (), rfl, rfl, ctB_of ht hP⟩, hS.F ht⟩) hS.2.2 hdg)

noncomputable def X5_fillPresses_L2_B (n_a2 : Nat) (x_hands : Int32) (x_pressRow : Nat → Int32) (rec2 : (Nat → Int32) → Int32 → Int32 → Option ((Nat → Int32))) (x_a2 : Nat → Int32) (l1 : Int32) (l3 : Int32) : Option ((Nat → Int32)) :=
  if x_hands ≤ l3 then (some x_a2) else (bd (X5_pressOf x_pressRow l3 l1) fun r15 => wrI x_a2 n_a2 l3 r15 fun w18 => nm (l3 + (1 : Int32)) fun v19 => rec2 w18 l1 v19)
noncomputable def X5_fillPresses_L2 (n_a2 : Nat) (x_hands : Int32) (x_pressRow : Nat → Int32) : Nat → (Nat → Int32) → Int32 → Int32 → Option ((Nat → Int32))
  | 0, _, _, _ => none
  | n + 1, y0, y1, y2 => X5_fillPresses_L2_B n_a2 x_hands x_pressRow  (X5_fillPresses_L2 n_a2 x_hands x_pressRow  n) y0 y1 y2
noncomputable def X5_fillPresses (n_a2 : Nat) (x_hands : Int32) (x_pressRow : Nat → Int32) (x_a2 : Nat → Int32) (p1 : Int32) : Option ((Nat → Int32)) :=
  X5_fillPresses_L2 n_a2 x_hands x_pressRow  FU x_a2 p1 (0 : Int32)
abbrev wd_X5_fillPresses (cy : Nat → ClassId) (o_t : Nat → Nat) (r_a2 n_a2 : Nat) (x_w : Int32) (x_h : Int32) (x_hands : Int32) (x_pressRow : Nat → Int32) (x_a2 : Nat → Int32) : va_W := [(o_t 0, .inr (5, [.int x_w, .int x_h, .int x_hands, .ref (o_t 4), .ref (o_t 5), .ref (o_t 6), .ref (o_t 7)])), (o_t 5, .inl (cy 0, 600, .inl x_pressRow)), (r_a2, .inl (cy 0, n_a2, .inl x_a2))]
set_option maxHeartbeats 4000000 in
set_option maxRecDepth 100000 in
theorem w_X5_fillPresses {p : Program} {l : Launch} {e : Env} {s : State} {m : MethodId} {args : Array Value} {below : List Frame} {meth : Method} {c : Code} {Q : State → Prop} {A : Nat → Prop} {H : Heap} {locs : List Loc} {ls : Array Slot} (D : va_G) (cy : Nat → ClassId) (t : Nat → Nat) (o_t : Nat → Nat) (r_a2 n_a2 : Nat) (x_w : Int32) (x_h : Int32) (x_hands : Int32) (x_pressRow : Nat → Int32) (x_a2 : Nat → Int32) (p1 : Int32) {out : (Nat → Int32)} (hf : X5_fillPresses n_a2 x_hands x_pressRow x_a2 p1 = some out) (hx : p.tables.exec = Jvm.exec) (hb : c.code = cX5_fillPresses) (hml : c.maxLocals = 4) (hown : s.vm.findClass RX5 = some m.cls) (hts : ∀ w ∈ wsX5_fillPresses, w.before args s = true) (hK : va_K D vwCl (TYS cy) s) (hE : EV t A s s.heap) (hA : ∀ q, s.heap.size ≤ q → A q) (hP : va_P D vwCl (wd_X5_fillPresses cy o_t r_a2 n_a2 x_w x_h x_hands x_pressRow x_a2) H) (hD : va_D A (wd_X5_fillPresses cy o_t r_a2 n_a2 x_w x_h x_hands x_pressRow x_a2)) (hS : va_S A s.heap H locs) (hl : lv_has ls 4 [(0, .ref (o_t 0)), (1, .int p1), (2, .ref r_a2)]) (hR : ∀ (H : Heap) (locs : List Loc) (ls : Array Slot) (pc : Nat), va_P D vwCl (wd_X5_fillPresses cy o_t r_a2 n_a2 x_w x_h x_hands x_pressRow out) H → va_D A (wd_X5_fillPresses cy o_t r_a2 n_a2 x_w x_h x_hands x_pressRow out) → va_S A s.heap H locs → decode cX5_fillPresses pc = .ok (.return_, 1) → W p l e (rmm 1 22) s m args below meth c H locs 0 0 Q (F0 m pc ls [])) : W p l e (rmm 1 22) s m args below meth c H locs 0 0 Q (F0 m 0 ls []) := by
  have k0 := hts (.fieldLink RX5 18 "SeaGames$Play" "hands" "I") (List.mem_cons_of_mem _ (List.mem_append_left _ (List.mem_of_getElem? (i := 0) rfl)))
  have k1 : ∀ w ∈ u_ws RX5 TX5 7, w ∈ wsX5_fillPresses := fun _ h => List.mem_cons_of_mem _ (List.mem_append_right _ h)
  rw [X5_fillPresses] at hf
  have h2 : ∀ (n2 : Nat) (x_a2 : Nat → Int32) (l1 : Int32) (l3 : Int32) (H : Heap) (locs : List Loc) (ls : Array Slot), X5_fillPresses_L2 n_a2 x_hands x_pressRow n2 x_a2 l1 l3 = some out → va_P D vwCl (wd_X5_fillPresses cy o_t r_a2 n_a2 x_w x_h x_hands x_pressRow x_a2) H → va_D A (wd_X5_fillPresses cy o_t r_a2 n_a2 x_w x_h x_hands x_pressRow x_a2) → va_S A s.heap H locs → lv_has ls 4 [(0, .ref (o_t 0)), (1, .int l1), (2, .ref r_a2), (3, .int l3)] → W p l e (rmm 1 22) s m args below meth c H locs 0 0 Q (F0 m 2 ls []) := by
    intro n2
    induction n2 with
    | zero =>
      intro _ _ _ _ _ _ hf
      exact nomatch (show (none : Option _) = some out from hf)
    | succ n2 ih2 =>
      intro x_a2 l1 l3 H locs ls hf hP hD hS hl
      have hf : X5_fillPresses_L2_B n_a2 x_hands x_pressRow (X5_fillPresses_L2 n_a2 x_hands x_pressRow n2) x_a2 l1 l3 = some out := hf
      rw [X5_fillPresses_L2_B] at hf
      refine lv_iload_n hx hb dX5_fillPresses_2 rfl (lv_at hl 3 rfl) ?_
      refine lv_aload_n hx hb dX5_fillPresses_3 rfl (lv_at hl 0 rfl) ?_
      refine va_get (D := D) (ci := 5) (v := .int x_hands) (C := RX5) (T := TX5) (N := 7) hx hb hts k1 hown hK hP 0 rfl rfl 2 (by decide) k0 (fun _ h9 => h9) rfl dX5_fillPresses_4 ?_
      refine lv_icmp_ge (tgt := 25) hx hb dX5_fillPresses_7 (by decide) (fun c7 => ?_) (fun c7 => ?_)
      · have hf := ifp c7 hf
        obtain rfl := Option.some.inj hf
        exact hR _ _ _ _ hP hD hS dX5_fillPresses_25
      · have hf := ifn c7 hf
        refine lv_aload_n hx hb dX5_fillPresses_10 rfl (lv_at hl 2 rfl) ?_
        refine lv_iload_n hx hb dX5_fillPresses_11 rfl (lv_at hl 3 rfl) ?_
        refine lv_aload_n hx hb dX5_fillPresses_12 rfl (lv_at hl 0 rfl) ?_
        refine lv_iload_n hx hb dX5_fillPresses_13 rfl (lv_at hl 3 rfl) ?_
        refine lv_iload_n hx hb dX5_fillPresses_14 rfl (lv_at hl 1 rfl) ?_
        obtain ⟨r15, hr15, hf⟩ := bd_s hf
        refine my_Vi (WS2 := (wd_X5_fillPresses cy o_t r_a2 n_a2 x_w x_h x_hands x_pressRow x_a2)) ⟨hx, hb, hml, hown, hts⟩ (c_X5_pressOf l D cy t o_t x_w x_h x_hands x_pressRow l3 l1 hr15) (cwV 2 hts gX5_fillPresses_X5_pressOf rfl rfl rfl ⟨rfl, hd_X5_pressOf⟩ ⟨Nat.le_of_ble_eq_true rfl, Nat.le_of_ble_eq_true rfl⟩) hK hE hP hD hS hA [0, 1] 3 5 0 rfl rfl rfl rfl (by decide +kernel) rfl rfl hl.1 rfl (Nat.le_of_ble_eq_true rfl) dX5_fillPresses_15 ⟨Nat.le_of_ble_eq_true rfl, Nat.le_of_ble_eq_true rfl⟩ (fun H locs hP hD hS => ?_)
        obtain ⟨w18, b18, ew18, hf⟩ := wrI_s hf
        refine my_iast (ws2 := (wd_X5_fillPresses cy o_t r_a2 n_a2 x_w x_h x_hands x_pressRow w18)) hx hb hK hP hD hS 2 rfl b18 ew18 rfl dX5_fillPresses_18 (fun H locs hP hD hS => ?_)
        obtain ⟨v19, ev19, hf⟩ := nm_s hf
        refine lv_iinc (v := v19) (lv' := [(3, .int v19), (0, .ref (o_t 0)), (1, .int l1), (2, .ref r_a2)]) hx hb dX5_fillPresses_19 hl (k := 3) rfl (by rw [ev19]; rfl) (by decide) rfl (fun ls hl => ?_)
        refine lv_goto (tgt := 2) hx hb dX5_fillPresses_22 (by decide) ?_
        exact ih2 _ _ _ _ _ _ hf hP hD hS (lv_sub hl [1, 2, 3, 0] rfl)
  refine lv_iconst (v := (0 : Int32)) hx hb dX5_fillPresses_0 (by decide) ?_
  refine lv_istore_n (lv' := [(3, .int (0 : Int32)), (0, .ref (o_t 0)), (1, .int p1), (2, .ref r_a2)]) hx hb dX5_fillPresses_1 rfl hl (by decide) rfl (fun ls hl => ?_)
  exact h2 FU _ _ _ _ _ _ hf hP hD hS (lv_sub hl [1, 2, 3, 0] rfl)
theorem hd_X5_fillPresses : yX5_fillPresses.cls ≠ "java/lang/invoke/MethodHandle" ∧ yX5_fillPresses.cls ≠ "java/lang/invoke/VarHandle" ∧ (parseMethodDescriptor yX5_fillPresses.desc).map (fun d => d.parameters.length) = some 2 := by decide +kernel
set_option maxRecDepth 100000 in
theorem c_X5_fillPresses (l : Launch) (D : va_G) (cy : Nat → ClassId) (t : Nat → Nat) (o_t : Nat → Nat) (r_a2 n_a2 : Nat) (x_w : Int32) (x_h : Int32) (x_hands : Int32) (x_pressRow : Nat → Int32) (x_a2 : Nat → Int32) (p1 : Int32) {out : (Nat → Int32)} (hf : X5_fillPresses n_a2 x_hands x_pressRow x_a2 p1 = some out) : ctV l yX5_fillPresses wsX5_fillPresses 1 22 D cy t [.ref (o_t 0), .int p1, .ref r_a2] (wd_X5_fillPresses cy o_t r_a2 n_a2 x_w x_h x_hands x_pressRow x_a2) (wd_X5_fillPresses cy o_t r_a2 n_a2 x_w x_h x_hands x_pressRow out) := by
  refine ⟨rfl, ?_⟩
  intro sz
  refine Met.ofW (cc := cX5_fillPresses) (maxL := 4) (ret := none) (by decide) rfl ?_
  intro p e s m args below meth c s₁ B hml hv
  obtain ⟨rfl, hsz, hP, hK, hD0, hE⟩ := hv
  have hts := atoms_spec (ws := wsX5_fillPresses) B.pre
  have hown : s.vm.findClass RX5 = some m.cls := findClass_of_methodNamed B.named
  have hlocks := B.notSynchronized
  subst hsz
  have hD := hD0.self (sz := s.heap.size)
  have hl := lv_entry ([.ref (o_t 0), .int p1, .ref r_a2]) (n := 4) (Nat.le_of_ble_eq_true rfl)
  rw [lg_entry_eq]
  generalize (lg_sl ([.ref (o_t 0), .int p1, .ref r_a2]) ++ List.replicate (4 - (lg_sl ([.ref (o_t 0), .int p1, .ref r_a2])).length) Slot.unset).toArray = ls at hl ⊢
  exact w_X5_fillPresses D cy t o_t r_a2 n_a2 x_w x_h x_hands x_pressRow x_a2 p1 hf B.exec B.bytes hml hown hts hK hE (fun q h => Or.inr h) hP hD va_S.rf hl (fun H locs ls pc hP hD hS hdg => W.vret B.exec B.bytes B.returns (fun t ht hW => ⟨⟨(), rfl, trivial, ctB_of ht hP⟩, hS.F ht⟩) hS.2.2 hdg)

noncomputable def X5_pressed_J27 (x_hands : Int32) (x_pressRow : Nat → Int32) (rec4 : Int32 → Int32 → Option (Int32)) (l1 : Int32) (l2 : Int32) : Option (Int32) :=
  nm (l2 + (1 : Int32)) fun v27 => rec4  l1 v27
noncomputable def X5_pressed_L4_B (x_hands : Int32) (x_pressRow : Nat → Int32) (rec4 : Int32 → Int32 → Option (Int32)) (l1 : Int32) (l2 : Int32) : Option (Int32) :=
  if (x_hands * (100 : Int32)) ≤ l2 then (some l1) else (rd x_pressRow 600 l2 fun v20 => if v20 = (0 : Int32) then (X5_pressed_J27 x_hands x_pressRow rec4  l1 l2) else (nm (l1 + (1 : Int32)) fun v24 => X5_pressed_J27 x_hands x_pressRow rec4  v24 l2))
noncomputable def X5_pressed_L4 (x_hands : Int32) (x_pressRow : Nat → Int32) : Nat → Int32 → Int32 → Option (Int32)
  | 0, _, _ => none
  | n + 1, y0, y1 => X5_pressed_L4_B x_hands x_pressRow  (X5_pressed_L4 x_hands x_pressRow  n) y0 y1
noncomputable def X5_pressed (x_hands : Int32) (x_pressRow : Nat → Int32) : Option (Int32) :=
  X5_pressed_L4 x_hands x_pressRow  FU  (0 : Int32) (0 : Int32)
abbrev wd_X5_pressed (cy : Nat → ClassId) (o_t : Nat → Nat) (x_w : Int32) (x_h : Int32) (x_hands : Int32) (x_pressRow : Nat → Int32) : va_W := [(o_t 0, .inr (5, [.int x_w, .int x_h, .int x_hands, .ref (o_t 4), .ref (o_t 5), .ref (o_t 6), .ref (o_t 7)])), (o_t 5, .inl (cy 0, 600, .inl x_pressRow))]
set_option maxHeartbeats 4000000 in
set_option maxRecDepth 100000 in
theorem w_X5_pressed {p : Program} {l : Launch} {e : Env} {s : State} {m : MethodId} {args : Array Value} {below : List Frame} {meth : Method} {c : Code} {Q : State → Prop} {A : Nat → Prop} {H : Heap} {locs : List Loc} {ls : Array Slot} (D : va_G) (cy : Nat → ClassId) (t : Nat → Nat) (o_t : Nat → Nat) (x_w : Int32) (x_h : Int32) (x_hands : Int32) (x_pressRow : Nat → Int32) {out : Int32} (hf : X5_pressed x_hands x_pressRow = some out) (hx : p.tables.exec = Jvm.exec) (hb : c.code = cX5_pressed) (hml : c.maxLocals = 3) (hown : s.vm.findClass RX5 = some m.cls) (hts : ∀ w ∈ wsX5_pressed, w.before args s = true) (hK : va_K D vwCl (TYS cy) s) (hE : EV t A s s.heap) (hA : ∀ q, s.heap.size ≤ q → A q) (hP : va_P D vwCl (wd_X5_pressed cy o_t x_w x_h x_hands x_pressRow) H) (hD : va_D A (wd_X5_pressed cy o_t x_w x_h x_hands x_pressRow)) (hS : va_S A s.heap H locs) (hl : lv_has ls 3 [(0, .ref (o_t 0))]) (hR : ∀ (H : Heap) (locs : List Loc) (ls : Array Slot) (pc : Nat), va_P D vwCl (wd_X5_pressed cy o_t x_w x_h x_hands x_pressRow) H → va_D A (wd_X5_pressed cy o_t x_w x_h x_hands x_pressRow) → va_S A s.heap H locs → decode cX5_pressed pc = .ok (.ireturn, 1) → W p l e (rmm 0 0) s m args below meth c H locs 0 0 Q (F0 m pc ls [.int out])) : W p l e (rmm 0 0) s m args below meth c H locs 0 0 Q (F0 m 0 ls []) := by
  have k0 := hts (.fieldLink RX5 18 "SeaGames$Play" "hands" "I") (List.mem_cons_of_mem _ (List.mem_append_left _ (List.mem_of_getElem? (i := 0) rfl)))
  have k1 : ∀ w ∈ u_ws RX5 TX5 7, w ∈ wsX5_pressed := fun _ h => List.mem_cons_of_mem _ (List.mem_append_right _ h)
  have k2 := hts (.fieldLink RX5 25 "SeaGames$Play" "pressRow" "[I") (List.mem_cons_of_mem _ (List.mem_append_left _ (List.mem_of_getElem? (i := 1) rfl)))
  rw [X5_pressed] at hf
  have h4 : ∀ (n4 : Nat) (l1 : Int32) (l2 : Int32) (H : Heap) (locs : List Loc) (ls : Array Slot), X5_pressed_L4 x_hands x_pressRow n4 l1 l2 = some out → va_P D vwCl (wd_X5_pressed cy o_t x_w x_h x_hands x_pressRow) H → va_D A (wd_X5_pressed cy o_t x_w x_h x_hands x_pressRow) → va_S A s.heap H locs → lv_has ls 3 [(0, .ref (o_t 0)), (1, .int l1), (2, .int l2)] → W p l e (rmm 0 0) s m args below meth c H locs 0 0 Q (F0 m 4 ls []) := by
    intro n4
    induction n4 with
    | zero =>
      intro _ _ _ _ _ hf
      exact nomatch (show (none : Option _) = some out from hf)
    | succ n4 ih4 =>
      intro l1 l2 H locs ls hf hP hD hS hl
      have hf : X5_pressed_L4_B x_hands x_pressRow (X5_pressed_L4 x_hands x_pressRow n4) l1 l2 = some out := hf
      rw [X5_pressed_L4_B] at hf
      refine lv_iload_n hx hb dX5_pressed_4 rfl (lv_at hl 2 rfl) ?_
      refine lv_aload_n hx hb dX5_pressed_5 rfl (lv_at hl 0 rfl) ?_
      refine va_get (D := D) (ci := 5) (v := .int x_hands) (C := RX5) (T := TX5) (N := 7) hx hb hts k1 hown hK hP 0 rfl rfl 2 (by decide) k0 (fun _ h9 => h9) rfl dX5_pressed_6 ?_
      refine lv_bipush (v := (100 : Int32)) hx hb dX5_pressed_9 (by decide) ?_
      refine lv_imul hx hb dX5_pressed_11 ?_
      refine lv_icmp_ge (tgt := 33) hx hb dX5_pressed_12 (by decide) (fun c12 => ?_) (fun c12 => ?_)
      · have hf := ifp c12 hf
        refine lv_iload_n hx hb dX5_pressed_33 rfl (lv_at hl 1 rfl) ?_
        obtain rfl := Option.some.inj hf
        exact hR _ _ _ _ hP hD hS dX5_pressed_34
      · have hf := ifn c12 hf
        have h27 : ∀ (l1 : Int32) (l2 : Int32) (H : Heap) (locs : List Loc) (ls : Array Slot), X5_pressed_J27 x_hands x_pressRow (X5_pressed_L4 x_hands x_pressRow n4) l1 l2 = some out → va_P D vwCl (wd_X5_pressed cy o_t x_w x_h x_hands x_pressRow) H → va_D A (wd_X5_pressed cy o_t x_w x_h x_hands x_pressRow) → va_S A s.heap H locs → lv_has ls 3 [(0, .ref (o_t 0)), (1, .int l1), (2, .int l2)] → W p l e (rmm 0 0) s m args below meth c H locs 0 0 Q (F0 m 27 ls []) := by
          intro l1 l2 H locs ls hf hP hD hS hl
          rw [X5_pressed_J27] at hf
          obtain ⟨v27, ev27, hf⟩ := nm_s hf
          refine lv_iinc (v := v27) (lv' := [(2, .int v27), (0, .ref (o_t 0)), (1, .int l1)]) hx hb dX5_pressed_27 hl (k := 2) rfl (by rw [ev27]; rfl) (by decide) rfl (fun ls hl => ?_)
          refine lv_goto (tgt := 4) hx hb dX5_pressed_30 (by decide) ?_
          exact ih4 _ _ _ _ _ hf hP hD hS (lv_sub hl [1, 2, 0] rfl)
        refine lv_aload_n hx hb dX5_pressed_15 rfl (lv_at hl 0 rfl) ?_
        refine va_get (D := D) (ci := 5) (v := .ref (o_t 5)) (C := RX5) (T := TX5) (N := 7) hx hb hts k1 hown hK hP 0 rfl rfl 4 (by decide) k2 (fun _ h9 => h9) rfl dX5_pressed_16 ?_
        refine lv_iload_n hx hb dX5_pressed_19 rfl (lv_at hl 2 rfl) ?_
        obtain ⟨v20, b20, ev20, hf⟩ := rd_s hf
        refine my_iald hx hb hK hP 1 rfl b20 ev20 dX5_pressed_20 ?_
        refine lv_if_eq (tgt := 27) hx hb dX5_pressed_21 (by decide) (fun c21 => ?_) (fun c21 => ?_)
        · have hf := ifp c21 hf
          exact h27 _ _ _ _ _ hf hP hD hS (lv_sub hl [0, 1, 2] rfl)
        · have hf := ifn c21 hf
          obtain ⟨v24, ev24, hf⟩ := nm_s hf
          refine lv_iinc (v := v24) (lv' := [(1, .int v24), (0, .ref (o_t 0)), (2, .int l2)]) hx hb dX5_pressed_24 hl (k := 1) rfl (by rw [ev24]; rfl) (by decide) rfl (fun ls hl => ?_)
          exact h27 _ _ _ _ _ hf hP hD hS (lv_sub hl [1, 0, 2] rfl)
  refine lv_iconst (v := (0 : Int32)) hx hb dX5_pressed_0 (by decide) ?_
  refine lv_istore_n (lv' := [(1, .int (0 : Int32)), (0, .ref (o_t 0))]) hx hb dX5_pressed_1 rfl hl (by decide) rfl (fun ls hl => ?_)
  refine lv_iconst (v := (0 : Int32)) hx hb dX5_pressed_2 (by decide) ?_
  refine lv_istore_n (lv' := [(2, .int (0 : Int32)), (1, .int (0 : Int32)), (0, .ref (o_t 0))]) hx hb dX5_pressed_3 rfl hl (by decide) rfl (fun ls hl => ?_)
  exact h4 FU _ _ _ _ _ hf hP hD hS (lv_sub hl [2, 1, 0] rfl)
theorem hd_X5_pressed : yX5_pressed.cls ≠ "java/lang/invoke/MethodHandle" ∧ yX5_pressed.cls ≠ "java/lang/invoke/VarHandle" ∧ (parseMethodDescriptor yX5_pressed.desc).map (fun d => d.parameters.length) = some 0 := by decide +kernel
set_option maxRecDepth 100000 in
theorem c_X5_pressed (l : Launch) (D : va_G) (cy : Nat → ClassId) (t : Nat → Nat) (o_t : Nat → Nat) (x_w : Int32) (x_h : Int32) (x_hands : Int32) (x_pressRow : Nat → Int32) {out : Int32} (hf : X5_pressed x_hands x_pressRow = some out) : ctI l yX5_pressed wsX5_pressed 0 0 D cy t [.ref (o_t 0)] (wd_X5_pressed cy o_t x_w x_h x_hands x_pressRow) (wd_X5_pressed cy o_t x_w x_h x_hands x_pressRow) out := by
  refine ⟨rfl, ?_⟩
  intro sz
  refine Met.ofW (cc := cX5_pressed) (maxL := 3) (ret := (some .int)) (by decide) rfl ?_
  intro p e s m args below meth c s₁ B hml hv
  obtain ⟨rfl, hsz, hP, hK, hD0, hE⟩ := hv
  have hts := atoms_spec (ws := wsX5_pressed) B.pre
  have hown : s.vm.findClass RX5 = some m.cls := findClass_of_methodNamed B.named
  have hlocks := B.notSynchronized
  subst hsz
  have hD := hD0.self (sz := s.heap.size)
  have hl := lv_entry ([.ref (o_t 0)]) (n := 3) (Nat.le_of_ble_eq_true rfl)
  rw [lg_entry_eq]
  generalize (lg_sl ([.ref (o_t 0)]) ++ List.replicate (3 - (lg_sl ([.ref (o_t 0)])).length) Slot.unset).toArray = ls at hl ⊢
  exact w_X5_pressed D cy t o_t x_w x_h x_hands x_pressRow hf B.exec B.bytes hml hown hts hK hE (fun q h => Or.inr h) hP hD va_S.rf hl (fun H locs ls pc hP hD hS hdg => W.iret B.exec B.bytes B.returns (fun t ht hW => ⟨⟨_, (), rfl, rfl, ctB_of ht hP⟩, hS.F ht⟩) hS.2.2 hdg)

noncomputable def X5_leftTicks_L4_B (x_hands : Int32) (x_leftFrom : Nat → Int32) (x_leftTo : Nat → Int32) (rec4 : Int32 → Int32 → Option (Int32)) (l1 : Int32) (l2 : Int32) : Option (Int32) :=
  if x_hands ≤ l2 then (some l1) else (rd x_leftTo 6 l2 fun v18 => rd x_leftFrom 6 l2 fun v24 => nm (l1 + (v18 - v24)) fun v27 => nm (l2 + (1 : Int32)) fun v28 => rec4  v27 v28)
noncomputable def X5_leftTicks_L4 (x_hands : Int32) (x_leftFrom : Nat → Int32) (x_leftTo : Nat → Int32) : Nat → Int32 → Int32 → Option (Int32)
  | 0, _, _ => none
  | n + 1, y0, y1 => X5_leftTicks_L4_B x_hands x_leftFrom x_leftTo  (X5_leftTicks_L4 x_hands x_leftFrom x_leftTo  n) y0 y1
noncomputable def X5_leftTicks (x_hands : Int32) (x_leftFrom : Nat → Int32) (x_leftTo : Nat → Int32) : Option (Int32) :=
  X5_leftTicks_L4 x_hands x_leftFrom x_leftTo  FU  (0 : Int32) (0 : Int32)
abbrev wd_X5_leftTicks (cy : Nat → ClassId) (o_t : Nat → Nat) (x_w : Int32) (x_h : Int32) (x_hands : Int32) (x_leftFrom : Nat → Int32) (x_leftTo : Nat → Int32) : va_W := [(o_t 0, .inr (5, [.int x_w, .int x_h, .int x_hands, .ref (o_t 4), .ref (o_t 5), .ref (o_t 6), .ref (o_t 7)])), (o_t 6, .inl (cy 0, 6, .inl x_leftFrom)), (o_t 7, .inl (cy 0, 6, .inl x_leftTo))]
set_option maxHeartbeats 4000000 in
set_option maxRecDepth 100000 in
theorem w_X5_leftTicks {p : Program} {l : Launch} {e : Env} {s : State} {m : MethodId} {args : Array Value} {below : List Frame} {meth : Method} {c : Code} {Q : State → Prop} {A : Nat → Prop} {H : Heap} {locs : List Loc} {ls : Array Slot} (D : va_G) (cy : Nat → ClassId) (t : Nat → Nat) (o_t : Nat → Nat) (x_w : Int32) (x_h : Int32) (x_hands : Int32) (x_leftFrom : Nat → Int32) (x_leftTo : Nat → Int32) {out : Int32} (hf : X5_leftTicks x_hands x_leftFrom x_leftTo = some out) (hx : p.tables.exec = Jvm.exec) (hb : c.code = cX5_leftTicks) (hml : c.maxLocals = 3) (hown : s.vm.findClass RX5 = some m.cls) (hts : ∀ w ∈ wsX5_leftTicks, w.before args s = true) (hK : va_K D vwCl (TYS cy) s) (hE : EV t A s s.heap) (hA : ∀ q, s.heap.size ≤ q → A q) (hP : va_P D vwCl (wd_X5_leftTicks cy o_t x_w x_h x_hands x_leftFrom x_leftTo) H) (hD : va_D A (wd_X5_leftTicks cy o_t x_w x_h x_hands x_leftFrom x_leftTo)) (hS : va_S A s.heap H locs) (hl : lv_has ls 3 [(0, .ref (o_t 0))]) (hR : ∀ (H : Heap) (locs : List Loc) (ls : Array Slot) (pc : Nat), va_P D vwCl (wd_X5_leftTicks cy o_t x_w x_h x_hands x_leftFrom x_leftTo) H → va_D A (wd_X5_leftTicks cy o_t x_w x_h x_hands x_leftFrom x_leftTo) → va_S A s.heap H locs → decode cX5_leftTicks pc = .ok (.ireturn, 1) → W p l e (rmm 0 0) s m args below meth c H locs 0 0 Q (F0 m pc ls [.int out])) : W p l e (rmm 0 0) s m args below meth c H locs 0 0 Q (F0 m 0 ls []) := by
  have k0 := hts (.fieldLink RX5 18 "SeaGames$Play" "hands" "I") (List.mem_cons_of_mem _ (List.mem_append_left _ (List.mem_of_getElem? (i := 0) rfl)))
  have k1 : ∀ w ∈ u_ws RX5 TX5 7, w ∈ wsX5_leftTicks := fun _ h => List.mem_cons_of_mem _ (List.mem_append_right _ h)
  have k2 := hts (.fieldLink RX5 31 "SeaGames$Play" "leftTo" "[I") (List.mem_cons_of_mem _ (List.mem_append_left _ (List.mem_of_getElem? (i := 1) rfl)))
  have k3 := hts (.fieldLink RX5 28 "SeaGames$Play" "leftFrom" "[I") (List.mem_cons_of_mem _ (List.mem_append_left _ (List.mem_of_getElem? (i := 2) rfl)))
  rw [X5_leftTicks] at hf
  have h4 : ∀ (n4 : Nat) (l1 : Int32) (l2 : Int32) (H : Heap) (locs : List Loc) (ls : Array Slot), X5_leftTicks_L4 x_hands x_leftFrom x_leftTo n4 l1 l2 = some out → va_P D vwCl (wd_X5_leftTicks cy o_t x_w x_h x_hands x_leftFrom x_leftTo) H → va_D A (wd_X5_leftTicks cy o_t x_w x_h x_hands x_leftFrom x_leftTo) → va_S A s.heap H locs → lv_has ls 3 [(0, .ref (o_t 0)), (1, .int l1), (2, .int l2)] → W p l e (rmm 0 0) s m args below meth c H locs 0 0 Q (F0 m 4 ls []) := by
    intro n4
    induction n4 with
    | zero =>
      intro _ _ _ _ _ hf
      exact nomatch (show (none : Option _) = some out from hf)
    | succ n4 ih4 =>
      intro l1 l2 H locs ls hf hP hD hS hl
      have hf : X5_leftTicks_L4_B x_hands x_leftFrom x_leftTo (X5_leftTicks_L4 x_hands x_leftFrom x_leftTo n4) l1 l2 = some out := hf
      rw [X5_leftTicks_L4_B] at hf
      refine lv_iload_n hx hb dX5_leftTicks_4 rfl (lv_at hl 2 rfl) ?_
      refine lv_aload_n hx hb dX5_leftTicks_5 rfl (lv_at hl 0 rfl) ?_
      refine va_get (D := D) (ci := 5) (v := .int x_hands) (C := RX5) (T := TX5) (N := 7) hx hb hts k1 hown hK hP 0 rfl rfl 2 (by decide) k0 (fun _ h9 => h9) rfl dX5_leftTicks_6 ?_
      refine lv_icmp_ge (tgt := 34) hx hb dX5_leftTicks_9 (by decide) (fun c9 => ?_) (fun c9 => ?_)
      · have hf := ifp c9 hf
        refine lv_iload_n hx hb dX5_leftTicks_34 rfl (lv_at hl 1 rfl) ?_
        obtain rfl := Option.some.inj hf
        exact hR _ _ _ _ hP hD hS dX5_leftTicks_35
      · have hf := ifn c9 hf
        refine lv_iload_n hx hb dX5_leftTicks_12 rfl (lv_at hl 1 rfl) ?_
        refine lv_aload_n hx hb dX5_leftTicks_13 rfl (lv_at hl 0 rfl) ?_
        refine va_get (D := D) (ci := 5) (v := .ref (o_t 7)) (C := RX5) (T := TX5) (N := 7) hx hb hts k1 hown hK hP 0 rfl rfl 6 (by decide) k2 (fun _ h9 => h9) rfl dX5_leftTicks_14 ?_
        refine lv_iload_n hx hb dX5_leftTicks_17 rfl (lv_at hl 2 rfl) ?_
        obtain ⟨v18, b18, ev18, hf⟩ := rd_s hf
        refine my_iald hx hb hK hP 2 rfl b18 ev18 dX5_leftTicks_18 ?_
        refine lv_aload_n hx hb dX5_leftTicks_19 rfl (lv_at hl 0 rfl) ?_
        refine va_get (D := D) (ci := 5) (v := .ref (o_t 6)) (C := RX5) (T := TX5) (N := 7) hx hb hts k1 hown hK hP 0 rfl rfl 5 (by decide) k3 (fun _ h9 => h9) rfl dX5_leftTicks_20 ?_
        refine lv_iload_n hx hb dX5_leftTicks_23 rfl (lv_at hl 2 rfl) ?_
        obtain ⟨v24, b24, ev24, hf⟩ := rd_s hf
        refine my_iald hx hb hK hP 1 rfl b24 ev24 dX5_leftTicks_24 ?_
        refine lv_isub hx hb dX5_leftTicks_25 ?_
        refine lv_iadd hx hb dX5_leftTicks_26 ?_
        obtain ⟨v27, ev27, hf⟩ := nm_s hf
        refine my_topi ev27 ?_
        refine lv_istore_n (lv' := [(1, .int v27), (0, .ref (o_t 0)), (2, .int l2)]) hx hb dX5_leftTicks_27 rfl hl (by decide) rfl (fun ls hl => ?_)
        obtain ⟨v28, ev28, hf⟩ := nm_s hf
        refine lv_iinc (v := v28) (lv' := [(2, .int v28), (1, .int v27), (0, .ref (o_t 0))]) hx hb dX5_leftTicks_28 hl (k := 2) rfl (by rw [ev28]; rfl) (by decide) rfl (fun ls hl => ?_)
        refine lv_goto (tgt := 4) hx hb dX5_leftTicks_31 (by decide) ?_
        exact ih4 _ _ _ _ _ hf hP hD hS (lv_sub hl [2, 1, 0] rfl)
  refine lv_iconst (v := (0 : Int32)) hx hb dX5_leftTicks_0 (by decide) ?_
  refine lv_istore_n (lv' := [(1, .int (0 : Int32)), (0, .ref (o_t 0))]) hx hb dX5_leftTicks_1 rfl hl (by decide) rfl (fun ls hl => ?_)
  refine lv_iconst (v := (0 : Int32)) hx hb dX5_leftTicks_2 (by decide) ?_
  refine lv_istore_n (lv' := [(2, .int (0 : Int32)), (1, .int (0 : Int32)), (0, .ref (o_t 0))]) hx hb dX5_leftTicks_3 rfl hl (by decide) rfl (fun ls hl => ?_)
  exact h4 FU _ _ _ _ _ hf hP hD hS (lv_sub hl [2, 1, 0] rfl)
theorem hd_X5_leftTicks : yX5_leftTicks.cls ≠ "java/lang/invoke/MethodHandle" ∧ yX5_leftTicks.cls ≠ "java/lang/invoke/VarHandle" ∧ (parseMethodDescriptor yX5_leftTicks.desc).map (fun d => d.parameters.length) = some 0 := by decide +kernel
set_option maxRecDepth 100000 in
theorem c_X5_leftTicks (l : Launch) (D : va_G) (cy : Nat → ClassId) (t : Nat → Nat) (o_t : Nat → Nat) (x_w : Int32) (x_h : Int32) (x_hands : Int32) (x_leftFrom : Nat → Int32) (x_leftTo : Nat → Int32) {out : Int32} (hf : X5_leftTicks x_hands x_leftFrom x_leftTo = some out) : ctI l yX5_leftTicks wsX5_leftTicks 0 0 D cy t [.ref (o_t 0)] (wd_X5_leftTicks cy o_t x_w x_h x_hands x_leftFrom x_leftTo) (wd_X5_leftTicks cy o_t x_w x_h x_hands x_leftFrom x_leftTo) out := by
  refine ⟨rfl, ?_⟩
  intro sz
  refine Met.ofW (cc := cX5_leftTicks) (maxL := 3) (ret := (some .int)) (by decide) rfl ?_
  intro p e s m args below meth c s₁ B hml hv
  obtain ⟨rfl, hsz, hP, hK, hD0, hE⟩ := hv
  have hts := atoms_spec (ws := wsX5_leftTicks) B.pre
  have hown : s.vm.findClass RX5 = some m.cls := findClass_of_methodNamed B.named
  have hlocks := B.notSynchronized
  subst hsz
  have hD := hD0.self (sz := s.heap.size)
  have hl := lv_entry ([.ref (o_t 0)]) (n := 3) (Nat.le_of_ble_eq_true rfl)
  rw [lg_entry_eq]
  generalize (lg_sl ([.ref (o_t 0)]) ++ List.replicate (3 - (lg_sl ([.ref (o_t 0)])).length) Slot.unset).toArray = ls at hl ⊢
  exact w_X5_leftTicks D cy t o_t x_w x_h x_hands x_leftFrom x_leftTo hf B.exec B.bytes hml hown hts hK hE (fun q h => Or.inr h) hP hD va_S.rf hl (fun H locs ls pc hP hD hS hdg => W.iret B.exec B.bytes B.returns (fun t ht hW => ⟨⟨_, (), rfl, rfl, ctB_of ht hP⟩, hS.F ht⟩) hS.2.2 hdg)

noncomputable def X6_keepBelow (x_ready : Int32) (p1 : Int32) : Option (Int32) :=
  some (if p1 < x_ready then p1 else x_ready)
abbrev wd_X6_keepBelow (cy : Nat → ClassId) (o_t : Nat → Nat) (x_ready : Int32) : va_W := [(o_t 0, .inr (6, [.ref (o_t 1), .int x_ready]))]
set_option maxHeartbeats 4000000 in
set_option maxRecDepth 100000 in
theorem w_X6_keepBelow {p : Program} {l : Launch} {e : Env} {s : State} {m : MethodId} {args : Array Value} {below : List Frame} {meth : Method} {c : Code} {Q : State → Prop} {A : Nat → Prop} {H : Heap} {locs : List Loc} {ls : Array Slot} (D : va_G) (cy : Nat → ClassId) (t : Nat → Nat) (o_t : Nat → Nat) (x_ready : Int32) (p1 : Int32) {out : Int32} (hf : X6_keepBelow x_ready p1 = some out) (hx : p.tables.exec = Jvm.exec) (hb : c.code = cX6_keepBelow) (hml : c.maxLocals = 2) (hown : s.vm.findClass RX6 = some m.cls) (hts : ∀ w ∈ wsX6_keepBelow, w.before args s = true) (hK : va_K D vwCl (TYS cy) s) (hE : EV t A s s.heap) (hA : ∀ q, s.heap.size ≤ q → A q) (hP : va_P D vwCl (wd_X6_keepBelow cy o_t x_ready) H) (hD : va_D A (wd_X6_keepBelow cy o_t x_ready)) (hS : va_S A s.heap H locs) (hl : lv_has ls 2 [(0, .ref (o_t 0)), (1, .int p1)]) (hR : ∀ (H : Heap) (locs : List Loc) (ls : Array Slot) (pc : Nat), va_P D vwCl (wd_X6_keepBelow cy o_t out) H → va_D A (wd_X6_keepBelow cy o_t out) → va_S A s.heap H locs → decode cX6_keepBelow pc = .ok (.return_, 1) → W p l e (rmm 1 21) s m args below meth c H locs 0 0 Q (F0 m pc ls [])) : W p l e (rmm 1 21) s m args below meth c H locs 0 0 Q (F0 m 0 ls []) := by
  have k0 := hts (.fieldLink RX6 15 "SeaGames$Track" "ready" "I") (List.mem_cons_of_mem _ (List.mem_append_left _ (List.mem_of_getElem? (i := 0) rfl)))
  have k1 : ∀ w ∈ u_ws RX6 TX6 2, w ∈ wsX6_keepBelow := fun _ h => List.mem_cons_of_mem _ (List.mem_append_right _ h)
  have k2 := hts (.methodLink RX6 19 Lib.Math.min.name) (List.mem_cons_of_mem _ (List.mem_append_left _ (List.mem_of_getElem? (i := 1) rfl)))
  have k3 := hts (.static Lib.Math.min.name) (List.mem_cons_of_mem _ (List.mem_append_left _ (List.mem_of_getElem? (i := 2) rfl)))
  have k4 := hts (.initialized "java/lang/Math") (List.mem_cons_of_mem _ (List.mem_append_left _ (List.mem_of_getElem? (i := 3) rfl)))
  have k5 := hts (.code Lib.Math.min.name Lib.Math.min.code 2 (some .int)) (List.mem_cons_of_mem _ (List.mem_append_left _ (List.mem_of_getElem? (i := 4) rfl)))
  rw [X6_keepBelow] at hf
  refine lv_aload_n hx hb dX6_keepBelow_0 rfl (lv_at hl 0 rfl) ?_
  refine lv_aload_n hx hb dX6_keepBelow_1 rfl (lv_at hl 0 rfl) ?_
  refine va_get (D := D) (ci := 6) (v := .int x_ready) (C := RX6) (T := TX6) (N := 2) hx hb hts k1 hown hK hP 0 rfl rfl 1 (by decide) k0 (fun _ h9 => h9) rfl dX6_keepBelow_2 ?_
  refine lv_iload_n hx hb dX6_keepBelow_5 rfl (lv_at hl 1 rfl) ?_
  refine va_mmin hx hb (hml.trans hl.1.symm) hown k2 k3 k4 k5 (Nat.le_of_ble_eq_true rfl) (Nat.le_of_ble_eq_true rfl) (Nat.le_of_ble_eq_true rfl) (Nat.le_of_ble_eq_true rfl) dX6_keepBelow_6 ?_
  refine va_put (D := D) (ci := 6) (v := .int (if p1 < x_ready then p1 else x_ready)) (ty := .int) (C := RX6) (T := TX6) (N := 2) hx hb hts k1 tyX6 tyX6_ok nmX6 hown hK hP hD hS 0 rfl rfl 1 (by decide) k0 (fun _ h9 => h9) rfl (by decide +kernel) rfl rfl (Nat.le_of_ble_eq_true rfl) dX6_keepBelow_9 (fun H locs hP hD hS => ?_)
  have hP : va_P D vwCl (wd_X6_keepBelow cy o_t (if p1 < x_ready then p1 else x_ready)) H := hP
  have hD : va_D A (wd_X6_keepBelow cy o_t (if p1 < x_ready then p1 else x_ready)) := hD
  obtain rfl := Option.some.inj hf
  exact hR _ _ _ _ hP hD hS dX6_keepBelow_12
theorem hd_X6_keepBelow : yX6_keepBelow.cls ≠ "java/lang/invoke/MethodHandle" ∧ yX6_keepBelow.cls ≠ "java/lang/invoke/VarHandle" ∧ (parseMethodDescriptor yX6_keepBelow.desc).map (fun d => d.parameters.length) = some 1 := by decide +kernel
set_option maxRecDepth 100000 in
theorem c_X6_keepBelow (l : Launch) (D : va_G) (cy : Nat → ClassId) (t : Nat → Nat) (o_t : Nat → Nat) (x_ready : Int32) (p1 : Int32) {out : Int32} (hf : X6_keepBelow x_ready p1 = some out) : ctV l yX6_keepBelow wsX6_keepBelow 1 21 D cy t [.ref (o_t 0), .int p1] (wd_X6_keepBelow cy o_t x_ready) (wd_X6_keepBelow cy o_t out) := by
  refine ⟨rfl, ?_⟩
  intro sz
  refine Met.ofW (cc := cX6_keepBelow) (maxL := 2) (ret := none) (by decide) rfl ?_
  intro p e s m args below meth c s₁ B hml hv
  obtain ⟨rfl, hsz, hP, hK, hD0, hE⟩ := hv
  have hts := atoms_spec (ws := wsX6_keepBelow) B.pre
  have hown : s.vm.findClass RX6 = some m.cls := findClass_of_methodNamed B.named
  have hlocks := B.notSynchronized
  subst hsz
  have hD := hD0.self (sz := s.heap.size)
  have hl := lv_entry ([.ref (o_t 0), .int p1]) (n := 2) (Nat.le_of_ble_eq_true rfl)
  rw [lg_entry_eq]
  generalize (lg_sl ([.ref (o_t 0), .int p1]) ++ List.replicate (2 - (lg_sl ([.ref (o_t 0), .int p1])).length) Slot.unset).toArray = ls at hl ⊢
  exact w_X6_keepBelow D cy t o_t x_ready p1 hf B.exec B.bytes hml hown hts hK hE (fun q h => Or.inr h) hP hD va_S.rf hl (fun H locs ls pc hP hD hS hdg => W.vret B.exec B.bytes B.returns (fun t ht hW => ⟨⟨(), rfl, trivial, ctB_of ht hP⟩, hS.F ht⟩) hS.2.2 hdg)

noncomputable def X6_at (x_rows : Nat → Int32) (p1 : Int32) (p2 : Int32) : Option (Int32) :=
  rd x_rows 1300 ((p1 * (13 : Int32)) + p2) fun v10 => some v10
abbrev wd_X6_at (cy : Nat → ClassId) (o_t : Nat → Nat) (x_ready : Int32) (x_rows : Nat → Int32) : va_W := [(o_t 0, .inr (6, [.ref (o_t 1), .int x_ready])), (o_t 1, .inl (cy 0, 1300, .inl x_rows))]
set_option maxHeartbeats 4000000 in
set_option maxRecDepth 100000 in
theorem w_X6_at {p : Program} {l : Launch} {e : Env} {s : State} {m : MethodId} {args : Array Value} {below : List Frame} {meth : Method} {c : Code} {Q : State → Prop} {A : Nat → Prop} {H : Heap} {locs : List Loc} {ls : Array Slot} (D : va_G) (cy : Nat → ClassId) (t : Nat → Nat) (o_t : Nat → Nat) (x_ready : Int32) (x_rows : Nat → Int32) (p1 : Int32) (p2 : Int32) {out : Int32} (hf : X6_at x_rows p1 p2 = some out) (hx : p.tables.exec = Jvm.exec) (hb : c.code = cX6_at) (hml : c.maxLocals = 3) (hown : s.vm.findClass RX6 = some m.cls) (hts : ∀ w ∈ wsX6_at, w.before args s = true) (hK : va_K D vwCl (TYS cy) s) (hE : EV t A s s.heap) (hA : ∀ q, s.heap.size ≤ q → A q) (hP : va_P D vwCl (wd_X6_at cy o_t x_ready x_rows) H) (hD : va_D A (wd_X6_at cy o_t x_ready x_rows)) (hS : va_S A s.heap H locs) (hl : lv_has ls 3 [(0, .ref (o_t 0)), (1, .int p1), (2, .int p2)]) (hR : ∀ (H : Heap) (locs : List Loc) (ls : Array Slot) (pc : Nat), va_P D vwCl (wd_X6_at cy o_t x_ready x_rows) H → va_D A (wd_X6_at cy o_t x_ready x_rows) → va_S A s.heap H locs → decode cX6_at pc = .ok (.ireturn, 1) → W p l e (rmm 0 0) s m args below meth c H locs 0 0 Q (F0 m pc ls [.int out])) : W p l e (rmm 0 0) s m args below meth c H locs 0 0 Q (F0 m 0 ls []) := by
  have k0 := hts (.fieldLink RX6 9 "SeaGames$Track" "rows" "[I") (List.mem_cons_of_mem _ (List.mem_append_left _ (List.mem_of_getElem? (i := 0) rfl)))
  have k1 : ∀ w ∈ u_ws RX6 TX6 2, w ∈ wsX6_at := fun _ h => List.mem_cons_of_mem _ (List.mem_append_right _ h)
  rw [X6_at] at hf
  refine lv_aload_n hx hb dX6_at_0 rfl (lv_at hl 0 rfl) ?_
  refine va_get (D := D) (ci := 6) (v := .ref (o_t 1)) (C := RX6) (T := TX6) (N := 2) hx hb hts k1 hown hK hP 0 rfl rfl 0 (by decide) k0 (fun _ h9 => h9) rfl dX6_at_1 ?_
  refine lv_iload_n hx hb dX6_at_4 rfl (lv_at hl 1 rfl) ?_
  refine lv_bipush (v := (13 : Int32)) hx hb dX6_at_5 (by decide) ?_
  refine lv_imul hx hb dX6_at_7 ?_
  refine lv_iload_n hx hb dX6_at_8 rfl (lv_at hl 2 rfl) ?_
  refine lv_iadd hx hb dX6_at_9 ?_
  obtain ⟨v10, b10, ev10, hf⟩ := rd_s hf
  refine my_iald hx hb hK hP 1 rfl b10 ev10 dX6_at_10 ?_
  obtain rfl := Option.some.inj hf
  exact hR _ _ _ _ hP hD hS dX6_at_11
theorem hd_X6_at : yX6_at.cls ≠ "java/lang/invoke/MethodHandle" ∧ yX6_at.cls ≠ "java/lang/invoke/VarHandle" ∧ (parseMethodDescriptor yX6_at.desc).map (fun d => d.parameters.length) = some 2 := by decide +kernel
set_option maxRecDepth 100000 in
theorem c_X6_at (l : Launch) (D : va_G) (cy : Nat → ClassId) (t : Nat → Nat) (o_t : Nat → Nat) (x_ready : Int32) (x_rows : Nat → Int32) (p1 : Int32) (p2 : Int32) {out : Int32} (hf : X6_at x_rows p1 p2 = some out) : ctI l yX6_at wsX6_at 0 0 D cy t [.ref (o_t 0), .int p1, .int p2] (wd_X6_at cy o_t x_ready x_rows) (wd_X6_at cy o_t x_ready x_rows) out := by
  refine ⟨rfl, ?_⟩
  intro sz
  refine Met.ofW (cc := cX6_at) (maxL := 3) (ret := (some .int)) (by decide) rfl ?_
  intro p e s m args below meth c s₁ B hml hv
  obtain ⟨rfl, hsz, hP, hK, hD0, hE⟩ := hv
  have hts := atoms_spec (ws := wsX6_at) B.pre
  have hown : s.vm.findClass RX6 = some m.cls := findClass_of_methodNamed B.named
  have hlocks := B.notSynchronized
  subst hsz
  have hD := hD0.self (sz := s.heap.size)
  have hl := lv_entry ([.ref (o_t 0), .int p1, .int p2]) (n := 3) (Nat.le_of_ble_eq_true rfl)
  rw [lg_entry_eq]
  generalize (lg_sl ([.ref (o_t 0), .int p1, .int p2]) ++ List.replicate (3 - (lg_sl ([.ref (o_t 0), .int p1, .int p2])).length) Slot.unset).toArray = ls at hl ⊢
  exact w_X6_at D cy t o_t x_ready x_rows p1 p2 hf B.exec B.bytes hml hown hts hK hE (fun q h => Or.inr h) hP hD va_S.rf hl (fun H locs ls pc hP hD hS hdg => W.iret B.exec B.bytes B.returns (fun t ht hW => ⟨⟨_, (), rfl, rfl, ctB_of ht hP⟩, hS.F ht⟩) hS.2.2 hdg)

noncomputable def X6_isLike_L5_B (x_rows : Nat → Int32) (x_a1_rows : Nat → Int32) (rec5 : Int32 → Int32 → Option (Int32)) (l2 : Int32) (l3 : Int32) : Option (Int32) :=
  if ((l2 * (13 : Int32)) + (13 : Int32)) ≤ l3 then (zb (1 : Int32) <| some (1 : Int32)) else (rd x_rows 1300 l3 fun v21 => rd x_a1_rows 1300 l3 fun v27 => if v21 = v27 then (nm (l3 + (1 : Int32)) fun v33 => rec5  l2 v33) else (zb (0 : Int32) <| some (0 : Int32)))
noncomputable def X6_isLike_L5 (x_rows : Nat → Int32) (x_a1_rows : Nat → Int32) : Nat → Int32 → Int32 → Option (Int32)
  | 0, _, _ => none
  | n + 1, y0, y1 => X6_isLike_L5_B x_rows x_a1_rows  (X6_isLike_L5 x_rows x_a1_rows  n) y0 y1
noncomputable def X6_isLike (x_rows : Nat → Int32) (x_a1_rows : Nat → Int32) (p2 : Int32) : Option (Int32) :=
  nm (p2 * (13 : Int32)) fun v4 => X6_isLike_L5 x_rows x_a1_rows  FU  p2 v4
abbrev wd_X6_isLike (cy : Nat → ClassId) (o_t o_a1 : Nat → Nat) (x_ready : Int32) (x_rows : Nat → Int32) (x_a1_ready : Int32) (x_a1_rows : Nat → Int32) : va_W := [(o_t 0, .inr (6, [.ref (o_t 1), .int x_ready])), (o_t 1, .inl (cy 0, 1300, .inl x_rows)), (o_a1 0, .inr (6, [.ref (o_a1 1), .int x_a1_ready])), (o_a1 1, .inl (cy 0, 1300, .inl x_a1_rows))]
set_option maxHeartbeats 4000000 in
set_option maxRecDepth 100000 in
theorem w_X6_isLike {p : Program} {l : Launch} {e : Env} {s : State} {m : MethodId} {args : Array Value} {below : List Frame} {meth : Method} {c : Code} {Q : State → Prop} {A : Nat → Prop} {H : Heap} {locs : List Loc} {ls : Array Slot} (D : va_G) (cy : Nat → ClassId) (t : Nat → Nat) (o_t o_a1 : Nat → Nat) (x_ready : Int32) (x_rows : Nat → Int32) (x_a1_ready : Int32) (x_a1_rows : Nat → Int32) (p2 : Int32) {out : Int32} (hf : X6_isLike x_rows x_a1_rows p2 = some out) (hx : p.tables.exec = Jvm.exec) (hb : c.code = cX6_isLike) (hml : c.maxLocals = 4) (hown : s.vm.findClass RX6 = some m.cls) (hts : ∀ w ∈ wsX6_isLike, w.before args s = true) (hK : va_K D vwCl (TYS cy) s) (hE : EV t A s s.heap) (hA : ∀ q, s.heap.size ≤ q → A q) (hP : va_P D vwCl (wd_X6_isLike cy o_t o_a1 x_ready x_rows x_a1_ready x_a1_rows) H) (hD : va_D A (wd_X6_isLike cy o_t o_a1 x_ready x_rows x_a1_ready x_a1_rows)) (hS : va_S A s.heap H locs) (hl : lv_has ls 4 [(0, .ref (o_t 0)), (1, .ref (o_a1 0)), (2, .int p2)]) (hR : ∀ (H : Heap) (locs : List Loc) (ls : Array Slot) (pc : Nat), va_P D vwCl (wd_X6_isLike cy o_t o_a1 x_ready x_rows x_a1_ready x_a1_rows) H → va_D A (wd_X6_isLike cy o_t o_a1 x_ready x_rows x_a1_ready x_a1_rows) → va_S A s.heap H locs → narrow .boolean (.int out) = .int out → decode cX6_isLike pc = .ok (.ireturn, 1) → W p l e (rmm 0 0) s m args below meth c H locs 0 0 Q (F0 m pc ls [.int out])) : W p l e (rmm 0 0) s m args below meth c H locs 0 0 Q (F0 m 0 ls []) := by
  have k0 := hts (.fieldLink RX6 9 "SeaGames$Track" "rows" "[I") (List.mem_cons_of_mem _ (List.mem_append_left _ (List.mem_of_getElem? (i := 0) rfl)))
  have k1 : ∀ w ∈ u_ws RX6 TX6 2, w ∈ wsX6_isLike := fun _ h => List.mem_cons_of_mem _ (List.mem_append_right _ h)
  rw [X6_isLike] at hf
  have h5 : ∀ (n5 : Nat) (l2 : Int32) (l3 : Int32) (H : Heap) (locs : List Loc) (ls : Array Slot), X6_isLike_L5 x_rows x_a1_rows n5 l2 l3 = some out → va_P D vwCl (wd_X6_isLike cy o_t o_a1 x_ready x_rows x_a1_ready x_a1_rows) H → va_D A (wd_X6_isLike cy o_t o_a1 x_ready x_rows x_a1_ready x_a1_rows) → va_S A s.heap H locs → lv_has ls 4 [(0, .ref (o_t 0)), (1, .ref (o_a1 0)), (2, .int l2), (3, .int l3)] → W p l e (rmm 0 0) s m args below meth c H locs 0 0 Q (F0 m 5 ls []) := by
    intro n5
    induction n5 with
    | zero =>
      intro _ _ _ _ _ hf
      exact nomatch (show (none : Option _) = some out from hf)
    | succ n5 ih5 =>
      intro l2 l3 H locs ls hf hP hD hS hl
      have hf : X6_isLike_L5_B x_rows x_a1_rows (X6_isLike_L5 x_rows x_a1_rows n5) l2 l3 = some out := hf
      rw [X6_isLike_L5_B] at hf
      refine lv_iload_n hx hb dX6_isLike_5 rfl (lv_at hl 3 rfl) ?_
      refine lv_iload_n hx hb dX6_isLike_6 rfl (lv_at hl 2 rfl) ?_
      refine lv_bipush (v := (13 : Int32)) hx hb dX6_isLike_7 (by decide) ?_
      refine lv_imul hx hb dX6_isLike_9 ?_
      refine lv_bipush (v := (13 : Int32)) hx hb dX6_isLike_10 (by decide) ?_
      refine lv_iadd hx hb dX6_isLike_12 ?_
      refine lv_icmp_ge (tgt := 39) hx hb dX6_isLike_13 (by decide) (fun c13 => ?_) (fun c13 => ?_)
      · have hf := ifp c13 hf
        refine lv_iconst (v := (1 : Int32)) hx hb dX6_isLike_39 (by decide) ?_
        obtain ⟨z40, hf⟩ := zb_s hf
        obtain rfl := Option.some.inj hf
        exact hR _ _ _ _ hP hD hS z40 dX6_isLike_40
      · have hf := ifn c13 hf
        refine lv_aload_n hx hb dX6_isLike_16 rfl (lv_at hl 0 rfl) ?_
        refine va_get (D := D) (ci := 6) (v := .ref (o_t 1)) (C := RX6) (T := TX6) (N := 2) hx hb hts k1 hown hK hP 0 rfl rfl 0 (by decide) k0 (fun _ h9 => h9) rfl dX6_isLike_17 ?_
        refine lv_iload_n hx hb dX6_isLike_20 rfl (lv_at hl 3 rfl) ?_
        obtain ⟨v21, b21, ev21, hf⟩ := rd_s hf
        refine my_iald hx hb hK hP 1 rfl b21 ev21 dX6_isLike_21 ?_
        refine lv_aload_n hx hb dX6_isLike_22 rfl (lv_at hl 1 rfl) ?_
        refine va_get (D := D) (ci := 6) (v := .ref (o_a1 1)) (C := RX6) (T := TX6) (N := 2) hx hb hts k1 hown hK hP 2 rfl rfl 0 (by decide) k0 (fun _ h9 => h9) rfl dX6_isLike_23 ?_
        refine lv_iload_n hx hb dX6_isLike_26 rfl (lv_at hl 3 rfl) ?_
        obtain ⟨v27, b27, ev27, hf⟩ := rd_s hf
        refine my_iald hx hb hK hP 3 rfl b27 ev27 dX6_isLike_27 ?_
        refine lv_icmp_eq (tgt := 33) hx hb dX6_isLike_28 (by decide) (fun c28 => ?_) (fun c28 => ?_)
        · have hf := ifp c28 hf
          obtain ⟨v33, ev33, hf⟩ := nm_s hf
          refine lv_iinc (v := v33) (lv' := [(3, .int v33), (0, .ref (o_t 0)), (1, .ref (o_a1 0)), (2, .int l2)]) hx hb dX6_isLike_33 hl (k := 3) rfl (by rw [ev33]; rfl) (by decide) rfl (fun ls hl => ?_)
          refine lv_goto (tgt := 5) hx hb dX6_isLike_36 (by decide) ?_
          exact ih5 _ _ _ _ _ hf hP hD hS (lv_sub hl [1, 2, 3, 0] rfl)
        · have hf := ifn c28 hf
          refine lv_iconst (v := (0 : Int32)) hx hb dX6_isLike_31 (by decide) ?_
          obtain ⟨z32, hf⟩ := zb_s hf
          obtain rfl := Option.some.inj hf
          exact hR _ _ _ _ hP hD hS z32 dX6_isLike_32
  refine lv_iload_n hx hb dX6_isLike_0 rfl (lv_at hl 2 rfl) ?_
  refine lv_bipush (v := (13 : Int32)) hx hb dX6_isLike_1 (by decide) ?_
  refine lv_imul hx hb dX6_isLike_3 ?_
  obtain ⟨v4, ev4, hf⟩ := nm_s hf
  refine my_topi ev4 ?_
  refine lv_istore_n (lv' := [(3, .int v4), (0, .ref (o_t 0)), (1, .ref (o_a1 0)), (2, .int p2)]) hx hb dX6_isLike_4 rfl hl (by decide) rfl (fun ls hl => ?_)
  exact h5 FU _ _ _ _ _ hf hP hD hS (lv_sub hl [1, 2, 3, 0] rfl)
theorem hd_X6_isLike : yX6_isLike.cls ≠ "java/lang/invoke/MethodHandle" ∧ yX6_isLike.cls ≠ "java/lang/invoke/VarHandle" ∧ (parseMethodDescriptor yX6_isLike.desc).map (fun d => d.parameters.length) = some 2 := by decide +kernel
set_option maxRecDepth 100000 in
theorem c_X6_isLike (l : Launch) (D : va_G) (cy : Nat → ClassId) (t : Nat → Nat) (o_t o_a1 : Nat → Nat) (x_ready : Int32) (x_rows : Nat → Int32) (x_a1_ready : Int32) (x_a1_rows : Nat → Int32) (p2 : Int32) {out : Int32} (hf : X6_isLike x_rows x_a1_rows p2 = some out) : ctI l yX6_isLike wsX6_isLike 0 0 D cy t [.ref (o_t 0), .ref (o_a1 0), .int p2] (wd_X6_isLike cy o_t o_a1 x_ready x_rows x_a1_ready x_a1_rows) (wd_X6_isLike cy o_t o_a1 x_ready x_rows x_a1_ready x_a1_rows) out := by
  refine ⟨rfl, ?_⟩
  intro sz
  refine Met.ofW (cc := cX6_isLike) (maxL := 4) (ret := (some .boolean)) (by decide) rfl ?_
  intro p e s m args below meth c s₁ B hml hv
  obtain ⟨rfl, hsz, hP, hK, hD0, hE⟩ := hv
  have hts := atoms_spec (ws := wsX6_isLike) B.pre
  have hown : s.vm.findClass RX6 = some m.cls := findClass_of_methodNamed B.named
  have hlocks := B.notSynchronized
  subst hsz
  have hD := hD0.self (sz := s.heap.size)
  have hl := lv_entry ([.ref (o_t 0), .ref (o_a1 0), .int p2]) (n := 4) (Nat.le_of_ble_eq_true rfl)
  rw [lg_entry_eq]
  generalize (lg_sl ([.ref (o_t 0), .ref (o_a1 0), .int p2]) ++ List.replicate (4 - (lg_sl ([.ref (o_t 0), .ref (o_a1 0), .int p2])).length) Slot.unset).toArray = ls at hl ⊢
  exact w_X6_isLike D cy t o_t o_a1 x_ready x_rows x_a1_ready x_a1_rows p2 hf B.exec B.bytes hml hown hts hK hE (fun q h => Or.inr h) hP hD va_S.rf hl (fun H locs ls pc hP hD hS z hdg => W.zret B.exec B.bytes B.returns z (fun t ht hW => ⟨⟨_, (), rfl, rfl, ctB_of ht hP⟩, hS.F ht⟩) hS.2.2 hdg)

noncomputable def X6_save (x_a2_now : Nat → Int32) (x_rows : Nat → Int32) (p1 : Int32) : Option ((Nat → Int32)) :=
  cpI x_a2_now x_rows 13 1300 (0 : Int32) (p1 * (13 : Int32)) (13 : Int32) fun w15 => some w15
abbrev wd_X6_save (cy : Nat → ClassId) (o_t o_a2 : Nat → Nat) (x_ready : Int32) (x_rows : Nat → Int32) (x_a2_now : Nat → Int32) : va_W := [(o_t 0, .inr (6, [.ref (o_t 1), .int x_ready])), (o_t 1, .inl (cy 0, 1300, .inl x_rows)), (o_a2 0, .inr (0, [.ref (o_a2 1)])), (o_a2 1, .inl (cy 0, 13, .inl x_a2_now))]
set_option maxHeartbeats 4000000 in
set_option maxRecDepth 100000 in
theorem w_X6_save {p : Program} {l : Launch} {e : Env} {s : State} {m : MethodId} {args : Array Value} {below : List Frame} {meth : Method} {c : Code} {Q : State → Prop} {A : Nat → Prop} {H : Heap} {locs : List Loc} {ls : Array Slot} (D : va_G) (cy : Nat → ClassId) (t : Nat → Nat) (o_t o_a2 : Nat → Nat) (x_ready : Int32) (x_rows : Nat → Int32) (x_a2_now : Nat → Int32) (p1 : Int32) {out : (Nat → Int32)} (hf : X6_save x_a2_now x_rows p1 = some out) (hx : p.tables.exec = Jvm.exec) (hb : c.code = cX6_save) (hml : c.maxLocals = 3) (hown : s.vm.findClass RX6 = some m.cls) (hts : ∀ w ∈ wsX6_save, w.before args s = true) (hK : va_K D vwCl (TYS cy) s) (hE : EV t A s s.heap) (hA : ∀ q, s.heap.size ≤ q → A q) (hP : va_P D vwCl (wd_X6_save cy o_t o_a2 x_ready x_rows x_a2_now) H) (hD : va_D A (wd_X6_save cy o_t o_a2 x_ready x_rows x_a2_now)) (hS : va_S A s.heap H locs) (hl : lv_has ls 3 [(0, .ref (o_t 0)), (1, .int p1), (2, .ref (o_a2 0))]) (hR : ∀ (H : Heap) (locs : List Loc) (ls : Array Slot) (pc : Nat), va_P D vwCl (wd_X6_save cy o_t o_a2 x_ready out x_a2_now) H → va_D A (wd_X6_save cy o_t o_a2 x_ready out x_a2_now) → va_S A s.heap H locs → decode cX6_save pc = .ok (.return_, 1) → W p l e (rmm 1 40) s m args below meth c H locs 0 0 Q (F0 m pc ls [])) : W p l e (rmm 1 40) s m args below meth c H locs 0 0 Q (F0 m 0 ls []) := by
  have k0 := hts (.fieldLink RX6 25 "SeaGames$Board" "now" "[I") (List.mem_cons_of_mem _ (List.mem_append_left _ (List.mem_append_left _ (List.mem_of_getElem? (i := 0) rfl))))
  have k1 : ∀ w ∈ u_ws RX0 TX0 1, w ∈ wsX6_save := fun _ h => List.mem_cons_of_mem _ (List.mem_append_left _ (List.mem_append_right _ h))
  have k2 := hts (.fieldLink RX6 9 "SeaGames$Track" "rows" "[I") (List.mem_cons_of_mem _ (List.mem_append_left _ (List.mem_append_left _ (List.mem_of_getElem? (i := 1) rfl))))
  have k3 : ∀ w ∈ u_ws RX6 TX6 2, w ∈ wsX6_save := fun _ h => List.mem_cons_of_mem _ (List.mem_append_right _ h)
  have k4 := hts (.methodLink RX6 30 arraycopyName) (List.mem_cons_of_mem _ (List.mem_append_left _ (List.mem_append_left _ (List.mem_of_getElem? (i := 2) rfl))))
  have k5 := hts (.native arraycopyName) (List.mem_cons_of_mem _ (List.mem_append_left _ (List.mem_append_left _ (List.mem_of_getElem? (i := 3) rfl))))
  have k6 := hts (.static arraycopyName) (List.mem_cons_of_mem _ (List.mem_append_left _ (List.mem_append_left _ (List.mem_of_getElem? (i := 4) rfl))))
  have k7 := hts (.initialized "java/lang/System") (List.mem_cons_of_mem _ (List.mem_append_left _ (List.mem_append_left _ (List.mem_of_getElem? (i := 5) rfl))))
  rw [X6_save] at hf
  refine lv_aload_n hx hb dX6_save_0 rfl (lv_at hl 2 rfl) ?_
  refine va_get (D := D) (ci := 0) (v := .ref (o_a2 1)) (C := RX0) (T := TX0) (N := 1) hx hb hts k1 hown hK hP 2 rfl rfl 0 (by decide) k0 (fun _ h9 => h9) rfl dX6_save_1 ?_
  refine lv_iconst (v := (0 : Int32)) hx hb dX6_save_4 (by decide) ?_
  refine lv_aload_n hx hb dX6_save_5 rfl (lv_at hl 0 rfl) ?_
  refine va_get (D := D) (ci := 6) (v := .ref (o_t 1)) (C := RX6) (T := TX6) (N := 2) hx hb hts k3 hown hK hP 0 rfl rfl 0 (by decide) k2 (fun _ h9 => h9) rfl dX6_save_6 ?_
  refine lv_iload_n hx hb dX6_save_9 rfl (lv_at hl 1 rfl) ?_
  refine lv_bipush (v := (13 : Int32)) hx hb dX6_save_10 (by decide) ?_
  refine lv_imul hx hb dX6_save_12 ?_
  refine lv_bipush (v := (13 : Int32)) hx hb dX6_save_13 (by decide) ?_
  obtain ⟨w15, g1, g2, g3, g4, g5, ew15, hf⟩ := cpI_s hf
  refine my_copy (ws2 := (wd_X6_save cy o_t o_a2 x_ready w15 x_a2_now)) hx hb (hml.trans hl.1.symm) hown k4 k5 k6 k7 hK hP hD hS 3 1 rfl rfl g1 g2 g3 g4 g5 ew15 rfl (Nat.le_of_ble_eq_true rfl) (Nat.le_of_ble_eq_true rfl) dX6_save_15 (fun H locs hP hD hS => ?_)
  obtain rfl := Option.some.inj hf
  exact hR _ _ _ _ hP hD hS dX6_save_18
theorem hd_X6_save : yX6_save.cls ≠ "java/lang/invoke/MethodHandle" ∧ yX6_save.cls ≠ "java/lang/invoke/VarHandle" ∧ (parseMethodDescriptor yX6_save.desc).map (fun d => d.parameters.length) = some 2 := by decide +kernel
set_option maxRecDepth 100000 in
theorem c_X6_save (l : Launch) (D : va_G) (cy : Nat → ClassId) (t : Nat → Nat) (o_t o_a2 : Nat → Nat) (x_ready : Int32) (x_rows : Nat → Int32) (x_a2_now : Nat → Int32) (p1 : Int32) {out : (Nat → Int32)} (hf : X6_save x_a2_now x_rows p1 = some out) : ctV l yX6_save wsX6_save 1 40 D cy t [.ref (o_t 0), .int p1, .ref (o_a2 0)] (wd_X6_save cy o_t o_a2 x_ready x_rows x_a2_now) (wd_X6_save cy o_t o_a2 x_ready out x_a2_now) := by
  refine ⟨rfl, ?_⟩
  intro sz
  refine Met.ofW (cc := cX6_save) (maxL := 3) (ret := none) (by decide) rfl ?_
  intro p e s m args below meth c s₁ B hml hv
  obtain ⟨rfl, hsz, hP, hK, hD0, hE⟩ := hv
  have hts := atoms_spec (ws := wsX6_save) B.pre
  have hown : s.vm.findClass RX6 = some m.cls := findClass_of_methodNamed B.named
  have hlocks := B.notSynchronized
  subst hsz
  have hD := hD0.self (sz := s.heap.size)
  have hl := lv_entry ([.ref (o_t 0), .int p1, .ref (o_a2 0)]) (n := 3) (Nat.le_of_ble_eq_true rfl)
  rw [lg_entry_eq]
  generalize (lg_sl ([.ref (o_t 0), .int p1, .ref (o_a2 0)]) ++ List.replicate (3 - (lg_sl ([.ref (o_t 0), .int p1, .ref (o_a2 0)])).length) Slot.unset).toArray = ls at hl ⊢
  exact w_X6_save D cy t o_t o_a2 x_ready x_rows x_a2_now p1 hf B.exec B.bytes hml hown hts hK hE (fun q h => Or.inr h) hP hD va_S.rf hl (fun H locs ls pc hP hD hS hdg => W.vret B.exec B.bytes B.returns (fun t ht hW => ⟨⟨(), rfl, trivial, ctB_of ht hP⟩, hS.F ht⟩) hS.2.2 hdg)

noncomputable def X6_load (x_rows : Nat → Int32) (x_a2_now : Nat → Int32) (p1 : Int32) : Option ((Nat → Int32)) :=
  cpI x_rows x_a2_now 1300 13 (p1 * (13 : Int32)) (0 : Int32) (13 : Int32) fun w15 => some w15
abbrev wd_X6_load (cy : Nat → ClassId) (o_t o_a2 : Nat → Nat) (x_ready : Int32) (x_rows : Nat → Int32) (x_a2_now : Nat → Int32) : va_W := [(o_t 0, .inr (6, [.ref (o_t 1), .int x_ready])), (o_t 1, .inl (cy 0, 1300, .inl x_rows)), (o_a2 0, .inr (0, [.ref (o_a2 1)])), (o_a2 1, .inl (cy 0, 13, .inl x_a2_now))]
set_option maxHeartbeats 4000000 in
set_option maxRecDepth 100000 in
theorem w_X6_load {p : Program} {l : Launch} {e : Env} {s : State} {m : MethodId} {args : Array Value} {below : List Frame} {meth : Method} {c : Code} {Q : State → Prop} {A : Nat → Prop} {H : Heap} {locs : List Loc} {ls : Array Slot} (D : va_G) (cy : Nat → ClassId) (t : Nat → Nat) (o_t o_a2 : Nat → Nat) (x_ready : Int32) (x_rows : Nat → Int32) (x_a2_now : Nat → Int32) (p1 : Int32) {out : (Nat → Int32)} (hf : X6_load x_rows x_a2_now p1 = some out) (hx : p.tables.exec = Jvm.exec) (hb : c.code = cX6_load) (hml : c.maxLocals = 3) (hown : s.vm.findClass RX6 = some m.cls) (hts : ∀ w ∈ wsX6_load, w.before args s = true) (hK : va_K D vwCl (TYS cy) s) (hE : EV t A s s.heap) (hA : ∀ q, s.heap.size ≤ q → A q) (hP : va_P D vwCl (wd_X6_load cy o_t o_a2 x_ready x_rows x_a2_now) H) (hD : va_D A (wd_X6_load cy o_t o_a2 x_ready x_rows x_a2_now)) (hS : va_S A s.heap H locs) (hl : lv_has ls 3 [(0, .ref (o_t 0)), (1, .int p1), (2, .ref (o_a2 0))]) (hR : ∀ (H : Heap) (locs : List Loc) (ls : Array Slot) (pc : Nat), va_P D vwCl (wd_X6_load cy o_t o_a2 x_ready x_rows out) H → va_D A (wd_X6_load cy o_t o_a2 x_ready x_rows out) → va_S A s.heap H locs → decode cX6_load pc = .ok (.return_, 1) → W p l e (rmm 1 40) s m args below meth c H locs 0 0 Q (F0 m pc ls [])) : W p l e (rmm 1 40) s m args below meth c H locs 0 0 Q (F0 m 0 ls []) := by
  have k0 := hts (.fieldLink RX6 9 "SeaGames$Track" "rows" "[I") (List.mem_cons_of_mem _ (List.mem_append_left _ (List.mem_append_left _ (List.mem_of_getElem? (i := 0) rfl))))
  have k1 : ∀ w ∈ u_ws RX6 TX6 2, w ∈ wsX6_load := fun _ h => List.mem_cons_of_mem _ (List.mem_append_left _ (List.mem_append_right _ h))
  have k2 := hts (.fieldLink RX6 25 "SeaGames$Board" "now" "[I") (List.mem_cons_of_mem _ (List.mem_append_left _ (List.mem_append_left _ (List.mem_of_getElem? (i := 1) rfl))))
  have k3 : ∀ w ∈ u_ws RX0 TX0 1, w ∈ wsX6_load := fun _ h => List.mem_cons_of_mem _ (List.mem_append_right _ h)
  have k4 := hts (.methodLink RX6 30 arraycopyName) (List.mem_cons_of_mem _ (List.mem_append_left _ (List.mem_append_left _ (List.mem_of_getElem? (i := 2) rfl))))
  have k5 := hts (.native arraycopyName) (List.mem_cons_of_mem _ (List.mem_append_left _ (List.mem_append_left _ (List.mem_of_getElem? (i := 3) rfl))))
  have k6 := hts (.static arraycopyName) (List.mem_cons_of_mem _ (List.mem_append_left _ (List.mem_append_left _ (List.mem_of_getElem? (i := 4) rfl))))
  have k7 := hts (.initialized "java/lang/System") (List.mem_cons_of_mem _ (List.mem_append_left _ (List.mem_append_left _ (List.mem_of_getElem? (i := 5) rfl))))
  rw [X6_load] at hf
  refine lv_aload_n hx hb dX6_load_0 rfl (lv_at hl 0 rfl) ?_
  refine va_get (D := D) (ci := 6) (v := .ref (o_t 1)) (C := RX6) (T := TX6) (N := 2) hx hb hts k1 hown hK hP 0 rfl rfl 0 (by decide) k0 (fun _ h9 => h9) rfl dX6_load_1 ?_
  refine lv_iload_n hx hb dX6_load_4 rfl (lv_at hl 1 rfl) ?_
  refine lv_bipush (v := (13 : Int32)) hx hb dX6_load_5 (by decide) ?_
  refine lv_imul hx hb dX6_load_7 ?_
  refine lv_aload_n hx hb dX6_load_8 rfl (lv_at hl 2 rfl) ?_
  refine va_get (D := D) (ci := 0) (v := .ref (o_a2 1)) (C := RX0) (T := TX0) (N := 1) hx hb hts k3 hown hK hP 2 rfl rfl 0 (by decide) k2 (fun _ h9 => h9) rfl dX6_load_9 ?_
  refine lv_iconst (v := (0 : Int32)) hx hb dX6_load_12 (by decide) ?_
  refine lv_bipush (v := (13 : Int32)) hx hb dX6_load_13 (by decide) ?_
  obtain ⟨w15, g1, g2, g3, g4, g5, ew15, hf⟩ := cpI_s hf
  refine my_copy (ws2 := (wd_X6_load cy o_t o_a2 x_ready x_rows w15)) hx hb (hml.trans hl.1.symm) hown k4 k5 k6 k7 hK hP hD hS 1 3 rfl rfl g1 g2 g3 g4 g5 ew15 rfl (Nat.le_of_ble_eq_true rfl) (Nat.le_of_ble_eq_true rfl) dX6_load_15 (fun H locs hP hD hS => ?_)
  obtain rfl := Option.some.inj hf
  exact hR _ _ _ _ hP hD hS dX6_load_18
theorem hd_X6_load : yX6_load.cls ≠ "java/lang/invoke/MethodHandle" ∧ yX6_load.cls ≠ "java/lang/invoke/VarHandle" ∧ (parseMethodDescriptor yX6_load.desc).map (fun d => d.parameters.length) = some 2 := by decide +kernel
set_option maxRecDepth 100000 in
theorem c_X6_load (l : Launch) (D : va_G) (cy : Nat → ClassId) (t : Nat → Nat) (o_t o_a2 : Nat → Nat) (x_ready : Int32) (x_rows : Nat → Int32) (x_a2_now : Nat → Int32) (p1 : Int32) {out : (Nat → Int32)} (hf : X6_load x_rows x_a2_now p1 = some out) : ctV l yX6_load wsX6_load 1 40 D cy t [.ref (o_t 0), .int p1, .ref (o_a2 0)] (wd_X6_load cy o_t o_a2 x_ready x_rows x_a2_now) (wd_X6_load cy o_t o_a2 x_ready x_rows out) := by
  refine ⟨rfl, ?_⟩
  intro sz
  refine Met.ofW (cc := cX6_load) (maxL := 3) (ret := none) (by decide) rfl ?_
  intro p e s m args below meth c s₁ B hml hv
  obtain ⟨rfl, hsz, hP, hK, hD0, hE⟩ := hv
  have hts := atoms_spec (ws := wsX6_load) B.pre
  have hown : s.vm.findClass RX6 = some m.cls := findClass_of_methodNamed B.named
  have hlocks := B.notSynchronized
  subst hsz
  have hD := hD0.self (sz := s.heap.size)
  have hl := lv_entry ([.ref (o_t 0), .int p1, .ref (o_a2 0)]) (n := 3) (Nat.le_of_ble_eq_true rfl)
  rw [lg_entry_eq]
  generalize (lg_sl ([.ref (o_t 0), .int p1, .ref (o_a2 0)]) ++ List.replicate (3 - (lg_sl ([.ref (o_t 0), .int p1, .ref (o_a2 0)])).length) Slot.unset).toArray = ls at hl ⊢
  exact w_X6_load D cy t o_t o_a2 x_ready x_rows x_a2_now p1 hf B.exec B.bytes hml hown hts hK hE (fun q h => Or.inr h) hP hD va_S.rf hl (fun H locs ls pc hP hD hS hdg => W.vret B.exec B.bytes B.returns (fun t ht hW => ⟨⟨(), rfl, trivial, ctB_of ht hP⟩, hS.F ht⟩) hS.2.2 hdg)
end
section
noncomputable def X3_setOnly (x_masks : Nat → Int32) (p1 : Int32) : Option ((Nat → Int32)) :=
  bd (J7_fill_53178 9 x_masks (0 : Int32)) fun r5 => bd (X7_yOf p1) fun r13 => bd (X7_xOf p1) fun r18 => wrI r5 9 r13 ((1 : Int32) <<< (r18 &&& (31 : Int32))) fun w22 => some w22
abbrev wd_X3_setOnly (cy : Nat → ClassId) (o_t : Nat → Nat) (x_masks : Nat → Int32) : va_W := [(o_t 0, .inr (3, [.ref (o_t 1)])), (o_t 1, .inl (cy 0, 9, .inl x_masks))]
set_option maxHeartbeats 4000000 in
set_option maxRecDepth 100000 in
theorem w_X3_setOnly {p : Program} {l : Launch} {e : Env} {s : State} {m : MethodId} {args : Array Value} {below : List Frame} {meth : Method} {c : Code} {Q : State → Prop} {A : Nat → Prop} {H : Heap} {locs : List Loc} {ls : Array Slot} (D : va_G) (cy : Nat → ClassId) (t : Nat → Nat) (o_t : Nat → Nat) (x_masks : Nat → Int32) (p1 : Int32) {out : (Nat → Int32)} (hf : X3_setOnly x_masks p1 = some out) (hx : p.tables.exec = Jvm.exec) (hb : c.code = cX3_setOnly) (hml : c.maxLocals = 2) (hown : s.vm.findClass RX3 = some m.cls) (hts : ∀ w ∈ wsX3_setOnly, w.before args s = true) (hK : va_K D vwCl (TYS cy) s) (hE : EV t A s s.heap) (hA : ∀ q, s.heap.size ≤ q → A q) (hP : va_P D vwCl (wd_X3_setOnly cy o_t x_masks) H) (hD : va_D A (wd_X3_setOnly cy o_t x_masks)) (hS : va_S A s.heap H locs) (hl : lv_has ls 2 [(0, .ref (o_t 0)), (1, .int p1)]) (hR : ∀ (H : Heap) (locs : List Loc) (ls : Array Slot) (pc : Nat), va_P D vwCl (wd_X3_setOnly cy o_t out) H → va_D A (wd_X3_setOnly cy o_t out) → va_S A s.heap H locs → decode cX3_setOnly pc = .ok (.return_, 1) → W p l e (rmm 1 23) s m args below meth c H locs 0 0 Q (F0 m pc ls [])) : W p l e (rmm 1 23) s m args below meth c H locs 0 0 Q (F0 m 0 ls []) := by
  have k0 := hts (.fieldLink RX3 9 "SeaGames$Fog" "masks" "[I") (List.mem_cons_of_mem _ (List.mem_append_left _ (List.mem_of_getElem? (i := 0) rfl)))
  have k1 : ∀ w ∈ u_ws RX3 TX3 1, w ∈ wsX3_setOnly := fun _ h => List.mem_cons_of_mem _ (List.mem_append_right _ h)
  have k2 := hts (.initialized RX7) (List.mem_cons_of_mem _ (List.mem_append_left _ (List.mem_of_getElem? (i := 6) rfl)))
  have k3 := hts (.static yX7_yOf) (List.mem_cons_of_mem _ (List.mem_append_left _ (List.mem_of_getElem? (i := 5) rfl)))
  have k4 := hts (.static yX7_xOf) (List.mem_cons_of_mem _ (List.mem_append_left _ (List.mem_of_getElem? (i := 8) rfl)))
  rw [X3_setOnly] at hf
  refine lv_aload_n hx hb dX3_setOnly_0 rfl (lv_at hl 0 rfl) ?_
  refine va_get (D := D) (ci := 3) (v := .ref (o_t 1)) (C := RX3) (T := TX3) (N := 1) hx hb hts k1 hown hK hP 0 rfl rfl 0 (by decide) k0 (fun _ h9 => h9) rfl dX3_setOnly_1 ?_
  refine lv_iconst (v := (0 : Int32)) hx hb dX3_setOnly_4 (by decide) ?_
  obtain ⟨r5, hr5, hf⟩ := bd_s hf
  refine my_Sv (WS2 := (wd_X3_setOnly cy o_t r5)) ⟨hx, hb, hml, hown, hts⟩ (c_J7_fill_53178 l D cy t (o_t 1) 9 x_masks (0 : Int32) hr5) (va_cwS 2 hts gX3_setOnly_J7_fill_53178 rfl rfl rfl hd_J7_fill_53178 ⟨Nat.le_of_ble_eq_true rfl, Nat.le_of_ble_eq_true rfl⟩) hK hE hP hD hS hA [1] 2 rfl rfl (by decide +kernel) rfl rfl hl.1 rfl (Nat.le_of_ble_eq_true rfl) dX3_setOnly_5 ⟨Nat.le_of_ble_eq_true rfl, Nat.le_of_ble_eq_true rfl⟩ (fun H locs hP hD hS => ?_)
  refine lv_aload_n hx hb dX3_setOnly_8 rfl (lv_at hl 0 rfl) ?_
  refine va_get (D := D) (ci := 3) (v := .ref (o_t 1)) (C := RX3) (T := TX3) (N := 1) hx hb hts k1 hown hK hP 0 rfl rfl 0 (by decide) k0 (fun _ h9 => h9) rfl dX3_setOnly_9 ?_
  refine lv_iload_n hx hb dX3_setOnly_12 rfl (lv_at hl 1 rfl) ?_
  obtain ⟨r13, hr13, hf⟩ := bd_s hf
  refine my_Ni (WS2 := (wd_X3_setOnly cy o_t r5)) (host := RX7) ⟨hx, hb, hml, hown, hts⟩ (c_X7_yOf l D cy t p1 hr13) (va_cnB 1 hts gX3_setOnly_X7_yOf_n21 rfl rfl rfl (ev_n10 hE) k2 hd_X7_yOf ⟨Nat.le_of_ble_eq_true rfl, Nat.le_of_ble_eq_true rfl⟩) k3 hK hE hP hD hS hA [] 2 rfl rfl (by decide +kernel) rfl rfl hl.1 rfl (Nat.le_of_ble_eq_true rfl) dX3_setOnly_13 ⟨Nat.le_of_ble_eq_true rfl, Nat.le_of_ble_eq_true rfl⟩ (fun H locs hP hD hS => ?_)
  refine lv_iconst (v := (1 : Int32)) hx hb dX3_setOnly_16 (by decide) ?_
  refine lv_iload_n hx hb dX3_setOnly_17 rfl (lv_at hl 1 rfl) ?_
  obtain ⟨r18, hr18, hf⟩ := bd_s hf
  refine my_Ni (WS2 := (wd_X3_setOnly cy o_t r5)) (host := RX7) ⟨hx, hb, hml, hown, hts⟩ (c_X7_xOf l D cy t p1 hr18) (va_cnB 1 hts gX3_setOnly_X7_xOf_n25 rfl rfl rfl (ev_n11 hE) k2 hd_X7_xOf ⟨Nat.le_of_ble_eq_true rfl, Nat.le_of_ble_eq_true rfl⟩) k4 hK hE hP hD hS hA [] 2 rfl rfl (by decide +kernel) rfl rfl hl.1 rfl (Nat.le_of_ble_eq_true rfl) dX3_setOnly_18 ⟨Nat.le_of_ble_eq_true rfl, Nat.le_of_ble_eq_true rfl⟩ (fun H locs hP hD hS => ?_)
  refine lv_ishl hx hb dX3_setOnly_21 ?_
  obtain ⟨w22, b22, ew22, hf⟩ := wrI_s hf
  refine my_iast (ws2 := (wd_X3_setOnly cy o_t w22)) hx hb hK hP hD hS 1 rfl b22 ew22 rfl dX3_setOnly_22 (fun H locs hP hD hS => ?_)
  obtain rfl := Option.some.inj hf
  exact hR _ _ _ _ hP hD hS dX3_setOnly_23
theorem hd_X3_setOnly : yX3_setOnly.cls ≠ "java/lang/invoke/MethodHandle" ∧ yX3_setOnly.cls ≠ "java/lang/invoke/VarHandle" ∧ (parseMethodDescriptor yX3_setOnly.desc).map (fun d => d.parameters.length) = some 1 := by decide +kernel
set_option maxRecDepth 100000 in
theorem c_X3_setOnly (l : Launch) (D : va_G) (cy : Nat → ClassId) (t : Nat → Nat) (o_t : Nat → Nat) (x_masks : Nat → Int32) (p1 : Int32) {out : (Nat → Int32)} (hf : X3_setOnly x_masks p1 = some out) : ctV l yX3_setOnly wsX3_setOnly 1 23 D cy t [.ref (o_t 0), .int p1] (wd_X3_setOnly cy o_t x_masks) (wd_X3_setOnly cy o_t out) := by
  refine ⟨rfl, ?_⟩
  intro sz
  refine Met.ofW (cc := cX3_setOnly) (maxL := 2) (ret := none) (by decide) rfl ?_
  intro p e s m args below meth c s₁ B hml hv
  obtain ⟨rfl, hsz, hP, hK, hD0, hE⟩ := hv
  have hts := atoms_spec (ws := wsX3_setOnly) B.pre
  have hown : s.vm.findClass RX3 = some m.cls := findClass_of_methodNamed B.named
  have hlocks := B.notSynchronized
  subst hsz
  have hD := hD0.self (sz := s.heap.size)
  have hl := lv_entry ([.ref (o_t 0), .int p1]) (n := 2) (Nat.le_of_ble_eq_true rfl)
  rw [lg_entry_eq]
  generalize (lg_sl ([.ref (o_t 0), .int p1]) ++ List.replicate (2 - (lg_sl ([.ref (o_t 0), .int p1])).length) Slot.unset).toArray = ls at hl ⊢
  exact w_X3_setOnly D cy t o_t x_masks p1 hf B.exec B.bytes hml hown hts hK hE (fun q h => Or.inr h) hP hD va_S.rf hl (fun H locs ls pc hP hD hS hdg => W.vret B.exec B.bytes B.returns (fun t ht hW => ⟨⟨(), rfl, trivial, ctB_of ht hP⟩, hS.F ht⟩) hS.2.2 hdg)

noncomputable def X3_has (x_masks : Nat → Int32) (p1 : Int32) : Option (Int32) :=
  bd (X7_yOf p1) fun r5 => rd x_masks 9 r5 fun v8 => bd (X7_xOf p1) fun r10 => if ((v8 >>> (r10 &&& (31 : Int32))) &&& (1 : Int32)) = (1 : Int32) then (zb (1 : Int32) <| some (1 : Int32)) else (zb (0 : Int32) <| some (0 : Int32))
abbrev wd_X3_has (cy : Nat → ClassId) (o_t : Nat → Nat) (x_masks : Nat → Int32) : va_W := [(o_t 0, .inr (3, [.ref (o_t 1)])), (o_t 1, .inl (cy 0, 9, .inl x_masks))]
set_option maxHeartbeats 4000000 in
set_option maxRecDepth 100000 in
theorem w_X3_has {p : Program} {l : Launch} {e : Env} {s : State} {m : MethodId} {args : Array Value} {below : List Frame} {meth : Method} {c : Code} {Q : State → Prop} {A : Nat → Prop} {H : Heap} {locs : List Loc} {ls : Array Slot} (D : va_G) (cy : Nat → ClassId) (t : Nat → Nat) (o_t : Nat → Nat) (x_masks : Nat → Int32) (p1 : Int32) {out : Int32} (hf : X3_has x_masks p1 = some out) (hx : p.tables.exec = Jvm.exec) (hb : c.code = cX3_has) (hml : c.maxLocals = 2) (hown : s.vm.findClass RX3 = some m.cls) (hts : ∀ w ∈ wsX3_has, w.before args s = true) (hK : va_K D vwCl (TYS cy) s) (hE : EV t A s s.heap) (hA : ∀ q, s.heap.size ≤ q → A q) (hP : va_P D vwCl (wd_X3_has cy o_t x_masks) H) (hD : va_D A (wd_X3_has cy o_t x_masks)) (hS : va_S A s.heap H locs) (hl : lv_has ls 2 [(0, .ref (o_t 0)), (1, .int p1)]) (hR : ∀ (H : Heap) (locs : List Loc) (ls : Array Slot) (pc : Nat), va_P D vwCl (wd_X3_has cy o_t x_masks) H → va_D A (wd_X3_has cy o_t x_masks) → va_S A s.heap H locs → narrow .boolean (.int out) = .int out → decode cX3_has pc = .ok (.ireturn, 1) → W p l e (rmm 1 20) s m args below meth c H locs 0 0 Q (F0 m pc ls [.int out])) : W p l e (rmm 1 20) s m args below meth c H locs 0 0 Q (F0 m 0 ls []) := by
  have k0 := hts (.fieldLink RX3 9 "SeaGames$Fog" "masks" "[I") (List.mem_cons_of_mem _ (List.mem_append_left _ (List.mem_of_getElem? (i := 0) rfl)))
  have k1 : ∀ w ∈ u_ws RX3 TX3 1, w ∈ wsX3_has := fun _ h => List.mem_cons_of_mem _ (List.mem_append_right _ h)
  have k2 := hts (.initialized RX7) (List.mem_cons_of_mem _ (List.mem_append_left _ (List.mem_of_getElem? (i := 2) rfl)))
  have k3 := hts (.static yX7_yOf) (List.mem_cons_of_mem _ (List.mem_append_left _ (List.mem_of_getElem? (i := 1) rfl)))
  have k4 := hts (.static yX7_xOf) (List.mem_cons_of_mem _ (List.mem_append_left _ (List.mem_of_getElem? (i := 4) rfl)))
  rw [X3_has] at hf
  refine lv_aload_n hx hb dX3_has_0 rfl (lv_at hl 0 rfl) ?_
  refine va_get (D := D) (ci := 3) (v := .ref (o_t 1)) (C := RX3) (T := TX3) (N := 1) hx hb hts k1 hown hK hP 0 rfl rfl 0 (by decide) k0 (fun _ h9 => h9) rfl dX3_has_1 ?_
  refine lv_iload_n hx hb dX3_has_4 rfl (lv_at hl 1 rfl) ?_
  obtain ⟨r5, hr5, hf⟩ := bd_s hf
  refine my_Ni (WS2 := (wd_X3_has cy o_t x_masks)) (host := RX7) ⟨hx, hb, hml, hown, hts⟩ (c_X7_yOf l D cy t p1 hr5) (va_cnB 1 hts gX3_has_X7_yOf_n21 rfl rfl rfl (ev_n10 hE) k2 hd_X7_yOf ⟨Nat.le_of_ble_eq_true rfl, Nat.le_of_ble_eq_true rfl⟩) k3 hK hE hP hD hS hA [] 2 rfl rfl (by decide +kernel) rfl rfl hl.1 rfl (Nat.le_of_ble_eq_true rfl) dX3_has_5 ⟨Nat.le_of_ble_eq_true rfl, Nat.le_of_ble_eq_true rfl⟩ (fun H locs hP hD hS => ?_)
  obtain ⟨v8, b8, ev8, hf⟩ := rd_s hf
  refine my_iald hx hb hK hP 1 rfl b8 ev8 dX3_has_8 ?_
  refine lv_iload_n hx hb dX3_has_9 rfl (lv_at hl 1 rfl) ?_
  obtain ⟨r10, hr10, hf⟩ := bd_s hf
  refine my_Ni (WS2 := (wd_X3_has cy o_t x_masks)) (host := RX7) ⟨hx, hb, hml, hown, hts⟩ (c_X7_xOf l D cy t p1 hr10) (va_cnB 1 hts gX3_has_X7_xOf_n25 rfl rfl rfl (ev_n11 hE) k2 hd_X7_xOf ⟨Nat.le_of_ble_eq_true rfl, Nat.le_of_ble_eq_true rfl⟩) k4 hK hE hP hD hS hA [] 2 rfl rfl (by decide +kernel) rfl rfl hl.1 rfl (Nat.le_of_ble_eq_true rfl) dX3_has_10 ⟨Nat.le_of_ble_eq_true rfl, Nat.le_of_ble_eq_true rfl⟩ (fun H locs hP hD hS => ?_)
  refine lv_ishr hx hb dX3_has_13 ?_
  refine lv_iconst (v := (1 : Int32)) hx hb dX3_has_14 (by decide) ?_
  refine lv_iand hx hb dX3_has_15 ?_
  refine lv_iconst (v := (1 : Int32)) hx hb dX3_has_16 (by decide) ?_
  refine lv_icmp_ne (tgt := 24) hx hb dX3_has_17 (by decide) (fun c17 => ?_) (fun c17 => ?_)
  · have hf := ifn c17 hf
    refine lv_iconst (v := (0 : Int32)) hx hb dX3_has_24 (by decide) ?_
    obtain ⟨z25, hf⟩ := zb_s hf
    obtain rfl := Option.some.inj hf
    exact hR _ _ _ _ hP hD hS z25 dX3_has_25
  · have hf := ifp c17 hf
    refine lv_iconst (v := (1 : Int32)) hx hb dX3_has_20 (by decide) ?_
    refine lv_goto (tgt := 25) hx hb dX3_has_21 (by decide) ?_
    obtain ⟨z25, hf⟩ := zb_s hf
    obtain rfl := Option.some.inj hf
    exact hR _ _ _ _ hP hD hS z25 dX3_has_25
theorem hd_X3_has : yX3_has.cls ≠ "java/lang/invoke/MethodHandle" ∧ yX3_has.cls ≠ "java/lang/invoke/VarHandle" ∧ (parseMethodDescriptor yX3_has.desc).map (fun d => d.parameters.length) = some 1 := by decide +kernel
set_option maxRecDepth 100000 in
theorem c_X3_has (l : Launch) (D : va_G) (cy : Nat → ClassId) (t : Nat → Nat) (o_t : Nat → Nat) (x_masks : Nat → Int32) (p1 : Int32) {out : Int32} (hf : X3_has x_masks p1 = some out) : ctI l yX3_has wsX3_has 1 20 D cy t [.ref (o_t 0), .int p1] (wd_X3_has cy o_t x_masks) (wd_X3_has cy o_t x_masks) out := by
  refine ⟨rfl, ?_⟩
  intro sz
  refine Met.ofW (cc := cX3_has) (maxL := 2) (ret := (some .boolean)) (by decide) rfl ?_
  intro p e s m args below meth c s₁ B hml hv
  obtain ⟨rfl, hsz, hP, hK, hD0, hE⟩ := hv
  have hts := atoms_spec (ws := wsX3_has) B.pre
  have hown : s.vm.findClass RX3 = some m.cls := findClass_of_methodNamed B.named
  have hlocks := B.notSynchronized
  subst hsz
  have hD := hD0.self (sz := s.heap.size)
  have hl := lv_entry ([.ref (o_t 0), .int p1]) (n := 2) (Nat.le_of_ble_eq_true rfl)
  rw [lg_entry_eq]
  generalize (lg_sl ([.ref (o_t 0), .int p1]) ++ List.replicate (2 - (lg_sl ([.ref (o_t 0), .int p1])).length) Slot.unset).toArray = ls at hl ⊢
  exact w_X3_has D cy t o_t x_masks p1 hf B.exec B.bytes hml hown hts hK hE (fun q h => Or.inr h) hP hD va_S.rf hl (fun H locs ls pc hP hD hS z hdg => W.zret B.exec B.bytes B.returns z (fun t ht hW => ⟨⟨_, (), rfl, rfl, ctB_of ht hP⟩, hS.F ht⟩) hS.2.2 hdg)
end
