section
/-- a private method of a class that the tables say can be made, by its rows of tables_1 -/
def lw_okq (q : MethodName × Nat) : Prop := (q.1.cls ≠ "java/lang/invoke/MethodHandle" ∧ q.1.cls ≠ "java/lang/invoke/VarHandle") ∧ Cond.instantiable q.1.cls q.2 ∈ tables_1 ∧ Cond.privateMethod q.1 ∈ tables_1 ∧ Cond.instanceMethod q.1 ∈ tables_1
theorem lw_p0 : lw_okq (⟨"CrowLikeness", "finding", "(I)I"⟩, 8) := ⟨⟨by decide +kernel, by decide +kernel⟩, List.mem_of_getElem? (i := 17) (by decide +kernel), List.mem_of_getElem? (i := 208) (by decide +kernel), List.mem_of_getElem? (i := 209) (by decide +kernel)⟩
theorem lw_p1 : lw_okq (⟨"CrowLikeness$Flock", "takeScares", "(LCrowLikeness$Plain;II)V"⟩, 5) := ⟨⟨by decide +kernel, by decide +kernel⟩, List.mem_of_getElem? (i := 100) (by decide +kernel), List.mem_of_getElem? (i := 231) (by decide +kernel), List.mem_of_getElem? (i := 232) (by decide +kernel)⟩
theorem lw_p2 : lw_okq (⟨"CrowLikeness$Plain", "isMeeting", "(II)Z"⟩, 12) := ⟨⟨by decide +kernel, by decide +kernel⟩, List.mem_of_getElem? (i := 25) (by decide +kernel), List.mem_of_getElem? (i := 245) (by decide +kernel), List.mem_of_getElem? (i := 246) (by decide +kernel)⟩
theorem lw_p3 : lw_okq (⟨"CrowLikeness$Flock", "weighFears", "(LCrowLikeness$Plain;)V"⟩, 5) := ⟨⟨by decide +kernel, by decide +kernel⟩, List.mem_of_getElem? (i := 100) (by decide +kernel), List.mem_of_getElem? (i := 249) (by decide +kernel), List.mem_of_getElem? (i := 250) (by decide +kernel)⟩
theorem lw_p4 : lw_okq (⟨"CrowLikeness$Flock", "fearAt", "(LCrowLikeness$Plain;I)I"⟩, 5) := ⟨⟨by decide +kernel, by decide +kernel⟩, List.mem_of_getElem? (i := 100) (by decide +kernel), List.mem_of_getElem? (i := 253) (by decide +kernel), List.mem_of_getElem? (i := 254) (by decide +kernel)⟩
theorem lw_p5 : lw_okq (⟨"CrowLikeness$Plain", "placesOf", "(I[I)I"⟩, 12) := ⟨⟨by decide +kernel, by decide +kernel⟩, List.mem_of_getElem? (i := 25) (by decide +kernel), List.mem_of_getElem? (i := 270) (by decide +kernel), List.mem_of_getElem? (i := 271) (by decide +kernel)⟩
theorem lw_p6 : lw_okq (⟨"CrowLikeness", "isSitter", "(I)Z"⟩, 8) := ⟨⟨by decide +kernel, by decide +kernel⟩, List.mem_of_getElem? (i := 17) (by decide +kernel), List.mem_of_getElem? (i := 293) (by decide +kernel), List.mem_of_getElem? (i := 294) (by decide +kernel)⟩
theorem lw_p7 : lw_okq (⟨"CrowLikeness", "isLikeness", "(I)Z"⟩, 8) := ⟨⟨by decide +kernel, by decide +kernel⟩, List.mem_of_getElem? (i := 17) (by decide +kernel), List.mem_of_getElem? (i := 340) (by decide +kernel), List.mem_of_getElem? (i := 341) (by decide +kernel)⟩
theorem lw_p8 : lw_okq (⟨"CrowLikeness$Flock", "renewScares", "(LCrowLikeness$Plain;)Z"⟩, 5) := ⟨⟨by decide +kernel, by decide +kernel⟩, List.mem_of_getElem? (i := 100) (by decide +kernel), List.mem_of_getElem? (i := 381) (by decide +kernel), List.mem_of_getElem? (i := 382) (by decide +kernel)⟩
theorem lw_p9 : lw_okq (⟨"CrowLikeness$Flock", "growOlder", "(LCrowLikeness$Plain;)V"⟩, 5) := ⟨⟨by decide +kernel, by decide +kernel⟩, List.mem_of_getElem? (i := 100) (by decide +kernel), List.mem_of_getElem? (i := 387) (by decide +kernel), List.mem_of_getElem? (i := 388) (by decide +kernel)⟩
theorem lw_p10 : lw_okq (⟨"CrowLikeness", "eatenAsItIs", "(I)I"⟩, 8) := ⟨⟨by decide +kernel, by decide +kernel⟩, List.mem_of_getElem? (i := 17) (by decide +kernel), List.mem_of_getElem? (i := 420) (by decide +kernel), List.mem_of_getElem? (i := 421) (by decide +kernel)⟩
theorem lw_p11 : lw_okq (⟨"CrowLikeness", "bestChoice", "([IIII)I"⟩, 8) := ⟨⟨by decide +kernel, by decide +kernel⟩, List.mem_of_getElem? (i := 17) (by decide +kernel), List.mem_of_getElem? (i := 444) (by decide +kernel), List.mem_of_getElem? (i := 445) (by decide +kernel)⟩
theorem lw_p12 : lw_okq (⟨"CrowLikeness", "eatenWith", "(III)I"⟩, 8) := ⟨⟨by decide +kernel, by decide +kernel⟩, List.mem_of_getElem? (i := 17) (by decide +kernel), List.mem_of_getElem? (i := 468) (by decide +kernel), List.mem_of_getElem? (i := 469) (by decide +kernel)⟩
theorem lw_p13 : lw_okq (⟨"CrowLikeness", "eatenSwapped", "(IIII)I"⟩, 8) := ⟨⟨by decide +kernel, by decide +kernel⟩, List.mem_of_getElem? (i := 17) (by decide +kernel), List.mem_of_getElem? (i := 489) (by decide +kernel), List.mem_of_getElem? (i := 490) (by decide +kernel)⟩
theorem lw_p14 : lw_okq (⟨"CrowLikeness$Tape", "advance", "()V"⟩, 7) := ⟨⟨by decide +kernel, by decide +kernel⟩, List.mem_of_getElem? (i := 123) (by decide +kernel), List.mem_of_getElem? (i := 513) (by decide +kernel), List.mem_of_getElem? (i := 514) (by decide +kernel)⟩
theorem lw_p15 : lw_okq (⟨"CrowLikeness$Tape", "passLetters", "()V"⟩, 7) := ⟨⟨by decide +kernel, by decide +kernel⟩, List.mem_of_getElem? (i := 123) (by decide +kernel), List.mem_of_getElem? (i := 520) (by decide +kernel), List.mem_of_getElem? (i := 521) (by decide +kernel)⟩
def lw_privs_1 : List (MethodName × Nat) := [(⟨"CrowLikeness", "finding", "(I)I"⟩, 8), (⟨"CrowLikeness$Flock", "takeScares", "(LCrowLikeness$Plain;II)V"⟩, 5), (⟨"CrowLikeness$Plain", "isMeeting", "(II)Z"⟩, 12), (⟨"CrowLikeness$Flock", "weighFears", "(LCrowLikeness$Plain;)V"⟩, 5), (⟨"CrowLikeness$Flock", "fearAt", "(LCrowLikeness$Plain;I)I"⟩, 5), (⟨"CrowLikeness$Plain", "placesOf", "(I[I)I"⟩, 12), (⟨"CrowLikeness", "isSitter", "(I)Z"⟩, 8), (⟨"CrowLikeness", "isLikeness", "(I)Z"⟩, 8), (⟨"CrowLikeness$Flock", "renewScares", "(LCrowLikeness$Plain;)Z"⟩, 5), (⟨"CrowLikeness$Flock", "growOlder", "(LCrowLikeness$Plain;)V"⟩, 5), (⟨"CrowLikeness", "eatenAsItIs", "(I)I"⟩, 8), (⟨"CrowLikeness", "bestChoice", "([IIII)I"⟩, 8), (⟨"CrowLikeness", "eatenWith", "(III)I"⟩, 8), (⟨"CrowLikeness", "eatenSwapped", "(IIII)I"⟩, 8), (⟨"CrowLikeness$Tape", "advance", "()V"⟩, 7), (⟨"CrowLikeness$Tape", "passLetters", "()V"⟩, 7)]
theorem lw_r1 : ∀ q ∈ lw_privs_1, lw_okq q := List.forall_mem_cons.mpr ⟨lw_p0, List.forall_mem_cons.mpr ⟨lw_p1, List.forall_mem_cons.mpr ⟨lw_p2, List.forall_mem_cons.mpr ⟨lw_p3, List.forall_mem_cons.mpr ⟨lw_p4, List.forall_mem_cons.mpr ⟨lw_p5, List.forall_mem_cons.mpr ⟨lw_p6, List.forall_mem_cons.mpr ⟨lw_p7, List.forall_mem_cons.mpr ⟨lw_p8, List.forall_mem_cons.mpr ⟨lw_p9, List.forall_mem_cons.mpr ⟨lw_p10, List.forall_mem_cons.mpr ⟨lw_p11, List.forall_mem_cons.mpr ⟨lw_p12, List.forall_mem_cons.mpr ⟨lw_p13, List.forall_mem_cons.mpr ⟨lw_p14, List.forall_mem_cons.mpr ⟨lw_p15, fun _ h => absurd h List.not_mem_nil⟩⟩⟩⟩⟩⟩⟩⟩⟩⟩⟩⟩⟩⟩⟩⟩
theorem lw_p16 : lw_okq (⟨"CrowLikeness$Tape", "passDigits", "()V"⟩, 7) := ⟨⟨by decide +kernel, by decide +kernel⟩, List.mem_of_getElem? (i := 123) (by decide +kernel), List.mem_of_getElem? (i := 527) (by decide +kernel), List.mem_of_getElem? (i := 528) (by decide +kernel)⟩
theorem lw_p17 : lw_okq (⟨"CrowLikeness$Tape", "takeItem", "(LCrowLikeness$Plain;)Z"⟩, 7) := ⟨⟨by decide +kernel, by decide +kernel⟩, List.mem_of_getElem? (i := 123) (by decide +kernel), List.mem_of_getElem? (i := 532) (by decide +kernel), List.mem_of_getElem? (i := 533) (by decide +kernel)⟩
theorem lw_p18 : lw_okq (⟨"CrowLikeness$Tape", "kindNamed", "()I"⟩, 7) := ⟨⟨by decide +kernel, by decide +kernel⟩, List.mem_of_getElem? (i := 123) (by decide +kernel), List.mem_of_getElem? (i := 536) (by decide +kernel), List.mem_of_getElem? (i := 537) (by decide +kernel)⟩
theorem lw_p19 : lw_okq (⟨"CrowLikeness$Tape", "isWord", "(Ljava/lang/String;)Z"⟩, 7) := ⟨⟨by decide +kernel, by decide +kernel⟩, List.mem_of_getElem? (i := 123) (by decide +kernel), List.mem_of_getElem? (i := 549) (by decide +kernel), List.mem_of_getElem? (i := 550) (by decide +kernel)⟩
theorem lw_p20 : lw_okq (⟨"CrowLikeness$Tape", "takeSitter", "(LCrowLikeness$Plain;I)Z"⟩, 7) := ⟨⟨by decide +kernel, by decide +kernel⟩, List.mem_of_getElem? (i := 123) (by decide +kernel), List.mem_of_getElem? (i := 601) (by decide +kernel), List.mem_of_getElem? (i := 602) (by decide +kernel)⟩
theorem lw_p21 : lw_okq (⟨"CrowLikeness$Tape", "takeWord", "(Ljava/lang/String;)Z"⟩, 7) := ⟨⟨by decide +kernel, by decide +kernel⟩, List.mem_of_getElem? (i := 123) (by decide +kernel), List.mem_of_getElem? (i := 607) (by decide +kernel), List.mem_of_getElem? (i := 608) (by decide +kernel)⟩
theorem lw_p22 : lw_okq (⟨"CrowLikeness$Tape", "takeNumber", "(II)Z"⟩, 7) := ⟨⟨by decide +kernel, by decide +kernel⟩, List.mem_of_getElem? (i := 123) (by decide +kernel), List.mem_of_getElem? (i := 611) (by decide +kernel), List.mem_of_getElem? (i := 612) (by decide +kernel)⟩
theorem lw_p23 : lw_okq (⟨"CrowLikeness$Tape", "takeLikeness", "(LCrowLikeness$Plain;)Z"⟩, 7) := ⟨⟨by decide +kernel, by decide +kernel⟩, List.mem_of_getElem? (i := 123) (by decide +kernel), List.mem_of_getElem? (i := 618) (by decide +kernel), List.mem_of_getElem? (i := 619) (by decide +kernel)⟩
theorem lw_p24 : lw_okq (⟨"CrowLikeness$Tape", "takeWheat", "(LCrowLikeness$Plain;)Z"⟩, 7) := ⟨⟨by decide +kernel, by decide +kernel⟩, List.mem_of_getElem? (i := 123) (by decide +kernel), List.mem_of_getElem? (i := 625) (by decide +kernel), List.mem_of_getElem? (i := 626) (by decide +kernel)⟩
theorem lw_p25 : lw_okq (⟨"CrowLikeness$Tape", "takeCrows", "(LCrowLikeness$Plain;)Z"⟩, 7) := ⟨⟨by decide +kernel, by decide +kernel⟩, List.mem_of_getElem? (i := 123) (by decide +kernel), List.mem_of_getElem? (i := 631) (by decide +kernel), List.mem_of_getElem? (i := 632) (by decide +kernel)⟩
theorem lw_p26 : lw_okq (⟨"CrowLikeness$Sheet", "cut", "(J)J"⟩, 3) := ⟨⟨by decide +kernel, by decide +kernel⟩, List.mem_of_getElem? (i := 153) (by decide +kernel), List.mem_of_getElem? (i := 662) (by decide +kernel), List.mem_of_getElem? (i := 663) (by decide +kernel)⟩
theorem lw_p27 : lw_okq (⟨"CrowLikeness", "trialGoesAs", "(LCrowLikeness$Sheet;)Z"⟩, 8) := ⟨⟨by decide +kernel, by decide +kernel⟩, List.mem_of_getElem? (i := 17) (by decide +kernel), List.mem_of_getElem? (i := 688) (by decide +kernel), List.mem_of_getElem? (i := 689) (by decide +kernel)⟩
theorem lw_p28 : lw_okq (⟨"CrowLikenessModel", "becomes", "(II)I"⟩, 20) := ⟨⟨by decide +kernel, by decide +kernel⟩, List.mem_of_getElem? (i := 717) (by decide +kernel), List.mem_of_getElem? (i := 796) (by decide +kernel), List.mem_of_getElem? (i := 797) (by decide +kernel)⟩
theorem lw_p29 : lw_okq (⟨"CrowLikenessModel", "finds", "(I)I"⟩, 20) := ⟨⟨by decide +kernel, by decide +kernel⟩, List.mem_of_getElem? (i := 717) (by decide +kernel), List.mem_of_getElem? (i := 801) (by decide +kernel), List.mem_of_getElem? (i := 802) (by decide +kernel)⟩
theorem lw_p30 : lw_okq (⟨"CrowLikenessModel", "fear", "(I)I"⟩, 20) := ⟨⟨by decide +kernel, by decide +kernel⟩, List.mem_of_getElem? (i := 717) (by decide +kernel), List.mem_of_getElem? (i := 810) (by decide +kernel), List.mem_of_getElem? (i := 811) (by decide +kernel)⟩
theorem lw_p31 : lw_okq (⟨"CrowLikenessModel", "likes", "(II)I"⟩, 20) := ⟨⟨by decide +kernel, by decide +kernel⟩, List.mem_of_getElem? (i := 717) (by decide +kernel), List.mem_of_getElem? (i := 814) (by decide +kernel), List.mem_of_getElem? (i := 815) (by decide +kernel)⟩
def lw_privs_2 : List (MethodName × Nat) := [(⟨"CrowLikeness$Tape", "passDigits", "()V"⟩, 7), (⟨"CrowLikeness$Tape", "takeItem", "(LCrowLikeness$Plain;)Z"⟩, 7), (⟨"CrowLikeness$Tape", "kindNamed", "()I"⟩, 7), (⟨"CrowLikeness$Tape", "isWord", "(Ljava/lang/String;)Z"⟩, 7), (⟨"CrowLikeness$Tape", "takeSitter", "(LCrowLikeness$Plain;I)Z"⟩, 7), (⟨"CrowLikeness$Tape", "takeWord", "(Ljava/lang/String;)Z"⟩, 7), (⟨"CrowLikeness$Tape", "takeNumber", "(II)Z"⟩, 7), (⟨"CrowLikeness$Tape", "takeLikeness", "(LCrowLikeness$Plain;)Z"⟩, 7), (⟨"CrowLikeness$Tape", "takeWheat", "(LCrowLikeness$Plain;)Z"⟩, 7), (⟨"CrowLikeness$Tape", "takeCrows", "(LCrowLikeness$Plain;)Z"⟩, 7), (⟨"CrowLikeness$Sheet", "cut", "(J)J"⟩, 3), (⟨"CrowLikeness", "trialGoesAs", "(LCrowLikeness$Sheet;)Z"⟩, 8), (⟨"CrowLikenessModel", "becomes", "(II)I"⟩, 20), (⟨"CrowLikenessModel", "finds", "(I)I"⟩, 20), (⟨"CrowLikenessModel", "fear", "(I)I"⟩, 20), (⟨"CrowLikenessModel", "likes", "(II)I"⟩, 20)]
theorem lw_r2 : ∀ q ∈ lw_privs_2, lw_okq q := List.forall_mem_cons.mpr ⟨lw_p16, List.forall_mem_cons.mpr ⟨lw_p17, List.forall_mem_cons.mpr ⟨lw_p18, List.forall_mem_cons.mpr ⟨lw_p19, List.forall_mem_cons.mpr ⟨lw_p20, List.forall_mem_cons.mpr ⟨lw_p21, List.forall_mem_cons.mpr ⟨lw_p22, List.forall_mem_cons.mpr ⟨lw_p23, List.forall_mem_cons.mpr ⟨lw_p24, List.forall_mem_cons.mpr ⟨lw_p25, List.forall_mem_cons.mpr ⟨lw_p26, List.forall_mem_cons.mpr ⟨lw_p27, List.forall_mem_cons.mpr ⟨lw_p28, List.forall_mem_cons.mpr ⟨lw_p29, List.forall_mem_cons.mpr ⟨lw_p30, List.forall_mem_cons.mpr ⟨lw_p31, fun _ h => absurd h List.not_mem_nil⟩⟩⟩⟩⟩⟩⟩⟩⟩⟩⟩⟩⟩⟩⟩⟩
theorem lw_p32 : lw_okq (⟨"CrowLikenessModel", "isThere", "(I)Z"⟩, 20) := ⟨⟨by decide +kernel, by decide +kernel⟩, List.mem_of_getElem? (i := 717) (by decide +kernel), List.mem_of_getElem? (i := 821) (by decide +kernel), List.mem_of_getElem? (i := 822) (by decide +kernel)⟩
theorem lw_p33 : lw_okq (⟨"CrowLikenessModel", "scared", "(II)I"⟩, 20) := ⟨⟨by decide +kernel, by decide +kernel⟩, List.mem_of_getElem? (i := 717) (by decide +kernel), List.mem_of_getElem? (i := 828) (by decide +kernel), List.mem_of_getElem? (i := 829) (by decide +kernel)⟩
theorem lw_p34 : lw_okq (⟨"CrowLikenessModel", "counts", "(I)I"⟩, 20) := ⟨⟨by decide +kernel, by decide +kernel⟩, List.mem_of_getElem? (i := 717) (by decide +kernel), List.mem_of_getElem? (i := 832) (by decide +kernel), List.mem_of_getElem? (i := 833) (by decide +kernel)⟩
theorem lw_p35 : lw_okq (⟨"CrowLikenessModel", "its", "(II)I"⟩, 20) := ⟨⟨by decide +kernel, by decide +kernel⟩, List.mem_of_getElem? (i := 717) (by decide +kernel), List.mem_of_getElem? (i := 836) (by decide +kernel), List.mem_of_getElem? (i := 837) (by decide +kernel)⟩
theorem lw_p36 : lw_okq (⟨"CrowLikenessModel", "thoseAt", "(I)I"⟩, 20) := ⟨⟨by decide +kernel, by decide +kernel⟩, List.mem_of_getElem? (i := 717) (by decide +kernel), List.mem_of_getElem? (i := 846) (by decide +kernel), List.mem_of_getElem? (i := 847) (by decide +kernel)⟩
theorem lw_p37 : lw_okq (⟨"CrowLikenessModel", "adds", "(I)I"⟩, 20) := ⟨⟨by decide +kernel, by decide +kernel⟩, List.mem_of_getElem? (i := 717) (by decide +kernel), List.mem_of_getElem? (i := 864) (by decide +kernel), List.mem_of_getElem? (i := 865) (by decide +kernel)⟩
theorem lw_p38 : lw_okq (⟨"CrowLikenessModel", "isSitter", "(I)Z"⟩, 20) := ⟨⟨by decide +kernel, by decide +kernel⟩, List.mem_of_getElem? (i := 717) (by decide +kernel), List.mem_of_getElem? (i := 872) (by decide +kernel), List.mem_of_getElem? (i := 873) (by decide +kernel)⟩
theorem lw_p39 : lw_okq (⟨"CrowLikenessModel", "likenessesOf", "(I)I"⟩, 20) := ⟨⟨by decide +kernel, by decide +kernel⟩, List.mem_of_getElem? (i := 717) (by decide +kernel), List.mem_of_getElem? (i := 876) (by decide +kernel), List.mem_of_getElem? (i := 877) (by decide +kernel)⟩
theorem lw_p40 : lw_okq (⟨"CrowLikenessModel", "meets", "(I)I"⟩, 20) := ⟨⟨by decide +kernel, by decide +kernel⟩, List.mem_of_getElem? (i := 717) (by decide +kernel), List.mem_of_getElem? (i := 880) (by decide +kernel), List.mem_of_getElem? (i := 881) (by decide +kernel)⟩
theorem lw_p41 : lw_okq (⟨"CrowLikenessModel", "areMet", "(II)Z"⟩, 20) := ⟨⟨by decide +kernel, by decide +kernel⟩, List.mem_of_getElem? (i := 717) (by decide +kernel), List.mem_of_getElem? (i := 884) (by decide +kernel), List.mem_of_getElem? (i := 885) (by decide +kernel)⟩
theorem lw_p42 : lw_okq (⟨"CrowLikenessModel", "puts", "(II)I"⟩, 20) := ⟨⟨by decide +kernel, by decide +kernel⟩, List.mem_of_getElem? (i := 717) (by decide +kernel), List.mem_of_getElem? (i := 909) (by decide +kernel), List.mem_of_getElem? (i := 910) (by decide +kernel)⟩
theorem lw_p43 : lw_okq (⟨"CrowLikenessModel", "isLikeness", "(I)Z"⟩, 20) := ⟨⟨by decide +kernel, by decide +kernel⟩, List.mem_of_getElem? (i := 717) (by decide +kernel), List.mem_of_getElem? (i := 917) (by decide +kernel), List.mem_of_getElem? (i := 918) (by decide +kernel)⟩
theorem lw_p44 : lw_okq (⟨"CrowLikenessModel", "fearsNow", "()V"⟩, 20) := ⟨⟨by decide +kernel, by decide +kernel⟩, List.mem_of_getElem? (i := 717) (by decide +kernel), List.mem_of_getElem? (i := 936) (by decide +kernel), List.mem_of_getElem? (i := 937) (by decide +kernel)⟩
theorem lw_p45 : lw_okq (⟨"CrowLikenessModel", "fearBy", "(I)I"⟩, 20) := ⟨⟨by decide +kernel, by decide +kernel⟩, List.mem_of_getElem? (i := 717) (by decide +kernel), List.mem_of_getElem? (i := 940) (by decide +kernel), List.mem_of_getElem? (i := 941) (by decide +kernel)⟩
theorem lw_p46 : lw_okq (⟨"CrowLikenessModel", "landsAt", "()I"⟩, 20) := ⟨⟨by decide +kernel, by decide +kernel⟩, List.mem_of_getElem? (i := 717) (by decide +kernel), List.mem_of_getElem? (i := 944) (by decide +kernel), List.mem_of_getElem? (i := 945) (by decide +kernel)⟩
theorem lw_p47 : lw_okq (⟨"CrowLikenessModel", "daysGo", "(I)I"⟩, 20) := ⟨⟨by decide +kernel, by decide +kernel⟩, List.mem_of_getElem? (i := 717) (by decide +kernel), List.mem_of_getElem? (i := 955) (by decide +kernel), List.mem_of_getElem? (i := 956) (by decide +kernel)⟩
def lw_privs_3 : List (MethodName × Nat) := [(⟨"CrowLikenessModel", "isThere", "(I)Z"⟩, 20), (⟨"CrowLikenessModel", "scared", "(II)I"⟩, 20), (⟨"CrowLikenessModel", "counts", "(I)I"⟩, 20), (⟨"CrowLikenessModel", "its", "(II)I"⟩, 20), (⟨"CrowLikenessModel", "thoseAt", "(I)I"⟩, 20), (⟨"CrowLikenessModel", "adds", "(I)I"⟩, 20), (⟨"CrowLikenessModel", "isSitter", "(I)Z"⟩, 20), (⟨"CrowLikenessModel", "likenessesOf", "(I)I"⟩, 20), (⟨"CrowLikenessModel", "meets", "(I)I"⟩, 20), (⟨"CrowLikenessModel", "areMet", "(II)Z"⟩, 20), (⟨"CrowLikenessModel", "puts", "(II)I"⟩, 20), (⟨"CrowLikenessModel", "isLikeness", "(I)Z"⟩, 20), (⟨"CrowLikenessModel", "fearsNow", "()V"⟩, 20), (⟨"CrowLikenessModel", "fearBy", "(I)I"⟩, 20), (⟨"CrowLikenessModel", "landsAt", "()I"⟩, 20), (⟨"CrowLikenessModel", "daysGo", "(I)I"⟩, 20)]
theorem lw_r3 : ∀ q ∈ lw_privs_3, lw_okq q := List.forall_mem_cons.mpr ⟨lw_p32, List.forall_mem_cons.mpr ⟨lw_p33, List.forall_mem_cons.mpr ⟨lw_p34, List.forall_mem_cons.mpr ⟨lw_p35, List.forall_mem_cons.mpr ⟨lw_p36, List.forall_mem_cons.mpr ⟨lw_p37, List.forall_mem_cons.mpr ⟨lw_p38, List.forall_mem_cons.mpr ⟨lw_p39, List.forall_mem_cons.mpr ⟨lw_p40, List.forall_mem_cons.mpr ⟨lw_p41, List.forall_mem_cons.mpr ⟨lw_p42, List.forall_mem_cons.mpr ⟨lw_p43, List.forall_mem_cons.mpr ⟨lw_p44, List.forall_mem_cons.mpr ⟨lw_p45, List.forall_mem_cons.mpr ⟨lw_p46, List.forall_mem_cons.mpr ⟨lw_p47, fun _ h => absurd h List.not_mem_nil⟩⟩⟩⟩⟩⟩⟩⟩⟩⟩⟩⟩⟩⟩⟩⟩
theorem lw_p48 : lw_okq (⟨"CrowLikenessModel", "day", "()I"⟩, 20) := ⟨⟨by decide +kernel, by decide +kernel⟩, List.mem_of_getElem? (i := 717) (by decide +kernel), List.mem_of_getElem? (i := 959) (by decide +kernel), List.mem_of_getElem? (i := 960) (by decide +kernel)⟩
theorem lw_p49 : lw_okq (⟨"CrowLikenessModel", "wheatAll", "()I"⟩, 20) := ⟨⟨by decide +kernel, by decide +kernel⟩, List.mem_of_getElem? (i := 717) (by decide +kernel), List.mem_of_getElem? (i := 967) (by decide +kernel), List.mem_of_getElem? (i := 968) (by decide +kernel)⟩
theorem lw_p50 : lw_okq (⟨"CrowLikenessModel", "fees", "()I"⟩, 20) := ⟨⟨by decide +kernel, by decide +kernel⟩, List.mem_of_getElem? (i := 717) (by decide +kernel), List.mem_of_getElem? (i := 971) (by decide +kernel), List.mem_of_getElem? (i := 972) (by decide +kernel)⟩
theorem lw_p51 : lw_okq (⟨"CrowLikenessModel", "feared", "()I"⟩, 20) := ⟨⟨by decide +kernel, by decide +kernel⟩, List.mem_of_getElem? (i := 717) (by decide +kernel), List.mem_of_getElem? (i := 975) (by decide +kernel), List.mem_of_getElem? (i := 976) (by decide +kernel)⟩
theorem lw_p52 : lw_okq (⟨"CrowLikenessModel", "meeting", "()I"⟩, 20) := ⟨⟨by decide +kernel, by decide +kernel⟩, List.mem_of_getElem? (i := 717) (by decide +kernel), List.mem_of_getElem? (i := 979) (by decide +kernel), List.mem_of_getElem? (i := 980) (by decide +kernel)⟩
theorem lw_p53 : lw_okq (⟨"CrowLikenessModel", "laysAside", "()V"⟩, 20) := ⟨⟨by decide +kernel, by decide +kernel⟩, List.mem_of_getElem? (i := 717) (by decide +kernel), List.mem_of_getElem? (i := 987) (by decide +kernel), List.mem_of_getElem? (i := 988) (by decide +kernel)⟩
theorem lw_p54 : lw_okq (⟨"CrowLikenessModel", "takesBack", "(I)I"⟩, 20) := ⟨⟨by decide +kernel, by decide +kernel⟩, List.mem_of_getElem? (i := 717) (by decide +kernel), List.mem_of_getElem? (i := 991) (by decide +kernel), List.mem_of_getElem? (i := 992) (by decide +kernel)⟩
theorem lw_p55 : lw_okq (⟨"CrowLikenessModel", "eatenOn", "(I)I"⟩, 20) := ⟨⟨by decide +kernel, by decide +kernel⟩, List.mem_of_getElem? (i := 717) (by decide +kernel), List.mem_of_getElem? (i := 999) (by decide +kernel), List.mem_of_getElem? (i := 1000) (by decide +kernel)⟩
theorem lw_p56 : lw_okq (⟨"CrowLikenessModel", "leastBy", "(III)I"⟩, 20) := ⟨⟨by decide +kernel, by decide +kernel⟩, List.mem_of_getElem? (i := 717) (by decide +kernel), List.mem_of_getElem? (i := 1014) (by decide +kernel), List.mem_of_getElem? (i := 1015) (by decide +kernel)⟩
theorem lw_p57 : lw_okq (⟨"CrowLikenessModel", "eatenWithout", "(II)I"⟩, 20) := ⟨⟨by decide +kernel, by decide +kernel⟩, List.mem_of_getElem? (i := 717) (by decide +kernel), List.mem_of_getElem? (i := 1038) (by decide +kernel), List.mem_of_getElem? (i := 1039) (by decide +kernel)⟩
theorem lw_p58 : lw_okq (⟨"CrowLikenessModel", "swapped", "(III)I"⟩, 20) := ⟨⟨by decide +kernel, by decide +kernel⟩, List.mem_of_getElem? (i := 717) (by decide +kernel), List.mem_of_getElem? (i := 1054) (by decide +kernel), List.mem_of_getElem? (i := 1055) (by decide +kernel)⟩
theorem lw_p59 : lw_okq (⟨"CrowLikenessModel", "saves", "()V"⟩, 20) := ⟨⟨by decide +kernel, by decide +kernel⟩, List.mem_of_getElem? (i := 717) (by decide +kernel), List.mem_of_getElem? (i := 1070) (by decide +kernel), List.mem_of_getElem? (i := 1071) (by decide +kernel)⟩
theorem lw_p60 : lw_okq (⟨"CrowLikenessModel", "token", "()V"⟩, 20) := ⟨⟨by decide +kernel, by decide +kernel⟩, List.mem_of_getElem? (i := 717) (by decide +kernel), List.mem_of_getElem? (i := 1074) (by decide +kernel), List.mem_of_getElem? (i := 1075) (by decide +kernel)⟩
theorem lw_p61 : lw_okq (⟨"CrowLikenessModel", "byteAt", "(I)I"⟩, 20) := ⟨⟨by decide +kernel, by decide +kernel⟩, List.mem_of_getElem? (i := 717) (by decide +kernel), List.mem_of_getElem? (i := 1078) (by decide +kernel), List.mem_of_getElem? (i := 1079) (by decide +kernel)⟩
theorem lw_p62 : lw_okq (⟨"CrowLikenessModel", "item", "()V"⟩, 20) := ⟨⟨by decide +kernel, by decide +kernel⟩, List.mem_of_getElem? (i := 717) (by decide +kernel), List.mem_of_getElem? (i := 1092) (by decide +kernel), List.mem_of_getElem? (i := 1093) (by decide +kernel)⟩
theorem lw_p63 : lw_okq (⟨"CrowLikenessModel", "kindHere", "()I"⟩, 20) := ⟨⟨by decide +kernel, by decide +kernel⟩, List.mem_of_getElem? (i := 717) (by decide +kernel), List.mem_of_getElem? (i := 1096) (by decide +kernel), List.mem_of_getElem? (i := 1097) (by decide +kernel)⟩
def lw_privs_4 : List (MethodName × Nat) := [(⟨"CrowLikenessModel", "day", "()I"⟩, 20), (⟨"CrowLikenessModel", "wheatAll", "()I"⟩, 20), (⟨"CrowLikenessModel", "fees", "()I"⟩, 20), (⟨"CrowLikenessModel", "feared", "()I"⟩, 20), (⟨"CrowLikenessModel", "meeting", "()I"⟩, 20), (⟨"CrowLikenessModel", "laysAside", "()V"⟩, 20), (⟨"CrowLikenessModel", "takesBack", "(I)I"⟩, 20), (⟨"CrowLikenessModel", "eatenOn", "(I)I"⟩, 20), (⟨"CrowLikenessModel", "leastBy", "(III)I"⟩, 20), (⟨"CrowLikenessModel", "eatenWithout", "(II)I"⟩, 20), (⟨"CrowLikenessModel", "swapped", "(III)I"⟩, 20), (⟨"CrowLikenessModel", "saves", "()V"⟩, 20), (⟨"CrowLikenessModel", "token", "()V"⟩, 20), (⟨"CrowLikenessModel", "byteAt", "(I)I"⟩, 20), (⟨"CrowLikenessModel", "item", "()V"⟩, 20), (⟨"CrowLikenessModel", "kindHere", "()I"⟩, 20)]
theorem lw_r4 : ∀ q ∈ lw_privs_4, lw_okq q := List.forall_mem_cons.mpr ⟨lw_p48, List.forall_mem_cons.mpr ⟨lw_p49, List.forall_mem_cons.mpr ⟨lw_p50, List.forall_mem_cons.mpr ⟨lw_p51, List.forall_mem_cons.mpr ⟨lw_p52, List.forall_mem_cons.mpr ⟨lw_p53, List.forall_mem_cons.mpr ⟨lw_p54, List.forall_mem_cons.mpr ⟨lw_p55, List.forall_mem_cons.mpr ⟨lw_p56, List.forall_mem_cons.mpr ⟨lw_p57, List.forall_mem_cons.mpr ⟨lw_p58, List.forall_mem_cons.mpr ⟨lw_p59, List.forall_mem_cons.mpr ⟨lw_p60, List.forall_mem_cons.mpr ⟨lw_p61, List.forall_mem_cons.mpr ⟨lw_p62, List.forall_mem_cons.mpr ⟨lw_p63, fun _ h => absurd h List.not_mem_nil⟩⟩⟩⟩⟩⟩⟩⟩⟩⟩⟩⟩⟩⟩⟩⟩
theorem lw_p64 : lw_okq (⟨"CrowLikenessModel", "word", "()J"⟩, 20) := ⟨⟨by decide +kernel, by decide +kernel⟩, List.mem_of_getElem? (i := 717) (by decide +kernel), List.mem_of_getElem? (i := 1100) (by decide +kernel), List.mem_of_getElem? (i := 1101) (by decide +kernel)⟩
theorem lw_p65 : lw_okq (⟨"CrowLikenessModel", "sitterItem", "(I)V"⟩, 20) := ⟨⟨by decide +kernel, by decide +kernel⟩, List.mem_of_getElem? (i := 717) (by decide +kernel), List.mem_of_getElem? (i := 1112) (by decide +kernel), List.mem_of_getElem? (i := 1113) (by decide +kernel)⟩
theorem lw_p66 : lw_okq (⟨"CrowLikenessModel", "must", "(Z)V"⟩, 20) := ⟨⟨by decide +kernel, by decide +kernel⟩, List.mem_of_getElem? (i := 717) (by decide +kernel), List.mem_of_getElem? (i := 1116) (by decide +kernel), List.mem_of_getElem? (i := 1117) (by decide +kernel)⟩
theorem lw_p67 : lw_okq (⟨"CrowLikenessModel", "number", "(II)V"⟩, 20) := ⟨⟨by decide +kernel, by decide +kernel⟩, List.mem_of_getElem? (i := 717) (by decide +kernel), List.mem_of_getElem? (i := 1121) (by decide +kernel), List.mem_of_getElem? (i := 1122) (by decide +kernel)⟩
theorem lw_p68 : lw_okq (⟨"CrowLikenessModel", "likenessItem", "()V"⟩, 20) := ⟨⟨by decide +kernel, by decide +kernel⟩, List.mem_of_getElem? (i := 717) (by decide +kernel), List.mem_of_getElem? (i := 1127) (by decide +kernel), List.mem_of_getElem? (i := 1128) (by decide +kernel)⟩
theorem lw_p69 : lw_okq (⟨"CrowLikenessModel", "wheatItem", "()V"⟩, 20) := ⟨⟨by decide +kernel, by decide +kernel⟩, List.mem_of_getElem? (i := 717) (by decide +kernel), List.mem_of_getElem? (i := 1133) (by decide +kernel), List.mem_of_getElem? (i := 1134) (by decide +kernel)⟩
theorem lw_p70 : lw_okq (⟨"CrowLikenessModel", "putsBack", "()V"⟩, 20) := ⟨⟨by decide +kernel, by decide +kernel⟩, List.mem_of_getElem? (i := 717) (by decide +kernel), List.mem_of_getElem? (i := 1139) (by decide +kernel), List.mem_of_getElem? (i := 1140) (by decide +kernel)⟩
theorem lw_p71 : lw_okq (⟨"CrowLikenessModel", "wrongSheet", "(I)I"⟩, 20) := ⟨⟨by decide +kernel, by decide +kernel⟩, List.mem_of_getElem? (i := 717) (by decide +kernel), List.mem_of_getElem? (i := 1156) (by decide +kernel), List.mem_of_getElem? (i := 1157) (by decide +kernel)⟩
theorem lw_p72 : lw_okq (⟨"CrowLikenessModel", "isBook", "(I)Z"⟩, 20) := ⟨⟨by decide +kernel, by decide +kernel⟩, List.mem_of_getElem? (i := 717) (by decide +kernel), List.mem_of_getElem? (i := 1180) (by decide +kernel), List.mem_of_getElem? (i := 1181) (by decide +kernel)⟩
theorem lw_p73 : lw_okq (⟨"CrowLikenessModel", "tempers", "()I"⟩, 20) := ⟨⟨by decide +kernel, by decide +kernel⟩, List.mem_of_getElem? (i := 717) (by decide +kernel), List.mem_of_getElem? (i := 1200) (by decide +kernel), List.mem_of_getElem? (i := 1201) (by decide +kernel)⟩
def lw_privs_5 : List (MethodName × Nat) := [(⟨"CrowLikenessModel", "word", "()J"⟩, 20), (⟨"CrowLikenessModel", "sitterItem", "(I)V"⟩, 20), (⟨"CrowLikenessModel", "must", "(Z)V"⟩, 20), (⟨"CrowLikenessModel", "number", "(II)V"⟩, 20), (⟨"CrowLikenessModel", "likenessItem", "()V"⟩, 20), (⟨"CrowLikenessModel", "wheatItem", "()V"⟩, 20), (⟨"CrowLikenessModel", "putsBack", "()V"⟩, 20), (⟨"CrowLikenessModel", "wrongSheet", "(I)I"⟩, 20), (⟨"CrowLikenessModel", "isBook", "(I)Z"⟩, 20), (⟨"CrowLikenessModel", "tempers", "()I"⟩, 20)]
theorem lw_r5 : ∀ q ∈ lw_privs_5, lw_okq q := List.forall_mem_cons.mpr ⟨lw_p64, List.forall_mem_cons.mpr ⟨lw_p65, List.forall_mem_cons.mpr ⟨lw_p66, List.forall_mem_cons.mpr ⟨lw_p67, List.forall_mem_cons.mpr ⟨lw_p68, List.forall_mem_cons.mpr ⟨lw_p69, List.forall_mem_cons.mpr ⟨lw_p70, List.forall_mem_cons.mpr ⟨lw_p71, List.forall_mem_cons.mpr ⟨lw_p72, List.forall_mem_cons.mpr ⟨lw_p73, fun _ h => absurd h List.not_mem_nil⟩⟩⟩⟩⟩⟩⟩⟩⟩⟩
def lw_privs : List (MethodName × Nat) := lw_privs_1 ++ (lw_privs_2 ++ (lw_privs_3 ++ (lw_privs_4 ++ (lw_privs_5))))
def lw_tbl : List Cond := k2_sels lw_privs ++ tables_1
theorem lw_privs_ok : ∀ q ∈ lw_privs, lw_okq q := by
  show ∀ q ∈ lw_privs_1 ++ (lw_privs_2 ++ (lw_privs_3 ++ (lw_privs_4 ++ (lw_privs_5)))), lw_okq q
  exact List.forall_mem_append.mpr ⟨lw_r1, List.forall_mem_append.mpr ⟨lw_r2, List.forall_mem_append.mpr ⟨lw_r3, List.forall_mem_append.mpr ⟨lw_r4, lw_r5⟩⟩⟩⟩
end
section
def RX0 : String := "CrowLikeness$Flock"
def TX0 : u_T := fun k => match k with
  | 0 => ("CrowLikeness$Flock", "fears", "[I", true)
  | 1 => ("CrowLikeness$Flock", "counts", "[I", true)
  | 2 => ("CrowLikeness$Flock", "scaresByDistance", "[I", true)
  | 3 => ("CrowLikeness$Flock", "mostByOwner", "[I", true)
  | _ => ("CrowLikeness$Flock", "meetings", "[I", true)
def tyX0 : Nat → FieldType := fun k => match k with
  | 0 => .array .int
  | 1 => .array .int
  | 2 => .array .int
  | 3 => .array .int
  | _ => .array .int
abbrev wsX00 : List Cond := u_ws RX0 TX0 5
theorem nmX0 : ∀ a, a < 5 → ∀ b, b < 5 → a ≠ b → (TX0 a).2.1 ≠ (TX0 b).2.1 := by decide +kernel
theorem tyX0_ok : ∀ k, k < 5 → parseFieldDescriptor (TX0 k).2.2.1 = some (tyX0 k) := by decide +kernel
abbrev cX0_init : ByteArray := prog_2_method_1_code
def yX0_init : MethodName := ⟨RX0, "<init>", "()V"⟩
abbrev cX0_look : ByteArray := prog_2_method_2_code
def yX0_look : MethodName := ⟨RX0, "look", "(LCrowLikeness$Plain;)V"⟩
abbrev cX0_landing : ByteArray := prog_2_method_3_code
def yX0_landing : MethodName := ⟨RX0, "landing", "(LCrowLikeness$Plain;)I"⟩
abbrev cX0_fearedCells : ByteArray := prog_2_method_4_code
def yX0_fearedCells : MethodName := ⟨RX0, "fearedCells", "()I"⟩
abbrev cX0_passDays : ByteArray := prog_2_method_5_code
def yX0_passDays : MethodName := ⟨RX0, "passDays", "(LCrowLikeness$Plain;II)I"⟩
abbrev cX0_passDay : ByteArray := prog_2_method_6_code
def yX0_passDay : MethodName := ⟨RX0, "passDay", "(LCrowLikeness$Plain;)I"⟩
abbrev cX0_renewScares : ByteArray := prog_2_method_7_code
def yX0_renewScares : MethodName := ⟨RX0, "renewScares", "(LCrowLikeness$Plain;)Z"⟩
abbrev cX0_takeScares : ByteArray := prog_2_method_8_code
def yX0_takeScares : MethodName := ⟨RX0, "takeScares", "(LCrowLikeness$Plain;II)V"⟩
abbrev cX0_weighFears : ByteArray := prog_2_method_9_code
def yX0_weighFears : MethodName := ⟨RX0, "weighFears", "(LCrowLikeness$Plain;)V"⟩
abbrev cX0_fearAt : ByteArray := prog_2_method_10_code
def yX0_fearAt : MethodName := ⟨RX0, "fearAt", "(LCrowLikeness$Plain;I)I"⟩
abbrev cX0_growOlder : ByteArray := prog_2_method_11_code
def yX0_growOlder : MethodName := ⟨RX0, "growOlder", "(LCrowLikeness$Plain;)V"⟩
def RX1 : String := "CrowLikeness$Kinds"
abbrev cX1_isUnder : ByteArray := prog_3_method_2_code
def yX1_isUnder : MethodName := ⟨RX1, "isUnder", "(II)Z"⟩
abbrev cX1_fade : ByteArray := prog_3_method_3_code
def yX1_fade : MethodName := ⟨RX1, "fade", "(III)I"⟩
abbrev cX1_scare : ByteArray := prog_3_method_4_code
def yX1_scare : MethodName := ⟨RX1, "scare", "(III)I"⟩
def RX2 : String := "CrowLikeness$Plain"
def TX2 : u_T := fun k => match k with
  | 0 => ("CrowLikeness$Plain", "wheats", "[I", true)
  | 1 => ("CrowLikeness$Plain", "crowsADay", "I", false)
  | 2 => ("CrowLikeness$Plain", "day", "I", false)
  | 3 => ("CrowLikeness$Plain", "sitters", "I", false)
  | 4 => ("CrowLikeness$Plain", "kinds", "[I", true)
  | 5 => ("CrowLikeness$Plain", "tempers", "[I", true)
  | 6 => ("CrowLikeness$Plain", "fees", "[I", true)
  | 7 => ("CrowLikeness$Plain", "sinces", "[I", true)
  | 8 => ("CrowLikeness$Plain", "likenesses", "I", false)
  | 9 => ("CrowLikeness$Plain", "cells", "[I", true)
  | 10 => ("CrowLikeness$Plain", "owners", "[I", true)
  | _ => ("CrowLikeness$Plain", "ages", "[I", true)
def tyX2 : Nat → FieldType := fun k => match k with
  | 0 => .array .int
  | 1 => .int
  | 2 => .int
  | 3 => .int
  | 4 => .array .int
  | 5 => .array .int
  | 6 => .array .int
  | 7 => .array .int
  | 8 => .int
  | 9 => .array .int
  | 10 => .array .int
  | _ => .array .int
abbrev wsX20 : List Cond := u_ws RX2 TX2 12
theorem nmX2 : ∀ a, a < 12 → ∀ b, b < 12 → a ≠ b → (TX2 a).2.1 ≠ (TX2 b).2.1 := by decide +kernel
theorem tyX2_ok : ∀ k, k < 12 → parseFieldDescriptor (TX2 k).2.2.1 = some (tyX2 k) := by decide +kernel
abbrev cX2_init : ByteArray := prog_4_method_1_code
def yX2_init : MethodName := ⟨RX2, "<init>", "()V"⟩
abbrev cX2_become : ByteArray := prog_4_method_2_code
def yX2_become : MethodName := ⟨RX2, "become", "(LCrowLikeness$Plain;)V"⟩
abbrev cX2_addSitter : ByteArray := prog_4_method_3_code
def yX2_addSitter : MethodName := ⟨RX2, "addSitter", "(I)I"⟩
abbrev cX2_addLikeness : ByteArray := prog_4_method_4_code
def yX2_addLikeness : MethodName := ⟨RX2, "addLikeness", "(II)I"⟩
abbrev cX2_keepOnly : ByteArray := prog_4_method_5_code
def yX2_keepOnly : MethodName := ⟨RX2, "keepOnly", "(I)V"⟩
abbrev cX2_allLikenesses : ByteArray := prog_4_method_6_code
def yX2_allLikenesses : MethodName := ⟨RX2, "allLikenesses", "()I"⟩
abbrev cX2_likenessesAt : ByteArray := prog_4_method_7_code
def yX2_likenessesAt : MethodName := ⟨RX2, "likenessesAt", "(I)I"⟩
abbrev cX2_likenessesOf : ByteArray := prog_4_method_8_code
def yX2_likenessesOf : MethodName := ⟨RX2, "likenessesOf", "(I)I"⟩
abbrev cX2_placesOf : ByteArray := prog_4_method_9_code
def yX2_placesOf : MethodName := ⟨RX2, "placesOf", "(I[I)I"⟩
abbrev cX2_meetings : ByteArray := prog_4_method_10_code
def yX2_meetings : MethodName := ⟨RX2, "meetings", "(I)I"⟩
abbrev cX2_isMeeting : ByteArray := prog_4_method_11_code
def yX2_isMeeting : MethodName := ⟨RX2, "isMeeting", "(II)Z"⟩
abbrev cX2_sittersWhoMeet : ByteArray := prog_4_method_12_code
def yX2_sittersWhoMeet : MethodName := ⟨RX2, "sittersWhoMeet", "()I"⟩
abbrev cX2_feesDue : ByteArray := prog_4_method_13_code
def yX2_feesDue : MethodName := ⟨RX2, "feesDue", "()I"⟩
abbrev cX2_wheatOfAll : ByteArray := prog_4_method_14_code
def yX2_wheatOfAll : MethodName := ⟨RX2, "wheatOfAll", "()I"⟩
abbrev cX2_temperOfAll : ByteArray := prog_4_method_15_code
def yX2_temperOfAll : MethodName := ⟨RX2, "temperOfAll", "()I"⟩
abbrev cX2_countsFor : ByteArray := prog_4_method_16_code
def yX2_countsFor : MethodName := ⟨RX2, "countsFor", "(I)I"⟩
abbrev cX2_scareOf : ByteArray := prog_4_method_17_code
def yX2_scareOf : MethodName := ⟨RX2, "scareOf", "(II)I"⟩
def RX3 : String := "CrowLikeness$Sheet"
def TX3 : u_T := fun k => match k with
  | 0 => ("CrowLikeness$Sheet", "numbers", "[J", true)
  | 1 => ("CrowLikeness$Sheet", "bits", "I", false)
  | _ => ("CrowLikeness$Sheet", "size", "I", false)
def tyX3 : Nat → FieldType := fun k => match k with
  | 0 => .array .long
  | 1 => .int
  | _ => .int
abbrev wsX30 : List Cond := u_ws RX3 TX3 3
theorem nmX3 : ∀ a, a < 3 → ∀ b, b < 3 → a ≠ b → (TX3 a).2.1 ≠ (TX3 b).2.1 := by decide +kernel
theorem tyX3_ok : ∀ k, k < 3 → parseFieldDescriptor (TX3 k).2.2.1 = some (tyX3 k) := by decide +kernel
abbrev cX3_init : ByteArray := prog_5_method_1_code
def yX3_init : MethodName := ⟨RX3, "<init>", "()V"⟩
abbrev cX3_begin : ByteArray := prog_5_method_2_code
def yX3_begin : MethodName := ⟨RX3, "begin", "(II)V"⟩
abbrev cX3_isMissing : ByteArray := prog_5_method_3_code
def yX3_isMissing : MethodName := ⟨RX3, "isMissing", "()Z"⟩
abbrev cX3_hasRun : ByteArray := prog_5_method_4_code
def yX3_hasRun : MethodName := ⟨RX3, "hasRun", "(II)Z"⟩
abbrev cX3_put : ByteArray := prog_5_method_5_code
def yX3_put : MethodName := ⟨RX3, "put", "(IJ)V"⟩
abbrev cX3_cut : ByteArray := prog_5_method_6_code
def yX3_cut : MethodName := ⟨RX3, "cut", "(J)J"⟩
def RX4 : String := "CrowLikeness$Tape"
def TX4 : u_T := fun k => match k with
  | 0 => ("CrowLikeness$Tape", "bytes", "[I", true)
  | 1 => ("CrowLikeness$Tape", "length", "I", false)
  | 2 => ("CrowLikeness$Tape", "token", "I", false)
  | 3 => ("CrowLikeness$Tape", "start", "I", false)
  | 4 => ("CrowLikeness$Tape", "next", "I", false)
  | 5 => ("CrowLikeness$Tape", "number", "I", false)
  | _ => ("CrowLikeness$Tape", "taken", "I", false)
def tyX4 : Nat → FieldType := fun k => match k with
  | 0 => .array .int
  | 1 => .int
  | 2 => .int
  | 3 => .int
  | 4 => .int
  | 5 => .int
  | _ => .int
abbrev wsX40 : List Cond := u_ws RX4 TX4 7
theorem nmX4 : ∀ a, a < 7 → ∀ b, b < 7 → a ≠ b → (TX4 a).2.1 ≠ (TX4 b).2.1 := by decide +kernel
theorem tyX4_ok : ∀ k, k < 7 → parseFieldDescriptor (TX4 k).2.2.1 = some (tyX4 k) := by decide +kernel
abbrev cX4_init : ByteArray := prog_6_method_1_code
def yX4_init : MethodName := ⟨RX4, "<init>", "()V"⟩
abbrev cX4_add : ByteArray := prog_6_method_2_code
def yX4_add : MethodName := ⟨RX4, "add", "(I)V"⟩
abbrev cX4_parse : ByteArray := prog_6_method_3_code
def yX4_parse : MethodName := ⟨RX4, "parse", "(LCrowLikeness$Plain;)I"⟩
abbrev cX4_takeItem : ByteArray := prog_6_method_4_code
def yX4_takeItem : MethodName := ⟨RX4, "takeItem", "(LCrowLikeness$Plain;)Z"⟩
abbrev cX4_takeSitter : ByteArray := prog_6_method_5_code
def yX4_takeSitter : MethodName := ⟨RX4, "takeSitter", "(LCrowLikeness$Plain;I)Z"⟩
abbrev cX4_takeLikeness : ByteArray := prog_6_method_6_code
def yX4_takeLikeness : MethodName := ⟨RX4, "takeLikeness", "(LCrowLikeness$Plain;)Z"⟩
abbrev cX4_takeWheat : ByteArray := prog_6_method_7_code
def yX4_takeWheat : MethodName := ⟨RX4, "takeWheat", "(LCrowLikeness$Plain;)Z"⟩
abbrev cX4_takeCrows : ByteArray := prog_6_method_8_code
def yX4_takeCrows : MethodName := ⟨RX4, "takeCrows", "(LCrowLikeness$Plain;)Z"⟩
abbrev cX4_takeWord : ByteArray := prog_6_method_9_code
def yX4_takeWord : MethodName := ⟨RX4, "takeWord", "(Ljava/lang/String;)Z"⟩
abbrev cX4_takeNumber : ByteArray := prog_6_method_10_code
def yX4_takeNumber : MethodName := ⟨RX4, "takeNumber", "(II)Z"⟩
abbrev cX4_kindNamed : ByteArray := prog_6_method_11_code
def yX4_kindNamed : MethodName := ⟨RX4, "kindNamed", "()I"⟩
abbrev cX4_nameOf : ByteArray := prog_6_method_12_code
def yX4_nameOf : MethodName := ⟨RX4, "nameOf", "(I)Ljava/lang/String;"⟩
abbrev cX4_isWord : ByteArray := prog_6_method_13_code
def yX4_isWord : MethodName := ⟨RX4, "isWord", "(Ljava/lang/String;)Z"⟩
abbrev cX4_advance : ByteArray := prog_6_method_14_code
def yX4_advance : MethodName := ⟨RX4, "advance", "()V"⟩
abbrev cX4_passLetters : ByteArray := prog_6_method_15_code
def yX4_passLetters : MethodName := ⟨RX4, "passLetters", "()V"⟩
abbrev cX4_passDigits : ByteArray := prog_6_method_16_code
def yX4_passDigits : MethodName := ⟨RX4, "passDigits", "()V"⟩
abbrev cX4_isLetter : ByteArray := prog_6_method_17_code
def yX4_isLetter : MethodName := ⟨RX4, "isLetter", "(I)Z"⟩
abbrev cX4_isDigit : ByteArray := prog_6_method_18_code
def yX4_isDigit : MethodName := ⟨RX4, "isDigit", "(I)Z"⟩
def RX5 : String := "CrowLikeness"
def TX5 : u_T := fun k => match k with
  | 0 => ("CrowLikeness", "here", "LCrowLikeness$Plain;", true)
  | 1 => ("CrowLikeness", "kept", "LCrowLikeness$Plain;", true)
  | 2 => ("CrowLikeness", "trial", "LCrowLikeness$Plain;", true)
  | 3 => ("CrowLikeness", "flock", "LCrowLikeness$Flock;", true)
  | 4 => ("CrowLikeness", "tape", "LCrowLikeness$Tape;", true)
  | 5 => ("CrowLikeness", "sheets", "[LCrowLikeness$Sheet;", true)
  | 6 => ("CrowLikeness", "found", "[I", true)
  | _ => ("CrowLikeness", "isKept", "Z", false)
def tyX5 : Nat → FieldType := fun k => match k with
  | 0 => .object "CrowLikeness$Plain"
  | 1 => .object "CrowLikeness$Plain"
  | 2 => .object "CrowLikeness$Plain"
  | 3 => .object "CrowLikeness$Flock"
  | 4 => .object "CrowLikeness$Tape"
  | 5 => .array (.object "CrowLikeness$Sheet")
  | 6 => .array .int
  | _ => .boolean
abbrev wsX50 : List Cond := u_ws RX5 TX5 8
theorem nmX5 : ∀ a, a < 8 → ∀ b, b < 8 → a ≠ b → (TX5 a).2.1 ≠ (TX5 b).2.1 := by decide +kernel
theorem tyX5_ok : ∀ k, k < 8 → parseFieldDescriptor (TX5 k).2.2.1 = some (tyX5 k) := by decide +kernel
abbrev cX5_init : ByteArray := prog_1_method_1_code
def yX5_init : MethodName := ⟨RX5, "<init>", "()V"⟩
abbrev cX5_wheat : ByteArray := prog_1_method_2_code
def yX5_wheat : MethodName := ⟨RX5, "wheat", "(II)I"⟩
abbrev cX5_cell : ByteArray := prog_1_method_3_code
def yX5_cell : MethodName := ⟨RX5, "cell", "(II)I"⟩
abbrev cX5_crows : ByteArray := prog_1_method_4_code
def yX5_crows : MethodName := ⟨RX5, "crows", "(I)I"⟩
abbrev cX5_sitter : ByteArray := prog_1_method_5_code
def yX5_sitter : MethodName := ⟨RX5, "sitter", "(I)I"⟩
abbrev cX5_of : ByteArray := prog_1_method_6_code
def yX5_of : MethodName := ⟨RX5, "of", "(II)I"⟩
abbrev cX5_set : ByteArray := prog_1_method_7_code
def yX5_set : MethodName := ⟨RX5, "set", "(III)I"⟩
abbrev cX5_turn : ByteArray := prog_1_method_8_code
def yX5_turn : MethodName := ⟨RX5, "turn", "(II)I"⟩
abbrev cX5_as : ByteArray := prog_1_method_9_code
def yX5_as : MethodName := ⟨RX5, "as", "(II)I"⟩
abbrev cX5_likeness : ByteArray := prog_1_method_10_code
def yX5_likeness : MethodName := ⟨RX5, "likeness", "(II)I"⟩
abbrev cX5_told : ByteArray := prog_1_method_11_code
def yX5_told : MethodName := ⟨RX5, "told", "(II)I"⟩
abbrev cX5_place : ByteArray := prog_1_method_12_code
def yX5_place : MethodName := ⟨RX5, "place", "(III)I"⟩
abbrev cX5_scares : ByteArray := prog_1_method_13_code
def yX5_scares : MethodName := ⟨RX5, "scares", "(II)I"⟩
abbrev cX5_lands : ByteArray := prog_1_method_14_code
def yX5_lands : MethodName := ⟨RX5, "lands", "()I"⟩
abbrev cX5_days : ByteArray := prog_1_method_15_code
def yX5_days : MethodName := ⟨RX5, "days", "(I)I"⟩
abbrev cX5_now : ByteArray := prog_1_method_16_code
def yX5_now : MethodName := ⟨RX5, "now", "(I)I"⟩
abbrev cX5_on : ByteArray := prog_1_method_17_code
def yX5_on : MethodName := ⟨RX5, "on", "(II)I"⟩
abbrev cX5_eaten : ByteArray := prog_1_method_18_code
def yX5_eaten : MethodName := ⟨RX5, "eaten", "(I)I"⟩
abbrev cX5_first : ByteArray := prog_1_method_19_code
def yX5_first : MethodName := ⟨RX5, "first", "(I)I"⟩
abbrev cX5_spot : ByteArray := prog_1_method_20_code
def yX5_spot : MethodName := ⟨RX5, "spot", "(II)I"⟩
abbrev cX5_whose : ByteArray := prog_1_method_21_code
def yX5_whose : MethodName := ⟨RX5, "whose", "(II)I"⟩
abbrev cX5_kind : ByteArray := prog_1_method_22_code
def yX5_kind : MethodName := ⟨RX5, "kind", "(II)I"⟩
abbrev cX5_temper : ByteArray := prog_1_method_23_code
def yX5_temper : MethodName := ⟨RX5, "temper", "(II)I"⟩
abbrev cX5_keep : ByteArray := prog_1_method_24_code
def yX5_keep : MethodName := ⟨RX5, "keep", "(I)I"⟩
abbrev cX5_worth : ByteArray := prog_1_method_25_code
def yX5_worth : MethodName := ⟨RX5, "worth", "(I)I"⟩
abbrev cX5_apart : ByteArray := prog_1_method_26_code
def yX5_apart : MethodName := ⟨RX5, "apart", "(I)I"⟩
abbrev cX5_swap : ByteArray := prog_1_method_27_code
def yX5_swap : MethodName := ⟨RX5, "swap", "(I)I"⟩
abbrev cX5_feed : ByteArray := prog_1_method_28_code
def yX5_feed : MethodName := ⟨RX5, "feed", "(II)I"⟩
abbrev cX5_wipe : ByteArray := prog_1_method_29_code
def yX5_wipe : MethodName := ⟨RX5, "wipe", "()I"⟩
abbrev cX5_plain : ByteArray := prog_1_method_30_code
def yX5_plain : MethodName := ⟨RX5, "plain", "()I"⟩
abbrev cX5_sheet : ByteArray := prog_1_method_31_code
def yX5_sheet : MethodName := ⟨RX5, "sheet", "(III)I"⟩
abbrev cX5_write : ByteArray := prog_1_method_32_code
def yX5_write : MethodName := ⟨RX5, "write", "(IIJ)J"⟩
abbrev cX5_copy : ByteArray := prog_1_method_33_code
def yX5_copy : MethodName := ⟨RX5, "copy", "(IIIII)I"⟩
abbrev cX5_lays : ByteArray := prog_1_method_34_code
def yX5_lays : MethodName := ⟨RX5, "lays", "(I)I"⟩
abbrev cX5_book : ByteArray := prog_1_method_35_code
def yX5_book : MethodName := ⟨RX5, "book", "(I)I"⟩
abbrev cX5_read : ByteArray := prog_1_method_36_code
def yX5_read : MethodName := ⟨RX5, "read", "(II)I"⟩
abbrev cX5_image : ByteArray := prog_1_method_37_code
def yX5_image : MethodName := ⟨RX5, "image", "()I"⟩
abbrev cX5_undo : ByteArray := prog_1_method_38_code
def yX5_undo : MethodName := ⟨RX5, "undo", "()I"⟩
abbrev cX5_tear : ByteArray := prog_1_method_39_code
def yX5_tear : MethodName := ⟨RX5, "tear", "()I"⟩
abbrev cX5_count : ByteArray := prog_1_method_40_code
def yX5_count : MethodName := ⟨RX5, "count", "(I)I"⟩
abbrev cX5_status : ByteArray := prog_1_method_41_code
def yX5_status : MethodName := ⟨RX5, "status", "(I)I"⟩
abbrev cX5_finding : ByteArray := prog_1_method_42_code
def yX5_finding : MethodName := ⟨RX5, "finding", "(I)I"⟩
abbrev cX5_isSitter : ByteArray := prog_1_method_43_code
def yX5_isSitter : MethodName := ⟨RX5, "isSitter", "(I)Z"⟩
abbrev cX5_isLikeness : ByteArray := prog_1_method_44_code
def yX5_isLikeness : MethodName := ⟨RX5, "isLikeness", "(I)Z"⟩
abbrev cX5_eatenAsItIs : ByteArray := prog_1_method_45_code
def yX5_eatenAsItIs : MethodName := ⟨RX5, "eatenAsItIs", "(I)I"⟩
abbrev cX5_eatenWith : ByteArray := prog_1_method_46_code
def yX5_eatenWith : MethodName := ⟨RX5, "eatenWith", "(III)I"⟩
abbrev cX5_eatenSwapped : ByteArray := prog_1_method_47_code
def yX5_eatenSwapped : MethodName := ⟨RX5, "eatenSwapped", "(IIII)I"⟩
abbrev cX5_bestChoice : ByteArray := prog_1_method_48_code
def yX5_bestChoice : MethodName := ⟨RX5, "bestChoice", "([IIII)I"⟩
abbrev cX5_trialGoesAs : ByteArray := prog_1_method_49_code
def yX5_trialGoesAs : MethodName := ⟨RX5, "trialGoesAs", "(LCrowLikeness$Sheet;)Z"⟩
abbrev cX5_isWithin : ByteArray := prog_1_method_50_code
def yX5_isWithin : MethodName := ⟨RX5, "isWithin", "(III)Z"⟩
abbrev cX5_isCell : ByteArray := prog_1_method_51_code
def yX5_isCell : MethodName := ⟨RX5, "isCell", "(I)Z"⟩
abbrev cX5_isKind : ByteArray := prog_1_method_52_code
def yX5_isKind : MethodName := ⟨RX5, "isKind", "(I)Z"⟩
abbrev cX5_isSheet : ByteArray := prog_1_method_53_code
def yX5_isSheet : MethodName := ⟨RX5, "isSheet", "(I)Z"⟩
abbrev cX5_exchange : ByteArray := prog_1_method_54_code
def yX5_exchange : MethodName := ⟨RX5, "exchange", "([III)I"⟩
abbrev cX5_sumOf : ByteArray := prog_1_method_55_code
def yX5_sumOf : MethodName := ⟨RX5, "sumOf", "([II)I"⟩
abbrev cX5_distanceOf : ByteArray := prog_1_method_56_code
def yX5_distanceOf : MethodName := ⟨RX5, "distanceOf", "(II)I"⟩
def RX6 : String := "CrowLikenessModel"
def TX6 : u_T := fun k => match k with
  | 0 => ("CrowLikenessModel", "s", "[I", true)
  | 1 => ("CrowLikenessModel", "keptS", "[I", true)
  | 2 => ("CrowLikenessModel", "other", "[I", true)
  | 3 => ("CrowLikenessModel", "aside", "[I", true)
  | 4 => ("CrowLikenessModel", "statuses", "[I", true)
  | 5 => ("CrowLikenessModel", "isKept", "Z", false)
  | 6 => ("CrowLikenessModel", "absent", "I", false)
  | 7 => ("CrowLikenessModel", "fears", "[I", true)
  | 8 => ("CrowLikenessModel", "scaresBy", "[I", true)
  | 9 => ("CrowLikenessModel", "mostOf", "[I", true)
  | 10 => ("CrowLikenessModel", "tape", "[I", true)
  | 11 => ("CrowLikenessModel", "taped", "I", false)
  | 12 => ("CrowLikenessModel", "from", "I", false)
  | 13 => ("CrowLikenessModel", "to", "I", false)
  | 14 => ("CrowLikenessModel", "value", "I", false)
  | 15 => ("CrowLikenessModel", "isWrong", "Z", false)
  | 16 => ("CrowLikenessModel", "bitsOf", "[I", true)
  | 17 => ("CrowLikenessModel", "sizeOf", "[I", true)
  | 18 => ("CrowLikenessModel", "numbers", "[J", true)
  | _ => ("CrowLikenessModel", "moved", "[J", true)
def tyX6 : Nat → FieldType := fun k => match k with
  | 0 => .array .int
  | 1 => .array .int
  | 2 => .array .int
  | 3 => .array .int
  | 4 => .array .int
  | 5 => .boolean
  | 6 => .int
  | 7 => .array .int
  | 8 => .array .int
  | 9 => .array .int
  | 10 => .array .int
  | 11 => .int
  | 12 => .int
  | 13 => .int
  | 14 => .int
  | 15 => .boolean
  | 16 => .array .int
  | 17 => .array .int
  | 18 => .array .long
  | _ => .array .long
abbrev wsX60 : List Cond := u_ws RX6 TX6 20
theorem nmX6 : ∀ a, a < 20 → ∀ b, b < 20 → a ≠ b → (TX6 a).2.1 ≠ (TX6 b).2.1 := by decide +kernel
theorem tyX6_ok : ∀ k, k < 20 → parseFieldDescriptor (TX6 k).2.2.1 = some (tyX6 k) := by decide +kernel
abbrev cX6_init : ByteArray := prog_8_method_1_code
def yX6_init : MethodName := ⟨RX6, "<init>", "()V"⟩
abbrev cX6_in : ByteArray := prog_8_method_2_code
def yX6_in : MethodName := ⟨RX6, "in", "(JJJ)Z"⟩
abbrev cX6_finds : ByteArray := prog_8_method_3_code
def yX6_finds : MethodName := ⟨RX6, "finds", "(I)I"⟩
abbrev cX6_saves : ByteArray := prog_8_method_4_code
def yX6_saves : MethodName := ⟨RX6, "saves", "()V"⟩
abbrev cX6_putsBack : ByteArray := prog_8_method_5_code
def yX6_putsBack : MethodName := ⟨RX6, "putsBack", "()V"⟩
abbrev cX6_laysAside : ByteArray := prog_8_method_6_code
def yX6_laysAside : MethodName := ⟨RX6, "laysAside", "()V"⟩
abbrev cX6_takesBack : ByteArray := prog_8_method_7_code
def yX6_takesBack : MethodName := ⟨RX6, "takesBack", "(I)I"⟩
abbrev cX6_becomes : ByteArray := prog_8_method_8_code
def yX6_becomes : MethodName := ⟨RX6, "becomes", "(II)I"⟩
abbrev cX6_isCell : ByteArray := prog_8_method_9_code
def yX6_isCell : MethodName := ⟨RX6, "isCell", "(I)Z"⟩
abbrev cX6_isSitter : ByteArray := prog_8_method_10_code
def yX6_isSitter : MethodName := ⟨RX6, "isSitter", "(I)Z"⟩
abbrev cX6_isLikeness : ByteArray := prog_8_method_11_code
def yX6_isLikeness : MethodName := ⟨RX6, "isLikeness", "(I)Z"⟩
abbrev cX6_isKind : ByteArray := prog_8_method_12_code
def yX6_isKind : MethodName := ⟨RX6, "isKind", "(I)Z"⟩
abbrev cX6_spotOf : ByteArray := prog_8_method_13_code
def yX6_spotOf : MethodName := ⟨RX6, "spotOf", "(II)I"⟩
abbrev cX6_its : ByteArray := prog_8_method_14_code
def yX6_its : MethodName := ⟨RX6, "its", "(II)I"⟩
abbrev cX6_placeOf : ByteArray := prog_8_method_15_code
def yX6_placeOf : MethodName := ⟨RX6, "placeOf", "(II)I"⟩
abbrev cX6_likes : ByteArray := prog_8_method_16_code
def yX6_likes : MethodName := ⟨RX6, "likes", "(II)I"⟩
abbrev cX6_isThere : ByteArray := prog_8_method_17_code
def yX6_isThere : MethodName := ⟨RX6, "isThere", "(I)Z"⟩
abbrev cX6_far : ByteArray := prog_8_method_18_code
def yX6_far : MethodName := ⟨RX6, "far", "(II)I"⟩
abbrev cX6_counts : ByteArray := prog_8_method_19_code
def yX6_counts : MethodName := ⟨RX6, "counts", "(I)I"⟩
abbrev cX6_atLeastNothing : ByteArray := prog_8_method_20_code
def yX6_atLeastNothing : MethodName := ⟨RX6, "atLeastNothing", "(I)I"⟩
abbrev cX6_scared : ByteArray := prog_8_method_21_code
def yX6_scared : MethodName := ⟨RX6, "scared", "(II)I"⟩
abbrev cX6_fear : ByteArray := prog_8_method_22_code
def yX6_fear : MethodName := ⟨RX6, "fear", "(I)I"⟩
abbrev cX6_wheat : ByteArray := prog_8_method_23_code
def yX6_wheat : MethodName := ⟨RX6, "wheat", "(II)I"⟩
abbrev cX6_thoseAt : ByteArray := prog_8_method_24_code
def yX6_thoseAt : MethodName := ⟨RX6, "thoseAt", "(I)I"⟩
abbrev cX6_cell : ByteArray := prog_8_method_25_code
def yX6_cell : MethodName := ⟨RX6, "cell", "(II)I"⟩
abbrev cX6_crows : ByteArray := prog_8_method_26_code
def yX6_crows : MethodName := ⟨RX6, "crows", "(I)I"⟩
abbrev cX6_adds : ByteArray := prog_8_method_27_code
def yX6_adds : MethodName := ⟨RX6, "adds", "(I)I"⟩
abbrev cX6_sitter : ByteArray := prog_8_method_28_code
def yX6_sitter : MethodName := ⟨RX6, "sitter", "(I)I"⟩
abbrev cX6_likenessesOf : ByteArray := prog_8_method_29_code
def yX6_likenessesOf : MethodName := ⟨RX6, "likenessesOf", "(I)I"⟩
abbrev cX6_areMet : ByteArray := prog_8_method_30_code
def yX6_areMet : MethodName := ⟨RX6, "areMet", "(II)Z"⟩
abbrev cX6_meets : ByteArray := prog_8_method_31_code
def yX6_meets : MethodName := ⟨RX6, "meets", "(I)I"⟩
abbrev cX6_of : ByteArray := prog_8_method_32_code
def yX6_of : MethodName := ⟨RX6, "of", "(II)I"⟩
abbrev cX6_set : ByteArray := prog_8_method_33_code
def yX6_set : MethodName := ⟨RX6, "set", "(III)I"⟩
abbrev cX6_turn : ByteArray := prog_8_method_34_code
def yX6_turn : MethodName := ⟨RX6, "turn", "(II)I"⟩
abbrev cX6_isUnder : ByteArray := prog_8_method_35_code
def yX6_isUnder : MethodName := ⟨RX6, "isUnder", "(II)Z"⟩
abbrev cX6_as : ByteArray := prog_8_method_36_code
def yX6_as : MethodName := ⟨RX6, "as", "(II)I"⟩
abbrev cX6_puts : ByteArray := prog_8_method_37_code
def yX6_puts : MethodName := ⟨RX6, "puts", "(II)I"⟩
abbrev cX6_likeness : ByteArray := prog_8_method_38_code
def yX6_likeness : MethodName := ⟨RX6, "likeness", "(II)I"⟩
abbrev cX6_told : ByteArray := prog_8_method_39_code
def yX6_told : MethodName := ⟨RX6, "told", "(II)I"⟩
abbrev cX6_place : ByteArray := prog_8_method_40_code
def yX6_place : MethodName := ⟨RX6, "place", "(III)I"⟩
abbrev cX6_scares : ByteArray := prog_8_method_41_code
def yX6_scares : MethodName := ⟨RX6, "scares", "(II)I"⟩
abbrev cX6_fearBy : ByteArray := prog_8_method_42_code
def yX6_fearBy : MethodName := ⟨RX6, "fearBy", "(I)I"⟩
abbrev cX6_fearsNow : ByteArray := prog_8_method_43_code
def yX6_fearsNow : MethodName := ⟨RX6, "fearsNow", "()V"⟩
abbrev cX6_landsAt : ByteArray := prog_8_method_44_code
def yX6_landsAt : MethodName := ⟨RX6, "landsAt", "()I"⟩
abbrev cX6_lands : ByteArray := prog_8_method_45_code
def yX6_lands : MethodName := ⟨RX6, "lands", "()I"⟩
abbrev cX6_day : ByteArray := prog_8_method_46_code
def yX6_day : MethodName := ⟨RX6, "day", "()I"⟩
abbrev cX6_daysGo : ByteArray := prog_8_method_47_code
def yX6_daysGo : MethodName := ⟨RX6, "daysGo", "(I)I"⟩
abbrev cX6_days : ByteArray := prog_8_method_48_code
def yX6_days : MethodName := ⟨RX6, "days", "(I)I"⟩
abbrev cX6_wheatAll : ByteArray := prog_8_method_49_code
def yX6_wheatAll : MethodName := ⟨RX6, "wheatAll", "()I"⟩
abbrev cX6_fees : ByteArray := prog_8_method_50_code
def yX6_fees : MethodName := ⟨RX6, "fees", "()I"⟩
abbrev cX6_feared : ByteArray := prog_8_method_51_code
def yX6_feared : MethodName := ⟨RX6, "feared", "()I"⟩
abbrev cX6_meeting : ByteArray := prog_8_method_52_code
def yX6_meeting : MethodName := ⟨RX6, "meeting", "()I"⟩
abbrev cX6_now : ByteArray := prog_8_method_53_code
def yX6_now : MethodName := ⟨RX6, "now", "(I)I"⟩
abbrev cX6_on : ByteArray := prog_8_method_54_code
def yX6_on : MethodName := ⟨RX6, "on", "(II)I"⟩
abbrev cX6_eatenOn : ByteArray := prog_8_method_55_code
def yX6_eatenOn : MethodName := ⟨RX6, "eatenOn", "(I)I"⟩
abbrev cX6_eaten : ByteArray := prog_8_method_56_code
def yX6_eaten : MethodName := ⟨RX6, "eaten", "(I)I"⟩
abbrev cX6_first : ByteArray := prog_8_method_57_code
def yX6_first : MethodName := ⟨RX6, "first", "(I)I"⟩
abbrev cX6_isSoon : ByteArray := prog_8_method_58_code
def yX6_isSoon : MethodName := ⟨RX6, "isSoon", "(I)Z"⟩
abbrev cX6_leastBy : ByteArray := prog_8_method_59_code
def yX6_leastBy : MethodName := ⟨RX6, "leastBy", "(III)I"⟩
abbrev cX6_spot : ByteArray := prog_8_method_60_code
def yX6_spot : MethodName := ⟨RX6, "spot", "(II)I"⟩
abbrev cX6_whose : ByteArray := prog_8_method_61_code
def yX6_whose : MethodName := ⟨RX6, "whose", "(II)I"⟩
abbrev cX6_kind : ByteArray := prog_8_method_62_code
def yX6_kind : MethodName := ⟨RX6, "kind", "(II)I"⟩
abbrev cX6_temper : ByteArray := prog_8_method_63_code
def yX6_temper : MethodName := ⟨RX6, "temper", "(II)I"⟩
abbrev cX6_ones : ByteArray := prog_8_method_64_code
def yX6_ones : MethodName := ⟨RX6, "ones", "(I)I"⟩
abbrev cX6_eatenWithout : ByteArray := prog_8_method_65_code
def yX6_eatenWithout : MethodName := ⟨RX6, "eatenWithout", "(II)I"⟩
abbrev cX6_keep : ByteArray := prog_8_method_66_code
def yX6_keep : MethodName := ⟨RX6, "keep", "(I)I"⟩
abbrev cX6_worth : ByteArray := prog_8_method_67_code
def yX6_worth : MethodName := ⟨RX6, "worth", "(I)I"⟩
abbrev cX6_apart : ByteArray := prog_8_method_68_code
def yX6_apart : MethodName := ⟨RX6, "apart", "(I)I"⟩
abbrev cX6_swapped : ByteArray := prog_8_method_69_code
def yX6_swapped : MethodName := ⟨RX6, "swapped", "(III)I"⟩
abbrev cX6_swap : ByteArray := prog_8_method_70_code
def yX6_swap : MethodName := ⟨RX6, "swap", "(I)I"⟩
abbrev cX6_feed : ByteArray := prog_8_method_71_code
def yX6_feed : MethodName := ⟨RX6, "feed", "(II)I"⟩
abbrev cX6_wipe : ByteArray := prog_8_method_72_code
def yX6_wipe : MethodName := ⟨RX6, "wipe", "()I"⟩
abbrev cX6_byteAt : ByteArray := prog_8_method_73_code
def yX6_byteAt : MethodName := ⟨RX6, "byteAt", "(I)I"⟩
abbrev cX6_isLetter : ByteArray := prog_8_method_74_code
def yX6_isLetter : MethodName := ⟨RX6, "isLetter", "(I)Z"⟩
abbrev cX6_isDigit : ByteArray := prog_8_method_75_code
def yX6_isDigit : MethodName := ⟨RX6, "isDigit", "(I)Z"⟩
abbrev cX6_token : ByteArray := prog_8_method_76_code
def yX6_token : MethodName := ⟨RX6, "token", "()V"⟩
abbrev cX6_must : ByteArray := prog_8_method_77_code
def yX6_must : MethodName := ⟨RX6, "must", "(Z)V"⟩
abbrev cX6_word : ByteArray := prog_8_method_78_code
def yX6_word : MethodName := ⟨RX6, "word", "()J"⟩
abbrev cX6_number : ByteArray := prog_8_method_79_code
def yX6_number : MethodName := ⟨RX6, "number", "(II)V"⟩
abbrev cX6_kindHere : ByteArray := prog_8_method_80_code
def yX6_kindHere : MethodName := ⟨RX6, "kindHere", "()I"⟩
abbrev cX6_sitterItem : ByteArray := prog_8_method_81_code
def yX6_sitterItem : MethodName := ⟨RX6, "sitterItem", "(I)V"⟩
abbrev cX6_likenessItem : ByteArray := prog_8_method_82_code
def yX6_likenessItem : MethodName := ⟨RX6, "likenessItem", "()V"⟩
abbrev cX6_wheatItem : ByteArray := prog_8_method_83_code
def yX6_wheatItem : MethodName := ⟨RX6, "wheatItem", "()V"⟩
abbrev cX6_item : ByteArray := prog_8_method_84_code
def yX6_item : MethodName := ⟨RX6, "item", "()V"⟩
abbrev cX6_plain : ByteArray := prog_8_method_85_code
def yX6_plain : MethodName := ⟨RX6, "plain", "()I"⟩
abbrev cX6_isOne : ByteArray := prog_8_method_86_code
def yX6_isOne : MethodName := ⟨RX6, "isOne", "(I)Z"⟩
abbrev cX6_sheet : ByteArray := prog_8_method_87_code
def yX6_sheet : MethodName := ⟨RX6, "sheet", "(III)I"⟩
abbrev cX6_narrowed : ByteArray := prog_8_method_88_code
def yX6_narrowed : MethodName := ⟨RX6, "narrowed", "(IJ)J"⟩
abbrev cX6_wrongSheet : ByteArray := prog_8_method_89_code
def yX6_wrongSheet : MethodName := ⟨RX6, "wrongSheet", "(I)I"⟩
abbrev cX6_write : ByteArray := prog_8_method_90_code
def yX6_write : MethodName := ⟨RX6, "write", "(IIJ)J"⟩
abbrev cX6_copy : ByteArray := prog_8_method_91_code
def yX6_copy : MethodName := ⟨RX6, "copy", "(IIIII)I"⟩
abbrev cX6_lays : ByteArray := prog_8_method_92_code
def yX6_lays : MethodName := ⟨RX6, "lays", "(I)I"⟩
abbrev cX6_book : ByteArray := prog_8_method_93_code
def yX6_book : MethodName := ⟨RX6, "book", "(I)I"⟩
abbrev cX6_isBook : ByteArray := prog_8_method_94_code
def yX6_isBook : MethodName := ⟨RX6, "isBook", "(I)Z"⟩
abbrev cX6_read : ByteArray := prog_8_method_95_code
def yX6_read : MethodName := ⟨RX6, "read", "(II)I"⟩
abbrev cX6_image : ByteArray := prog_8_method_96_code
def yX6_image : MethodName := ⟨RX6, "image", "()I"⟩
abbrev cX6_undo : ByteArray := prog_8_method_97_code
def yX6_undo : MethodName := ⟨RX6, "undo", "()I"⟩
abbrev cX6_tear : ByteArray := prog_8_method_98_code
def yX6_tear : MethodName := ⟨RX6, "tear", "()I"⟩
abbrev cX6_tempers : ByteArray := prog_8_method_99_code
def yX6_tempers : MethodName := ⟨RX6, "tempers", "()I"⟩
abbrev cX6_count : ByteArray := prog_8_method_100_code
def yX6_count : MethodName := ⟨RX6, "count", "(I)I"⟩
abbrev cX6_status : ByteArray := prog_8_method_101_code
def yX6_status : MethodName := ⟨RX6, "status", "(I)I"⟩
def RJ6 : String := "java/lang/Integer"
abbrev cJ6_bitCount_0f7a4 : ByteArray := prog_9_method_49_code
def yJ6_bitCount_0f7a4 : MethodName := ⟨RJ6, "bitCount", "(I)I"⟩
def RJ9 : String := "java/lang/Math"
abbrev cJ9_abs_0f7a4 : ByteArray := prog_10_method_59_code
def yJ9_abs_0f7a4 : MethodName := ⟨RJ9, "abs", "(I)I"⟩
abbrev cJ9_max_7cf53 : ByteArray := prog_10_method_65_code
def yJ9_max_7cf53 : MethodName := ⟨RJ9, "max", "(II)I"⟩
abbrev cJ9_min_7cf53 : ByteArray := prog_10_method_69_code
def yJ9_min_7cf53 : MethodName := ⟨RJ9, "min", "(II)I"⟩
def RJ0 : String := "java/lang/String"
abbrev cJ0_length_8abf5 : ByteArray := prog_11_method_54_code
def yJ0_length_8abf5 : MethodName := ⟨RJ0, "length", "()I"⟩
abbrev cJ0_charAt_5068e : ByteArray := prog_11_method_56_code
def yJ0_charAt_5068e : MethodName := ⟨RJ0, "charAt", "(I)C"⟩
abbrev cJ0_coder_7d493 : ByteArray := prog_11_method_152_code
def yJ0_coder_7d493 : MethodName := ⟨RJ0, "coder", "()B"⟩
abbrev cJ0_isLatin1_aae02 : ByteArray := prog_11_method_154_code
def yJ0_isLatin1_aae02 : MethodName := ⟨RJ0, "isLatin1", "()Z"⟩
abbrev cJ0_checkIndex_df160 : ByteArray := prog_11_method_155_code
def yJ0_checkIndex_df160 : MethodName := ⟨RJ0, "checkIndex", "(II)V"⟩
def RJ1 : String := "java/lang/StringLatin1"
abbrev cJ1_charAt_3b067 : ByteArray := prog_12_method_2_code
def yJ1_charAt_3b067 : MethodName := ⟨RJ1, "charAt", "([BI)C"⟩
def RJ2 : String := "java/lang/StringUTF16"
abbrev cJ2_getChar_3b067 : ByteArray := prog_13_method_5_code
def yJ2_getChar_3b067 : MethodName := ⟨RJ2, "getChar", "([BI)C"⟩
abbrev cJ2_length_9d52b : ByteArray := prog_13_method_6_code
def yJ2_length_9d52b : MethodName := ⟨RJ2, "length", "([B)I"⟩
abbrev cJ2_charAt_3b067 : ByteArray := prog_13_method_83_code
def yJ2_charAt_3b067 : MethodName := ⟨RJ2, "charAt", "([BI)C"⟩
abbrev cJ2_checkIndex_2214a : ByteArray := prog_13_method_91_code
def yJ2_checkIndex_2214a : MethodName := ⟨RJ2, "checkIndex", "(I[B)V"⟩
def RJ10 : String := "java/lang/System"
def RJ7 : String := "java/util/Arrays"
abbrev cJ7_fill_d0a16 : ByteArray := prog_15_method_101_code
def yJ7_fill_d0a16 : MethodName := ⟨RJ7, "fill", "([JJ)V"⟩
abbrev cJ7_fill_53178 : ByteArray := prog_15_method_103_code
def yJ7_fill_53178 : MethodName := ⟨RJ7, "fill", "([II)V"⟩
def RJ3 : String := "jdk/internal/util/Preconditions"
abbrev cJ3_checkIndex_8e157 : ByteArray := prog_16_method_11_code
def yJ3_checkIndex_8e157 : MethodName := ⟨RJ3, "checkIndex", "(IILjava/util/function/BiFunction;)I"⟩
def RL : String := "CrowLikenessLaw"
abbrev cL_law : ByteArray := code
def yL_law : MethodName := ⟨RL, "law", "([I)Z"⟩
end
section
/-! the world of both objects: 60 cells whose references never change; their contents as whole numbers -/
abbrev ev_V : Type := Int ⊕ (Int ⊕ (Nat ⊕ Unit))
abbrev ev_M : Type := Nat → Int → Int
abbrev ev_B : Type := (Nat → Nat) × (va_G × ((Nat → ClassId) × (Value × (Nat × (Nat → Int)))))
abbrev ev_Kd : Type := (Nat × List (Option Nat)) ⊕ (Nat × Nat)
abbrev ev_Y : Type := MethodName × (ByteArray × (Nat × (Option FieldType × Room)))
abbrev vI (z : Int) : ev_V := .inl z
abbrev vL (z : Int) : ev_V := .inr (.inl z)
abbrev vR (k : Nat) : ev_V := .inr (.inr (.inl k))
abbrev vX : ev_V := .inr (.inr (.inr ()))
def ev_kds : List ev_Kd := [
  .inl (4, [some 1, some 10, some 19, some 28, some 34, some 36, some 45, none]),
  .inl (1, [some 2, none, none, none, some 3, some 4, some 5, some 6, none, some 7, some 8, some 9]),
  .inr (0, 48),
  .inr (0, 6),
  .inr (0, 6),
  .inr (0, 6),
  .inr (0, 6),
  .inr (0, 8),
  .inr (0, 8),
  .inr (0, 8),
  .inl (1, [some 11, none, none, none, some 12, some 13, some 14, some 15, none, some 16, some 17, some 18]),
  .inr (0, 48),
  .inr (0, 6),
  .inr (0, 6),
  .inr (0, 6),
  .inr (0, 6),
  .inr (0, 8),
  .inr (0, 8),
  .inr (0, 8),
  .inl (1, [some 20, none, none, none, some 21, some 22, some 23, some 24, none, some 25, some 26, some 27]),
  .inr (0, 48),
  .inr (0, 6),
  .inr (0, 6),
  .inr (0, 6),
  .inr (0, 6),
  .inr (0, 8),
  .inr (0, 8),
  .inr (0, 8),
  .inl (0, [some 29, some 30, some 31, some 32, some 33]),
  .inr (0, 48),
  .inr (0, 8),
  .inr (0, 104),
  .inr (0, 6),
  .inr (0, 6),
  .inl (3, [some 35, none, none, none, none, none, none]),
  .inr (0, 120),
  .inr (2, 4),
  .inl (2, [some 38, none, none]),
  .inr (1, 40),
  .inl (2, [some 40, none, none]),
  .inr (1, 40),
  .inl (2, [some 42, none, none]),
  .inr (1, 40),
  .inl (2, [some 44, none, none]),
  .inr (1, 40),
  .inr (0, 7),
  .inl (5, [some 47, some 48, some 49, some 50, some 51, none, none, some 52, some 53, some 54, some 55, none, none, none, none, none, some 56, some 57, some 58, some 59]),
  .inr (0, 100),
  .inr (0, 100),
  .inr (0, 100),
  .inr (0, 100),
  .inr (0, 7),
  .inr (0, 48),
  .inr (0, 104),
  .inr (0, 6),
  .inr (0, 120),
  .inr (0, 4),
  .inr (0, 4),
  .inr (1, 160),
  .inr (1, 40)]
abbrev ev_cls : List vw_C := [(RX0, TX0, 5), (RX2, TX2, 12), (RX3, TX3, 3), (RX4, TX4, 7), (RX5, TX5, 8), (RX6, TX6, 20)]
def ev_tyo : Nat → (Nat → FieldType) := fun ci => match ci with
  | 0 => tyX0
  | 1 => tyX2
  | 2 => tyX3
  | 3 => tyX4
  | 4 => tyX5
  | _ => tyX6
abbrev ev_tys (b : ev_B) : List (ClassId × FieldType) := [(b.2.2.1 0, .int), (b.2.2.1 1, .long), (b.2.2.1 2, .object RX3)]
def ev_cv (b : ev_B) : ev_V → Value
  | .inl z => .int (Int32.ofInt z)
  | .inr (.inl z) => .long (Int64.ofInt z)
  | .inr (.inr (.inl k)) => .ref (b.1 k)
  | .inr (.inr (.inr _)) => b.2.2.2.1
def ev_c2 : ev_V → Bool
  | .inr (.inl _) => true
  | _ => false
def ev_cl (b : ev_B) (q : Nat × ev_V) : Nat × Value := (q.1, ev_cv b q.2)
def ev_fd (b : ev_B) (σ : ev_M) (k : Nat) (j : Nat) (o : Option Nat) : Value := match o with
  | none => .int (Int32.ofInt (σ k j))
  | some t => .ref (b.1 t)
def ev_rt (j : Nat) : Nat := 37 + 2 * j
def ev_cell (b : ev_B) (σ : ev_M) (k : Nat) (d : ev_Kd) : va_E := match d with
  | .inl (ci, tm) => .inr (ci, tm.mapIdx (fun j o => ev_fd b σ k j o))
  | .inr (0, n) => .inl (b.2.2.1 0, n, .inl (fun j => Int32.ofInt (σ k j)))
  | .inr (1, n) => .inl (b.2.2.1 1, n, .inr (.inl (fun j => Int64.ofInt (σ k j))))
  | .inr (_, n) => .inl (b.2.2.1 2, n, .inr (.inr (.inr (.inr (fun j => some (b.1 (ev_rt j)))))))
def ev_ws (b : ev_B) (σ : ev_M) : va_W := ev_kds.mapIdx (fun k d => (b.1 k, ev_cell b σ k d))
def mup (σ : ev_M) (k : Nat) (i z : Int) : ev_M := fun a j => if a = k ∧ j = i then z else σ a j
def mcp (σ : ev_M) (k0 : Nat) (sp : Int) (k : Nat) (dp n : Int) : ev_M := fun a j => if a = k ∧ dp ≤ j ∧ j < dp + n then σ k0 (sp + (j - dp)) else σ a j
theorem ev_at {b : ev_B} {σ : ev_M} {k : Nat} {d : ev_Kd} (h : ev_kds[k]? = some d) : (ev_ws b σ)[k]? = some (b.1 k, ev_cell b σ k d) := by
  rw [ev_ws, List.getElem?_mapIdx, h]; rfl
theorem ev_cell_congr {b : ev_B} {σ τ : ev_M} {k : Nat} {d : ev_Kd} (h : ∀ j, σ k j = τ k j) : ev_cell b σ k d = ev_cell b τ k d := by
  have e : σ k = τ k := funext h
  rcases d with ⟨ci, tm⟩ | ⟨t, n⟩
  · simp only [ev_cell, ev_fd, e]
  · match t with
    | 0 => simp only [ev_cell, e]
    | 1 => simp only [ev_cell, e]
    | n + 2 => rfl
theorem ev_set {b : ev_B} {σ τ : ev_M} {k : Nat} {d : ev_Kd} (h : ev_kds[k]? = some d) (ho : ∀ a, a ≠ k → σ a = τ a) : (ev_ws b σ).set k (b.1 k, ev_cell b τ k d) = ev_ws b τ := by
  apply List.ext_getElem?
  intro q
  rw [List.getElem?_set]
  by_cases hq : k = q
  · subst hq
    have hl : k < (ev_ws b σ).length := (List.getElem?_eq_some_iff.mp (ev_at (b := b) (σ := σ) h)).1
    rw [if_pos rfl, if_pos hl, ev_at h]
  · rw [if_neg hq]
    simp only [ev_ws, List.getElem?_mapIdx]
    cases ev_kds[q]? with
    | none => rfl
    | some x =>
      simp only [Option.map_some]
      rw [ev_cell_congr (σ := σ) (τ := τ) (fun j => by rw [ho q (Ne.symm hq)])]
theorem mup_ne {σ : ev_M} {k : Nat} {i z : Int} {a : Nat} (h : a ≠ k) : mup σ k i z a = σ a := by
  funext j; simp [mup, h]
theorem mup_at {σ : ev_M} {k : Nat} {i z : Int} : mup σ k i z k i = z := by simp [mup]
theorem mup_off {σ : ev_M} {k : Nat} {i z j : Int} (h : j ≠ i) : mup σ k i z k j = σ k j := by simp [mup, h]
theorem mcp_ne {σ : ev_M} {k0 k : Nat} {sp dp n : Int} {a : Nat} (h : a ≠ k) : mcp σ k0 sp k dp n a = σ a := by
  funext j; simp [mcp, h]
theorem ev_small : ∀ (k t n : Nat), ev_kds[k]? = some (.inr (t, n)) → n < 1000 := by
  have h : ∀ x ∈ ev_kds, ∀ t n, x = .inr (t, n) → n < 1000 := by
    intro x hx
    simp only [ev_kds, List.mem_cons, List.not_mem_nil, or_false] at hx
    rcases hx with rfl | rfl | rfl | rfl | rfl | rfl | rfl | rfl | rfl | rfl | rfl | rfl | rfl | rfl | rfl | rfl | rfl | rfl | rfl | rfl | rfl | rfl | rfl | rfl | rfl | rfl | rfl | rfl | rfl | rfl | rfl | rfl | rfl | rfl | rfl | rfl | rfl | rfl | rfl | rfl | rfl | rfl | rfl | rfl | rfl | rfl | rfl | rfl | rfl | rfl | rfl | rfl | rfl | rfl | rfl | rfl | rfl | rfl | rfl | rfl <;> intro t n e <;> cases e <;> decide
  intro k t n hk
  exact h _ (List.mem_of_getElem? hk) t n rfl
/-! whole numbers as ints and longs -/
theorem ev_ti {z : Int} (h : -2147483648 ≤ z ∧ z < 2147483648) : (Int32.ofInt z).toInt = z := by
  rw [Int32.toInt_ofInt, show Int32.size = 4294967296 from rfl, Int.bmod_def]; split <;> omega
theorem ev_tl {z : Int} (h : -9223372036854775808 ≤ z ∧ z < 9223372036854775808) : (Int64.ofInt z).toInt = z := by
  rw [Int64.toInt_ofInt, show Int64.size = 18446744073709551616 from rfl, Int.bmod_def]; split <;> omega
theorem ev_lt {x y : Int} (hx : -2147483648 ≤ x ∧ x < 2147483648) (hy : -2147483648 ≤ y ∧ y < 2147483648) : Int32.ofInt x < Int32.ofInt y ↔ x < y := by
  rw [Int32.lt_iff_toInt_lt, ev_ti hx, ev_ti hy]
theorem ev_le {x y : Int} (hx : -2147483648 ≤ x ∧ x < 2147483648) (hy : -2147483648 ≤ y ∧ y < 2147483648) : Int32.ofInt x ≤ Int32.ofInt y ↔ x ≤ y := by
  rw [Int32.le_iff_toInt_le, ev_ti hx, ev_ti hy]
theorem ev_eq {x y : Int} (hx : -2147483648 ≤ x ∧ x < 2147483648) (hy : -2147483648 ≤ y ∧ y < 2147483648) : Int32.ofInt x = Int32.ofInt y ↔ x = y := by
  rw [← Int32.toInt_inj, ev_ti hx, ev_ti hy]
theorem ev_in {z : Int} {n : Nat} (h : 0 ≤ z ∧ z < n) (hn : n < 1000) : vp_in (Int32.ofInt z) n := by
  rw [vp_in_iff, ev_ti (by omega)]; exact h
theorem ev_nn {z : Int} (h : 0 ≤ z ∧ z < 2147483648) : (Int32.ofInt z).toNatClampNeg = z.toNat := by
  show (Int32.ofInt z).toInt.toNat = _
  rw [ev_ti (by omega)]
theorem ev_upi {σ : ev_M} {k : Nat} {i z : Int} (hi : 0 ≤ i) : upd (fun j : Nat => Int32.ofInt (σ k j)) i.toNat (Int32.ofInt z) = fun j : Nat => Int32.ofInt (mup σ k i z k j) := by
  funext j
  by_cases h : j = i.toNat
  · have h2 : (j : Int) = i := by omega
    simp only [upd, mup]; rw [if_pos h, if_pos ⟨trivial, h2⟩]
  · have h2 : ¬ (j : Int) = i := by omega
    simp [upd, mup, h, h2]
theorem ev_upl {σ : ev_M} {k : Nat} {i z : Int} (hi : 0 ≤ i) : vp_updL (fun j : Nat => Int64.ofInt (σ k j)) i.toNat (Int64.ofInt z) = fun j : Nat => Int64.ofInt (mup σ k i z k j) := by
  funext j
  by_cases h : j = i.toNat
  · have h2 : (j : Int) = i := by omega
    simp only [vp_updL, mup]; rw [if_pos h, if_pos ⟨trivial, h2⟩]
  · have h2 : ¬ (j : Int) = i := by omega
    simp [vp_updL, mup, h, h2]
theorem ev_upf {b : ev_B} {σ : ev_M} {k : Nat} {tm : List (Option Nat)} {j : Nat} {z : Int} (h : tm[j]? = some none) : (tm.mapIdx (fun i o => ev_fd b σ k i o)).set j (.int (Int32.ofInt z)) = tm.mapIdx (fun i o => ev_fd b (mup σ k j z) k i o) := by
  apply List.ext_getElem?
  intro q
  rw [List.getElem?_set]
  by_cases hq : j = q
  · subst hq
    have hl : j < (tm.mapIdx (fun i o => ev_fd b σ k i o)).length := by
      rw [List.length_mapIdx]; exact (List.getElem?_eq_some_iff.mp h).1
    rw [if_pos rfl, if_pos hl, List.getElem?_mapIdx, h]
    simp [ev_fd, mup]
  · rw [if_neg hq, List.getElem?_mapIdx, List.getElem?_mapIdx]
    cases tm[q]? with
    | none => rfl
    | some o =>
      have h2 : ¬ (q : Int) = (j : Int) := by omega
      cases o <;> simp [ev_fd, mup, h2]
/-! the words -/
def ev_gw : List Cond := lw_tbl.filter goodWord
theorem ev_gm {w : Cond} (h : w ∈ lw_tbl) (hg : goodWord w = true) : w ∈ ev_gw := List.mem_filter.mpr ⟨h, hg⟩
theorem ev_gg : GoodIn ev_gw ev_gw := fun w h => ⟨h, good_of_word (List.mem_filter.mp h).2⟩
theorem ev_t1 (i : Nat) {w : Cond} (h : tables_1_1[i]? = some w) : w ∈ lw_tbl := List.mem_append_right _ (List.mem_append_left _ (List.mem_of_getElem? h))
theorem ev_t2 (i : Nat) {w : Cond} (h : tables_1_2[i]? = some w) : w ∈ lw_tbl := List.mem_append_right _ (List.mem_append_right _ (List.mem_append_left _ (List.mem_of_getElem? h)))
theorem ev_t3 (i : Nat) {w : Cond} (h : tables_1_3[i]? = some w) : w ∈ lw_tbl := List.mem_append_right _ (List.mem_append_right _ (List.mem_append_right _ (List.mem_append_left _ (List.mem_of_getElem? h))))
theorem ev_t4 (i : Nat) {w : Cond} (h : tables_1_4[i]? = some w) : w ∈ lw_tbl := List.mem_append_right _ (List.mem_append_right _ (List.mem_append_right _ (List.mem_append_right _ (List.mem_append_left _ (List.mem_of_getElem? h)))))
theorem ev_t5 (i : Nat) {w : Cond} (h : tables_1_5[i]? = some w) : w ∈ lw_tbl := List.mem_append_right _ (List.mem_append_right _ (List.mem_append_right _ (List.mem_append_right _ (List.mem_append_right _ (List.mem_append_left _ (List.mem_of_getElem? h))))))
theorem ev_t6 (i : Nat) {w : Cond} (h : tables_1_6[i]? = some w) : w ∈ lw_tbl := List.mem_append_right _ (List.mem_append_right _ (List.mem_append_right _ (List.mem_append_right _ (List.mem_append_right _ (List.mem_append_right _ (List.mem_of_getElem? h))))))
theorem ev_t0 (i : Nat) {q : MethodName × Nat} (h : lw_privs[i]? = some q) : Cond.selects q.1.cls q.1 q.1 ∈ lw_tbl := List.mem_append_left _ (List.mem_map.mpr ⟨q, List.mem_of_getElem? h, rfl⟩)
end
section
/-! what stands at every state: the tables, the statics, the texts; 'ev_A': the cells of the world -/
def ev_A (b : ev_B) : Nat → Prop := fun q => ∃ k, k < 60 ∧ q = b.1 k
def ev_nw : List Cond := [.methodLinkNest RX0 105 yX5_distanceOf RX5, .methodLinkNest RX2 76 yX5_sumOf RX5, .methodLinkNest RX4 111 yX5_isWithin RX5, .fieldLinkNest RX1 9 RX5 "KIND_ABOVE" "[I" RX5]
def ev_ka : Nat → Value := fun j => .int (([-1, 0, 0, 0, 2, 3] : List Int32).getD j 0)
def ev_sn : List (Nat × String) := [(129, "sitter"), (119, "bailiff"), (121, "laughed"), (123, "dead"), (125, "lady"), (127, "stranger"), (71, "temper"), (86, "fee"), (43, "likeness"), (94, "at"), (52, "wheat"), (100, "to"), (57, "crows")]
def ev_sb : List (List Int32) := [[115, 105, 116, 116, 101, 114], [98, 97, 105, 108, 105, 102, 102], [108, 97, 117, 103, 104, 101, 100], [100, 101, 97, 100], [108, 97, 100, 121], [115, 116, 114, 97, 110, 103, 101, 114], [116, 101, 109, 112, 101, 114], [102, 101, 101], [108, 105, 107, 101, 110, 101, 115, 115], [97, 116], [119, 104, 101, 97, 116], [116, 111], [99, 114, 111, 119, 115]]
def ev_sl : List Nat := [6, 7, 7, 4, 4, 8, 6, 3, 8, 2, 5, 2, 5]
/-- what is only read -/
def ev_Ro (b : ev_B) (A : Nat → Prop) (U : State) (H : Heap) : Prop :=
  va_Z RX5 "KIND_ABOVE" "[I" (.ref (b.1 60)) A U H ∧ va_T .int (b.1 60) 6 ev_ka A U H ∧
  vk_S 13 ev_sl ev_sb (fun i => b.1 (61 + i)) (fun i => b.1 (80 + i)) A U H ∧
  va_Z RJ0 "COMPACT_STRINGS" "Z" (.int 1) A U H ∧ va_Z RJ3 "SIOOBE_FORMATTER" "Ljava/util/function/BiFunction;" b.2.2.2.1 A U H ∧
  va_T .int (b.1 74) b.2.2.2.2.1 (fun j => .int (Int32.ofInt (b.2.2.2.2.2 j))) A U H
theorem ev_Ro.moved {b : ev_B} {A : Nat → Prop} {u U : State} {H : Heap} (hvm : u.vm.Alike U.vm) (h : ev_Ro b A u H) : ev_Ro b A U H :=
  ⟨h.1.moved hvm, h.2.1.moved hvm, h.2.2.1.moved hvm, h.2.2.2.1.moved hvm, h.2.2.2.2.1.moved hvm, h.2.2.2.2.2.moved hvm⟩
theorem ev_Ro.kept {b : ev_B} {A : Nat → Prop} {U : State} {H H1 : Heap} (h : ev_Ro b A U H) (hq : ∀ a : Nat, a < H.size → ¬ A a → H1[a]? = H[a]?) : ev_Ro b A U H1 :=
  ⟨h.1.kept hq, h.2.1.kept hq, h.2.2.1.kept hq, h.2.2.2.1.kept hq, h.2.2.2.2.1.kept hq, h.2.2.2.2.2.kept hq⟩
theorem ev_Ro.narrow {b : ev_B} {A B : Nat → Prop} {U : State} {H : Heap} (h : ev_Ro b A U H) (hAB : ∀ q, B q → A q) : ev_Ro b B U H :=
  ⟨h.1.narrow hAB, h.2.1.narrow hAB, h.2.2.1.narrow hAB, h.2.2.2.1.narrow hAB, h.2.2.2.2.1.narrow hAB, h.2.2.2.2.2.narrow hAB⟩
/-- the facts that every method takes: static ones of the base, then those of a state -/
def ev_Bs (b : ev_B) : Prop := (∀ i j, i < 60 → j < 60 → b.1 i = b.1 j → i = j) ∧ (b.2.2.2.1 = .null ∨ ∃ a, b.2.2.2.1 = .ref a) ∧ b.2.2.2.2.1 < 4000
def ev_F (b : ev_B) (A : Nat → Prop) (U : State) (H : Heap) : Prop :=
  va_K b.2.1 ev_cls (ev_tys b) U ∧ (∀ w ∈ ev_nw, va_Nw w U) ∧ (∀ k, k < 60 → A (b.1 k)) ∧ ev_Bs b ∧ (∀ (i : Nat) (q : Nat × String), ev_sn[i]? = some q → vk_R RX4 q.1 q.2 (b.1 (61 + i)) U) ∧ ev_Ro b A U H
theorem ev_F.warm {b : ev_B} {A : Nat → Prop} {s U : State} {H H1 : Heap} (hW : s.WarmedH U.vm) (h : ev_F b A s H) (hq : ∀ a : Nat, a < H.size → ¬ A a → H1[a]? = H[a]?) : ev_F b A U H1 := by
  refine ⟨h.1.moved hW.alike, ?_, h.2.2.1, h.2.2.2.1, fun i q hi => (h.2.2.2.2.1 i q hi).warm hW, (h.2.2.2.2.2.moved hW.alike).kept hq⟩
  intro w hw
  have h0 := h.2.1 w hw
  simp only [ev_nw, List.mem_cons, List.not_mem_nil, or_false] at hw
  rcases hw with rfl | rfl | rfl | rfl
  · exact h0.warmM hW
  · exact h0.warmM hW
  · exact h0.warmM hW
  · exact h0.warmF hW
theorem ev_F.same {b : ev_B} {A : Nat → Prop} {s U : State} {H : Heap} (hv : U.vm = s.vm) (h : ev_F b A s H) : ev_F b A U H := by
  have hal : s.vm.Alike U.vm := by rw [hv]; exact Vm.Alike.refl _
  refine ⟨h.1.moved hal, ?_, h.2.2.1, h.2.2.2.1, fun i q hi => (h.2.2.2.2.1 i q hi).same hv, h.2.2.2.2.2.moved hal⟩
  intro w hw
  have h0 := h.2.1 w hw
  simp only [ev_nw, List.mem_cons, List.not_mem_nil, or_false] at hw
  rcases hw with rfl | rfl | rfl | rfl
  · exact h0.same rfl hv.symm
  · exact h0.same rfl hv.symm
  · exact h0.same rfl hv.symm
  · exact h0.same rfl hv.symm
theorem ev_F.narrow {b : ev_B} {A : Nat → Prop} {s : State} {H : Heap} (h : ev_F b A s H) : ev_F b (ev_A b) s H :=
  ⟨h.1, h.2.1, fun k hk => ⟨k, hk, rfl⟩, h.2.2.2.1, h.2.2.2.2.1, h.2.2.2.2.2.narrow (fun q hq => by obtain ⟨k, hk, rfl⟩ := hq; exact h.2.2.1 k hk)⟩
theorem ev_D {b : ev_B} {A : Nat → Prop} {U : State} {H : Heap} (h : ev_F b A U H) (σ : ev_M) : va_D A (ev_ws b σ) := by
  have hn : ev_kds.length = 60 := rfl
  have key : ∀ (k : Nat) (q : Nat × va_E), (ev_ws b σ)[k]? = some q → k < 60 ∧ q.1 = b.1 k := by
    intro k q hq
    rw [ev_ws, List.getElem?_mapIdx] at hq
    cases hd : ev_kds[k]? with
    | none => rw [hd] at hq; cases hq
    | some d =>
      rw [hd] at hq
      cases hq
      exact ⟨by rw [← hn]; exact (List.getElem?_eq_some_iff.mp hd).1, rfl⟩
  refine ⟨fun i j p q hp hq e => ?_, fun k q hq => ?_⟩
  · obtain ⟨h1, h2⟩ := key i p hp
    obtain ⟨h3, h4⟩ := key j q hq
    exact h.2.2.2.1.1 i j h1 h3 (by rw [← h2, ← h4, e])
  · obtain ⟨h1, h2⟩ := key k q hq
    rw [h2]
    exact h.2.2.1 k h1
theorem ev_cat {b : ev_B} (hB : ev_Bs b) (v : ev_V) : (ev_cv b v).category = if ev_c2 v then 2 else 1 := by
  rcases v with z | z | k | u
  · rfl
  · rfl
  · rfl
  · show b.2.2.2.1.category = 1
    rcases hB.2.1 with h | ⟨a, h⟩ <;> rw [h] <;> rfl
/-- what a method's frame is -/
def ev_C (b : ev_B) (y : ev_Y) (p : Program) (s : State) (m : MethodId) (args : Array Value) (meth : Method) (c : Code) (cells slots : Nat) (A : Nat → Prop) : Prop :=
  p.tables.exec = Jvm.exec ∧ c.code = y.2.1 ∧ c.maxLocals = y.2.2.1 ∧ meth.sig.returnType = y.2.2.2.1 ∧ meth.locks = false ∧ s.vm.findClass y.1.cls = some m.cls ∧ (∀ w ∈ ev_gw, w.before args s = true) ∧ ev_F b A s s.heap ∧ cells ≤ y.2.2.2.2.cells ∧ slots ≤ y.2.2.2.2.slots
/-- which answer an instruction gives back -/
def ev_rk (y : ev_Y) (r : Option ev_V) (op : Instr) : Prop :=
  (op = .ireturn ∧ ∃ z ty, r = some (vI z) ∧ y.2.2.2.1 = some ty ∧ narrow ty (.int (Int32.ofInt z)) = .int (Int32.ofInt z)) ∨ (op = .lreturn ∧ ∃ z, r = some (vL z) ∧ y.2.2.2.1 = some .long) ∨ (op = .areturn ∧ ∃ k n, r = some (vR k) ∧ y.2.2.2.1 = some (.object n)) ∨ (op = .return_ ∧ r = none ∧ y.2.2.2.1 = none)
def ev_E (b : ev_B) (y : ev_Y) (p : Program) (l : Launch) (e : Env) (s : State) (m : MethodId) (args : Array Value) (below : List Frame) (meth : Method) (c : Code) (cells slots : Nat) (A : Nat → Prop) (Z : State → Prop) (Q : Option ev_V → ev_M → Prop) : Prop :=
  ∀ (r : Option ev_V) (σ : ev_M) (H : Heap) (locs : List Loc) (pc : Nat) (lsA : Array Slot) (op : Instr), Q r σ → va_P b.2.1 ev_cls (ev_ws b σ) H → va_S A s.heap H locs → decode y.2.1 pc = .ok (op, 1) → ev_rk y r op → W p l e y.2.2.2.2 s m args below meth c H locs cells slots Z (F0 m pc lsA (r.toList.map (ev_cv b)))
/-- from here on the method comes to its end with Q -/
def Ev (b : ev_B) (y : ev_Y) (pc : Nat) (ls : List (Nat × ev_V)) (st : List ev_V) (σ : ev_M) (Q : Option ev_V → ev_M → Prop) : Prop :=
  ∀ (p : Program) (l : Launch) (e : Env) (s : State) (m : MethodId) (args : Array Value) (below : List Frame) (meth : Method) (c : Code) (H : Heap) (locs : List Loc) (cells slots : Nat) (A : Nat → Prop) (Z : State → Prop) (lsA : Array Slot),
    ev_C b y p s m args meth c cells slots A → ev_E b y p l e s m args below meth c cells slots A Z Q → va_P b.2.1 ev_cls (ev_ws b σ) H → va_S A s.heap H locs → lv_has lsA y.2.2.1 (ls.map (ev_cl b)) →
    W p l e y.2.2.2.2 s m args below meth c H locs cells slots Z (F0 m pc lsA (st.map (ev_cv b)))
/-- a method's contract -/
def Cl (b : ev_B) (y : ev_Y) (av : List ev_V) (σ : ev_M) (Q : Option ev_V → ev_M → Prop) : Prop :=
  ∀ l, Met l y.1 (Cond.code y.1 y.2.1 y.2.2.1 y.2.2.2.1 :: ev_gw) y.2.2.2.2 (va_Pc (av.map (ev_cv b)) (fun U => ev_F b (ev_A b) U U.heap ∧ va_P b.2.1 ev_cls (ev_ws b σ) U.heap))
    (fun _ st oc t => (∃ r σ', oc = .returned (r.map (ev_cv b)) ∧ Q r σ' ∧ va_P b.2.1 ev_cls (ev_ws b σ') t.heap) ∧ va_F (ev_A b) st t) 0 0 (ev_A b)
/-! locals -/
def ev_lk : List (Nat × ev_V) → Nat → Option ev_V
  | [], _ => none
  | (j, w) :: t, i => if j = i then some w else ev_lk t i
theorem ev_lk_mem : ∀ {ls : List (Nat × ev_V)} {i : Nat} {v : ev_V}, ev_lk ls i = some v → (i, v) ∈ ls
  | [], i, v, h => by cases h
  | (j, w) :: t, i, v, h => by
    unfold ev_lk at h
    by_cases hj : j = i
    · rw [if_pos hj] at h
      cases h
      rw [hj]; exact List.mem_cons_self
    · rw [if_neg hj] at h
      exact List.mem_cons_of_mem _ (ev_lk_mem h)
def ev_ins (i : Nat) (v : ev_V) : List (Nat × ev_V) → List (Nat × ev_V)
  | [] => [(i, v)]
  | (j, w) :: t => if i < j then (i, v) :: (j, w) :: t else (j, w) :: ev_ins i v t
theorem ev_ins_mem {i : Nat} {v : ev_V} : ∀ {ls : List (Nat × ev_V)} {q : Nat × ev_V}, q ∈ ev_ins i v ls → q = (i, v) ∨ q ∈ ls
  | [], q, h => by
    unfold ev_ins at h
    exact Or.inl (List.mem_singleton.mp h)
  | (j, w) :: t, q, h => by
    unfold ev_ins at h
    split at h
    · rcases List.mem_cons.mp h with h | h
      · exact Or.inl h
      · exact Or.inr h
    · rcases List.mem_cons.mp h with h | h
      · exact Or.inr (by rw [h]; exact List.mem_cons_self)
      · rcases ev_ins_mem h with h | h
        · exact Or.inl h
        · exact Or.inr (List.mem_cons_of_mem _ h)
/-- a local of one word, of two words is stored -/
def ev_s1 (ls : List (Nat × ev_V)) (i : Nat) (v : ev_V) : List (Nat × ev_V) := ev_ins i v (ls.filter (fun q => !(q.1 == i) && !(q.1 + 1 == i && ev_c2 q.2)))
def ev_s2 (ls : List (Nat × ev_V)) (i : Nat) (v : ev_V) : List (Nat × ev_V) := ev_ins i v (ls.filter (fun q => !(q.1 == i) && (!(q.1 == i + 1) && !(q.1 + 1 == i && ev_c2 q.2))))
theorem ev_has_at {b : ev_B} {lsA : Array Slot} {n : Nat} {ls : List (Nat × ev_V)} (h : lv_has lsA n (ls.map (ev_cl b))) {i : Nat} {v : ev_V} (hk : ev_lk ls i = some v) : lsA[i]? = some (.val (ev_cv b v)) :=
  h.2.2 (i, ev_cv b v) (List.mem_map.mpr ⟨(i, v), ev_lk_mem hk, rfl⟩)
theorem ev_has_s1 {b : ev_B} (hB : ev_Bs b) {lsA : Array Slot} {n : Nat} {ls : List (Nat × ev_V)} {i : Nat} {v : ev_V} (h : lv_has lsA n ((i, ev_cv b v) :: (ls.map (ev_cl b)).filter (fun q => !(q.1 == i) && !(q.1 + 1 == i && q.2.category == 2)))) : lv_has lsA n ((ev_s1 ls i v).map (ev_cl b)) := by
  refine ⟨h.1, h.2.1, fun q hq => ?_⟩
  obtain ⟨x, hx, rfl⟩ := List.mem_map.mp hq
  rcases ev_ins_mem hx with rfl | hx
  · exact h.2.2 _ List.mem_cons_self
  · obtain ⟨h1, h2⟩ := List.mem_filter.mp hx
    refine h.2.2 _ (List.mem_cons_of_mem _ (List.mem_filter.mpr ⟨List.mem_map.mpr ⟨x, h1, rfl⟩, ?_⟩))
    have e : ((ev_cl b x).2.category == 2) = ev_c2 x.2 := by
      show ((ev_cv b x.2).category == 2) = _
      rw [ev_cat hB]; cases ev_c2 x.2 <;> rfl
    rw [e]; exact h2
theorem ev_has_s2 {b : ev_B} (hB : ev_Bs b) {lsA : Array Slot} {n : Nat} {ls : List (Nat × ev_V)} {i : Nat} {v : ev_V} (h : lv_has lsA n ((i, ev_cv b v) :: (ls.map (ev_cl b)).filter (fun q => !(q.1 == i) && (!(q.1 == i + 1) && !(q.1 + 1 == i && q.2.category == 2))))) : lv_has lsA n ((ev_s2 ls i v).map (ev_cl b)) := by
  refine ⟨h.1, h.2.1, fun q hq => ?_⟩
  obtain ⟨x, hx, rfl⟩ := List.mem_map.mp hq
  rcases ev_ins_mem hx with rfl | hx
  · exact h.2.2 _ List.mem_cons_self
  · obtain ⟨h1, h2⟩ := List.mem_filter.mp hx
    refine h.2.2 _ (List.mem_cons_of_mem _ (List.mem_filter.mpr ⟨List.mem_map.mpr ⟨x, h1, rfl⟩, ?_⟩))
    have e : ((ev_cl b x).2.category == 2) = ev_c2 x.2 := by
      show ((ev_cv b x.2).category == 2) = _
      rw [ev_cat hB]; cases ev_c2 x.2 <;> rfl
    rw [e]; exact h2
/-- a method's locals at its start -/
def ev_args : Nat → List ev_V → List (Nat × ev_V)
  | _, [] => []
  | i, v :: vs => (i, v) :: ev_args (if ev_c2 v then i + 2 else i + 1) vs
theorem ev_args_eq {b : ev_B} (hB : ev_Bs b) : ∀ (vs : List ev_V) (i : Nat), (ev_args i vs).map (ev_cl b) = lv_args i (vs.map (ev_cv b))
  | [], i => rfl
  | v :: vs, i => by
    unfold ev_args
    rw [List.map_cons, List.map_cons, lv_args, ev_args_eq hB vs]
    rw [ev_cat hB v]
    cases ev_c2 v <;> rfl
def ev_wd : List ev_V → Nat
  | [] => 0
  | v :: vs => (if ev_c2 v then 2 else 1) + ev_wd vs
theorem ev_wd_sl {b : ev_B} (hB : ev_Bs b) : ∀ (vs : List ev_V), (lg_sl (vs.map (ev_cv b))).length = ev_wd vs
  | [] => rfl
  | v :: vs => by
    have ih := ev_wd_sl hB vs
    simp only [lg_sl] at ih
    simp only [lg_sl, List.map_cons, List.flatMap_cons, List.length_append, ih, ev_wd, ev_cat hB v]
    cases ev_c2 v <;> rfl
theorem ev_wd_cat {b : ev_B} (hB : ev_Bs b) : ∀ (vs : List ev_V), ((vs.map (ev_cv b)).map fun v => v.category).sum = ev_wd vs
  | [] => rfl
  | v :: vs => by
    have ih := ev_wd_cat hB vs
    simp only [List.map_cons, List.sum_cons, ih, ev_wd, ev_cat hB v]
end
section
/-! the rules, an instruction each -/
section EVR
variable {b : ev_B} {y : ev_Y} {pc : Nat} {ls : List (Nat × ev_V)} {st : List ev_V} {σ : ev_M} {Q : Option ev_V → ev_M → Prop}
theorem ev_iconst {n : Int} (hd : decode y.2.1 pc = .ok (.iconst n, 1)) (k : Ev b y (pc + 1) ls (vI n :: st) σ Q) : Ev b y pc ls st σ Q := by
  intro p l e s m args below meth c H locs cells slots A Z lsA C E hP hS hl
  exact lv_iconst C.1 C.2.1 hd rfl (k p l e s m args below meth c H locs cells slots A Z lsA C E hP hS hl)
theorem ev_bipush {n : Int} (hd : decode y.2.1 pc = .ok (.bipush n, 2)) (hv : (Int8.ofInt n).toInt32 = Int32.ofInt n) (k : Ev b y (pc + 2) ls (vI n :: st) σ Q) : Ev b y pc ls st σ Q := by
  intro p l e s m args below meth c H locs cells slots A Z lsA C E hP hS hl
  exact lv_bipush C.1 C.2.1 hd hv (k p l e s m args below meth c H locs cells slots A Z lsA C E hP hS hl)
theorem ev_sipush {n : Int} (hd : decode y.2.1 pc = .ok (.sipush n, 3)) (hv : (Int16.ofInt n).toInt32 = Int32.ofInt n) (k : Ev b y (pc + 3) ls (vI n :: st) σ Q) : Ev b y pc ls st σ Q := by
  intro p l e s m args below meth c H locs cells slots A Z lsA C E hP hS hl
  exact lv_sipush C.1 C.2.1 hd hv (k p l e s m args below meth c H locs cells slots A Z lsA C E hP hS hl)
theorem ev_lconst {n : Fin 2} {z : Int} (hd : decode y.2.1 pc = .ok (.lconst n, 1)) (hv : Int64.ofNat (n : Nat) = Int64.ofInt z) (k : Ev b y (pc + 1) ls (vL z :: st) σ Q) : Ev b y pc ls st σ Q := by
  intro p l e s m args below meth c H locs cells slots A Z lsA C E hP hS hl
  exact lv_lconst C.1 C.2.1 hd hv (k p l e s m args below meth c H locs cells slots A Z lsA C E hP hS hl)
theorem ev_ldc {i : Nat} {n : Int32} {z : Int} (hd : decode y.2.1 pc = .ok (.ldc i, 2)) (hw : Cond.constant y.1.cls i n ∈ ev_gw) (hv : n = Int32.ofInt z) (k : Ev b y (pc + 2) ls (vI z :: st) σ Q) : Ev b y pc ls st σ Q := by
  intro p l e s m args below meth c H locs cells slots A Z lsA C E hP hS hl
  subst hv
  exact lv_ldc C.1 C.2.1 C.2.2.2.2.2.1 (C.2.2.2.2.2.2.1 _ hw) hd (k p l e s m args below meth c H locs cells slots A Z lsA C E hP hS hl)
theorem ev_ldcw {i : Nat} {n : Int32} {z : Int} (hd : decode y.2.1 pc = .ok (.ldc_w i, 3)) (hw : Cond.constant y.1.cls i n ∈ ev_gw) (hv : n = Int32.ofInt z) (k : Ev b y (pc + 3) ls (vI z :: st) σ Q) : Ev b y pc ls st σ Q := by
  intro p l e s m args below meth c H locs cells slots A Z lsA C E hP hS hl
  subst hv
  exact lv_ldcw C.1 C.2.1 C.2.2.2.2.2.1 (C.2.2.2.2.2.2.1 _ hw) hd (k p l e s m args below meth c H locs cells slots A Z lsA C E hP hS hl)
theorem ev_ldc2 {i : Nat} {n : Int64} {z : Int} (hd : decode y.2.1 pc = .ok (.ldc2_w i, 3)) (hw : Cond.constantLong y.1.cls i n ∈ ev_gw) (hv : n = Int64.ofInt z) (k : Ev b y (pc + 3) ls (vL z :: st) σ Q) : Ev b y pc ls st σ Q := by
  intro p l e s m args below meth c H locs cells slots A Z lsA C E hP hS hl
  subst hv
  exact lv_ldc2 C.1 C.2.1 C.2.2.2.2.2.1 (C.2.2.2.2.2.2.1 _ hw) hd (k p l e s m args below meth c H locs cells slots A Z lsA C E hP hS hl)
theorem ev_ldcS {i j : Nat} {tx : String} (hd : decode y.2.1 pc = .ok (.ldc i, 2)) (hy : y.1.cls = RX4) (hs : ev_sn[j]? = some (i, tx)) (k : Ev b y (pc + 2) ls (vR (61 + j) :: st) σ Q) : Ev b y pc ls st σ Q := by
  intro p l e s m args below meth c H locs cells slots A Z lsA C E hP hS hl
  exact va_ldcS (own := RX4) C.1 C.2.1 (by rw [← hy]; exact C.2.2.2.2.2.1) (C.2.2.2.2.2.2.2.1.2.2.2.2.1 j _ hs) hd (k p l e s m args below meth c H locs cells slots A Z lsA C E hP hS hl)
theorem ev_iload_n {j : Fin 4} {x : Int} (hd : decode y.2.1 pc = .ok (.iload_n j, 1)) (hk : ev_lk ls j.val = some (vI x)) (k : Ev b y (pc + 1) ls (vI x :: st) σ Q) : Ev b y pc ls st σ Q := by
  intro p l e s m args below meth c H locs cells slots A Z lsA C E hP hS hl
  exact lv_iload_n C.1 C.2.1 hd rfl (ev_has_at hl hk) (k p l e s m args below meth c H locs cells slots A Z lsA C E hP hS hl)
theorem ev_iload {j : Nat} {x : Int} (hd : decode y.2.1 pc = .ok (.iload j, 2)) (hk : ev_lk ls j = some (vI x)) (k : Ev b y (pc + 2) ls (vI x :: st) σ Q) : Ev b y pc ls st σ Q := by
  intro p l e s m args below meth c H locs cells slots A Z lsA C E hP hS hl
  exact lv_iload C.1 C.2.1 hd (ev_has_at hl hk) (k p l e s m args below meth c H locs cells slots A Z lsA C E hP hS hl)
theorem ev_lload_n {j : Fin 4} {x : Int} (hd : decode y.2.1 pc = .ok (.lload_n j, 1)) (hk : ev_lk ls j.val = some (vL x)) (k : Ev b y (pc + 1) ls (vL x :: st) σ Q) : Ev b y pc ls st σ Q := by
  intro p l e s m args below meth c H locs cells slots A Z lsA C E hP hS hl
  exact lv_lload_n C.1 C.2.1 hd rfl (ev_has_at hl hk) (k p l e s m args below meth c H locs cells slots A Z lsA C E hP hS hl)
theorem ev_lload {j : Nat} {x : Int} (hd : decode y.2.1 pc = .ok (.lload j, 2)) (hk : ev_lk ls j = some (vL x)) (k : Ev b y (pc + 2) ls (vL x :: st) σ Q) : Ev b y pc ls st σ Q := by
  intro p l e s m args below meth c H locs cells slots A Z lsA C E hP hS hl
  exact lv_lload C.1 C.2.1 hd (ev_has_at hl hk) (k p l e s m args below meth c H locs cells slots A Z lsA C E hP hS hl)
theorem ev_aload_n {j : Fin 4} {x : Nat} (hd : decode y.2.1 pc = .ok (.aload_n j, 1)) (hk : ev_lk ls j.val = some (vR x)) (k : Ev b y (pc + 1) ls (vR x :: st) σ Q) : Ev b y pc ls st σ Q := by
  intro p l e s m args below meth c H locs cells slots A Z lsA C E hP hS hl
  exact lv_aload_n C.1 C.2.1 hd rfl (ev_has_at hl hk) (k p l e s m args below meth c H locs cells slots A Z lsA C E hP hS hl)
theorem ev_aload {j : Nat} {x : Nat} (hd : decode y.2.1 pc = .ok (.aload j, 2)) (hk : ev_lk ls j = some (vR x)) (k : Ev b y (pc + 2) ls (vR x :: st) σ Q) : Ev b y pc ls st σ Q := by
  intro p l e s m args below meth c H locs cells slots A Z lsA C E hP hS hl
  exact lv_aload C.1 C.2.1 hd (ev_has_at hl hk) (k p l e s m args below meth c H locs cells slots A Z lsA C E hP hS hl)
theorem ev_istore_n {j : Fin 4} {x : Int} {ls' : List (Nat × ev_V)} (hd : decode y.2.1 pc = .ok (.istore_n j, 1)) (hn : j.val < y.2.2.1) (hu : ev_s1 ls j.val (vI x) = ls') (k : Ev b y (pc + 1) ls' st σ Q) : Ev b y pc ls (vI x :: st) σ Q := by
  intro p l e s m args below meth c H locs cells slots A Z lsA C E hP hS hl
  subst hu
  exact lv_istore_n C.1 C.2.1 hd rfl hl hn rfl (fun l2 hl2 => k p l e s m args below meth c H locs cells slots A Z l2 C E hP hS (ev_has_s1 (v := vI x) C.2.2.2.2.2.2.2.1.2.2.2.1 hl2))
theorem ev_istore {j : Nat} {x : Int} {ls' : List (Nat × ev_V)} (hd : decode y.2.1 pc = .ok (.istore j, 2)) (hn : j < y.2.2.1) (hu : ev_s1 ls j (vI x) = ls') (k : Ev b y (pc + 2) ls' st σ Q) : Ev b y pc ls (vI x :: st) σ Q := by
  intro p l e s m args below meth c H locs cells slots A Z lsA C E hP hS hl
  subst hu
  exact lv_istore C.1 C.2.1 hd hl hn rfl (fun l2 hl2 => k p l e s m args below meth c H locs cells slots A Z l2 C E hP hS (ev_has_s1 (v := vI x) C.2.2.2.2.2.2.2.1.2.2.2.1 hl2))
theorem ev_astore_n {j : Fin 4} {x : Nat} {ls' : List (Nat × ev_V)} (hd : decode y.2.1 pc = .ok (.astore_n j, 1)) (hn : j.val < y.2.2.1) (hu : ev_s1 ls j.val (vR x) = ls') (k : Ev b y (pc + 1) ls' st σ Q) : Ev b y pc ls (vR x :: st) σ Q := by
  intro p l e s m args below meth c H locs cells slots A Z lsA C E hP hS hl
  subst hu
  exact lv_astore_n C.1 C.2.1 hd rfl hl hn rfl (fun l2 hl2 => k p l e s m args below meth c H locs cells slots A Z l2 C E hP hS (ev_has_s1 (v := vR x) C.2.2.2.2.2.2.2.1.2.2.2.1 hl2))
theorem ev_astore {j : Nat} {x : Nat} {ls' : List (Nat × ev_V)} (hd : decode y.2.1 pc = .ok (.astore j, 2)) (hn : j < y.2.2.1) (hu : ev_s1 ls j (vR x) = ls') (k : Ev b y (pc + 2) ls' st σ Q) : Ev b y pc ls (vR x :: st) σ Q := by
  intro p l e s m args below meth c H locs cells slots A Z lsA C E hP hS hl
  subst hu
  exact lv_astore C.1 C.2.1 hd hl hn rfl (fun l2 hl2 => k p l e s m args below meth c H locs cells slots A Z l2 C E hP hS (ev_has_s1 (v := vR x) C.2.2.2.2.2.2.2.1.2.2.2.1 hl2))
theorem ev_lstore_n {j : Fin 4} {x : Int} {ls' : List (Nat × ev_V)} (hd : decode y.2.1 pc = .ok (.lstore_n j, 1)) (hn : j.val + 1 < y.2.2.1) (hu : ev_s2 ls j.val (vL x) = ls') (k : Ev b y (pc + 1) ls' st σ Q) : Ev b y pc ls (vL x :: st) σ Q := by
  intro p l e s m args below meth c H locs cells slots A Z lsA C E hP hS hl
  subst hu
  exact lv_lstore_n C.1 C.2.1 hd rfl hl hn rfl (fun l2 hl2 => k p l e s m args below meth c H locs cells slots A Z l2 C E hP hS (ev_has_s2 (v := vL x) C.2.2.2.2.2.2.2.1.2.2.2.1 hl2))
theorem ev_lstore {j : Nat} {x : Int} {ls' : List (Nat × ev_V)} (hd : decode y.2.1 pc = .ok (.lstore j, 2)) (hn : j + 1 < y.2.2.1) (hu : ev_s2 ls j (vL x) = ls') (k : Ev b y (pc + 2) ls' st σ Q) : Ev b y pc ls (vL x :: st) σ Q := by
  intro p l e s m args below meth c H locs cells slots A Z lsA C E hP hS hl
  subst hu
  exact lv_lstore C.1 C.2.1 hd hl hn rfl (fun l2 hl2 => k p l e s m args below meth c H locs cells slots A Z l2 C E hP hS (ev_has_s2 (v := vL x) C.2.2.2.2.2.2.2.1.2.2.2.1 hl2))
theorem ev_iinc {j : Nat} {n x : Int} {ls' : List (Nat × ev_V)} (hd : decode y.2.1 pc = .ok (.iinc j n, 3)) (hk : ev_lk ls j = some (vI x)) (hn : j < y.2.2.1) (hu : ev_s1 ls j (vI (x + n)) = ls') (k : Ev b y (pc + 3) ls' st σ Q) : Ev b y pc ls st σ Q := by
  intro p l e s m args below meth c H locs cells slots A Z lsA C E hP hS hl
  subst hu
  obtain ⟨q, hq⟩ := List.getElem?_of_mem (List.mem_map.mpr ⟨(j, vI x), ev_lk_mem hk, rfl⟩ : ev_cl b (j, vI x) ∈ ls.map (ev_cl b))
  exact lv_iinc C.1 C.2.1 hd hl hq rfl hn rfl (fun l2 hl2 => k p l e s m args below meth c H locs cells slots A Z l2 C E hP hS (ev_has_s1 (v := vI (x + n)) C.2.2.2.2.2.2.2.1.2.2.2.1 (by rw [← Int32.ofInt_add] at hl2; exact hl2)))
theorem ev_iadd {x z : Int} (hd : decode y.2.1 pc = .ok (.iadd, 1)) (k : Ev b y (pc + 1) ls (vI (x + z) :: st) σ Q) : Ev b y pc ls (vI z :: vI x :: st) σ Q := by
  intro p l e s m args below meth c H locs cells slots A Z lsA C E hP hS hl
  refine lv_iadd C.1 C.2.1 hd ?_
  rw [← Int32.ofInt_add]
  exact k p l e s m args below meth c H locs cells slots A Z lsA C E hP hS hl
theorem ev_isub {x z : Int} (hd : decode y.2.1 pc = .ok (.isub, 1)) (k : Ev b y (pc + 1) ls (vI (x - z) :: st) σ Q) : Ev b y pc ls (vI z :: vI x :: st) σ Q := by
  intro p l e s m args below meth c H locs cells slots A Z lsA C E hP hS hl
  refine lv_isub C.1 C.2.1 hd ?_
  rw [← Int32.ofInt_sub]
  exact k p l e s m args below meth c H locs cells slots A Z lsA C E hP hS hl
theorem ev_imul {x z : Int} (hd : decode y.2.1 pc = .ok (.imul, 1)) (k : Ev b y (pc + 1) ls (vI (x * z) :: st) σ Q) : Ev b y pc ls (vI z :: vI x :: st) σ Q := by
  intro p l e s m args below meth c H locs cells slots A Z lsA C E hP hS hl
  refine lv_imul C.1 C.2.1 hd ?_
  rw [← Int32.ofInt_mul]
  exact k p l e s m args below meth c H locs cells slots A Z lsA C E hP hS hl
theorem ev_ineg {x : Int} (hd : decode y.2.1 pc = .ok (.ineg, 1)) (k : Ev b y (pc + 1) ls (vI (-x) :: st) σ Q) : Ev b y pc ls (vI x :: st) σ Q := by
  intro p l e s m args below meth c H locs cells slots A Z lsA C E hP hS hl
  refine lv_ineg C.1 C.2.1 hd ?_
  rw [← Int32.ofInt_neg]
  exact k p l e s m args below meth c H locs cells slots A Z lsA C E hP hS hl
theorem ev_ladd {x z : Int} (hd : decode y.2.1 pc = .ok (.ladd, 1)) (k : Ev b y (pc + 1) ls (vL (x + z) :: st) σ Q) : Ev b y pc ls (vL z :: vL x :: st) σ Q := by
  intro p l e s m args below meth c H locs cells slots A Z lsA C E hP hS hl
  refine lv_ladd C.1 C.2.1 hd ?_
  rw [← Int64.ofInt_add]
  exact k p l e s m args below meth c H locs cells slots A Z lsA C E hP hS hl
theorem ev_lmul {x z : Int} (hd : decode y.2.1 pc = .ok (.lmul, 1)) (k : Ev b y (pc + 1) ls (vL (x * z) :: st) σ Q) : Ev b y pc ls (vL z :: vL x :: st) σ Q := by
  intro p l e s m args below meth c H locs cells slots A Z lsA C E hP hS hl
  refine lv_lmul C.1 C.2.1 hd ?_
  rw [← Int64.ofInt_mul]
  exact k p l e s m args below meth c H locs cells slots A Z lsA C E hP hS hl
theorem ev_i2l {x : Int} (hd : decode y.2.1 pc = .ok (.i2l, 1)) (hx : -2147483648 ≤ x ∧ x < 2147483648) (k : Ev b y (pc + 1) ls (vL x :: st) σ Q) : Ev b y pc ls (vI x :: st) σ Q := by
  intro p l e s m args below meth c H locs cells slots A Z lsA C E hP hS hl
  refine lv_i2l (v := Int64.ofInt x) C.1 C.2.1 hd ?_ (k p l e s m args below meth c H locs cells slots A Z lsA C E hP hS hl)
  rw [← Int64.toInt_inj, Int32.toInt_toInt64, ev_ti hx, ev_tl (by omega)]
theorem ev_l2i {x : Int} (hd : decode y.2.1 pc = .ok (.l2i, 1)) (k : Ev b y (pc + 1) ls (vI x :: st) σ Q) : Ev b y pc ls (vL x :: st) σ Q := by
  intro p l e s m args below meth c H locs cells slots A Z lsA C E hP hS hl
  refine lv_l2i (v := Int32.ofInt x) C.1 C.2.1 hd ?_ (k p l e s m args below meth c H locs cells slots A Z lsA C E hP hS hl)
  exact Int64.toInt32_ofInt
theorem ev_dup {v : ev_V} (hd : decode y.2.1 pc = .ok (.dup, 1)) (hv : ev_c2 v = false) (k : Ev b y (pc + 1) ls (v :: v :: st) σ Q) : Ev b y pc ls (v :: st) σ Q := by
  intro p l e s m args below meth c H locs cells slots A Z lsA C E hP hS hl
  exact lv_dup C.1 C.2.1 hd (by rw [ev_cat C.2.2.2.2.2.2.2.1.2.2.2.1, hv]; rfl) (k p l e s m args below meth c H locs cells slots A Z lsA C E hP hS hl)
theorem ev_pop {v : ev_V} (hd : decode y.2.1 pc = .ok (.pop, 1)) (hv : ev_c2 v = false) (k : Ev b y (pc + 1) ls st σ Q) : Ev b y pc ls (v :: st) σ Q := by
  intro p l e s m args below meth c H locs cells slots A Z lsA C E hP hS hl
  exact lv_pop C.1 C.2.1 hd (by rw [ev_cat C.2.2.2.2.2.2.2.1.2.2.2.1, hv]; rfl) (k p l e s m args below meth c H locs cells slots A Z lsA C E hP hS hl)
theorem ev_dup2 {v w : ev_V} (hd : decode y.2.1 pc = .ok (.dup2, 1)) (hv : ev_c2 v = false) (hw : ev_c2 w = false) (k : Ev b y (pc + 1) ls (v :: w :: v :: w :: st) σ Q) : Ev b y pc ls (v :: w :: st) σ Q := by
  intro p l e s m args below meth c H locs cells slots A Z lsA C E hP hS hl
  exact lv_dup2_11 C.1 C.2.1 hd (by rw [ev_cat C.2.2.2.2.2.2.2.1.2.2.2.1, hv]; rfl) (by rw [ev_cat C.2.2.2.2.2.2.2.1.2.2.2.1, hw]; rfl) (k p l e s m args below meth c H locs cells slots A Z lsA C E hP hS hl)
theorem ev_goto {off : Int} {tgt : Nat} (hd : decode y.2.1 pc = .ok (.goto off, 3)) (ht : (pc : Int) + off = (tgt : Int)) (k : Ev b y tgt ls st σ Q) : Ev b y pc ls st σ Q := by
  intro p l e s m args below meth c H locs cells slots A Z lsA C E hP hS hl
  exact lv_goto C.1 C.2.1 hd ht (k p l e s m args below meth c H locs cells slots A Z lsA C E hP hS hl)
theorem ev_icmp_eq {x z : Int} {off : Int} {tgt : Nat} (hd : decode y.2.1 pc = .ok (.if_icmp .eq off, 3)) (ht : (pc : Int) + off = (tgt : Int)) (hx : -2147483648 ≤ x ∧ x < 2147483648) (hz : -2147483648 ≤ z ∧ z < 2147483648) (kt : x = z → Ev b y tgt ls st σ Q) (kf : ¬ x = z → Ev b y (pc + 3) ls st σ Q) : Ev b y pc ls (vI z :: vI x :: st) σ Q := by
  intro p l e s m args below meth c H locs cells slots A Z lsA C E hP hS hl
  exact lv_icmp_eq C.1 C.2.1 hd ht (fun q => kt ((ev_eq hx hz).mp q) p l e s m args below meth c H locs cells slots A Z lsA C E hP hS hl) (fun q => kf (fun w => q ((ev_eq hx hz).mpr w)) p l e s m args below meth c H locs cells slots A Z lsA C E hP hS hl)
theorem ev_if_eq {x : Int} {off : Int} {tgt : Nat} (hd : decode y.2.1 pc = .ok (.ifCond .eq off, 3)) (ht : (pc : Int) + off = (tgt : Int)) (hx : -2147483648 ≤ x ∧ x < 2147483648) (kt : x = 0 → Ev b y tgt ls st σ Q) (kf : ¬ x = 0 → Ev b y (pc + 3) ls st σ Q) : Ev b y pc ls (vI x :: st) σ Q := by
  intro p l e s m args below meth c H locs cells slots A Z lsA C E hP hS hl
  have hz : -2147483648 ≤ (0 : Int) ∧ (0 : Int) < 2147483648 := by decide
  exact lv_if_eq C.1 C.2.1 hd ht (fun q => kt ((ev_eq hx hz).mp q) p l e s m args below meth c H locs cells slots A Z lsA C E hP hS hl) (fun q => kf (fun w => q ((ev_eq hx hz).mpr w)) p l e s m args below meth c H locs cells slots A Z lsA C E hP hS hl)
theorem ev_icmp_ne {x z : Int} {off : Int} {tgt : Nat} (hd : decode y.2.1 pc = .ok (.if_icmp .ne off, 3)) (ht : (pc : Int) + off = (tgt : Int)) (hx : -2147483648 ≤ x ∧ x < 2147483648) (hz : -2147483648 ≤ z ∧ z < 2147483648) (kt : ¬ x = z → Ev b y tgt ls st σ Q) (kf : x = z → Ev b y (pc + 3) ls st σ Q) : Ev b y pc ls (vI z :: vI x :: st) σ Q := by
  intro p l e s m args below meth c H locs cells slots A Z lsA C E hP hS hl
  exact lv_icmp_ne C.1 C.2.1 hd ht (fun q => kt (fun w => q ((ev_eq hx hz).mpr w)) p l e s m args below meth c H locs cells slots A Z lsA C E hP hS hl) (fun q => kf ((ev_eq hx hz).mp q) p l e s m args below meth c H locs cells slots A Z lsA C E hP hS hl)
theorem ev_if_ne {x : Int} {off : Int} {tgt : Nat} (hd : decode y.2.1 pc = .ok (.ifCond .ne off, 3)) (ht : (pc : Int) + off = (tgt : Int)) (hx : -2147483648 ≤ x ∧ x < 2147483648) (kt : ¬ x = 0 → Ev b y tgt ls st σ Q) (kf : x = 0 → Ev b y (pc + 3) ls st σ Q) : Ev b y pc ls (vI x :: st) σ Q := by
  intro p l e s m args below meth c H locs cells slots A Z lsA C E hP hS hl
  have hz : -2147483648 ≤ (0 : Int) ∧ (0 : Int) < 2147483648 := by decide
  exact lv_if_ne C.1 C.2.1 hd ht (fun q => kt (fun w => q ((ev_eq hx hz).mpr w)) p l e s m args below meth c H locs cells slots A Z lsA C E hP hS hl) (fun q => kf ((ev_eq hx hz).mp q) p l e s m args below meth c H locs cells slots A Z lsA C E hP hS hl)
theorem ev_icmp_lt {x z : Int} {off : Int} {tgt : Nat} (hd : decode y.2.1 pc = .ok (.if_icmp .lt off, 3)) (ht : (pc : Int) + off = (tgt : Int)) (hx : -2147483648 ≤ x ∧ x < 2147483648) (hz : -2147483648 ≤ z ∧ z < 2147483648) (kt : x < z → Ev b y tgt ls st σ Q) (kf : ¬ x < z → Ev b y (pc + 3) ls st σ Q) : Ev b y pc ls (vI z :: vI x :: st) σ Q := by
  intro p l e s m args below meth c H locs cells slots A Z lsA C E hP hS hl
  exact lv_icmp_lt C.1 C.2.1 hd ht (fun q => kt ((ev_lt hx hz).mp q) p l e s m args below meth c H locs cells slots A Z lsA C E hP hS hl) (fun q => kf (fun w => q ((ev_lt hx hz).mpr w)) p l e s m args below meth c H locs cells slots A Z lsA C E hP hS hl)
theorem ev_if_lt {x : Int} {off : Int} {tgt : Nat} (hd : decode y.2.1 pc = .ok (.ifCond .lt off, 3)) (ht : (pc : Int) + off = (tgt : Int)) (hx : -2147483648 ≤ x ∧ x < 2147483648) (kt : x < 0 → Ev b y tgt ls st σ Q) (kf : ¬ x < 0 → Ev b y (pc + 3) ls st σ Q) : Ev b y pc ls (vI x :: st) σ Q := by
  intro p l e s m args below meth c H locs cells slots A Z lsA C E hP hS hl
  have hz : -2147483648 ≤ (0 : Int) ∧ (0 : Int) < 2147483648 := by decide
  exact lv_if_lt C.1 C.2.1 hd ht (fun q => kt ((ev_lt hx hz).mp q) p l e s m args below meth c H locs cells slots A Z lsA C E hP hS hl) (fun q => kf (fun w => q ((ev_lt hx hz).mpr w)) p l e s m args below meth c H locs cells slots A Z lsA C E hP hS hl)
theorem ev_icmp_ge {x z : Int} {off : Int} {tgt : Nat} (hd : decode y.2.1 pc = .ok (.if_icmp .ge off, 3)) (ht : (pc : Int) + off = (tgt : Int)) (hx : -2147483648 ≤ x ∧ x < 2147483648) (hz : -2147483648 ≤ z ∧ z < 2147483648) (kt : z ≤ x → Ev b y tgt ls st σ Q) (kf : ¬ z ≤ x → Ev b y (pc + 3) ls st σ Q) : Ev b y pc ls (vI z :: vI x :: st) σ Q := by
  intro p l e s m args below meth c H locs cells slots A Z lsA C E hP hS hl
  exact lv_icmp_ge C.1 C.2.1 hd ht (fun q => kt ((ev_le hz hx).mp q) p l e s m args below meth c H locs cells slots A Z lsA C E hP hS hl) (fun q => kf (fun w => q ((ev_le hz hx).mpr w)) p l e s m args below meth c H locs cells slots A Z lsA C E hP hS hl)
theorem ev_if_ge {x : Int} {off : Int} {tgt : Nat} (hd : decode y.2.1 pc = .ok (.ifCond .ge off, 3)) (ht : (pc : Int) + off = (tgt : Int)) (hx : -2147483648 ≤ x ∧ x < 2147483648) (kt : 0 ≤ x → Ev b y tgt ls st σ Q) (kf : ¬ 0 ≤ x → Ev b y (pc + 3) ls st σ Q) : Ev b y pc ls (vI x :: st) σ Q := by
  intro p l e s m args below meth c H locs cells slots A Z lsA C E hP hS hl
  have hz : -2147483648 ≤ (0 : Int) ∧ (0 : Int) < 2147483648 := by decide
  exact lv_if_ge C.1 C.2.1 hd ht (fun q => kt ((ev_le hz hx).mp q) p l e s m args below meth c H locs cells slots A Z lsA C E hP hS hl) (fun q => kf (fun w => q ((ev_le hz hx).mpr w)) p l e s m args below meth c H locs cells slots A Z lsA C E hP hS hl)
theorem ev_icmp_gt {x z : Int} {off : Int} {tgt : Nat} (hd : decode y.2.1 pc = .ok (.if_icmp .gt off, 3)) (ht : (pc : Int) + off = (tgt : Int)) (hx : -2147483648 ≤ x ∧ x < 2147483648) (hz : -2147483648 ≤ z ∧ z < 2147483648) (kt : z < x → Ev b y tgt ls st σ Q) (kf : ¬ z < x → Ev b y (pc + 3) ls st σ Q) : Ev b y pc ls (vI z :: vI x :: st) σ Q := by
  intro p l e s m args below meth c H locs cells slots A Z lsA C E hP hS hl
  exact lv_icmp_gt C.1 C.2.1 hd ht (fun q => kt ((ev_lt hz hx).mp q) p l e s m args below meth c H locs cells slots A Z lsA C E hP hS hl) (fun q => kf (fun w => q ((ev_lt hz hx).mpr w)) p l e s m args below meth c H locs cells slots A Z lsA C E hP hS hl)
theorem ev_if_gt {x : Int} {off : Int} {tgt : Nat} (hd : decode y.2.1 pc = .ok (.ifCond .gt off, 3)) (ht : (pc : Int) + off = (tgt : Int)) (hx : -2147483648 ≤ x ∧ x < 2147483648) (kt : 0 < x → Ev b y tgt ls st σ Q) (kf : ¬ 0 < x → Ev b y (pc + 3) ls st σ Q) : Ev b y pc ls (vI x :: st) σ Q := by
  intro p l e s m args below meth c H locs cells slots A Z lsA C E hP hS hl
  have hz : -2147483648 ≤ (0 : Int) ∧ (0 : Int) < 2147483648 := by decide
  exact lv_if_gt C.1 C.2.1 hd ht (fun q => kt ((ev_lt hz hx).mp q) p l e s m args below meth c H locs cells slots A Z lsA C E hP hS hl) (fun q => kf (fun w => q ((ev_lt hz hx).mpr w)) p l e s m args below meth c H locs cells slots A Z lsA C E hP hS hl)
theorem ev_icmp_le {x z : Int} {off : Int} {tgt : Nat} (hd : decode y.2.1 pc = .ok (.if_icmp .le off, 3)) (ht : (pc : Int) + off = (tgt : Int)) (hx : -2147483648 ≤ x ∧ x < 2147483648) (hz : -2147483648 ≤ z ∧ z < 2147483648) (kt : x ≤ z → Ev b y tgt ls st σ Q) (kf : ¬ x ≤ z → Ev b y (pc + 3) ls st σ Q) : Ev b y pc ls (vI z :: vI x :: st) σ Q := by
  intro p l e s m args below meth c H locs cells slots A Z lsA C E hP hS hl
  exact lv_icmp_le C.1 C.2.1 hd ht (fun q => kt ((ev_le hx hz).mp q) p l e s m args below meth c H locs cells slots A Z lsA C E hP hS hl) (fun q => kf (fun w => q ((ev_le hx hz).mpr w)) p l e s m args below meth c H locs cells slots A Z lsA C E hP hS hl)
theorem ev_if_le {x : Int} {off : Int} {tgt : Nat} (hd : decode y.2.1 pc = .ok (.ifCond .le off, 3)) (ht : (pc : Int) + off = (tgt : Int)) (hx : -2147483648 ≤ x ∧ x < 2147483648) (kt : x ≤ 0 → Ev b y tgt ls st σ Q) (kf : ¬ x ≤ 0 → Ev b y (pc + 3) ls st σ Q) : Ev b y pc ls (vI x :: st) σ Q := by
  intro p l e s m args below meth c H locs cells slots A Z lsA C E hP hS hl
  have hz : -2147483648 ≤ (0 : Int) ∧ (0 : Int) < 2147483648 := by decide
  exact lv_if_le C.1 C.2.1 hd ht (fun q => kt ((ev_le hx hz).mp q) p l e s m args below meth c H locs cells slots A Z lsA C E hP hS hl) (fun q => kf (fun w => q ((ev_le hx hz).mpr w)) p l e s m args below meth c H locs cells slots A Z lsA C E hP hS hl)
theorem ev_tableOut {dflt lo hi : Int} {offs : Array Int} {len : Nat} {x : Int} {tgt : Nat} (hd : decode y.2.1 pc = .ok (.tableswitch dflt lo hi offs, len)) (hx : -2147483648 ≤ x ∧ x < 2147483648) (h : x < lo ∨ hi < x) (ht : (pc : Int) + dflt = (tgt : Int)) (k : Ev b y tgt ls st σ Q) : Ev b y pc ls (vI x :: st) σ Q := by
  intro p l e s m args below meth c H locs cells slots A Z lsA C E hP hS hl
  exact lv_tableOut C.1 C.2.1 hd (by rw [ev_ti hx]; exact h) ht (k p l e s m args below meth c H locs cells slots A Z lsA C E hP hS hl)
theorem ev_tableIn {dflt lo hi : Int} {offs : Array Int} {len : Nat} {x off : Int} {tgt : Nat} (hd : decode y.2.1 pc = .ok (.tableswitch dflt lo hi offs, len)) (hx : -2147483648 ≤ x ∧ x < 2147483648) (h1 : ¬ x < lo) (h2 : ¬ hi < x) (ho : offs[(x - lo).toNat]? = some off) (ht : (pc : Int) + off = (tgt : Int)) (k : Ev b y tgt ls st σ Q) : Ev b y pc ls (vI x :: st) σ Q := by
  intro p l e s m args below meth c H locs cells slots A Z lsA C E hP hS hl
  exact lv_tableIn C.1 C.2.1 hd (by rw [ev_ti hx]; exact h1) (by rw [ev_ti hx]; exact h2) (by rw [ev_ti hx]; exact ho) ht (k p l e s m args below meth c H locs cells slots A Z lsA C E hP hS hl)
theorem ev_lookup {dflt : Int} {ps : Array (Int × Int)} {len : Nat} {x off : Int} {tgt : Nat} (hd : decode y.2.1 pc = .ok (.lookupswitch dflt ps, len)) (hp : (ps.toList.zip (ps.toList.drop 1)).all (fun (a, next) => a.1 < next.1) = true) (hx : -2147483648 ≤ x ∧ x < 2147483648) (ho : Op.lookupswitch.offset ps.toList dflt x = off) (ht : (pc : Int) + off = (tgt : Int)) (k : Ev b y tgt ls st σ Q) : Ev b y pc ls (vI x :: st) σ Q := by
  intro p l e s m args below meth c H locs cells slots A Z lsA C E hP hS hl
  exact lv_lookup C.1 C.2.1 hd hp (by rw [ev_ti hx]; exact ho) ht (k p l e s m args below meth c H locs cells slots A Z lsA C E hP hS hl)
end EVR
end
section
/-! numbers, fields, arrays -/
def cmpI (x z : Int) : Int := if z < x then 1 else if x = z then 0 else -1
theorem cmpI_in (x z : Int) : -2147483648 ≤ cmpI x z ∧ cmpI x z < 2147483648 := by
  unfold cmpI; split
  · decide
  · split <;> decide
theorem ev_cmp {x z : Int} (hx : -9223372036854775808 ≤ x ∧ x < 9223372036854775808) (hz : -9223372036854775808 ≤ z ∧ z < 9223372036854775808) : lg_cmp (Int64.ofInt x) (Int64.ofInt z) = Int32.ofInt (cmpI x z) := by
  have h1 : (Int64.ofInt x > Int64.ofInt z) ↔ z < x := by
    show Int64.ofInt z < Int64.ofInt x ↔ _
    rw [Int64.lt_iff_toInt_lt, ev_tl hx, ev_tl hz]
  have h2 : (Int64.ofInt x = Int64.ofInt z) ↔ x = z := by
    rw [← Int64.toInt_inj, ev_tl hx, ev_tl hz]
  unfold lg_cmp cmpI
  by_cases a : z < x
  · rw [if_pos (h1.mpr a), if_pos a]; rfl
  · rw [if_neg (fun q => a (h1.mp q)), if_neg a]
    by_cases c : x = z
    · rw [if_pos (h2.mpr c), if_pos c]; rfl
    · rw [if_neg (fun q => c (h2.mp q)), if_neg c]; rfl
theorem ev_dv {x z : Int} (hx : 0 ≤ x ∧ x < 2147483648) (hz : 0 < z ∧ z < 2147483648) : Int32.ofInt x / Int32.ofInt z = Int32.ofInt (x / z) := by
  have h0 : 0 ≤ x / z := Int.ediv_nonneg hx.1 (by omega)
  have h1 : x / z ≤ x := Int.ediv_le_self z hx.1
  rw [← Int32.toInt_inj, Int32.toInt_div, ev_ti (by omega), ev_ti (by omega), ev_ti (by omega), Int.tdiv_eq_ediv_of_nonneg hx.1, Int.bmod_def]
  split <;> omega
theorem ev_rm {x z : Int} (hx : 0 ≤ x ∧ x < 2147483648) (hz : 0 < z ∧ z < 2147483648) : Int32.ofInt x - Int32.ofInt x / Int32.ofInt z * Int32.ofInt z = Int32.ofInt (x % z) := by
  rw [ev_dv hx hz, ← Int32.ofInt_mul, ← Int32.ofInt_sub]
  congr 1
  have := Int.mul_ediv_add_emod x z
  rw [Int.mul_comm]
  omega
theorem ev_ne0 {z : Int} (hz : 0 < z ∧ z < 2147483648) : ¬ Int32.ofInt z = 0 := by
  rw [show (0 : Int32) = Int32.ofInt 0 from rfl, ev_eq (by omega) (by omega)]; omega
section EVS
variable {b : ev_B} {y : ev_Y} {pc : Nat} {ls : List (Nat × ev_V)} {st : List ev_V} {σ : ev_M} {Q : Option ev_V → ev_M → Prop}
theorem ev_idiv {x z : Int} (hd : decode y.2.1 pc = .ok (.idiv, 1)) (hx : 0 ≤ x ∧ x < 2147483648) (hz : 0 < z ∧ z < 2147483648) (k : Ev b y (pc + 1) ls (vI (x / z) :: st) σ Q) : Ev b y pc ls (vI z :: vI x :: st) σ Q := by
  intro p l e s m args below meth c H locs cells slots A Z lsA C E hP hS hl
  refine lv_idiv C.1 C.2.1 hd (ev_ne0 hz) ?_
  rw [ev_dv hx hz]
  exact k p l e s m args below meth c H locs cells slots A Z lsA C E hP hS hl
theorem ev_irem {x z : Int} (hd : decode y.2.1 pc = .ok (.irem, 1)) (hx : 0 ≤ x ∧ x < 2147483648) (hz : 0 < z ∧ z < 2147483648) (k : Ev b y (pc + 1) ls (vI (x % z) :: st) σ Q) : Ev b y pc ls (vI z :: vI x :: st) σ Q := by
  intro p l e s m args below meth c H locs cells slots A Z lsA C E hP hS hl
  refine lv_irem C.1 C.2.1 hd (ev_ne0 hz) ?_
  rw [ev_rm hx hz]
  exact k p l e s m args below meth c H locs cells slots A Z lsA C E hP hS hl
theorem ev_iand {x z w : Int} (hd : decode y.2.1 pc = .ok (.iand, 1)) (hw : Int32.ofInt x &&& Int32.ofInt z = Int32.ofInt w) (k : Ev b y (pc + 1) ls (vI w :: st) σ Q) : Ev b y pc ls (vI z :: vI x :: st) σ Q := by
  intro p l e s m args below meth c H locs cells slots A Z lsA C E hP hS hl
  refine lv_iand C.1 C.2.1 hd ?_
  rw [hw]
  exact k p l e s m args below meth c H locs cells slots A Z lsA C E hP hS hl
theorem ev_ior {x z w : Int} (hd : decode y.2.1 pc = .ok (.ior, 1)) (hw : Int32.ofInt x ||| Int32.ofInt z = Int32.ofInt w) (k : Ev b y (pc + 1) ls (vI w :: st) σ Q) : Ev b y pc ls (vI z :: vI x :: st) σ Q := by
  intro p l e s m args below meth c H locs cells slots A Z lsA C E hP hS hl
  refine lv_ior C.1 C.2.1 hd ?_
  rw [hw]
  exact k p l e s m args below meth c H locs cells slots A Z lsA C E hP hS hl
theorem ev_ixor {x z w : Int} (hd : decode y.2.1 pc = .ok (.ixor, 1)) (hw : Int32.ofInt x ^^^ Int32.ofInt z = Int32.ofInt w) (k : Ev b y (pc + 1) ls (vI w :: st) σ Q) : Ev b y pc ls (vI z :: vI x :: st) σ Q := by
  intro p l e s m args below meth c H locs cells slots A Z lsA C E hP hS hl
  refine lv_ixor C.1 C.2.1 hd ?_
  rw [hw]
  exact k p l e s m args below meth c H locs cells slots A Z lsA C E hP hS hl
theorem ev_ishl {x z w : Int} (hd : decode y.2.1 pc = .ok (.ishl, 1)) (hw : Int32.ofInt x <<< (Int32.ofInt z &&& 31) = Int32.ofInt w) (k : Ev b y (pc + 1) ls (vI w :: st) σ Q) : Ev b y pc ls (vI z :: vI x :: st) σ Q := by
  intro p l e s m args below meth c H locs cells slots A Z lsA C E hP hS hl
  refine lv_ishl C.1 C.2.1 hd ?_
  rw [hw]
  exact k p l e s m args below meth c H locs cells slots A Z lsA C E hP hS hl
theorem ev_ishr {x z w : Int} (hd : decode y.2.1 pc = .ok (.ishr, 1)) (hw : Int32.ofInt x >>> (Int32.ofInt z &&& 31) = Int32.ofInt w) (k : Ev b y (pc + 1) ls (vI w :: st) σ Q) : Ev b y pc ls (vI z :: vI x :: st) σ Q := by
  intro p l e s m args below meth c H locs cells slots A Z lsA C E hP hS hl
  refine lv_ishr C.1 C.2.1 hd ?_
  rw [hw]
  exact k p l e s m args below meth c H locs cells slots A Z lsA C E hP hS hl
theorem ev_iushr {x z w : Int} (hd : decode y.2.1 pc = .ok (.iushr, 1)) (hw : ((Int32.ofInt x).toUInt32 >>> ((Int32.ofInt z).toUInt32 &&& Int32.toUInt32 31)).toInt32 = Int32.ofInt w) (k : Ev b y (pc + 1) ls (vI w :: st) σ Q) : Ev b y pc ls (vI z :: vI x :: st) σ Q := by
  intro p l e s m args below meth c H locs cells slots A Z lsA C E hP hS hl
  exact lv_iushr C.1 C.2.1 hd hw (k p l e s m args below meth c H locs cells slots A Z lsA C E hP hS hl)
theorem ev_lshl {x z w : Int} (hd : decode y.2.1 pc = .ok (.lshl, 1)) (hw : Int64.ofInt x <<< ((Int32.ofInt z).toInt64 &&& 63) = Int64.ofInt w) (k : Ev b y (pc + 1) ls (vL w :: st) σ Q) : Ev b y pc ls (vI z :: vL x :: st) σ Q := by
  intro p l e s m args below meth c H locs cells slots A Z lsA C E hP hS hl
  exact lv_lshl C.1 C.2.1 hd hw (k p l e s m args below meth c H locs cells slots A Z lsA C E hP hS hl)
theorem ev_land {x z w : Int} (hd : decode y.2.1 pc = .ok (.land, 1)) (hw : Int64.ofInt x &&& Int64.ofInt z = Int64.ofInt w) (k : Ev b y (pc + 1) ls (vL w :: st) σ Q) : Ev b y pc ls (vL z :: vL x :: st) σ Q := by
  intro p l e s m args below meth c H locs cells slots A Z lsA C E hP hS hl
  refine lv_land C.1 C.2.1 hd ?_
  rw [hw]
  exact k p l e s m args below meth c H locs cells slots A Z lsA C E hP hS hl
theorem ev_lor {x z w : Int} (hd : decode y.2.1 pc = .ok (.lor, 1)) (hw : Int64.ofInt x ||| Int64.ofInt z = Int64.ofInt w) (k : Ev b y (pc + 1) ls (vL w :: st) σ Q) : Ev b y pc ls (vL z :: vL x :: st) σ Q := by
  intro p l e s m args below meth c H locs cells slots A Z lsA C E hP hS hl
  refine lv_lor C.1 C.2.1 hd ?_
  rw [hw]
  exact k p l e s m args below meth c H locs cells slots A Z lsA C E hP hS hl
theorem ev_i2b {x w : Int} (hd : decode y.2.1 pc = .ok (.i2b, 1)) (hw : (Int32.ofInt x).toInt8.toInt32 = Int32.ofInt w) (k : Ev b y (pc + 1) ls (vI w :: st) σ Q) : Ev b y pc ls (vI x :: st) σ Q := by
  intro p l e s m args below meth c H locs cells slots A Z lsA C E hP hS hl
  exact lv_i2b C.1 C.2.1 hd hw (k p l e s m args below meth c H locs cells slots A Z lsA C E hP hS hl)
theorem ev_i2s {x w : Int} (hd : decode y.2.1 pc = .ok (.i2s, 1)) (hw : (Int32.ofInt x).toInt16.toInt32 = Int32.ofInt w) (k : Ev b y (pc + 1) ls (vI w :: st) σ Q) : Ev b y pc ls (vI x :: st) σ Q := by
  intro p l e s m args below meth c H locs cells slots A Z lsA C E hP hS hl
  exact lv_i2s C.1 C.2.1 hd hw (k p l e s m args below meth c H locs cells slots A Z lsA C E hP hS hl)
theorem ev_i2c {x w : Int} (hd : decode y.2.1 pc = .ok (.i2c, 1)) (hw : ((Int32.ofInt x).toUInt32 % 65536).toInt32 = Int32.ofInt w) (k : Ev b y (pc + 1) ls (vI w :: st) σ Q) : Ev b y pc ls (vI x :: st) σ Q := by
  intro p l e s m args below meth c H locs cells slots A Z lsA C E hP hS hl
  exact lv_i2c C.1 C.2.1 hd hw (k p l e s m args below meth c H locs cells slots A Z lsA C E hP hS hl)
theorem ev_lcmp {x z : Int} (hd : decode y.2.1 pc = .ok (.lcmp, 1)) (hx : -9223372036854775808 ≤ x ∧ x < 9223372036854775808) (hz : -9223372036854775808 ≤ z ∧ z < 9223372036854775808) (k : Ev b y (pc + 1) ls (vI (cmpI x z) :: st) σ Q) : Ev b y pc ls (vL z :: vL x :: st) σ Q := by
  intro p l e s m args below meth c H locs cells slots A Z lsA C E hP hS hl
  refine W.lcmp C.1 C.2.1 hd ?_
  rw [ev_cmp hx hz]
  exact k p l e s m args below meth c H locs cells slots A Z lsA C E hP hS hl
theorem ev_lc_eq {x z : Int} {off : Int} {tgt : Nat} (hd : decode y.2.1 pc = .ok (.lcmp, 1)) (hd2 : decode y.2.1 (pc + 1) = .ok (.ifCond .eq off, 3)) (ht : ((pc + 1 : Nat) : Int) + off = (tgt : Int)) (hx : -9223372036854775808 ≤ x ∧ x < 9223372036854775808) (hz : -9223372036854775808 ≤ z ∧ z < 9223372036854775808) (kt : x = z → Ev b y tgt ls st σ Q) (kf : ¬ x = z → Ev b y (pc + 1 + 3) ls st σ Q) : Ev b y pc ls (vL z :: vL x :: st) σ Q :=
  ev_lcmp hd hx hz (ev_if_eq hd2 ht (cmpI_in x z) (fun q => kt (by unfold cmpI at q; split at q <;> first | omega | (split at q <;> omega))) (fun q => kf (by unfold cmpI at q; split at q <;> first | omega | (split at q <;> omega))))
theorem ev_lc_ne {x z : Int} {off : Int} {tgt : Nat} (hd : decode y.2.1 pc = .ok (.lcmp, 1)) (hd2 : decode y.2.1 (pc + 1) = .ok (.ifCond .ne off, 3)) (ht : ((pc + 1 : Nat) : Int) + off = (tgt : Int)) (hx : -9223372036854775808 ≤ x ∧ x < 9223372036854775808) (hz : -9223372036854775808 ≤ z ∧ z < 9223372036854775808) (kt : ¬ x = z → Ev b y tgt ls st σ Q) (kf : x = z → Ev b y (pc + 1 + 3) ls st σ Q) : Ev b y pc ls (vL z :: vL x :: st) σ Q :=
  ev_lcmp hd hx hz (ev_if_ne hd2 ht (cmpI_in x z) (fun q => kt (by unfold cmpI at q; split at q <;> first | omega | (split at q <;> omega))) (fun q => kf (by unfold cmpI at q; split at q <;> first | omega | (split at q <;> omega))))
theorem ev_lc_lt {x z : Int} {off : Int} {tgt : Nat} (hd : decode y.2.1 pc = .ok (.lcmp, 1)) (hd2 : decode y.2.1 (pc + 1) = .ok (.ifCond .lt off, 3)) (ht : ((pc + 1 : Nat) : Int) + off = (tgt : Int)) (hx : -9223372036854775808 ≤ x ∧ x < 9223372036854775808) (hz : -9223372036854775808 ≤ z ∧ z < 9223372036854775808) (kt : x < z → Ev b y tgt ls st σ Q) (kf : ¬ x < z → Ev b y (pc + 1 + 3) ls st σ Q) : Ev b y pc ls (vL z :: vL x :: st) σ Q :=
  ev_lcmp hd hx hz (ev_if_lt hd2 ht (cmpI_in x z) (fun q => kt (by unfold cmpI at q; split at q <;> first | omega | (split at q <;> omega))) (fun q => kf (by unfold cmpI at q; split at q <;> first | omega | (split at q <;> omega))))
theorem ev_lc_ge {x z : Int} {off : Int} {tgt : Nat} (hd : decode y.2.1 pc = .ok (.lcmp, 1)) (hd2 : decode y.2.1 (pc + 1) = .ok (.ifCond .ge off, 3)) (ht : ((pc + 1 : Nat) : Int) + off = (tgt : Int)) (hx : -9223372036854775808 ≤ x ∧ x < 9223372036854775808) (hz : -9223372036854775808 ≤ z ∧ z < 9223372036854775808) (kt : z ≤ x → Ev b y tgt ls st σ Q) (kf : ¬ z ≤ x → Ev b y (pc + 1 + 3) ls st σ Q) : Ev b y pc ls (vL z :: vL x :: st) σ Q :=
  ev_lcmp hd hx hz (ev_if_ge hd2 ht (cmpI_in x z) (fun q => kt (by unfold cmpI at q; split at q <;> first | omega | (split at q <;> omega))) (fun q => kf (by unfold cmpI at q; split at q <;> first | omega | (split at q <;> omega))))
theorem ev_lc_gt {x z : Int} {off : Int} {tgt : Nat} (hd : decode y.2.1 pc = .ok (.lcmp, 1)) (hd2 : decode y.2.1 (pc + 1) = .ok (.ifCond .gt off, 3)) (ht : ((pc + 1 : Nat) : Int) + off = (tgt : Int)) (hx : -9223372036854775808 ≤ x ∧ x < 9223372036854775808) (hz : -9223372036854775808 ≤ z ∧ z < 9223372036854775808) (kt : z < x → Ev b y tgt ls st σ Q) (kf : ¬ z < x → Ev b y (pc + 1 + 3) ls st σ Q) : Ev b y pc ls (vL z :: vL x :: st) σ Q :=
  ev_lcmp hd hx hz (ev_if_gt hd2 ht (cmpI_in x z) (fun q => kt (by unfold cmpI at q; split at q <;> first | omega | (split at q <;> omega))) (fun q => kf (by unfold cmpI at q; split at q <;> first | omega | (split at q <;> omega))))
theorem ev_lc_le {x z : Int} {off : Int} {tgt : Nat} (hd : decode y.2.1 pc = .ok (.lcmp, 1)) (hd2 : decode y.2.1 (pc + 1) = .ok (.ifCond .le off, 3)) (ht : ((pc + 1 : Nat) : Int) + off = (tgt : Int)) (hx : -9223372036854775808 ≤ x ∧ x < 9223372036854775808) (hz : -9223372036854775808 ≤ z ∧ z < 9223372036854775808) (kt : x ≤ z → Ev b y tgt ls st σ Q) (kf : ¬ x ≤ z → Ev b y (pc + 1 + 3) ls st σ Q) : Ev b y pc ls (vL z :: vL x :: st) σ Q :=
  ev_lcmp hd hx hz (ev_if_le hd2 ht (cmpI_in x z) (fun q => kt (by unfold cmpI at q; split at q <;> first | omega | (split at q <;> omega))) (fun q => kf (by unfold cmpI at q; split at q <;> first | omega | (split at q <;> omega))))
/-- the fields of the world's objects -/
theorem ev_geti {o ci i j : Nat} {tm : List (Option Nat)} {CC : String} {T : u_T} {N : Nat} (hd : decode y.2.1 pc = .ok (.getfield i, 3)) (hk : ev_kds[o]? = some (.inl (ci, tm))) (hc : ev_cls[ci]? = some (CC, T, N)) (hw : Cond.fieldLink y.1.cls i (T j).1 (T j).2.1 (T j).2.2.1 ∈ ev_gw) (hin : ∀ w ∈ u_ws CC T N, w ∈ ev_gw) (hj : j < N) (ht : tm[j]? = some none) (k : Ev b y (pc + 3) ls (vI (σ o j) :: st) σ Q) : Ev b y pc ls (vR o :: st) σ Q := by
  intro p l e s m args below meth c H locs cells slots A Z lsA C E hP hS hl
  exact va_get (C := CC) (v := .int (Int32.ofInt (σ o j))) C.1 C.2.1 C.2.2.2.2.2.2.1 hin C.2.2.2.2.2.1 C.2.2.2.2.2.2.2.1.1 hP o (ev_at hk) hc j hj (C.2.2.2.2.2.2.1 _ hw) (fun _ h => h) (by rw [List.getElem?_mapIdx, ht]; rfl) hd (k p l e s m args below meth c H locs cells slots A Z lsA C E hP hS hl)
theorem ev_getr {o ci i j t : Nat} {tm : List (Option Nat)} {CC : String} {T : u_T} {N : Nat} (hd : decode y.2.1 pc = .ok (.getfield i, 3)) (hk : ev_kds[o]? = some (.inl (ci, tm))) (hc : ev_cls[ci]? = some (CC, T, N)) (hw : Cond.fieldLink y.1.cls i (T j).1 (T j).2.1 (T j).2.2.1 ∈ ev_gw) (hin : ∀ w ∈ u_ws CC T N, w ∈ ev_gw) (hj : j < N) (ht : tm[j]? = some (some t)) (k : Ev b y (pc + 3) ls (vR t :: st) σ Q) : Ev b y pc ls (vR o :: st) σ Q := by
  intro p l e s m args below meth c H locs cells slots A Z lsA C E hP hS hl
  exact va_get (C := CC) (v := .ref (b.1 t)) C.1 C.2.1 C.2.2.2.2.2.2.1 hin C.2.2.2.2.2.1 C.2.2.2.2.2.2.2.1.1 hP o (ev_at hk) hc j hj (C.2.2.2.2.2.2.1 _ hw) (fun _ h => h) (by rw [List.getElem?_mapIdx, ht]; rfl) hd (k p l e s m args below meth c H locs cells slots A Z lsA C E hP hS hl)
theorem ev_put {o ci i j : Nat} {z : Int} {tm : List (Option Nat)} {CC : String} {T : u_T} {N : Nat} {ty0 : Nat → FieldType} {ty : FieldType} (hd : decode y.2.1 pc = .ok (.putfield i, 3)) (hk : ev_kds[o]? = some (.inl (ci, tm))) (hc : ev_cls[ci]? = some (CC, T, N)) (hw : Cond.fieldLink y.1.cls i (T j).1 (T j).2.1 (T j).2.2.1 ∈ ev_gw) (hin : ∀ w ∈ u_ws CC T N, w ∈ ev_gw) (hty : ∀ k, k < N → parseFieldDescriptor (T k).2.2.1 = some (ty0 k)) (hnm : ∀ a, a < N → ∀ b, b < N → a ≠ b → (T a).2.1 ≠ (T b).2.1) (hj : j < N) (ht : tm[j]? = some none) (hf : (T j).2.2.2 = false) (hty2 : parseFieldDescriptor (T j).2.2.1 = some ty) (hna : narrow ty (.int (Int32.ofInt z)) = .int (Int32.ofInt z)) (hfi : fits ty (.int (Int32.ofInt z)) = true) (k : Ev b y (pc + 3) ls st (mup σ o j z) Q) : Ev b y pc ls (vI z :: vR o :: st) σ Q := by
  intro p l e s m args below meth c H locs cells slots A Z lsA C E hP hS hl
  refine va_put (C := CC) (v := .int (Int32.ofInt z)) C.1 C.2.1 C.2.2.2.2.2.2.1 hin ty0 hty hnm C.2.2.2.2.2.1 C.2.2.2.2.2.2.2.1.1 hP (ev_D C.2.2.2.2.2.2.2.1 σ) hS o (ev_at hk) hc j hj (C.2.2.2.2.2.2.1 _ hw) (fun _ h => h) hf hty2 hna hfi (by rw [List.length_mapIdx]; exact (List.getElem?_eq_some_iff.mp ht).1) hd (fun H1 locs1 hP1 hD1 hS1 => ?_)
  refine k p l e s m args below meth c H1 locs1 cells slots A Z lsA C E ?_ hS1 hl
  have e1 := ev_set (b := b) (σ := σ) (τ := mup σ o j z) hk (fun a ha => (mup_ne ha).symm)
  rw [← e1]
  rw [ev_upf ht] at hP1
  exact hP1
theorem ev_iald {a n : Nat} {i : Int} (hd : decode y.2.1 pc = .ok (.iaload, 1)) (hk : ev_kds[a]? = some (.inr (0, n))) (hi : 0 ≤ i ∧ i < n) (k : Ev b y (pc + 1) ls (vI (σ a i) :: st) σ Q) : Ev b y pc ls (vI i :: vR a :: st) σ Q := by
  intro p l e s m args below meth c H locs cells slots A Z lsA C E hP hS hl
  have hn := ev_small _ _ _ hk
  refine va_iald C.1 C.2.1 C.2.2.2.2.2.2.2.1.1 hP a 0 (ev_at hk) rfl (ev_in hi hn) hd ?_
  have e1 : ((i.toNat : Nat) : Int) = i := by omega
  rw [ev_nn (by omega), e1]
  exact k p l e s m args below meth c H locs cells slots A Z lsA C E hP hS hl
theorem ev_lald {a n : Nat} {i : Int} (hd : decode y.2.1 pc = .ok (.laload, 1)) (hk : ev_kds[a]? = some (.inr (1, n))) (hi : 0 ≤ i ∧ i < n) (k : Ev b y (pc + 1) ls (vL (σ a i) :: st) σ Q) : Ev b y pc ls (vI i :: vR a :: st) σ Q := by
  intro p l e s m args below meth c H locs cells slots A Z lsA C E hP hS hl
  have hn := ev_small _ _ _ hk
  refine va_lald C.1 C.2.1 C.2.2.2.2.2.2.2.1.1 hP a 1 (ev_at hk) rfl (ev_in hi hn) hd ?_
  have e1 : ((i.toNat : Nat) : Int) = i := by omega
  rw [ev_nn (by omega), e1]
  exact k p l e s m args below meth c H locs cells slots A Z lsA C E hP hS hl
theorem ev_aald {a n : Nat} {i : Int} (hd : decode y.2.1 pc = .ok (.aaload, 1)) (hk : ev_kds[a]? = some (.inr (2, n))) (hi : 0 ≤ i ∧ i < n) (k : Ev b y (pc + 1) ls (vR (ev_rt i.toNat) :: st) σ Q) : Ev b y pc ls (vI i :: vR a :: st) σ Q := by
  intro p l e s m args below meth c H locs cells slots A Z lsA C E hP hS hl
  have hn := ev_small _ _ _ hk
  refine va_aldq C.1 C.2.1 C.2.2.2.2.2.2.2.1.1 hP a 2 (ev_at hk) rfl (ev_in hi hn) hd ?_
  rw [ev_nn (by omega)]
  exact k p l e s m args below meth c H locs cells slots A Z lsA C E hP hS hl
theorem ev_iast {a n : Nat} {i z : Int} (hd : decode y.2.1 pc = .ok (.iastore, 1)) (hk : ev_kds[a]? = some (.inr (0, n))) (hi : 0 ≤ i ∧ i < n) (k : Ev b y (pc + 1) ls st (mup σ a i z) Q) : Ev b y pc ls (vI z :: vI i :: vR a :: st) σ Q := by
  intro p l e s m args below meth c H locs cells slots A Z lsA C E hP hS hl
  have hn := ev_small _ _ _ hk
  refine va_iast (x := Int32.ofInt z) C.1 C.2.1 C.2.2.2.2.2.2.2.1.1 hP (ev_D C.2.2.2.2.2.2.2.1 σ) hS a 0 (ev_at hk) rfl (ev_in hi hn) hd (fun H1 locs1 hP1 hD1 hS1 => ?_)
  refine k p l e s m args below meth c H1 locs1 cells slots A Z lsA C E ?_ hS1 hl
  rw [ev_nn (by omega), ev_upi hi.1] at hP1
  rw [← ev_set (b := b) (σ := σ) (τ := mup σ a i z) hk (fun q hq => (mup_ne hq).symm)]
  exact hP1
theorem ev_last {a n : Nat} {i z : Int} (hd : decode y.2.1 pc = .ok (.lastore, 1)) (hk : ev_kds[a]? = some (.inr (1, n))) (hi : 0 ≤ i ∧ i < n) (k : Ev b y (pc + 1) ls st (mup σ a i z) Q) : Ev b y pc ls (vL z :: vI i :: vR a :: st) σ Q := by
  intro p l e s m args below meth c H locs cells slots A Z lsA C E hP hS hl
  have hn := ev_small _ _ _ hk
  refine va_last (x := Int64.ofInt z) C.1 C.2.1 C.2.2.2.2.2.2.2.1.1 hP (ev_D C.2.2.2.2.2.2.2.1 σ) hS a 1 (ev_at hk) rfl (ev_in hi hn) hd (fun H1 locs1 hP1 hD1 hS1 => ?_)
  refine k p l e s m args below meth c H1 locs1 cells slots A Z lsA C E ?_ hS1 hl
  rw [ev_nn (by omega), ev_upl hi.1] at hP1
  rw [← ev_set (b := b) (σ := σ) (τ := mup σ a i z) hk (fun q hq => (mup_ne hq).symm)]
  exact hP1
theorem ev_alen0 {a n : Nat} (hd : decode y.2.1 pc = .ok (.arraylength, 1)) (hk : ev_kds[a]? = some (.inr (0, n))) (k : Ev b y (pc + 1) ls (vI n :: st) σ Q) : Ev b y pc ls (vR a :: st) σ Q := by
  intro p l e s m args below meth c H locs cells slots A Z lsA C E hP hS hl
  exact va_alen (v := Int32.ofInt n) C.1 C.2.1 C.2.2.2.2.2.2.2.1.1 hP a 0 (ev_at hk) rfl (by rfl) hd (k p l e s m args below meth c H locs cells slots A Z lsA C E hP hS hl)
theorem ev_alen1 {a n : Nat} (hd : decode y.2.1 pc = .ok (.arraylength, 1)) (hk : ev_kds[a]? = some (.inr (1, n))) (k : Ev b y (pc + 1) ls (vI n :: st) σ Q) : Ev b y pc ls (vR a :: st) σ Q := by
  intro p l e s m args below meth c H locs cells slots A Z lsA C E hP hS hl
  exact va_alen (v := Int32.ofInt n) C.1 C.2.1 C.2.2.2.2.2.2.2.1.1 hP a 1 (ev_at hk) rfl (by rfl) hd (k p l e s m args below meth c H locs cells slots A Z lsA C E hP hS hl)
/-- the script -/
theorem ev_sald {i : Int} (hd : decode y.2.1 pc = .ok (.iaload, 1)) (hi : 0 ≤ i ∧ i < (b.2.2.2.2.1 : Int)) (k : Ev b y (pc + 1) ls (vI (b.2.2.2.2.2 i.toNat) :: st) σ Q) : Ev b y pc ls (vI i :: vR 74 :: st) σ Q := by
  intro p l e s m args below meth c H locs cells slots A Z lsA C E hP hS hl
  have hn := C.2.2.2.2.2.2.2.1.2.2.2.1.2.2
  refine va_ti (v := .int (Int32.ofInt (b.2.2.2.2.2 i.toNat))) C.1 C.2.1 C.2.2.2.2.2.2.2.1.2.2.2.2.2.2.2.2.2.2 hS (i := Int32.ofInt i) ?_ ?_ hd (k p l e s m args below meth c H locs cells slots A Z lsA C E hP hS hl)
  · rw [vp_in_iff, ev_ti (by omega)]; exact hi
  · rw [ev_nn (by omega)]
theorem ev_slen (hd : decode y.2.1 pc = .ok (.arraylength, 1)) (k : Ev b y (pc + 1) ls (vI b.2.2.2.2.1 :: st) σ Q) : Ev b y pc ls (vR 74 :: st) σ Q := by
  intro p l e s m args below meth c H locs cells slots A Z lsA C E hP hS hl
  exact va_tlen (v := Int32.ofInt b.2.2.2.2.1) C.1 C.2.1 C.2.2.2.2.2.2.2.1.2.2.2.2.2.2.2.2.2.2 hS (by rfl) hd (k p l e s m args below meth c H locs cells slots A Z lsA C E hP hS hl)
/-- returns -/
theorem ev_iret {z : Int} {ty : FieldType} (hd : decode y.2.1 pc = .ok (.ireturn, 1)) (hr : y.2.2.2.1 = some ty) (hn : narrow ty (.int (Int32.ofInt z)) = .int (Int32.ofInt z)) (hQ : Q (some (vI z)) σ) : Ev b y pc ls [vI z] σ Q := by
  intro p l e s m args below meth c H locs cells slots A Z lsA C E hP hS hl
  exact E (some (vI z)) σ H locs pc lsA .ireturn hQ hP hS hd (Or.inl ⟨rfl, z, ty, rfl, hr, hn⟩)
theorem ev_lret {z : Int} (hd : decode y.2.1 pc = .ok (.lreturn, 1)) (hr : y.2.2.2.1 = some .long) (hQ : Q (some (vL z)) σ) : Ev b y pc ls [vL z] σ Q := by
  intro p l e s m args below meth c H locs cells slots A Z lsA C E hP hS hl
  exact E (some (vL z)) σ H locs pc lsA .lreturn hQ hP hS hd (Or.inr (Or.inl ⟨rfl, z, rfl, hr⟩))
theorem ev_aret {t : Nat} {n : String} (hd : decode y.2.1 pc = .ok (.areturn, 1)) (hr : y.2.2.2.1 = some (.object n)) (hQ : Q (some (vR t)) σ) : Ev b y pc ls [vR t] σ Q := by
  intro p l e s m args below meth c H locs cells slots A Z lsA C E hP hS hl
  exact E (some (vR t)) σ H locs pc lsA .areturn hQ hP hS hd (Or.inr (Or.inr (Or.inl ⟨rfl, t, n, rfl, hr⟩)))
theorem ev_vret (hd : decode y.2.1 pc = .ok (.return_, 1)) (hr : y.2.2.2.1 = none) (hQ : Q none σ) : Ev b y pc ls [] σ Q := by
  intro p l e s m args below meth c H locs cells slots A Z lsA C E hP hS hl
  exact E none σ H locs pc lsA .return_ hQ hP hS hd (Or.inr (Or.inr (Or.inr ⟨rfl, rfl, hr⟩)))
theorem Ev.mono {Q2 : Option ev_V → ev_M → Prop} (h : Ev b y pc ls st σ Q) (hq : ∀ r τ, Q r τ → Q2 r τ) : Ev b y pc ls st σ Q2 := by
  intro p l e s m args below meth c H locs cells slots A Z lsA C E hP hS hl
  exact h p l e s m args below meth c H locs cells slots A Z lsA C (fun r τ H1 locs1 pc1 ls1 op q => E r τ H1 locs1 pc1 ls1 op (hq r τ q)) hP hS hl
theorem Ev.lsub {ls' : List (Nat × ev_V)} (hs : ∀ q ∈ ls', ev_lk ls q.1 = some q.2) (h : Ev b y pc ls' st σ Q) : Ev b y pc ls st σ Q := by
  intro p l e s m args below meth c H locs cells slots A Z lsA C E hP hS hl
  refine h p l e s m args below meth c H locs cells slots A Z lsA C E hP hS ⟨hl.1, hl.2.1, fun q hq => ?_⟩
  obtain ⟨x, hx, rfl⟩ := List.mem_map.mp hq
  exact ev_has_at hl (hs x hx)
end EVS
end
section
/-! calls -/
def ev_Okc (z : ev_Y) (n : Nat) : Prop := Cond.code z.1 z.2.1 z.2.2.1 z.2.2.2.1 ∈ ev_gw ∧ Cond.initialized z.1.cls ∈ ev_gw ∧ (z.1.cls ≠ "java/lang/invoke/MethodHandle" ∧ z.1.cls ≠ "java/lang/invoke/VarHandle" ∧ (parseMethodDescriptor z.1.desc).map (fun d => d.parameters.length) = some n) ∧ z.2.2.2.2.cells = 0 ∧ z.2.2.2.2.slots = 0 ∧ plainName z.1.cls = true
def ev_OkV (z : ev_Y) (n : Nat) : Prop := ev_Okc z n ∧ Cond.instanceMethod z.1 ∈ ev_gw ∧ Cond.selects z.1.cls z.1 z.1 ∈ ev_gw
def ev_OkS (z : ev_Y) (n : Nat) : Prop := ev_Okc z n ∧ Cond.static z.1 ∈ ev_gw
theorem ev_gc {z : ev_Y} {n : Nat} (h : ev_Okc z n) : GoodIn ev_gw (Cond.code z.1 z.2.1 z.2.2.1 z.2.2.2.1 :: ev_gw) := by
  intro w hw
  rcases List.mem_cons.mp hw with rfl | hw
  · exact ev_gg _ h.1
  · exact ev_gg _ hw
theorem ev_blind {b : ev_B} {av : List Value} {σ : ev_M} : FrameBlind (va_Pc av (fun U => ev_F b (ev_A b) U U.heap ∧ va_P b.2.1 ev_cls (ev_ws b σ) U.heap)) := by
  intro a U g mk h
  exact ⟨h.1, (h.2.1).same (s := U) (U := U.calling g mk a) rfl, h.2.2⟩
theorem ev_pre {b : ev_B} {A : Nat → Prop} {s : State} {H : Heap} {locs : List Loc} {σ : ev_M} (hF : ev_F b A s s.heap) (hS : va_S A s.heap H locs) (hP : va_P b.2.1 ev_cls (ev_ws b σ) H) {av : List Value} : ∀ U : State, U.heap = H → s.WarmedH U.vm → va_Pc av (fun U => ev_F b (ev_A b) U U.heap ∧ va_P b.2.1 ev_cls (ev_ws b σ) U.heap) av.toArray U := by
  intro U hU hW
  refine ⟨rfl, ?_, by rw [hU]; exact hP⟩
  rw [hU]
  exact (hF.warm hW hS.2.1).narrow
theorem ev_sub {b : ev_B} {A : Nat → Prop} {U : State} {H : Heap} (h : ev_F b A U H) : ∀ q, ev_A b q → A q := by
  intro q hq
  obtain ⟨k, hk, rfl⟩ := hq
  exact h.2.2.1 k hk
section EVC
variable {b : ev_B} {y z : ev_Y} {pc : Nat} {ls : List (Nat × ev_V)} {st stk : List ev_V} {σ : ev_M} {Q Q1 : Option ev_V → ev_M → Prop}
/-- what goes on behind a call -/
theorem ev_after {p : Program} {l : Launch} {e : Env} {s : State} {m : MethodId} {args : Array Value} {below : List Frame} {meth : Method} {c : Code} {H : Heap} {locs : List Loc} {cells slots : Nat} {A : Nat → Prop} {Z : State → Prop} {lsA : Array Slot} {st0 : List Value} {a : Array Value}
    (C : ev_C b y p s m args meth c cells slots A) (E : ev_E b y p l e s m args below meth c cells slots A Z Q) (hS : va_S A s.heap H locs) (hl : lv_has lsA y.2.2.1 (ls.map (ev_cl b)))
    (hr : va_Run p l e y.2.2.2.2 s m args below meth c H locs cells slots 0 0 (F0 m pc lsA st0) (st.map (ev_cv b)) ((fun _ st oc t => (∃ r σ', oc = .returned (r.map (ev_cv b)) ∧ Q1 r σ' ∧ va_P b.2.1 ev_cls (ev_ws b σ') t.heap) ∧ va_F (ev_A b) st t) a) (ev_A b))
    (k : ∀ r σ', Q1 r σ' → Ev b y (pc + 3) ls (r.toList ++ st) σ' Q) : W p l e y.2.2.2.2 s m args below meth c H locs cells slots Z (F0 m pc lsA st0) := by
  intro T hT X
  obtain ⟨v, st₀, t, T', L, h0, X', hL, e1, e2, ⟨⟨r, σ', hv, hq, hP'⟩, hz, hk⟩, st1⟩ := hr T hT X
  have hv' : v = r.map (ev_cv b) := by cases hv; rfl
  subst hv'
  rw [h0] at hz hk
  have hsub := ev_sub C.2.2.2.2.2.2.2.1
  have hS' : va_S A s.heap T'.heap (locs ++ L) := ⟨Nat.le_trans hS.1 (by rw [e1]; exact hz), fun q h1 h2 => by
      rw [e1, hk q (Nat.lt_of_lt_of_le h1 hS.1) (fun w => h2 (hsub q w))]; exact hS.2.1 q h1 h2, fun q hq' => by
      rcases List.mem_append.mp hq' with h | h
      · exact hS.2.2 q h
      · exact hsub _ (hL q h)⟩
  have kk := k r σ' hq p l e s m args below meth c T'.heap (locs ++ L) cells slots A Z lsA C E (by rw [e1]; exact hP') hS' hl T' rfl X'
  obtain ⟨t2, a1, b1⟩ := kk
  refine ⟨t2, st1 t2 ?_, b1⟩
  have e3 : (r.toList ++ st).map (ev_cv b) = (r.map (ev_cv b)).toList ++ st.map (ev_cv b) := by
    cases r <;> simp
  rw [e3] at a1
  exact a1
theorem ev_callV {av : List ev_V} {o ci i : Nat} {tm : List (Option Nat)} {T : u_T} {N : Nat} (hc : Cl b z (vR o :: av) σ Q1) (ok : ev_OkV z av.length) (hd : decode y.2.1 pc = .ok (.invokevirtual i, 3)) (hw : Cond.methodLink y.1.cls i z.1 ∈ ev_gw) (hk : ev_kds[o]? = some (.inl (ci, tm))) (hcl : ev_cls[ci]? = some (z.1.cls, T, N)) (hR : z.2.2.2.2.frames + 1 ≤ y.2.2.2.2.frames ∧ 8 + (z.2.2.1 + 11) + z.2.2.2.2.locals ≤ y.2.2.2.2.locals) (hs : stk = av.reverse ++ vR o :: st) (hst : ev_wd st ≤ 8) (k : ∀ r σ', Q1 r σ' → Ev b y (pc + 3) ls (r.toList ++ st) σ' Q) : Ev b y pc ls stk σ Q := by
  intro p l e s m args below meth c H locs cells slots A Z lsA C E hP hS hl
  subst hs
  have hF := C.2.2.2.2.2.2.2.1
  have hts := C.2.2.2.2.2.2.1
  obtain ⟨⟨ok1, ok2, ok3, ok4, ok5, ok6⟩, ok7, ok8⟩ := id ok
  refine ev_after (a := (Value.ref (b.1 o) :: av.map (ev_cv b)).toArray) C E hS hl ?_ k
  refine va_runV (As := av.map (ev_cv b)) (b := b.1 o) (C := z.1.cls) (Ts := ev_gw) (own := y.1.cls) (nL := y.2.2.1) (cc := y.2.1) (index := i) (bytes := z.2.1) (maxL := z.2.2.1) (ret := z.2.2.2.1) (n := av.length) ⟨C.1, C.2.1, C.2.2.1, C.2.2.2.2.2.1, hts⟩ (hc l) ?_ ⟨ev_blind, va_recv hF.1 hP hcl (ev_at hk), ev_pre hF hS hP⟩ rfl (by simp) hl.1 ?_ (lv_room (by rw [ev_wd_cat hF.2.2.2.1]; exact hst)) hd ⟨C.2.2.2.2.2.2.2.2.1, C.2.2.2.2.2.2.2.2.2⟩
  · exact ⟨callB_of av.length hts (ev_gc ok.1) rfl ok4 ok5 (hts _ ok2) (hts _ hw) ok3 hR, hts _ ok7, hts _ ok8⟩
  · simp [ev_cv]
theorem ev_callS {av : List ev_V} {i : Nat} (hc : Cl b z av σ Q1) (ok : ev_OkS z av.length) (hd : decode y.2.1 pc = .ok (.invokestatic i, 3)) (hw : Cond.methodLink y.1.cls i z.1 ∈ ev_gw) (hR : z.2.2.2.2.frames + 1 ≤ y.2.2.2.2.frames ∧ 8 + (z.2.2.1 + 11) + z.2.2.2.2.locals ≤ y.2.2.2.2.locals) (hs : stk = av.reverse ++ st) (hst : ev_wd st ≤ 8) (k : ∀ r σ', Q1 r σ' → Ev b y (pc + 3) ls (r.toList ++ st) σ' Q) : Ev b y pc ls stk σ Q := by
  intro p l e s m args below meth c H locs cells slots A Z lsA C E hP hS hl
  subst hs
  have hF := C.2.2.2.2.2.2.2.1
  have hts := C.2.2.2.2.2.2.1
  obtain ⟨⟨ok1, ok2, ok3, ok4, ok5, ok6⟩, ok7⟩ := id ok
  refine ev_after (a := (av.map (ev_cv b)).toArray) C E hS hl ?_ k
  refine va_runS (As := av.map (ev_cv b)) (Ts := ev_gw) (own := y.1.cls) (nL := y.2.2.1) (cc := y.2.1) (index := i) (bytes := z.2.1) (maxL := z.2.2.1) (ret := z.2.2.2.1) (n := av.length) ⟨C.1, C.2.1, C.2.2.1, C.2.2.2.2.2.1, hts⟩ (hc l) ?_ ⟨ev_blind, ev_pre hF hS hP⟩ rfl (by simp) hl.1 ?_ (lv_room (by rw [ev_wd_cat hF.2.2.2.1]; exact hst)) hd ⟨C.2.2.2.2.2.2.2.2.1, C.2.2.2.2.2.2.2.2.2⟩
  · exact ⟨callB_of av.length hts (ev_gc ok.1) rfl ok4 ok5 (hts _ ok2) (hts _ hw) ok3 hR, hts _ ok7⟩
  · simp
theorem ev_callSN {av : List ev_V} {i : Nat} {host : String} (hc : Cl b z av σ Q1) (ok : ev_OkS z av.length) (hd : decode y.2.1 pc = .ok (.invokestatic i, 3)) (hw : Cond.methodLinkNest y.1.cls i z.1 host ∈ ev_nw) (hR : z.2.2.2.2.frames + 1 ≤ y.2.2.2.2.frames ∧ 8 + (z.2.2.1 + 11) + z.2.2.2.2.locals ≤ y.2.2.2.2.locals) (hs : stk = av.reverse ++ st) (hst : ev_wd st ≤ 8) (k : ∀ r σ', Q1 r σ' → Ev b y (pc + 3) ls (r.toList ++ st) σ' Q) : Ev b y pc ls stk σ Q := by
  intro p l e s m args below meth c H locs cells slots A Z lsA C E hP hS hl
  subst hs
  have hF := C.2.2.2.2.2.2.2.1
  have hts := C.2.2.2.2.2.2.1
  obtain ⟨⟨ok1, ok2, ok3, ok4, ok5, ok6⟩, ok7⟩ := id ok
  refine ev_after (a := (av.map (ev_cv b)).toArray) C E hS hl ?_ k
  refine va_runSN (As := av.map (ev_cv b)) (Ts := ev_gw) (own := y.1.cls) (host := host) (nL := y.2.2.1) (cc := y.2.1) (index := i) (bytes := z.2.1) (maxL := z.2.2.1) (ret := z.2.2.2.1) (n := av.length) ⟨C.1, C.2.1, C.2.2.1, C.2.2.2.2.2.1, hts⟩ (hc l) ?_ ⟨ev_blind, ev_pre hF hS hP⟩ rfl (by simp) hl.1 ?_ (lv_room (by rw [ev_wd_cat hF.2.2.2.1]; exact hst)) hd ⟨C.2.2.2.2.2.2.2.2.1, C.2.2.2.2.2.2.2.2.2⟩
  · exact ⟨va_cnB av.length hts (ev_gc ok.1) rfl ok4 ok5 (hF.2.1 _ hw) (hts _ ok2) ok3 hR, hts _ ok7, trivial⟩
  · simp
/-- a text's own methods -/
theorem ev_callT {av : List ev_V} {i j : Nat} (hc : Cl b z (vR (61 + j) :: av) σ Q1) (ok : ev_OkV z av.length) (hd : decode y.2.1 pc = .ok (.invokevirtual i, 3)) (hw : Cond.methodLink y.1.cls i z.1 ∈ ev_gw) (hj : j < 13) (hcl : z.1.cls = RJ0) (hR : z.2.2.2.2.frames + 1 ≤ y.2.2.2.2.frames ∧ 8 + (z.2.2.1 + 11) + z.2.2.2.2.locals ≤ y.2.2.2.2.locals) (hs : stk = av.reverse ++ vR (61 + j) :: st) (hst : ev_wd st ≤ 8) (k : ∀ r σ', Q1 r σ' → Ev b y (pc + 3) ls (r.toList ++ st) σ' Q) : Ev b y pc ls stk σ Q := by
  intro p l e s m args below meth c H locs cells slots A Z lsA C E hP hS hl
  subst hs
  have hF := C.2.2.2.2.2.2.2.1
  have hts := C.2.2.2.2.2.2.1
  obtain ⟨⟨ok1, ok2, ok3, ok4, ok5, ok6⟩, ok7, ok8⟩ := id ok
  refine ev_after (a := (Value.ref (b.1 (61 + j)) :: av.map (ev_cv b)).toArray) C E hS hl ?_ k
  have hrec : ∃ cell : Cell, H[b.1 (61 + j)]? = some cell ∧ cell.vm.isStatics = false ∧ s.vm.findClass z.1.cls = some cell.cls := by
    rw [hcl]
    exact vk_recv (N := 13) (adK := fun i => b.1 (61 + i)) (i := j) (hF.2.2.2.2.2.2.2.1) hj hS
  refine va_runV (As := av.map (ev_cv b)) (b := b.1 (61 + j)) (C := z.1.cls) (Ts := ev_gw) (own := y.1.cls) (nL := y.2.2.1) (cc := y.2.1) (index := i) (bytes := z.2.1) (maxL := z.2.2.1) (ret := z.2.2.2.1) (n := av.length) ⟨C.1, C.2.1, C.2.2.1, C.2.2.2.2.2.1, hts⟩ (hc l) ?_ ⟨ev_blind, hrec, ev_pre hF hS hP⟩ rfl (by simp) hl.1 ?_ (lv_room (by rw [ev_wd_cat hF.2.2.2.1]; exact hst)) hd ⟨C.2.2.2.2.2.2.2.2.1, C.2.2.2.2.2.2.2.2.2⟩
  · exact ⟨callB_of av.length hts (ev_gc ok.1) rfl ok4 ok5 (hts _ ok2) (hts _ hw) ok3 hR, hts _ ok7, hts _ ok8⟩
  · simp [ev_cv]
theorem Cl.mono {av : List ev_V} {Q2 : Option ev_V → ev_M → Prop} (h : Cl b y av σ Q) (hq : ∀ r τ, Q r τ → Q2 r τ) : Cl b y av σ Q2 := by
  intro l
  have h1 := h l
  intro p e ha hc hk s m args below hf happ hpre hx
  obtain ⟨t, o, w1, w2, w3, ⟨⟨⟨r, σ', g1, g2, g3⟩, g4⟩, w5⟩⟩ := h1 p e ha hc hk s m args below hf happ hpre hx
  exact ⟨t, o, w1, w2, w3, ⟨⟨⟨r, σ', g1, hq _ _ g2, g3⟩, g4⟩, w5⟩⟩
/-- a method's contract out of its walk -/
theorem ev_enter {av : List ev_V} {n : Nat} (ok : ev_Okc y n) (hm : ev_wd av ≤ y.2.2.1) (h : Ev b y 0 (ev_args 0 av) [] σ Q) : Cl b y av σ Q := by
  intro l
  refine Met.ofW (cc := y.2.1) (maxL := y.2.2.1) (ret := y.2.2.2.1) ok.2.2.2.2.2 rfl ?_
  intro p e s m args below meth c s₁ B hml hv
  obtain ⟨rfl, hF, hP⟩ := hv
  have hx := B.exec
  have hb := B.bytes
  have hr := B.returns
  have hts := atoms_spec (ws := Cond.code y.1 y.2.1 y.2.2.1 y.2.2.2.1 :: ev_gw) B.pre
  have hown : s.vm.findClass y.1.cls = some m.cls := findClass_of_methodNamed B.named
  have hlocks := B.notSynchronized
  have hS : va_S (ev_A b) s.heap s.heap [] := va_S.rf
  have hl := lv_entry (av.map (ev_cv b)) (n := y.2.2.1) (by rw [ev_wd_sl hF.2.2.2.1]; exact hm)
  rw [← ev_args_eq hF.2.2.2.1] at hl
  rw [lg_entry_eq]
  have C : ev_C b y p s m (av.map (ev_cv b)).toArray meth c 0 0 (ev_A b) := ⟨hx, hb, hml, hr, hlocks, hown, fun w hw => hts w (List.mem_cons_of_mem _ hw), hF, Nat.zero_le _, Nat.zero_le _⟩
  refine h p l e s m _ below meth c s.heap [] 0 0 (ev_A b) _ _ C ?_ hP hS hl
  intro r τ H locs pc lsA op hQ hP1 hS1 hd hk
  rcases hk with ⟨rfl, z, ty, rfl, h1, h2⟩ | ⟨rfl, z, rfl, h1⟩ | ⟨rfl, k, nm, rfl, h1⟩ | ⟨rfl, rfl, h1⟩
  · exact W.zret (v := Int32.ofInt z) (ty := ty) hx hb (hr.trans h1) h2 (fun t ht hW => ⟨⟨_, τ, rfl, hQ, by rw [ht]; exact hP1⟩, hS1.F ht⟩) hS1.2.2 hd
  · exact W.lret (v := Int64.ofInt z) hx hb (hr.trans h1) (fun t ht hW => ⟨⟨_, τ, rfl, hQ, by rw [ht]; exact hP1⟩, hS1.F ht⟩) hS1.2.2 hd
  · exact W.aret (v := .ref (b.1 k)) (rt := .object nm) hx hb (hr.trans h1) (Or.inl ⟨nm, rfl⟩) (Or.inr ⟨_, rfl⟩) (fun t ht hW => ⟨⟨_, τ, rfl, hQ, by rw [ht]; exact hP1⟩, hS1.F ht⟩) hS1.2.2 hd
  · exact W.vret hx hb (hr.trans h1) (fun t ht hW => ⟨⟨none, τ, rfl, hQ, by rw [ht]; exact hP1⟩, hS1.F ht⟩) hS1.2.2 hd
end EVC
end
section
/-! arraycopy, statics, texts -/
theorem ev_cpyi {σ : ev_M} {k0 k : Nat} {sp dp n : Int} (h1 : 0 ≤ sp) (h2 : 0 ≤ dp) (h3 : 0 ≤ n) : va_cpy (fun j : Nat => Int32.ofInt (σ k0 j)) (fun j : Nat => Int32.ofInt (σ k j)) sp.toNat dp.toNat n.toNat = fun j : Nat => Int32.ofInt (mcp σ k0 sp k dp n k j) := by
  funext j
  by_cases h : dp ≤ (j : Int) ∧ (j : Int) < dp + n
  · simp only [va_cpy, mcp]
    rw [if_pos (by omega), if_pos ⟨trivial, h⟩]
    congr 2
    omega
  · simp only [va_cpy, mcp]
    rw [if_neg (by omega), if_neg (fun q => h q.2)]
theorem ev_cpyl {σ : ev_M} {k0 k : Nat} {sp dp n : Int} (h1 : 0 ≤ sp) (h2 : 0 ≤ dp) (h3 : 0 ≤ n) : va_cpy (fun j : Nat => Int64.ofInt (σ k0 j)) (fun j : Nat => Int64.ofInt (σ k j)) sp.toNat dp.toNat n.toNat = fun j : Nat => Int64.ofInt (mcp σ k0 sp k dp n k j) := by
  funext j
  by_cases h : dp ≤ (j : Int) ∧ (j : Int) < dp + n
  · simp only [va_cpy, mcp]
    rw [if_pos (by omega), if_pos ⟨trivial, h⟩]
    congr 2
    omega
  · simp only [va_cpy, mcp]
    rw [if_neg (by omega), if_neg (fun q => h q.2)]
theorem ev_nlt {z : Int} (h : 0 ≤ z ∧ z < 1000) : ¬ Int32.ofInt z < 0 := by
  rw [show (0 : Int32) = Int32.ofInt 0 from rfl, ev_lt (by omega) (by omega)]; omega
section EVA
variable {b : ev_B} {y z : ev_Y} {pc : Nat} {ls : List (Nat × ev_V)} {st stk : List ev_V} {σ : ev_M} {Q Q1 : Option ev_V → ev_M → Prop}
theorem ev_copyi {i k0 k1 n0 n1 : Nat} {sp dp n : Int} (hd : decode y.2.1 pc = .ok (.invokestatic i, 3)) (hw : Cond.methodLink y.1.cls i arraycopyName ∈ ev_gw) (hw2 : Cond.native arraycopyName ∈ lw_tbl ∧ goodWord (Cond.native arraycopyName) = true) (hw3 : Cond.static arraycopyName ∈ ev_gw) (hw4 : Cond.initialized "java/lang/System" ∈ ev_gw)
    (hk0 : ev_kds[k0]? = some (.inr (0, n0))) (hk1 : ev_kds[k1]? = some (.inr (0, n1))) (h1 : 0 ≤ sp) (h2 : 0 ≤ dp) (h3 : 0 ≤ n) (h4 : sp + n ≤ n0) (h5 : dp + n ≤ n1) (hR : 1 ≤ y.2.2.2.2.frames ∧ ev_wd st + (nativeFrameWords "java/lang/System" "arraycopy" 5 + 11) ≤ y.2.2.2.2.locals)
    (k : Ev b y (pc + 3) ls st (mcp σ k0 sp k1 dp n) Q) : Ev b y pc ls (vI n :: vI dp :: vR k1 :: vI sp :: vR k0 :: st) σ Q := by
  intro p l e s m args below meth c H locs cells slots A Z lsA C E hP hS hl
  have hF := C.2.2.2.2.2.2.2.1
  have hts := C.2.2.2.2.2.2.1
  have hn0 := ev_small _ _ _ hk0
  have hn1 := ev_small _ _ _ hk1
  refine va_copyi C.1 C.2.1 (C.2.2.1.trans hl.1.symm) C.2.2.2.2.2.1 (hts _ hw) (hts _ (ev_gm hw2.1 hw2.2)) (hts _ hw3) (hts _ hw4) hF.1 hP (ev_D hF σ) hS k0 k1 0 0 (ty := .int) (ev_at hk0) (ev_at hk1) rfl rfl rfl (ev_nlt (by omega)) (ev_nlt (by omega)) (ev_nlt (by omega)) (by rw [ev_nn (by omega), ev_nn (by omega)]; omega) (by rw [ev_nn (by omega), ev_nn (by omega)]; omega) (fun _ _ => rfl) hR.1 (by rw [ev_wd_cat hF.2.2.2.1]; exact hR.2) hd (fun H1 locs1 hP1 hD1 hS1 => ?_)
  refine k p l e s m args below meth c H1 locs1 cells slots A Z lsA C E ?_ hS1 hl
  rw [ev_nn (by omega), ev_nn (by omega), ev_nn (by omega), ev_cpyi h1 h2 h3] at hP1
  rw [← ev_set (b := b) (σ := σ) (τ := mcp σ k0 sp k1 dp n) hk1 (fun q hq => (mcp_ne hq).symm)]
  exact hP1
theorem ev_copyl {i k0 k1 n0 n1 : Nat} {sp dp n : Int} (hd : decode y.2.1 pc = .ok (.invokestatic i, 3)) (hw : Cond.methodLink y.1.cls i arraycopyName ∈ ev_gw) (hw2 : Cond.native arraycopyName ∈ lw_tbl ∧ goodWord (Cond.native arraycopyName) = true) (hw3 : Cond.static arraycopyName ∈ ev_gw) (hw4 : Cond.initialized "java/lang/System" ∈ ev_gw)
    (hk0 : ev_kds[k0]? = some (.inr (1, n0))) (hk1 : ev_kds[k1]? = some (.inr (1, n1))) (h1 : 0 ≤ sp) (h2 : 0 ≤ dp) (h3 : 0 ≤ n) (h4 : sp + n ≤ n0) (h5 : dp + n ≤ n1) (hR : 1 ≤ y.2.2.2.2.frames ∧ ev_wd st + (nativeFrameWords "java/lang/System" "arraycopy" 5 + 11) ≤ y.2.2.2.2.locals)
    (k : Ev b y (pc + 3) ls st (mcp σ k0 sp k1 dp n) Q) : Ev b y pc ls (vI n :: vI dp :: vR k1 :: vI sp :: vR k0 :: st) σ Q := by
  intro p l e s m args below meth c H locs cells slots A Z lsA C E hP hS hl
  have hF := C.2.2.2.2.2.2.2.1
  have hts := C.2.2.2.2.2.2.1
  have hn0 := ev_small _ _ _ hk0
  have hn1 := ev_small _ _ _ hk1
  refine va_copyl C.1 C.2.1 (C.2.2.1.trans hl.1.symm) C.2.2.2.2.2.1 (hts _ hw) (hts _ (ev_gm hw2.1 hw2.2)) (hts _ hw3) (hts _ hw4) hF.1 hP (ev_D hF σ) hS k0 k1 1 1 (ty := .long) (ev_at hk0) (ev_at hk1) rfl rfl rfl (ev_nlt (by omega)) (ev_nlt (by omega)) (ev_nlt (by omega)) (by rw [ev_nn (by omega), ev_nn (by omega)]; omega) (by rw [ev_nn (by omega), ev_nn (by omega)]; omega) (fun _ _ => rfl) hR.1 (by rw [ev_wd_cat hF.2.2.2.1]; exact hR.2) hd (fun H1 locs1 hP1 hD1 hS1 => ?_)
  refine k p l e s m args below meth c H1 locs1 cells slots A Z lsA C E ?_ hS1 hl
  rw [ev_nn (by omega), ev_nn (by omega), ev_nn (by omega), ev_cpyl h1 h2 h3] at hP1
  rw [← ev_set (b := b) (σ := σ) (τ := mcp σ k0 sp k1 dp n) hk1 (fun q hq => (mcp_ne hq).symm)]
  exact hP1
theorem ev_getKA (hd : decode y.2.1 pc = .ok (.getstatic 9, 3)) (hy : y.1.cls = RX1) (k : Ev b y (pc + 3) ls (vR 60 :: st) σ Q) : Ev b y pc ls st σ Q := by
  intro p l e s m args below meth c H locs cells slots A Z lsA C E hP hS hl
  have hF := C.2.2.2.2.2.2.2.1
  exact va_getsN (own := RX1) (ref := RX5) (host := RX5) C.1 C.2.1 hF.2.2.2.2.2.1 hS (by rw [← hy]; exact C.2.2.2.2.2.1) (va_Nw.use rfl (hF.2.1 _ (by simp [ev_nw]))) (fun _ h => h) hd (k p l e s m args below meth c H locs cells slots A Z lsA C E hP hS hl)
theorem ev_kald {i : Int} {v : Int} (hd : decode y.2.1 pc = .ok (.iaload, 1)) (hi : 0 ≤ i ∧ i < 6) (hv : ev_ka i.toNat = .int (Int32.ofInt v)) (k : Ev b y (pc + 1) ls (vI v :: st) σ Q) : Ev b y pc ls (vI i :: vR 60 :: st) σ Q := by
  intro p l e s m args below meth c H locs cells slots A Z lsA C E hP hS hl
  have hF := C.2.2.2.2.2.2.2.1
  refine va_ti (v := .int (Int32.ofInt v)) C.1 C.2.1 hF.2.2.2.2.2.2.1 hS (i := Int32.ofInt i) (ev_in (n := 6) hi (by decide)) ?_ hd (k p l e s m args below meth c H locs cells slots A Z lsA C E hP hS hl)
  rw [ev_nn (by omega)]; exact hv
theorem ev_getCS {i : Nat} (hd : decode y.2.1 pc = .ok (.getstatic i, 3)) (hw : Cond.fieldLink y.1.cls i RJ0 "COMPACT_STRINGS" "Z" ∈ ev_gw) (k : Ev b y (pc + 3) ls (vI 1 :: st) σ Q) : Ev b y pc ls st σ Q := by
  intro p l e s m args below meth c H locs cells slots A Z lsA C E hP hS hl
  have hF := C.2.2.2.2.2.2.2.1
  exact va_gets (ref := RJ0) C.1 C.2.1 hF.2.2.2.2.2.2.2.2.1 hS C.2.2.2.2.2.1 (C.2.2.2.2.2.2.1 _ hw) (fun _ h => h) hd (k p l e s m args below meth c H locs cells slots A Z lsA C E hP hS hl)
theorem ev_getSF {i : Nat} (hd : decode y.2.1 pc = .ok (.getstatic i, 3)) (hw : Cond.fieldLink y.1.cls i RJ3 "SIOOBE_FORMATTER" "Ljava/util/function/BiFunction;" ∈ ev_gw) (k : Ev b y (pc + 3) ls (vX :: st) σ Q) : Ev b y pc ls st σ Q := by
  intro p l e s m args below meth c H locs cells slots A Z lsA C E hP hS hl
  have hF := C.2.2.2.2.2.2.2.1
  exact va_gets (ref := RJ3) C.1 C.2.1 hF.2.2.2.2.2.2.2.2.2.1 hS C.2.2.2.2.2.1 (C.2.2.2.2.2.2.1 _ hw) (fun _ h => h) hd (k p l e s m args below meth c H locs cells slots A Z lsA C E hP hS hl)
theorem ev_getTc {i j : Nat} (hd : decode y.2.1 pc = .ok (.getfield i, 3)) (hw : Cond.fieldLink y.1.cls i RJ0 "coder" "B" ∈ ev_gw) (hj : j < 13) (k : Ev b y (pc + 3) ls (vI 0 :: st) σ Q) : Ev b y pc ls (vR (61 + j) :: st) σ Q := by
  intro p l e s m args below meth c H locs cells slots A Z lsA C E hP hS hl
  have hF := C.2.2.2.2.2.2.2.1
  exact vk_getf (ref := RJ0) C.1 C.2.1 (hF.2.2.2.2.2.2.2.1.1 j hj).2.1 hS C.2.2.2.2.2.1 (C.2.2.2.2.2.2.1 _ hw) (fun _ h => h) hd (k p l e s m args below meth c H locs cells slots A Z lsA C E hP hS hl)
theorem ev_getTv {i j : Nat} (hd : decode y.2.1 pc = .ok (.getfield i, 3)) (hw : Cond.fieldLink y.1.cls i RJ0 "value" "[B" ∈ ev_gw) (hj : j < 13) (k : Ev b y (pc + 3) ls (vR (80 + j) :: st) σ Q) : Ev b y pc ls (vR (61 + j) :: st) σ Q := by
  intro p l e s m args below meth c H locs cells slots A Z lsA C E hP hS hl
  have hF := C.2.2.2.2.2.2.2.1
  exact vk_getf (ref := RJ0) C.1 C.2.1 (hF.2.2.2.2.2.2.2.1.1 j hj).2.2.1 hS C.2.2.2.2.2.1 (C.2.2.2.2.2.2.1 _ hw) (fun _ h => h) hd (k p l e s m args below meth c H locs cells slots A Z lsA C E hP hS hl)
theorem ev_tlen {j : Nat} (hd : decode y.2.1 pc = .ok (.arraylength, 1)) (hj : j < 13) (k : Ev b y (pc + 1) ls (vI (ev_sl.getD j 0) :: st) σ Q) : Ev b y pc ls (vR (80 + j) :: st) σ Q := by
  intro p l e s m args below meth c H locs cells slots A Z lsA C E hP hS hl
  have hF := C.2.2.2.2.2.2.2.1
  exact va_tlen (v := Int32.ofInt (ev_sl.getD j 0)) C.1 C.2.1 (hF.2.2.2.2.2.2.2.1.1 j hj).2.2.2 hS (by rfl) hd (k p l e s m args below meth c H locs cells slots A Z lsA C E hP hS hl)
theorem ev_tbyte {j : Nat} {i : Int} (hd : decode y.2.1 pc = .ok (.baload, 1)) (hj : j < 13) (hi : 0 ≤ i ∧ i < (ev_sl.getD j 0 : Nat)) (k : Ev b y (pc + 1) ls (vI ((ev_sb.getD j []).getD i.toNat 0).toInt :: st) σ Q) : Ev b y pc ls (vI i :: vR (80 + j) :: st) σ Q := by
  intro p l e s m args below meth c H locs cells slots A Z lsA C E hP hS hl
  have hF := C.2.2.2.2.2.2.2.1
  have hsm : ∀ j, j < 13 → ev_sl.getD j 0 < 1000 := by decide
  refine va_tb (v := .int (Int32.ofInt ((ev_sb.getD j []).getD i.toNat 0).toInt)) C.1 C.2.1 (hF.2.2.2.2.2.2.2.1.1 j hj).2.2.2 hS (i := Int32.ofInt i) (ev_in hi (hsm j hj)) ?_ hd (k p l e s m args below meth c H locs cells slots A Z lsA C E hP hS hl)
  have := hsm j hj
  rw [ev_nn (by omega), Int32.ofInt_toInt]
end EVA
end
