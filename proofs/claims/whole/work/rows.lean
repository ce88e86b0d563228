section
/-- a private method of a class that the tables say can be made, by its rows of tables_1 -/
def lw_okq (q : MethodName × Nat) : Prop := (q.1.cls ≠ "java/lang/invoke/MethodHandle" ∧ q.1.cls ≠ "java/lang/invoke/VarHandle") ∧ Cond.instantiable q.1.cls q.2 ∈ tables_1 ∧ Cond.privateMethod q.1 ∈ tables_1 ∧ Cond.instanceMethod q.1 ∈ tables_1
theorem lw_p0 : lw_okq (⟨"CrowLikeness", "finding", "(I)I"⟩, 8) := ⟨⟨by decide +kernel, by decide +kernel⟩, List.mem_of_getElem? (i := 17) (by decide +kernel), List.mem_of_getElem? (i := 208) (by decide +kernel), List.mem_of_getElem? (i := 209) (by decide +kernel)⟩
theorem lw_p1 : lw_okq (⟨"CrowLikeness$Flock", "takeScares", "(LCrowLikeness$Plain;II)V"⟩, 5) := ⟨⟨by decide +kernel, by decide +kernel⟩, List.mem_of_getElem? (i := 100) (by decide +kernel), List.mem_of_getElem? (i := 231) (by decide +kernel), List.mem_of_getElem? (i := 232) (by decide +kernel)⟩
theorem lw_p2 : lw_okq (⟨"CrowLikeness$Plain", "isMeeting", "(II)Z"⟩, 12) := ⟨⟨by decide +kernel, by decide +kernel⟩, List.mem_of_getElem? (i := 25) (by decide +kernel), List.mem_of_getElem? (i := 245) (by decide +kernel), List.mem_of_getElem? (i := 246) (by decide +kernel)⟩
theorem lw_p3 : lw_okq (⟨"CrowLikeness$Flock", "weighFears", "(LCrowLikeness$Plain;)V"⟩, 5) := ⟨⟨by decide +kernel, by decide +kernel⟩, List.mem_of_getElem? (i := 100) (by decide +kernel), List.mem_of_getElem? (i := 249) (by decide +kernel), List.mem_of_getElem? (i := 250) (by decide +kernel)⟩
theorem lw_p4 : lw_okq (⟨"CrowLikeness$Flock", "fearAt", "(LCrowLikeness$Plain;I)I"⟩, 5) := ⟨⟨by decide +kernel, by decide +kernel⟩, List.mem_of_getElem? (i := 100) (by decide +kernel), List.mem_of_getElem? (i := 253) (by decide +kernel), List.mem_of_getElem? (i := 254) (by decide +kernel)⟩
theorem lw_p5 : lw_okq (⟨"CrowLikeness$Plain", "placesOf", "(I[I)I"⟩, 12) := ⟨⟨by decide +kernel, by decide +kernel⟩, List.mem_of_getElem? (i := 25) (by decide +kernel), List.mem_of_getElem? (i := 270) (by decide +kernel), List.mem_of_getElem? (i := 271) (by decide +kernel)⟩
theorem lw_p6 : lw_okq (⟨"CrowLikeness", "isSitter", "(I)Z"⟩, 8) := ⟨⟨by decide +kernel, by decide +kernel⟩, List.mem_of_getElem? (i := 17) (by decide +kernel), List.mem_of_getElem? (i := 293) (by decide +kernel), List.mem_of_getElem? (i := 294) (by decide +kernel)⟩
theorem lw_p7 : lw_okq (⟨"CrowLikeness", "isLikeness", "(I)Z"⟩, 8) := ⟨⟨by decide +kernel, by decide +kernel⟩, List.mem_of_getElem? (i := 17) (by decide +kernel), List.mem_of_getElem? (i := 340) (by decide +kernel), List.mem_of_getElem? (i := 341) (by decide +kernel)⟩
theorem lw_p8 : lw_okq (⟨"CrowLikeness$Flock", "renewScares", "(LCrowLikeness$Plain;)Z"⟩, 5) := ⟨⟨by decide +kernel, by decide +kernel⟩, List.mem_of_getElem? (i := 100) (by decide +kernel), List.mem_of_getElem? (i := 381) (by decide +kernel), List.mem_of_getElem? (i := 382) (by decide +kernel)⟩
theorem lw_p9 : lw_okq (⟨"CrowLikeness$Flock", "growOlder", "(LCrowLikeness$Plain;)V"⟩, 5) := ⟨⟨by decide +kernel, by decide +kernel⟩, List.mem_of_getElem? (i := 100) (by decide +kernel), List.mem_of_getElem? (i := 387) (by decide +kernel), List.mem_of_getElem? (i := 388) (by decide +kernel)⟩
theorem lw_p10 : lw_okq (⟨"CrowLikeness", "eatenAsItIs", "(I)I"⟩, 8) := ⟨⟨by decide +kernel, by decide +kernel⟩, List.mem_of_getElem? (i := 17) (by decide +kernel), List.mem_of_getElem? (i := 420) (by decide +kernel), List.mem_of_getElem? (i := 421) (by decide +kernel)⟩
theorem lw_p11 : lw_okq (⟨"CrowLikeness", "bestChoice", "([IIII)I"⟩, 8) := ⟨⟨by decide +kernel, by decide +kernel⟩, List.mem_of_getElem? (i := 17) (by decide +kernel), List.mem_of_getElem? (i := 444) (by decide +kernel), List.mem_of_getElem? (i := 445) (by decide +kernel)⟩
theorem lw_p12 : lw_okq (⟨"CrowLikeness", "eatenWith", "(III)I"⟩, 8) := ⟨⟨by decide +kernel, by decide +kernel⟩, List.mem_of_getElem? (i := 17) (by decide +kernel), List.mem_of_getElem? (i := 468) (by decide +kernel), List.mem_of_getElem? (i := 469) (by decide +kernel)⟩
theorem lw_p13 : lw_okq (⟨"CrowLikeness", "eatenSwapped", "(IIII)I"⟩, 8) := ⟨⟨by decide +kernel, by decide +kernel⟩, List.mem_of_getElem? (i := 17) (by decide +kernel), List.mem_of_getElem? (i := 489) (by decide +kernel), List.mem_of_getElem? (i := 490) (by decide +kernel)⟩
theorem lw_p14 : lw_okq (⟨"CrowLikeness$Tape", "advance", "()V"⟩, 7) := ⟨⟨by decide +kernel, by decide +kernel⟩, List.mem_of_getElem? (i := 123) (by decide +kernel), List.mem_of_getElem? (i := 513) (by decide +kernel), List.mem_of_getElem? (i := 514) (by decide +kernel)⟩
theorem lw_p15 : lw_okq (⟨"CrowLikeness$Tape", "passLetters", "()V"⟩, 7) := ⟨⟨by decide +kernel, by decide +kernel⟩, List.mem_of_getElem? (i := 123) (by decide +kernel), List.mem_of_getElem? (i := 520) (by decide +kernel), List.mem_of_getElem? (i := 521) (by decide +kernel)⟩
def lw_privs_1 : List (MethodName × Nat) := [(⟨"CrowLikeness", "finding", "(I)I"⟩, 8), (⟨"CrowLikeness$Flock", "takeScares", "(LCrowLikeness$Plain;II)V"⟩, 5), (⟨"CrowLikeness$Plain", "isMeeting", "(II)Z"⟩, 12), (⟨"CrowLikeness$Flock", "weighFears", "(LCrowLikeness$Plain;)V"⟩, 5), (⟨"CrowLikeness$Flock", "fearAt", "(LCrowLikeness$Plain;I)I"⟩, 5), (⟨"CrowLikeness$Plain", "placesOf", "(I[I)I"⟩, 12), (⟨"CrowLikeness", "isSitter", "(I)Z"⟩, 8), (⟨"CrowLikeness", "isLikeness", "(I)Z"⟩, 8), (⟨"CrowLikeness$Flock", "renewScares", "(LCrowLikeness$Plain;)Z"⟩, 5), (⟨"CrowLikeness$Flock", "growOlder", "(LCrowLikeness$Plain;)V"⟩, 5), (⟨"CrowLikeness", "eatenAsItIs", "(I)I"⟩, 8), (⟨"CrowLikeness", "bestChoice", "([IIII)I"⟩, 8), (⟨"CrowLikeness", "eatenWith", "(III)I"⟩, 8), (⟨"CrowLikeness", "eatenSwapped", "(IIII)I"⟩, 8), (⟨"CrowLikeness$Tape", "advance", "()V"⟩, 7), (⟨"CrowLikeness$Tape", "passLetters", "()V"⟩, 7)]
theorem lw_r1 : ∀ q ∈ lw_privs_1, lw_okq q := List.forall_mem_cons.mpr ⟨lw_p0, List.forall_mem_cons.mpr ⟨lw_p1, List.forall_mem_cons.mpr ⟨lw_p2, List.forall_mem_cons.mpr ⟨lw_p3, List.forall_mem_cons.mpr ⟨lw_p4, List.forall_mem_cons.mpr ⟨lw_p5, List.forall_mem_cons.mpr ⟨lw_p6, List.forall_mem_cons.mpr ⟨lw_p7, List.forall_mem_cons.mpr ⟨lw_p8, List.forall_mem_cons.mpr ⟨lw_p9, List.forall_mem_cons.mpr ⟨lw_p10, List.forall_mem_cons.mpr ⟨lw_p11, List.forall_mem_cons.mpr ⟨lw_p12, List.forall_mem_cons.mpr ⟨lw_p13, List.forall_mem_cons.mpr ⟨lw_p14, List.forall_mem_cons.mpr ⟨lw_p15, fun _ h => absurd h List.not_mem_nil⟩⟩⟩⟩⟩⟩⟩⟩⟩⟩⟩⟩⟩⟩⟩⟩
theorem lw_p16 : lw_okq (⟨"CrowLikeness$Tape", "passDigits", "()V"⟩, 7) := ⟨⟨by decide +kernel, by decide +kernel⟩, List.mem_of_getElem? (i := 123) (by decide +kernel), List.mem_of_getElem? (i := 527) (by decide +kernel), List.mem_of_getElem? (i := 528) (by decide +kernel)⟩
theorem lw_p17 : lw_okq (⟨"CrowLikeness$Tape", "takeItem", "(LCrowLikeness$Plain;)Z"⟩, 7) := ⟨⟨by decide +kernel, by decide +kernel⟩, List.mem_of_getElem? (i := 123) (by decide +kernel), List.mem_of_getElem? (i := 532) (by decide +kernel), List.mem_of_getElem? (i := 533) (by decide +kernel)⟩
theorem lw_p18 : lw_okq (⟨"CrowLikeness$Tape", "kindNamed", "()I"⟩, 7) := ⟨⟨by decide +kernel, by decide +kernel⟩, List.mem_of_getElem? (i := 123) (by decide +kernel), List.mem_of_getElem? (i := 536) (by decide +kernel), List.mem_of_getElem? (i := 537) (by decide +kernel)⟩
theorem lw_p19 : lw_okq (⟨"CrowLikeness$Tape", "isWord", "(Ljava/lang/String;)Z"⟩, 7) := ⟨⟨by decide +kernel, by decide +kernel⟩, List.mem_of_getElem? (i := 123) (by decide +kernel), List.mem_of_getElem? (i := 549) (by decide +kernel), List.mem_of_getElem? (i := 550) (by decide +kernel)⟩
theorem lw_p20 : lw_okq (⟨"CrowLikeness$Tape", "takeSitter", "(LCrowLikeness$Plain;I)Z"⟩, 7) := ⟨⟨by decide +kernel, by decide +kernel⟩, List.mem_of_getElem? (i := 123) (by decide +kernel), List.mem_of_getElem? (i := 601) (by decide +kernel), List.mem_of_getElem? (i := 602) (by decide +kernel)⟩
theorem lw_p21 : lw_okq (⟨"CrowLikeness$Tape", "takeWord", "(Ljava/lang/String;)Z"⟩, 7) := ⟨⟨by decide +kernel, by decide +kernel⟩, List.mem_of_getElem? (i := 123) (by decide +kernel), List.mem_of_getElem? (i := 607) (by decide +kernel), List.mem_of_getElem? (i := 608) (by decide +kernel)⟩
theorem lw_p22 : lw_okq (⟨"CrowLikeness$Tape", "takeNumber", "(II)Z"⟩, 7) := ⟨⟨by decide +kernel, by decide +kernel⟩, List.mem_of_getElem? (i := 123) (by decide +kernel), List.mem_of_getElem? (i := 611) (by decide +kernel), List.mem_of_getElem? (i := 612) (by decide +kernel)⟩
theorem lw_p23 : lw_okq (⟨"CrowLikeness$Tape", "takeLikeness", "(LCrowLikeness$Plain;)Z"⟩, 7) := ⟨⟨by decide +kernel, by decide +kernel⟩, List.mem_of_getElem? (i := 123) (by decide +kernel), List.mem_of_getElem? (i := 618) (by decide +kernel), List.mem_of_getElem? (i := 619) (by decide +kernel)⟩
theorem lw_p24 : lw_okq (⟨"CrowLikeness$Tape", "takeWheat", "(LCrowLikeness$Plain;)Z"⟩, 7) := ⟨⟨by decide +kernel, by decide +kernel⟩, List.mem_of_getElem? (i := 123) (by decide +kernel), List.mem_of_getElem? (i := 625) (by decide +kernel), List.mem_of_getElem? (i := 626) (by decide +kernel)⟩
theorem lw_p25 : lw_okq (⟨"CrowLikeness$Tape", "takeCrows", "(LCrowLikeness$Plain;)Z"⟩, 7) := ⟨⟨by decide +kernel, by decide +kernel⟩, List.mem_of_getElem? (i := 123) (by decide +kernel), List.mem_of_getElem? (i := 631) (by decide +kernel), List.mem_of_getElem? (i := 632) (by decide +kernel)⟩
theorem lw_p26 : lw_okq (⟨"CrowLikeness$Sheet", "cut", "(J)J"⟩, 3) := ⟨⟨by decide +kernel, by decide +kernel⟩, List.mem_of_getElem? (i := 153) (by decide +kernel), List.mem_of_getElem? (i := 662) (by decide +kernel), List.mem_of_getElem? (i := 663) (by decide +kernel)⟩
theorem lw_p27 : lw_okq (⟨"CrowLikeness", "trialGoesAs", "(LCrowLikeness$Sheet;)Z"⟩, 8) := ⟨⟨by decide +kernel, by decide +kernel⟩, List.mem_of_getElem? (i := 17) (by decide +kernel), List.mem_of_getElem? (i := 688) (by decide +kernel), List.mem_of_getElem? (i := 689) (by decide +kernel)⟩
theorem lw_p28 : lw_okq (⟨"CrowLikenessModel", "becomes", "(II)I"⟩, 20) := ⟨⟨by decide +kernel, by decide +kernel⟩, List.mem_of_getElem? (i := 717) (by decide +kernel), List.mem_of_getElem? (i := 796) (by decide +kernel), List.mem_of_getElem? (i := 797) (by decide +kernel)⟩
theorem lw_p29 : lw_okq (⟨"CrowLikenessModel", "finds", "(I)I"⟩, 20) := ⟨⟨by decide +kernel, by decide +kernel⟩, List.mem_of_getElem? (i := 717) (by decide +kernel), List.mem_of_getElem? (i := 801) (by decide +kernel), List.mem_of_getElem? (i := 802) (by decide +kernel)⟩
theorem lw_p30 : lw_okq (⟨"CrowLikenessModel", "fear", "(I)I"⟩, 20) := ⟨⟨by decide +kernel, by decide +kernel⟩, List.mem_of_getElem? (i := 717) (by decide +kernel), List.mem_of_getElem? (i := 810) (by decide +kernel), List.mem_of_getElem? (i := 811) (by decide +kernel)⟩
theorem lw_p31 : lw_okq (⟨"CrowLikenessModel", "likes", "(II)I"⟩, 20) := ⟨⟨by decide +kernel, by decide +kernel⟩, List.mem_of_getElem? (i := 717) (by decide +kernel), List.mem_of_getElem? (i := 814) (by decide +kernel), List.mem_of_getElem? (i := 815) (by decide +kernel)⟩
def lw_privs_2 : List (MethodName × Nat) := [(⟨"CrowLikeness$Tape", "passDigits", "()V"⟩, 7), (⟨"CrowLikeness$Tape", "takeItem", "(LCrowLikeness$Plain;)Z"⟩, 7), (⟨"CrowLikeness$Tape", "kindNamed", "()I"⟩, 7), (⟨"CrowLikeness$Tape", "isWord", "(Ljava/lang/String;)Z"⟩, 7), (⟨"CrowLikeness$Tape", "takeSitter", "(LCrowLikeness$Plain;I)Z"⟩, 7), (⟨"CrowLikeness$Tape", "takeWord", "(Ljava/lang/String;)Z"⟩, 7), (⟨"CrowLikeness$Tape", "takeNumber", "(II)Z"⟩, 7), (⟨"CrowLikeness$Tape", "takeLikeness", "(LCrowLikeness$Plain;)Z"⟩, 7), (⟨"CrowLikeness$Tape", "takeWheat", "(LCrowLikeness$Plain;)Z"⟩, 7), (⟨"CrowLikeness$Tape", "takeCrows", "(LCrowLikeness$Plain;)Z"⟩, 7), (⟨"CrowLikeness$Sheet", "cut", "(J)J"⟩, 3), (⟨"CrowLikeness", "trialGoesAs", "(LCrowLikeness$Sheet;)Z"⟩, 8), (⟨"CrowLikenessModel", "becomes", "(II)I"⟩, 20), (⟨"CrowLikenessModel", "finds", "(I)I"⟩, 20), (⟨"CrowLikenessModel", "fear", "(I)I"⟩, 20), (⟨"CrowLikenessModel", "likes", "(II)I"⟩, 20)]
theorem lw_r2 : ∀ q ∈ lw_privs_2, lw_okq q := List.forall_mem_cons.mpr ⟨lw_p16, List.forall_mem_cons.mpr ⟨lw_p17, List.forall_mem_cons.mpr ⟨lw_p18, List.forall_mem_cons.mpr ⟨lw_p19, List.forall_mem_cons.mpr ⟨lw_p20, List.forall_mem_cons.mpr ⟨lw_p21, List.forall_mem_cons.mpr ⟨lw_p22, List.forall_mem_cons.mpr ⟨lw_p23, List.forall_mem_cons.mpr ⟨lw_p24, List.forall_mem_cons.mpr ⟨lw_p25, List.forall_mem_cons.mpr ⟨lw_p26, List.forall_mem_cons.mpr ⟨lw_p27, List.forall_mem_cons.mpr ⟨lw_p28, List.forall_mem_cons.mpr ⟨lw_p29, List.forall_mem_cons.mpr ⟨lw_p30, List.forall_mem_cons.mpr ⟨lw_p31, fun _ h => absurd h List.not_mem_nil⟩⟩⟩⟩⟩⟩⟩⟩⟩⟩⟩⟩⟩⟩⟩⟩
theorem lw_p32 : lw_okq (⟨"CrowLikenessModel", "isThere", "(I)Z"⟩, 20) := ⟨⟨by decide +kernel, by decide +kernel⟩, List.mem_of_getElem? (i := 717) (by decide +kernel), List.mem_of_getElem? (i := 821) (by decide +kernel), List.mem_of_getElem? (i := 822) (by decide +kernel)⟩
theorem lw_p33 : lw_okq (⟨"CrowLikenessModel", "scared", "(II)I"⟩, 20) := ⟨⟨by decide +kernel, by decide +kernel⟩, List.mem_of_getElem? (i := 717) (by decide +kernel), List.mem_of_getElem? (i := 828) (by decide +kernel), List.mem_of_getElem? (i := 829) (by decide +kernel)⟩
theorem lw_p34 : lw_okq (⟨"CrowLikenessModel", "counts", "(I)I"⟩, 20) := ⟨⟨by decide +kernel, by decide +kernel⟩, List.mem_of_getElem? (i := 717) (by decide +kernel), List.mem_of_getElem? (i := 832) (by decide +kernel), List.mem_of_getElem? (i := 833) (by decide +kernel)⟩
theorem lw_p35 : lw_okq (⟨"CrowLikenessModel", "its", "(II)I"⟩, 20) := ⟨⟨by decide +kernel, by decide +kernel⟩, List.mem_of_getElem? (i := 717) (by decide +kernel), List.mem_of_getElem? (i := 836) (by decide +kernel), List.mem_of_getElem? (i := 837) (by decide +kernel)⟩
theorem lw_p36 : lw_okq (⟨"CrowLikenessModel", "thoseAt", "(I)I"⟩, 20) := ⟨⟨by decide +kernel, by decide +kernel⟩, List.mem_of_getElem? (i := 717) (by decide +kernel), List.mem_of_getElem? (i := 846) (by decide +kernel), List.mem_of_getElem? (i := 847) (by decide +kernel)⟩
theorem lw_p37 : lw_okq (⟨"CrowLikenessModel", "adds", "(I)I"⟩, 20) := ⟨⟨by decide +kernel, by decide +kernel⟩, List.mem_of_getElem? (i := 717) (by decide +kernel), List.mem_of_getElem? (i := 864) (by decide +kernel), List.mem_of_getElem? (i := 865) (by decide +kernel)⟩
theorem lw_p38 : lw_okq (⟨"CrowLikenessModel", "isSitter", "(I)Z"⟩, 20) := ⟨⟨by decide +kernel, by decide +kernel⟩, List.mem_of_getElem? (i := 717) (by decide +kernel), List.mem_of_getElem? (i := 872) (by decide +kernel), List.mem_of_getElem? (i := 873) (by decide +kernel)⟩
theorem lw_p39 : lw_okq (⟨"CrowLikenessModel", "likenessesOf", "(I)I"⟩, 20) := ⟨⟨by decide +kernel, by decide +kernel⟩, List.mem_of_getElem? (i := 717) (by decide +kernel), List.mem_of_getElem? (i := 876) (by decide +kernel), List.mem_of_getElem? (i := 877) (by decide +kernel)⟩
theorem lw_p40 : lw_okq (⟨"CrowLikenessModel", "meets", "(I)I"⟩, 20) := ⟨⟨by decide +kernel, by decide +kernel⟩, List.mem_of_getElem? (i := 717) (by decide +kernel), List.mem_of_getElem? (i := 880) (by decide +kernel), List.mem_of_getElem? (i := 881) (by decide +kernel)⟩
theorem lw_p41 : lw_okq (⟨"CrowLikenessModel", "areMet", "(II)Z"⟩, 20) := ⟨⟨by decide +kernel, by decide +kernel⟩, List.mem_of_getElem? (i := 717) (by decide +kernel), List.mem_of_getElem? (i := 884) (by decide +kernel), List.mem_of_getElem? (i := 885) (by decide +kernel)⟩
theorem lw_p42 : lw_okq (⟨"CrowLikenessModel", "puts", "(II)I"⟩, 20) := ⟨⟨by decide +kernel, by decide +kernel⟩, List.mem_of_getElem? (i := 717) (by decide +kernel), List.mem_of_getElem? (i := 909) (by decide +kernel), List.mem_of_getElem? (i := 910) (by decide +kernel)⟩
theorem lw_p43 : lw_okq (⟨"CrowLikenessModel", "isLikeness", "(I)Z"⟩, 20) := ⟨⟨by decide +kernel, by decide +kernel⟩, List.mem_of_getElem? (i := 717) (by decide +kernel), List.mem_of_getElem? (i := 917) (by decide +kernel), List.mem_of_getElem? (i := 918) (by decide +kernel)⟩
theorem lw_p44 : lw_okq (⟨"CrowLikenessModel", "fearsNow", "()V"⟩, 20) := ⟨⟨by decide +kernel, by decide +kernel⟩, List.mem_of_getElem? (i := 717) (by decide +kernel), List.mem_of_getElem? (i := 936) (by decide +kernel), List.mem_of_getElem? (i := 937) (by decide +kernel)⟩
theorem lw_p45 : lw_okq (⟨"CrowLikenessModel", "fearBy", "(I)I"⟩, 20) := ⟨⟨by decide +kernel, by decide +kernel⟩, List.mem_of_getElem? (i := 717) (by decide +kernel), List.mem_of_getElem? (i := 940) (by decide +kernel), List.mem_of_getElem? (i := 941) (by decide +kernel)⟩
theorem lw_p46 : lw_okq (⟨"CrowLikenessModel", "landsAt", "()I"⟩, 20) := ⟨⟨by decide +kernel, by decide +kernel⟩, List.mem_of_getElem? (i := 717) (by decide +kernel), List.mem_of_getElem? (i := 944) (by decide +kernel), List.mem_of_getElem? (i := 945) (by decide +kernel)⟩
theorem lw_p47 : lw_okq (⟨"CrowLikenessModel", "daysGo", "(I)I"⟩, 20) := ⟨⟨by decide +kernel, by decide +kernel⟩, List.mem_of_getElem? (i := 717) (by decide +kernel), List.mem_of_getElem? (i := 955) (by decide +kernel), List.mem_of_getElem? (i := 956) (by decide +kernel)⟩
def lw_privs_3 : List (MethodName × Nat) := [(⟨"CrowLikenessModel", "isThere", "(I)Z"⟩, 20), (⟨"CrowLikenessModel", "scared", "(II)I"⟩, 20), (⟨"CrowLikenessModel", "counts", "(I)I"⟩, 20), (⟨"CrowLikenessModel", "its", "(II)I"⟩, 20), (⟨"CrowLikenessModel", "thoseAt", "(I)I"⟩, 20), (⟨"CrowLikenessModel", "adds", "(I)I"⟩, 20), (⟨"CrowLikenessModel", "isSitter", "(I)Z"⟩, 20), (⟨"CrowLikenessModel", "likenessesOf", "(I)I"⟩, 20), (⟨"CrowLikenessModel", "meets", "(I)I"⟩, 20), (⟨"CrowLikenessModel", "areMet", "(II)Z"⟩, 20), (⟨"CrowLikenessModel", "puts", "(II)I"⟩, 20), (⟨"CrowLikenessModel", "isLikeness", "(I)Z"⟩, 20), (⟨"CrowLikenessModel", "fearsNow", "()V"⟩, 20), (⟨"CrowLikenessModel", "fearBy", "(I)I"⟩, 20), (⟨"CrowLikenessModel", "landsAt", "()I"⟩, 20), (⟨"CrowLikenessModel", "daysGo", "(I)I"⟩, 20)]
theorem lw_r3 : ∀ q ∈ lw_privs_3, lw_okq q := List.forall_mem_cons.mpr ⟨lw_p32, List.forall_mem_cons.mpr ⟨lw_p33, List.forall_mem_cons.mpr ⟨lw_p34, List.forall_mem_cons.mpr ⟨lw_p35, List.forall_mem_cons.mpr ⟨lw_p36, List.forall_mem_cons.mpr ⟨lw_p37, List.forall_mem_cons.mpr ⟨lw_p38, List.forall_mem_cons.mpr ⟨lw_p39, List.forall_mem_cons.mpr ⟨lw_p40, List.forall_mem_cons.mpr ⟨lw_p41, List.forall_mem_cons.mpr ⟨lw_p42, List.forall_mem_cons.mpr ⟨lw_p43, List.forall_mem_cons.mpr ⟨lw_p44, List.forall_mem_cons.mpr ⟨lw_p45, List.forall_mem_cons.mpr ⟨lw_p46, List.forall_mem_cons.mpr ⟨lw_p47, fun _ h => absurd h List.not_mem_nil⟩⟩⟩⟩⟩⟩⟩⟩⟩⟩⟩⟩⟩⟩⟩⟩
theorem lw_p48 : lw_okq (⟨"CrowLikenessModel", "day", "()I"⟩, 20) := ⟨⟨by decide +kernel, by decide +kernel⟩, List.mem_of_getElem? (i := 717) (by decide +kernel), List.mem_of_getElem? (i := 959) (by decide +kernel), List.mem_of_getElem? (i := 960) (by decide +kernel)⟩
theorem lw_p49 : lw_okq (⟨"CrowLikenessModel", "wheatAll", "()I"⟩, 20) := ⟨⟨by decide +kernel, by decide +kernel⟩, List.mem_of_getElem? (i := 717) (by decide +kernel), List.mem_of_getElem? (i := 967) (by decide +kernel), List.mem_of_getElem? (i := 968) (by decide +kernel)⟩
theorem lw_p50 : lw_okq (⟨"CrowLikenessModel", "fees", "()I"⟩, 20) := ⟨⟨by decide +kernel, by decide +kernel⟩, List.mem_of_getElem? (i := 717) (by decide +kernel), List.mem_of_getElem? (i := 971) (by decide +kernel), List.mem_of_getElem? (i := 972) (by decide +kernel)⟩
theorem lw_p51 : lw_okq (⟨"CrowLikenessModel", "feared", "()I"⟩, 20) := ⟨⟨by decide +kernel, by decide +kernel⟩, List.mem_of_getElem? (i := 717) (by decide +kernel), List.mem_of_getElem? (i := 975) (by decide +kernel), List.mem_of_getElem? (i := 976) (by decide +kernel)⟩
theorem lw_p52 : lw_okq (⟨"CrowLikenessModel", "meeting", "()I"⟩, 20) := ⟨⟨by decide +kernel, by decide +kernel⟩, List.mem_of_getElem? (i := 717) (by decide +kernel), List.mem_of_getElem? (i := 979) (by decide +kernel), List.mem_of_getElem? (i := 980) (by decide +kernel)⟩
theorem lw_p53 : lw_okq (⟨"CrowLikenessModel", "laysAside", "()V"⟩, 20) := ⟨⟨by decide +kernel, by decide +kernel⟩, List.mem_of_getElem? (i := 717) (by decide +kernel), List.mem_of_getElem? (i := 987) (by decide +kernel), List.mem_of_getElem? (i := 988) (by decide +kernel)⟩
theorem lw_p54 : lw_okq (⟨"CrowLikenessModel", "takesBack", "(I)I"⟩, 20) := ⟨⟨by decide +kernel, by decide +kernel⟩, List.mem_of_getElem? (i := 717) (by decide +kernel), List.mem_of_getElem? (i := 991) (by decide +kernel), List.mem_of_getElem? (i := 992) (by decide +kernel)⟩
theorem lw_p55 : lw_okq (⟨"CrowLikenessModel", "eatenOn", "(I)I"⟩, 20) := ⟨⟨by decide +kernel, by decide +kernel⟩, List.mem_of_getElem? (i := 717) (by decide +kernel), List.mem_of_getElem? (i := 999) (by decide +kernel), List.mem_of_getElem? (i := 1000) (by decide +kernel)⟩
theorem lw_p56 : lw_okq (⟨"CrowLikenessModel", "leastBy", "(III)I"⟩, 20) := ⟨⟨by decide +kernel, by decide +kernel⟩, List.mem_of_getElem? (i := 717) (by decide +kernel), List.mem_of_getElem? (i := 1014) (by decide +kernel), List.mem_of_getElem? (i := 1015) (by decide +kernel)⟩
theorem lw_p57 : lw_okq (⟨"CrowLikenessModel", "eatenWithout", "(II)I"⟩, 20) := ⟨⟨by decide +kernel, by decide +kernel⟩, List.mem_of_getElem? (i := 717) (by decide +kernel), List.mem_of_getElem? (i := 1038) (by decide +kernel), List.mem_of_getElem? (i := 1039) (by decide +kernel)⟩
theorem lw_p58 : lw_okq (⟨"CrowLikenessModel", "swapped", "(III)I"⟩, 20) := ⟨⟨by decide +kernel, by decide +kernel⟩, List.mem_of_getElem? (i := 717) (by decide +kernel), List.mem_of_getElem? (i := 1054) (by decide +kernel), List.mem_of_getElem? (i := 1055) (by decide +kernel)⟩
theorem lw_p59 : lw_okq (⟨"CrowLikenessModel", "saves", "()V"⟩, 20) := ⟨⟨by decide +kernel, by decide +kernel⟩, List.mem_of_getElem? (i := 717) (by decide +kernel), List.mem_of_getElem? (i := 1070) (by decide +kernel), List.mem_of_getElem? (i := 1071) (by decide +kernel)⟩
theorem lw_p60 : lw_okq (⟨"CrowLikenessModel", "token", "()V"⟩, 20) := ⟨⟨by decide +kernel, by decide +kernel⟩, List.mem_of_getElem? (i := 717) (by decide +kernel), List.mem_of_getElem? (i := 1074) (by decide +kernel), List.mem_of_getElem? (i := 1075) (by decide +kernel)⟩
theorem lw_p61 : lw_okq (⟨"CrowLikenessModel", "byteAt", "(I)I"⟩, 20) := ⟨⟨by decide +kernel, by decide +kernel⟩, List.mem_of_getElem? (i := 717) (by decide +kernel), List.mem_of_getElem? (i := 1078) (by decide +kernel), List.mem_of_getElem? (i := 1079) (by decide +kernel)⟩
theorem lw_p62 : lw_okq (⟨"CrowLikenessModel", "item", "()V"⟩, 20) := ⟨⟨by decide +kernel, by decide +kernel⟩, List.mem_of_getElem? (i := 717) (by decide +kernel), List.mem_of_getElem? (i := 1092) (by decide +kernel), List.mem_of_getElem? (i := 1093) (by decide +kernel)⟩
theorem lw_p63 : lw_okq (⟨"CrowLikenessModel", "kindHere", "()I"⟩, 20) := ⟨⟨by decide +kernel, by decide +kernel⟩, List.mem_of_getElem? (i := 717) (by decide +kernel), List.mem_of_getElem? (i := 1096) (by decide +kernel), List.mem_of_getElem? (i := 1097) (by decide +kernel)⟩
def lw_privs_4 : List (MethodName × Nat) := [(⟨"CrowLikenessModel", "day", "()I"⟩, 20), (⟨"CrowLikenessModel", "wheatAll", "()I"⟩, 20), (⟨"CrowLikenessModel", "fees", "()I"⟩, 20), (⟨"CrowLikenessModel", "feared", "()I"⟩, 20), (⟨"CrowLikenessModel", "meeting", "()I"⟩, 20), (⟨"CrowLikenessModel", "laysAside", "()V"⟩, 20), (⟨"CrowLikenessModel", "takesBack", "(I)I"⟩, 20), (⟨"CrowLikenessModel", "eatenOn", "(I)I"⟩, 20), (⟨"CrowLikenessModel", "leastBy", "(III)I"⟩, 20), (⟨"CrowLikenessModel", "eatenWithout", "(II)I"⟩, 20), (⟨"CrowLikenessModel", "swapped", "(III)I"⟩, 20), (⟨"CrowLikenessModel", "saves", "()V"⟩, 20), (⟨"CrowLikenessModel", "token", "()V"⟩, 20), (⟨"CrowLikenessModel", "byteAt", "(I)I"⟩, 20), (⟨"CrowLikenessModel", "item", "()V"⟩, 20), (⟨"CrowLikenessModel", "kindHere", "()I"⟩, 20)]
theorem lw_r4 : ∀ q ∈ lw_privs_4, lw_okq q := List.forall_mem_cons.mpr ⟨lw_p48, List.forall_mem_cons.mpr ⟨lw_p49, List.forall_mem_cons.mpr ⟨lw_p50, List.forall_mem_cons.mpr ⟨lw_p51, List.forall_mem_cons.mpr ⟨lw_p52, List.forall_mem_cons.mpr ⟨lw_p53, List.forall_mem_cons.mpr ⟨lw_p54, List.forall_mem_cons.mpr ⟨lw_p55, List.forall_mem_cons.mpr ⟨lw_p56, List.forall_mem_cons.mpr ⟨lw_p57, List.forall_mem_cons.mpr ⟨lw_p58, List.forall_mem_cons.mpr ⟨lw_p59, List.forall_mem_cons.mpr ⟨lw_p60, List.forall_mem_cons.mpr ⟨lw_p61, List.forall_mem_cons.mpr ⟨lw_p62, List.forall_mem_cons.mpr ⟨lw_p63, fun _ h => absurd h List.not_mem_nil⟩⟩⟩⟩⟩⟩⟩⟩⟩⟩⟩⟩⟩⟩⟩⟩
theorem lw_p64 : lw_okq (⟨"CrowLikenessModel", "word", "()J"⟩, 20) := ⟨⟨by decide +kernel, by decide +kernel⟩, List.mem_of_getElem? (i := 717) (by decide +kernel), List.mem_of_getElem? (i := 1100) (by decide +kernel), List.mem_of_getElem? (i := 1101) (by decide +kernel)⟩
theorem lw_p65 : lw_okq (⟨"CrowLikenessModel", "sitterItem", "(I)V"⟩, 20) := ⟨⟨by decide +kernel, by decide +kernel⟩, List.mem_of_getElem? (i := 717) (by decide +kernel), List.mem_of_getElem? (i := 1112) (by decide +kernel), List.mem_of_getElem? (i := 1113) (by decide +kernel)⟩
theorem lw_p66 : lw_okq (⟨"CrowLikenessModel", "must", "(Z)V"⟩, 20) := ⟨⟨by decide +kernel, by decide +kernel⟩, List.mem_of_getElem? (i := 717) (by decide +kernel), List.mem_of_getElem? (i := 1116) (by decide +kernel), List.mem_of_getElem? (i := 1117) (by decide +kernel)⟩
theorem lw_p67 : lw_okq (⟨"CrowLikenessModel", "number", "(II)V"⟩, 20) := ⟨⟨by decide +kernel, by decide +kernel⟩, List.mem_of_getElem? (i := 717) (by decide +kernel), List.mem_of_getElem? (i := 1121) (by decide +kernel), List.mem_of_getElem? (i := 1122) (by decide +kernel)⟩
theorem lw_p68 : lw_okq (⟨"CrowLikenessModel", "likenessItem", "()V"⟩, 20) := ⟨⟨by decide +kernel, by decide +kernel⟩, List.mem_of_getElem? (i := 717) (by decide +kernel), List.mem_of_getElem? (i := 1127) (by decide +kernel), List.mem_of_getElem? (i := 1128) (by decide +kernel)⟩
theorem lw_p69 : lw_okq (⟨"CrowLikenessModel", "wheatItem", "()V"⟩, 20) := ⟨⟨by decide +kernel, by decide +kernel⟩, List.mem_of_getElem? (i := 717) (by decide +kernel), List.mem_of_getElem? (i := 1133) (by decide +kernel), List.mem_of_getElem? (i := 1134) (by decide +kernel)⟩
theorem lw_p70 : lw_okq (⟨"CrowLikenessModel", "putsBack", "()V"⟩, 20) := ⟨⟨by decide +kernel, by decide +kernel⟩, List.mem_of_getElem? (i := 717) (by decide +kernel), List.mem_of_getElem? (i := 1139) (by decide +kernel), List.mem_of_getElem? (i := 1140) (by decide +kernel)⟩
theorem lw_p71 : lw_okq (⟨"CrowLikenessModel", "wrongSheet", "(I)I"⟩, 20) := ⟨⟨by decide +kernel, by decide +kernel⟩, List.mem_of_getElem? (i := 717) (by decide +kernel), List.mem_of_getElem? (i := 1156) (by decide +kernel), List.mem_of_getElem? (i := 1157) (by decide +kernel)⟩
theorem lw_p72 : lw_okq (⟨"CrowLikenessModel", "isBook", "(I)Z"⟩, 20) := ⟨⟨by decide +kernel, by decide +kernel⟩, List.mem_of_getElem? (i := 717) (by decide +kernel), List.mem_of_getElem? (i := 1180) (by decide +kernel), List.mem_of_getElem? (i := 1181) (by decide +kernel)⟩
theorem lw_p73 : lw_okq (⟨"CrowLikenessModel", "tempers", "()I"⟩, 20) := ⟨⟨by decide +kernel, by decide +kernel⟩, List.mem_of_getElem? (i := 717) (by decide +kernel), List.mem_of_getElem? (i := 1200) (by decide +kernel), List.mem_of_getElem? (i := 1201) (by decide +kernel)⟩
def lw_privs_5 : List (MethodName × Nat) := [(⟨"CrowLikenessModel", "word", "()J"⟩, 20), (⟨"CrowLikenessModel", "sitterItem", "(I)V"⟩, 20), (⟨"CrowLikenessModel", "must", "(Z)V"⟩, 20), (⟨"CrowLikenessModel", "number", "(II)V"⟩, 20), (⟨"CrowLikenessModel", "likenessItem", "()V"⟩, 20), (⟨"CrowLikenessModel", "wheatItem", "()V"⟩, 20), (⟨"CrowLikenessModel", "putsBack", "()V"⟩, 20), (⟨"CrowLikenessModel", "wrongSheet", "(I)I"⟩, 20), (⟨"CrowLikenessModel", "isBook", "(I)Z"⟩, 20), (⟨"CrowLikenessModel", "tempers", "()I"⟩, 20)]
theorem lw_r5 : ∀ q ∈ lw_privs_5, lw_okq q := List.forall_mem_cons.mpr ⟨lw_p64, List.forall_mem_cons.mpr ⟨lw_p65, List.forall_mem_cons.mpr ⟨lw_p66, List.forall_mem_cons.mpr ⟨lw_p67, List.forall_mem_cons.mpr ⟨lw_p68, List.forall_mem_cons.mpr ⟨lw_p69, List.forall_mem_cons.mpr ⟨lw_p70, List.forall_mem_cons.mpr ⟨lw_p71, List.forall_mem_cons.mpr ⟨lw_p72, List.forall_mem_cons.mpr ⟨lw_p73, fun _ h => absurd h List.not_mem_nil⟩⟩⟩⟩⟩⟩⟩⟩⟩⟩
def lw_privs : List (MethodName × Nat) := lw_privs_1 ++ (lw_privs_2 ++ (lw_privs_3 ++ (lw_privs_4 ++ (lw_privs_5))))
def lw_tbl : List Cond := k2_sels lw_privs ++ tables_1
theorem lw_privs_ok : ∀ q ∈ lw_privs, lw_okq q := by
  show ∀ q ∈ lw_privs_1 ++ (lw_privs_2 ++ (lw_privs_3 ++ (lw_privs_4 ++ (lw_privs_5)))), lw_okq q
  exact List.forall_mem_append.mpr ⟨lw_r1, List.forall_mem_append.mpr ⟨lw_r2, List.forall_mem_append.mpr ⟨lw_r3, List.forall_mem_append.mpr ⟨lw_r4, lw_r5⟩⟩⟩⟩
end
section
def RX0 : String := "CrowLikeness$Flock"
def TX0 : u_T := fun k => match k with
  | 0 => ("CrowLikeness$Flock", "fears", "[I", true)
  | 1 => ("CrowLikeness$Flock", "counts", "[I", true)
  | 2 => ("CrowLikeness$Flock", "scaresByDistance", "[I", true)
  | 3 => ("CrowLikeness$Flock", "mostByOwner", "[I", true)
  | _ => ("CrowLikeness$Flock", "meetings", "[I", true)
def tyX0 : Nat → FieldType := fun k => match k with
  | 0 => .array .int
  | 1 => .array .int
  | 2 => .array .int
  | 3 => .array .int
  | _ => .array .int
abbrev wsX00 : List Cond := u_ws RX0 TX0 5
theorem nmX0 : ∀ a, a < 5 → ∀ b, b < 5 → a ≠ b → (TX0 a).2.1 ≠ (TX0 b).2.1 := by decide +kernel
theorem tyX0_ok : ∀ k, k < 5 → parseFieldDescriptor (TX0 k).2.2.1 = some (tyX0 k) := by decide +kernel
abbrev cX0_init : ByteArray := prog_2_method_1_code
def yX0_init : MethodName := ⟨RX0, "<init>", "()V"⟩
abbrev cX0_look : ByteArray := prog_2_method_2_code
def yX0_look : MethodName := ⟨RX0, "look", "(LCrowLikeness$Plain;)V"⟩
abbrev cX0_landing : ByteArray := prog_2_method_3_code
def yX0_landing : MethodName := ⟨RX0, "landing", "(LCrowLikeness$Plain;)I"⟩
abbrev cX0_fearedCells : ByteArray := prog_2_method_4_code
def yX0_fearedCells : MethodName := ⟨RX0, "fearedCells", "()I"⟩
abbrev cX0_passDays : ByteArray := prog_2_method_5_code
def yX0_passDays : MethodName := ⟨RX0, "passDays", "(LCrowLikeness$Plain;II)I"⟩
abbrev cX0_passDay : ByteArray := prog_2_method_6_code
def yX0_passDay : MethodName := ⟨RX0, "passDay", "(LCrowLikeness$Plain;)I"⟩
abbrev cX0_renewScares : ByteArray := prog_2_method_7_code
def yX0_renewScares : MethodName := ⟨RX0, "renewScares", "(LCrowLikeness$Plain;)Z"⟩
abbrev cX0_takeScares : ByteArray := prog_2_method_8_code
def yX0_takeScares : MethodName := ⟨RX0, "takeScares", "(LCrowLikeness$Plain;II)V"⟩
abbrev cX0_weighFears : ByteArray := prog_2_method_9_code
def yX0_weighFears : MethodName := ⟨RX0, "weighFears", "(LCrowLikeness$Plain;)V"⟩
abbrev cX0_fearAt : ByteArray := prog_2_method_10_code
def yX0_fearAt : MethodName := ⟨RX0, "fearAt", "(LCrowLikeness$Plain;I)I"⟩
abbrev cX0_growOlder : ByteArray := prog_2_method_11_code
def yX0_growOlder : MethodName := ⟨RX0, "growOlder", "(LCrowLikeness$Plain;)V"⟩
def RX1 : String := "CrowLikeness$Kinds"
abbrev cX1_isUnder : ByteArray := prog_3_method_2_code
def yX1_isUnder : MethodName := ⟨RX1, "isUnder", "(II)Z"⟩
abbrev cX1_fade : ByteArray := prog_3_method_3_code
def yX1_fade : MethodName := ⟨RX1, "fade", "(III)I"⟩
abbrev cX1_scare : ByteArray := prog_3_method_4_code
def yX1_scare : MethodName := ⟨RX1, "scare", "(III)I"⟩
def RX2 : String := "CrowLikeness$Plain"
def TX2 : u_T := fun k => match k with
  | 0 => ("CrowLikeness$Plain", "wheats", "[I", true)
  | 1 => ("CrowLikeness$Plain", "crowsADay", "I", false)
  | 2 => ("CrowLikeness$Plain", "day", "I", false)
  | 3 => ("CrowLikeness$Plain", "sitters", "I", false)
  | 4 => ("CrowLikeness$Plain", "kinds", "[I", true)
  | 5 => ("CrowLikeness$Plain", "tempers", "[I", true)
  | 6 => ("CrowLikeness$Plain", "fees", "[I", true)
  | 7 => ("CrowLikeness$Plain", "sinces", "[I", true)
  | 8 => ("CrowLikeness$Plain", "likenesses", "I", false)
  | 9 => ("CrowLikeness$Plain", "cells", "[I", true)
  | 10 => ("CrowLikeness$Plain", "owners", "[I", true)
  | _ => ("CrowLikeness$Plain", "ages", "[I", true)
def tyX2 : Nat → FieldType := fun k => match k with
  | 0 => .array .int
  | 1 => .int
  | 2 => .int
  | 3 => .int
  | 4 => .array .int
  | 5 => .array .int
  | 6 => .array .int
  | 7 => .array .int
  | 8 => .int
  | 9 => .array .int
  | 10 => .array .int
  | _ => .array .int
abbrev wsX20 : List Cond := u_ws RX2 TX2 12
theorem nmX2 : ∀ a, a < 12 → ∀ b, b < 12 → a ≠ b → (TX2 a).2.1 ≠ (TX2 b).2.1 := by decide +kernel
theorem tyX2_ok : ∀ k, k < 12 → parseFieldDescriptor (TX2 k).2.2.1 = some (tyX2 k) := by decide +kernel
abbrev cX2_init : ByteArray := prog_4_method_1_code
def yX2_init : MethodName := ⟨RX2, "<init>", "()V"⟩
abbrev cX2_become : ByteArray := prog_4_method_2_code
def yX2_become : MethodName := ⟨RX2, "become", "(LCrowLikeness$Plain;)V"⟩
abbrev cX2_addSitter : ByteArray := prog_4_method_3_code
def yX2_addSitter : MethodName := ⟨RX2, "addSitter", "(I)I"⟩
abbrev cX2_addLikeness : ByteArray := prog_4_method_4_code
def yX2_addLikeness : MethodName := ⟨RX2, "addLikeness", "(II)I"⟩
abbrev cX2_keepOnly : ByteArray := prog_4_method_5_code
def yX2_keepOnly : MethodName := ⟨RX2, "keepOnly", "(I)V"⟩
abbrev cX2_allLikenesses : ByteArray := prog_4_method_6_code
def yX2_allLikenesses : MethodName := ⟨RX2, "allLikenesses", "()I"⟩
abbrev cX2_likenessesAt : ByteArray := prog_4_method_7_code
def yX2_likenessesAt : MethodName := ⟨RX2, "likenessesAt", "(I)I"⟩
abbrev cX2_likenessesOf : ByteArray := prog_4_method_8_code
def yX2_likenessesOf : MethodName := ⟨RX2, "likenessesOf", "(I)I"⟩
abbrev cX2_placesOf : ByteArray := prog_4_method_9_code
def yX2_placesOf : MethodName := ⟨RX2, "placesOf", "(I[I)I"⟩
abbrev cX2_meetings : ByteArray := prog_4_method_10_code
def yX2_meetings : MethodName := ⟨RX2, "meetings", "(I)I"⟩
abbrev cX2_isMeeting : ByteArray := prog_4_method_11_code
def yX2_isMeeting : MethodName := ⟨RX2, "isMeeting", "(II)Z"⟩
abbrev cX2_sittersWhoMeet : ByteArray := prog_4_method_12_code
def yX2_sittersWhoMeet : MethodName := ⟨RX2, "sittersWhoMeet", "()I"⟩
abbrev cX2_feesDue : ByteArray := prog_4_method_13_code
def yX2_feesDue : MethodName := ⟨RX2, "feesDue", "()I"⟩
abbrev cX2_wheatOfAll : ByteArray := prog_4_method_14_code
def yX2_wheatOfAll : MethodName := ⟨RX2, "wheatOfAll", "()I"⟩
abbrev cX2_temperOfAll : ByteArray := prog_4_method_15_code
def yX2_temperOfAll : MethodName := ⟨RX2, "temperOfAll", "()I"⟩
abbrev cX2_countsFor : ByteArray := prog_4_method_16_code
def yX2_countsFor : MethodName := ⟨RX2, "countsFor", "(I)I"⟩
abbrev cX2_scareOf : ByteArray := prog_4_method_17_code
def yX2_scareOf : MethodName := ⟨RX2, "scareOf", "(II)I"⟩
def RX3 : String := "CrowLikeness$Sheet"
def TX3 : u_T := fun k => match k with
  | 0 => ("CrowLikeness$Sheet", "numbers", "[J", true)
  | 1 => ("CrowLikeness$Sheet", "bits", "I", false)
  | _ => ("CrowLikeness$Sheet", "size", "I", false)
def tyX3 : Nat → FieldType := fun k => match k with
  | 0 => .array .long
  | 1 => .int
  | _ => .int
abbrev wsX30 : List Cond := u_ws RX3 TX3 3
theorem nmX3 : ∀ a, a < 3 → ∀ b, b < 3 → a ≠ b → (TX3 a).2.1 ≠ (TX3 b).2.1 := by decide +kernel
theorem tyX3_ok : ∀ k, k < 3 → parseFieldDescriptor (TX3 k).2.2.1 = some (tyX3 k) := by decide +kernel
abbrev cX3_init : ByteArray := prog_5_method_1_code
def yX3_init : MethodName := ⟨RX3, "<init>", "()V"⟩
abbrev cX3_begin : ByteArray := prog_5_method_2_code
def yX3_begin : MethodName := ⟨RX3, "begin", "(II)V"⟩
abbrev cX3_isMissing : ByteArray := prog_5_method_3_code
def yX3_isMissing : MethodName := ⟨RX3, "isMissing", "()Z"⟩
abbrev cX3_hasRun : ByteArray := prog_5_method_4_code
def yX3_hasRun : MethodName := ⟨RX3, "hasRun", "(II)Z"⟩
abbrev cX3_put : ByteArray := prog_5_method_5_code
def yX3_put : MethodName := ⟨RX3, "put", "(IJ)V"⟩
abbrev cX3_cut : ByteArray := prog_5_method_6_code
def yX3_cut : MethodName := ⟨RX3, "cut", "(J)J"⟩
def RX4 : String := "CrowLikeness$Tape"
def TX4 : u_T := fun k => match k with
  | 0 => ("CrowLikeness$Tape", "bytes", "[I", true)
  | 1 => ("CrowLikeness$Tape", "length", "I", false)
  | 2 => ("CrowLikeness$Tape", "token", "I", false)
  | 3 => ("CrowLikeness$Tape", "start", "I", false)
  | 4 => ("CrowLikeness$Tape", "next", "I", false)
  | 5 => ("CrowLikeness$Tape", "number", "I", false)
  | _ => ("CrowLikeness$Tape", "taken", "I", false)
def tyX4 : Nat → FieldType := fun k => match k with
  | 0 => .array .int
  | 1 => .int
  | 2 => .int
  | 3 => .int
  | 4 => .int
  | 5 => .int
  | _ => .int
abbrev wsX40 : List Cond := u_ws RX4 TX4 7
theorem nmX4 : ∀ a, a < 7 → ∀ b, b < 7 → a ≠ b → (TX4 a).2.1 ≠ (TX4 b).2.1 := by decide +kernel
theorem tyX4_ok : ∀ k, k < 7 → parseFieldDescriptor (TX4 k).2.2.1 = some (tyX4 k) := by decide +kernel
abbrev cX4_init : ByteArray := prog_6_method_1_code
def yX4_init : MethodName := ⟨RX4, "<init>", "()V"⟩
abbrev cX4_add : ByteArray := prog_6_method_2_code
def yX4_add : MethodName := ⟨RX4, "add", "(I)V"⟩
abbrev cX4_parse : ByteArray := prog_6_method_3_code
def yX4_parse : MethodName := ⟨RX4, "parse", "(LCrowLikeness$Plain;)I"⟩
abbrev cX4_takeItem : ByteArray := prog_6_method_4_code
def yX4_takeItem : MethodName := ⟨RX4, "takeItem", "(LCrowLikeness$Plain;)Z"⟩
abbrev cX4_takeSitter : ByteArray := prog_6_method_5_code
def yX4_takeSitter : MethodName := ⟨RX4, "takeSitter", "(LCrowLikeness$Plain;I)Z"⟩
abbrev cX4_takeLikeness : ByteArray := prog_6_method_6_code
def yX4_takeLikeness : MethodName := ⟨RX4, "takeLikeness", "(LCrowLikeness$Plain;)Z"⟩
abbrev cX4_takeWheat : ByteArray := prog_6_method_7_code
def yX4_takeWheat : MethodName := ⟨RX4, "takeWheat", "(LCrowLikeness$Plain;)Z"⟩
abbrev cX4_takeCrows : ByteArray := prog_6_method_8_code
def yX4_takeCrows : MethodName := ⟨RX4, "takeCrows", "(LCrowLikeness$Plain;)Z"⟩
abbrev cX4_takeWord : ByteArray := prog_6_method_9_code
def yX4_takeWord : MethodName := ⟨RX4, "takeWord", "(Ljava/lang/String;)Z"⟩
abbrev cX4_takeNumber : ByteArray := prog_6_method_10_code
def yX4_takeNumber : MethodName := ⟨RX4, "takeNumber", "(II)Z"⟩
abbrev cX4_kindNamed : ByteArray := prog_6_method_11_code
def yX4_kindNamed : MethodName := ⟨RX4, "kindNamed", "()I"⟩
abbrev cX4_nameOf : ByteArray := prog_6_method_12_code
def yX4_nameOf : MethodName := ⟨RX4, "nameOf", "(I)Ljava/lang/String;"⟩
abbrev cX4_isWord : ByteArray := prog_6_method_13_code
def yX4_isWord : MethodName := ⟨RX4, "isWord", "(Ljava/lang/String;)Z"⟩
abbrev cX4_advance : ByteArray := prog_6_method_14_code
def yX4_advance : MethodName := ⟨RX4, "advance", "()V"⟩
abbrev cX4_passLetters : ByteArray := prog_6_method_15_code
def yX4_passLetters : MethodName := ⟨RX4, "passLetters", "()V"⟩
abbrev cX4_passDigits : ByteArray := prog_6_method_16_code
def yX4_passDigits : MethodName := ⟨RX4, "passDigits", "()V"⟩
abbrev cX4_isLetter : ByteArray := prog_6_method_17_code
def yX4_isLetter : MethodName := ⟨RX4, "isLetter", "(I)Z"⟩
abbrev cX4_isDigit : ByteArray := prog_6_method_18_code
def yX4_isDigit : MethodName := ⟨RX4, "isDigit", "(I)Z"⟩
def RX5 : String := "CrowLikeness"
def TX5 : u_T := fun k => match k with
  | 0 => ("CrowLikeness", "here", "LCrowLikeness$Plain;", true)
  | 1 => ("CrowLikeness", "kept", "LCrowLikeness$Plain;", true)
  | 2 => ("CrowLikeness", "trial", "LCrowLikeness$Plain;", true)
  | 3 => ("CrowLikeness", "flock", "LCrowLikeness$Flock;", true)
  | 4 => ("CrowLikeness", "tape", "LCrowLikeness$Tape;", true)
  | 5 => ("CrowLikeness", "sheets", "[LCrowLikeness$Sheet;", true)
  | 6 => ("CrowLikeness", "found", "[I", true)
  | _ => ("CrowLikeness", "isKept", "Z", false)
def tyX5 : Nat → FieldType := fun k => match k with
  | 0 => .object "CrowLikeness$Plain"
  | 1 => .object "CrowLikeness$Plain"
  | 2 => .object "CrowLikeness$Plain"
  | 3 => .object "CrowLikeness$Flock"
  | 4 => .object "CrowLikeness$Tape"
  | 5 => .array (.object "CrowLikeness$Sheet")
  | 6 => .array .int
  | _ => .boolean
abbrev wsX50 : List Cond := u_ws RX5 TX5 8
theorem nmX5 : ∀ a, a < 8 → ∀ b, b < 8 → a ≠ b → (TX5 a).2.1 ≠ (TX5 b).2.1 := by decide +kernel
theorem tyX5_ok : ∀ k, k < 8 → parseFieldDescriptor (TX5 k).2.2.1 = some (tyX5 k) := by decide +kernel
abbrev cX5_init : ByteArray := prog_1_method_1_code
def yX5_init : MethodName := ⟨RX5, "<init>", "()V"⟩
abbrev cX5_wheat : ByteArray := prog_1_method_2_code
def yX5_wheat : MethodName := ⟨RX5, "wheat", "(II)I"⟩
abbrev cX5_cell : ByteArray := prog_1_method_3_code
def yX5_cell : MethodName := ⟨RX5, "cell", "(II)I"⟩
abbrev cX5_crows : ByteArray := prog_1_method_4_code
def yX5_crows : MethodName := ⟨RX5, "crows", "(I)I"⟩
abbrev cX5_sitter : ByteArray := prog_1_method_5_code
def yX5_sitter : MethodName := ⟨RX5, "sitter", "(I)I"⟩
abbrev cX5_of : ByteArray := prog_1_method_6_code
def yX5_of : MethodName := ⟨RX5, "of", "(II)I"⟩
abbrev cX5_set : ByteArray := prog_1_method_7_code
def yX5_set : MethodName := ⟨RX5, "set", "(III)I"⟩
abbrev cX5_turn : ByteArray := prog_1_method_8_code
def yX5_turn : MethodName := ⟨RX5, "turn", "(II)I"⟩
abbrev cX5_as : ByteArray := prog_1_method_9_code
def yX5_as : MethodName := ⟨RX5, "as", "(II)I"⟩
abbrev cX5_likeness : ByteArray := prog_1_method_10_code
def yX5_likeness : MethodName := ⟨RX5, "likeness", "(II)I"⟩
abbrev cX5_told : ByteArray := prog_1_method_11_code
def yX5_told : MethodName := ⟨RX5, "told", "(II)I"⟩
abbrev cX5_place : ByteArray := prog_1_method_12_code
def yX5_place : MethodName := ⟨RX5, "place", "(III)I"⟩
abbrev cX5_scares : ByteArray := prog_1_method_13_code
def yX5_scares : MethodName := ⟨RX5, "scares", "(II)I"⟩
abbrev cX5_lands : ByteArray := prog_1_method_14_code
def yX5_lands : MethodName := ⟨RX5, "lands", "()I"⟩
abbrev cX5_days : ByteArray := prog_1_method_15_code
def yX5_days : MethodName := ⟨RX5, "days", "(I)I"⟩
abbrev cX5_now : ByteArray := prog_1_method_16_code
def yX5_now : MethodName := ⟨RX5, "now", "(I)I"⟩
abbrev cX5_on : ByteArray := prog_1_method_17_code
def yX5_on : MethodName := ⟨RX5, "on", "(II)I"⟩
abbrev cX5_eaten : ByteArray := prog_1_method_18_code
def yX5_eaten : MethodName := ⟨RX5, "eaten", "(I)I"⟩
abbrev cX5_first : ByteArray := prog_1_method_19_code
def yX5_first : MethodName := ⟨RX5, "first", "(I)I"⟩
abbrev cX5_spot : ByteArray := prog_1_method_20_code
def yX5_spot : MethodName := ⟨RX5, "spot", "(II)I"⟩
abbrev cX5_whose : ByteArray := prog_1_method_21_code
def yX5_whose : MethodName := ⟨RX5, "whose", "(II)I"⟩
abbrev cX5_kind : ByteArray := prog_1_method_22_code
def yX5_kind : MethodName := ⟨RX5, "kind", "(II)I"⟩
abbrev cX5_temper : ByteArray := prog_1_method_23_code
def yX5_temper : MethodName := ⟨RX5, "temper", "(II)I"⟩
abbrev cX5_keep : ByteArray := prog_1_method_24_code
def yX5_keep : MethodName := ⟨RX5, "keep", "(I)I"⟩
abbrev cX5_worth : ByteArray := prog_1_method_25_code
def yX5_worth : MethodName := ⟨RX5, "worth", "(I)I"⟩
abbrev cX5_apart : ByteArray := prog_1_method_26_code
def yX5_apart : MethodName := ⟨RX5, "apart", "(I)I"⟩
abbrev cX5_swap : ByteArray := prog_1_method_27_code
def yX5_swap : MethodName := ⟨RX5, "swap", "(I)I"⟩
abbrev cX5_feed : ByteArray := prog_1_method_28_code
def yX5_feed : MethodName := ⟨RX5, "feed", "(II)I"⟩
abbrev cX5_wipe : ByteArray := prog_1_method_29_code
def yX5_wipe : MethodName := ⟨RX5, "wipe", "()I"⟩
abbrev cX5_plain : ByteArray := prog_1_method_30_code
def yX5_plain : MethodName := ⟨RX5, "plain", "()I"⟩
abbrev cX5_sheet : ByteArray := prog_1_method_31_code
def yX5_sheet : MethodName := ⟨RX5, "sheet", "(III)I"⟩
abbrev cX5_write : ByteArray := prog_1_method_32_code
def yX5_write : MethodName := ⟨RX5, "write", "(IIJ)J"⟩
abbrev cX5_copy : ByteArray := prog_1_method_33_code
def yX5_copy : MethodName := ⟨RX5, "copy", "(IIIII)I"⟩
abbrev cX5_lays : ByteArray := prog_1_method_34_code
def yX5_lays : MethodName := ⟨RX5, "lays", "(I)I"⟩
abbrev cX5_book : ByteArray := prog_1_method_35_code
def yX5_book : MethodName := ⟨RX5, "book", "(I)I"⟩
abbrev cX5_read : ByteArray := prog_1_method_36_code
def yX5_read : MethodName := ⟨RX5, "read", "(II)I"⟩
abbrev cX5_image : ByteArray := prog_1_method_37_code
def yX5_image : MethodName := ⟨RX5, "image", "()I"⟩
abbrev cX5_undo : ByteArray := prog_1_method_38_code
def yX5_undo : MethodName := ⟨RX5, "undo", "()I"⟩
abbrev cX5_tear : ByteArray := prog_1_method_39_code
def yX5_tear : MethodName := ⟨RX5, "tear", "()I"⟩
abbrev cX5_count : ByteArray := prog_1_method_40_code
def yX5_count : MethodName := ⟨RX5, "count", "(I)I"⟩
abbrev cX5_status : ByteArray := prog_1_method_41_code
def yX5_status : MethodName := ⟨RX5, "status", "(I)I"⟩
abbrev cX5_finding : ByteArray := prog_1_method_42_code
def yX5_finding : MethodName := ⟨RX5, "finding", "(I)I"⟩
abbrev cX5_isSitter : ByteArray := prog_1_method_43_code
def yX5_isSitter : MethodName := ⟨RX5, "isSitter", "(I)Z"⟩
abbrev cX5_isLikeness : ByteArray := prog_1_method_44_code
def yX5_isLikeness : MethodName := ⟨RX5, "isLikeness", "(I)Z"⟩
abbrev cX5_eatenAsItIs : ByteArray := prog_1_method_45_code
def yX5_eatenAsItIs : MethodName := ⟨RX5, "eatenAsItIs", "(I)I"⟩
abbrev cX5_eatenWith : ByteArray := prog_1_method_46_code
def yX5_eatenWith : MethodName := ⟨RX5, "eatenWith", "(III)I"⟩
abbrev cX5_eatenSwapped : ByteArray := prog_1_method_47_code
def yX5_eatenSwapped : MethodName := ⟨RX5, "eatenSwapped", "(IIII)I"⟩
abbrev cX5_bestChoice : ByteArray := prog_1_method_48_code
def yX5_bestChoice : MethodName := ⟨RX5, "bestChoice", "([IIII)I"⟩
abbrev cX5_trialGoesAs : ByteArray := prog_1_method_49_code
def yX5_trialGoesAs : MethodName := ⟨RX5, "trialGoesAs", "(LCrowLikeness$Sheet;)Z"⟩
abbrev cX5_isWithin : ByteArray := prog_1_method_50_code
def yX5_isWithin : MethodName := ⟨RX5, "isWithin", "(III)Z"⟩
abbrev cX5_isCell : ByteArray := prog_1_method_51_code
def yX5_isCell : MethodName := ⟨RX5, "isCell", "(I)Z"⟩
abbrev cX5_isKind : ByteArray := prog_1_method_52_code
def yX5_isKind : MethodName := ⟨RX5, "isKind", "(I)Z"⟩
abbrev cX5_isSheet : ByteArray := prog_1_method_53_code
def yX5_isSheet : MethodName := ⟨RX5, "isSheet", "(I)Z"⟩
abbrev cX5_exchange : ByteArray := prog_1_method_54_code
def yX5_exchange : MethodName := ⟨RX5, "exchange", "([III)I"⟩
abbrev cX5_sumOf : ByteArray := prog_1_method_55_code
def yX5_sumOf : MethodName := ⟨RX5, "sumOf", "([II)I"⟩
abbrev cX5_distanceOf : ByteArray := prog_1_method_56_code
def yX5_distanceOf : MethodName := ⟨RX5, "distanceOf", "(II)I"⟩
def RX6 : String := "CrowLikenessModel"
def TX6 : u_T := fun k => match k with
  | 0 => ("CrowLikenessModel", "s", "[I", true)
  | 1 => ("CrowLikenessModel", "keptS", "[I", true)
  | 2 => ("CrowLikenessModel", "other", "[I", true)
  | 3 => ("CrowLikenessModel", "aside", "[I", true)
  | 4 => ("CrowLikenessModel", "statuses", "[I", true)
  | 5 => ("CrowLikenessModel", "isKept", "Z", false)
  | 6 => ("CrowLikenessModel", "absent", "I", false)
  | 7 => ("CrowLikenessModel", "fears", "[I", true)
  | 8 => ("CrowLikenessModel", "scaresBy", "[I", true)
  | 9 => ("CrowLikenessModel", "mostOf", "[I", true)
  | 10 => ("CrowLikenessModel", "tape", "[I", true)
  | 11 => ("CrowLikenessModel", "taped", "I", false)
  | 12 => ("CrowLikenessModel", "from", "I", false)
  | 13 => ("CrowLikenessModel", "to", "I", false)
  | 14 => ("CrowLikenessModel", "value", "I", false)
  | 15 => ("CrowLikenessModel", "isWrong", "Z", false)
  | 16 => ("CrowLikenessModel", "bitsOf", "[I", true)
  | 17 => ("CrowLikenessModel", "sizeOf", "[I", true)
  | 18 => ("CrowLikenessModel", "numbers", "[J", true)
  | _ => ("CrowLikenessModel", "moved", "[J", true)
def tyX6 : Nat → FieldType := fun k => match k with
  | 0 => .array .int
  | 1 => .array .int
  | 2 => .array .int
  | 3 => .array .int
  | 4 => .array .int
  | 5 => .boolean
  | 6 => .int
  | 7 => .array .int
  | 8 => .array .int
  | 9 => .array .int
  | 10 => .array .int
  | 11 => .int
  | 12 => .int
  | 13 => .int
  | 14 => .int
  | 15 => .boolean
  | 16 => .array .int
  | 17 => .array .int
  | 18 => .array .long
  | _ => .array .long
abbrev wsX60 : List Cond := u_ws RX6 TX6 20
theorem nmX6 : ∀ a, a < 20 → ∀ b, b < 20 → a ≠ b → (TX6 a).2.1 ≠ (TX6 b).2.1 := by decide +kernel
theorem tyX6_ok : ∀ k, k < 20 → parseFieldDescriptor (TX6 k).2.2.1 = some (tyX6 k) := by decide +kernel
abbrev cX6_init : ByteArray := prog_8_method_1_code
def yX6_init : MethodName := ⟨RX6, "<init>", "()V"⟩
abbrev cX6_in : ByteArray := prog_8_method_2_code
def yX6_in : MethodName := ⟨RX6, "in", "(JJJ)Z"⟩
abbrev cX6_finds : ByteArray := prog_8_method_3_code
def yX6_finds : MethodName := ⟨RX6, "finds", "(I)I"⟩
abbrev cX6_saves : ByteArray := prog_8_method_4_code
def yX6_saves : MethodName := ⟨RX6, "saves", "()V"⟩
abbrev cX6_putsBack : ByteArray := prog_8_method_5_code
def yX6_putsBack : MethodName := ⟨RX6, "putsBack", "()V"⟩
abbrev cX6_laysAside : ByteArray := prog_8_method_6_code
def yX6_laysAside : MethodName := ⟨RX6, "laysAside", "()V"⟩
abbrev cX6_takesBack : ByteArray := prog_8_method_7_code
def yX6_takesBack : MethodName := ⟨RX6, "takesBack", "(I)I"⟩
abbrev cX6_becomes : ByteArray := prog_8_method_8_code
def yX6_becomes : MethodName := ⟨RX6, "becomes", "(II)I"⟩
abbrev cX6_isCell : ByteArray := prog_8_method_9_code
def yX6_isCell : MethodName := ⟨RX6, "isCell", "(I)Z"⟩
abbrev cX6_isSitter : ByteArray := prog_8_method_10_code
def yX6_isSitter : MethodName := ⟨RX6, "isSitter", "(I)Z"⟩
abbrev cX6_isLikeness : ByteArray := prog_8_method_11_code
def yX6_isLikeness : MethodName := ⟨RX6, "isLikeness", "(I)Z"⟩
abbrev cX6_isKind : ByteArray := prog_8_method_12_code
def yX6_isKind : MethodName := ⟨RX6, "isKind", "(I)Z"⟩
abbrev cX6_spotOf : ByteArray := prog_8_method_13_code
def yX6_spotOf : MethodName := ⟨RX6, "spotOf", "(II)I"⟩
abbrev cX6_its : ByteArray := prog_8_method_14_code
def yX6_its : MethodName := ⟨RX6, "its", "(II)I"⟩
abbrev cX6_placeOf : ByteArray := prog_8_method_15_code
def yX6_placeOf : MethodName := ⟨RX6, "placeOf", "(II)I"⟩
abbrev cX6_likes : ByteArray := prog_8_method_16_code
def yX6_likes : MethodName := ⟨RX6, "likes", "(II)I"⟩
abbrev cX6_isThere : ByteArray := prog_8_method_17_code
def yX6_isThere : MethodName := ⟨RX6, "isThere", "(I)Z"⟩
abbrev cX6_far : ByteArray := prog_8_method_18_code
def yX6_far : MethodName := ⟨RX6, "far", "(II)I"⟩
abbrev cX6_counts : ByteArray := prog_8_method_19_code
def yX6_counts : MethodName := ⟨RX6, "counts", "(I)I"⟩
abbrev cX6_atLeastNothing : ByteArray := prog_8_method_20_code
def yX6_atLeastNothing : MethodName := ⟨RX6, "atLeastNothing", "(I)I"⟩
abbrev cX6_scared : ByteArray := prog_8_method_21_code
def yX6_scared : MethodName := ⟨RX6, "scared", "(II)I"⟩
abbrev cX6_fear : ByteArray := prog_8_method_22_code
def yX6_fear : MethodName := ⟨RX6, "fear", "(I)I"⟩
abbrev cX6_wheat : ByteArray := prog_8_method_23_code
def yX6_wheat : MethodName := ⟨RX6, "wheat", "(II)I"⟩
abbrev cX6_thoseAt : ByteArray := prog_8_method_24_code
def yX6_thoseAt : MethodName := ⟨RX6, "thoseAt", "(I)I"⟩
abbrev cX6_cell : ByteArray := prog_8_method_25_code
def yX6_cell : MethodName := ⟨RX6, "cell", "(II)I"⟩
abbrev cX6_crows : ByteArray := prog_8_method_26_code
def yX6_crows : MethodName := ⟨RX6, "crows", "(I)I"⟩
abbrev cX6_adds : ByteArray := prog_8_method_27_code
def yX6_adds : MethodName := ⟨RX6, "adds", "(I)I"⟩
abbrev cX6_sitter : ByteArray := prog_8_method_28_code
def yX6_sitter : MethodName := ⟨RX6, "sitter", "(I)I"⟩
abbrev cX6_likenessesOf : ByteArray := prog_8_method_29_code
def yX6_likenessesOf : MethodName := ⟨RX6, "likenessesOf", "(I)I"⟩
abbrev cX6_areMet : ByteArray := prog_8_method_30_code
def yX6_areMet : MethodName := ⟨RX6, "areMet", "(II)Z"⟩
abbrev cX6_meets : ByteArray := prog_8_method_31_code
def yX6_meets : MethodName := ⟨RX6, "meets", "(I)I"⟩
abbrev cX6_of : ByteArray := prog_8_method_32_code
def yX6_of : MethodName := ⟨RX6, "of", "(II)I"⟩
abbrev cX6_set : ByteArray := prog_8_method_33_code
def yX6_set : MethodName := ⟨RX6, "set", "(III)I"⟩
abbrev cX6_turn : ByteArray := prog_8_method_34_code
def yX6_turn : MethodName := ⟨RX6, "turn", "(II)I"⟩
abbrev cX6_isUnder : ByteArray := prog_8_method_35_code
def yX6_isUnder : MethodName := ⟨RX6, "isUnder", "(II)Z"⟩
abbrev cX6_as : ByteArray := prog_8_method_36_code
def yX6_as : MethodName := ⟨RX6, "as", "(II)I"⟩
abbrev cX6_puts : ByteArray := prog_8_method_37_code
def yX6_puts : MethodName := ⟨RX6, "puts", "(II)I"⟩
abbrev cX6_likeness : ByteArray := prog_8_method_38_code
def yX6_likeness : MethodName := ⟨RX6, "likeness", "(II)I"⟩
abbrev cX6_told : ByteArray := prog_8_method_39_code
def yX6_told : MethodName := ⟨RX6, "told", "(II)I"⟩
abbrev cX6_place : ByteArray := prog_8_method_40_code
def yX6_place : MethodName := ⟨RX6, "place", "(III)I"⟩
abbrev cX6_scares : ByteArray := prog_8_method_41_code
def yX6_scares : MethodName := ⟨RX6, "scares", "(II)I"⟩
abbrev cX6_fearBy : ByteArray := prog_8_method_42_code
def yX6_fearBy : MethodName := ⟨RX6, "fearBy", "(I)I"⟩
abbrev cX6_fearsNow : ByteArray := prog_8_method_43_code
def yX6_fearsNow : MethodName := ⟨RX6, "fearsNow", "()V"⟩
abbrev cX6_landsAt : ByteArray := prog_8_method_44_code
def yX6_landsAt : MethodName := ⟨RX6, "landsAt", "()I"⟩
abbrev cX6_lands : ByteArray := prog_8_method_45_code
def yX6_lands : MethodName := ⟨RX6, "lands", "()I"⟩
abbrev cX6_day : ByteArray := prog_8_method_46_code
def yX6_day : MethodName := ⟨RX6, "day", "()I"⟩
abbrev cX6_daysGo : ByteArray := prog_8_method_47_code
def yX6_daysGo : MethodName := ⟨RX6, "daysGo", "(I)I"⟩
abbrev cX6_days : ByteArray := prog_8_method_48_code
def yX6_days : MethodName := ⟨RX6, "days", "(I)I"⟩
abbrev cX6_wheatAll : ByteArray := prog_8_method_49_code
def yX6_wheatAll : MethodName := ⟨RX6, "wheatAll", "()I"⟩
abbrev cX6_fees : ByteArray := prog_8_method_50_code
def yX6_fees : MethodName := ⟨RX6, "fees", "()I"⟩
abbrev cX6_feared : ByteArray := prog_8_method_51_code
def yX6_feared : MethodName := ⟨RX6, "feared", "()I"⟩
abbrev cX6_meeting : ByteArray := prog_8_method_52_code
def yX6_meeting : MethodName := ⟨RX6, "meeting", "()I"⟩
abbrev cX6_now : ByteArray := prog_8_method_53_code
def yX6_now : MethodName := ⟨RX6, "now", "(I)I"⟩
abbrev cX6_on : ByteArray := prog_8_method_54_code
def yX6_on : MethodName := ⟨RX6, "on", "(II)I"⟩
abbrev cX6_eatenOn : ByteArray := prog_8_method_55_code
def yX6_eatenOn : MethodName := ⟨RX6, "eatenOn", "(I)I"⟩
abbrev cX6_eaten : ByteArray := prog_8_method_56_code
def yX6_eaten : MethodName := ⟨RX6, "eaten", "(I)I"⟩
abbrev cX6_first : ByteArray := prog_8_method_57_code
def yX6_first : MethodName := ⟨RX6, "first", "(I)I"⟩
abbrev cX6_isSoon : ByteArray := prog_8_method_58_code
def yX6_isSoon : MethodName := ⟨RX6, "isSoon", "(I)Z"⟩
abbrev cX6_leastBy : ByteArray := prog_8_method_59_code
def yX6_leastBy : MethodName := ⟨RX6, "leastBy", "(III)I"⟩
abbrev cX6_spot : ByteArray := prog_8_method_60_code
def yX6_spot : MethodName := ⟨RX6, "spot", "(II)I"⟩
abbrev cX6_whose : ByteArray := prog_8_method_61_code
def yX6_whose : MethodName := ⟨RX6, "whose", "(II)I"⟩
abbrev cX6_kind : ByteArray := prog_8_method_62_code
def yX6_kind : MethodName := ⟨RX6, "kind", "(II)I"⟩
abbrev cX6_temper : ByteArray := prog_8_method_63_code
def yX6_temper : MethodName := ⟨RX6, "temper", "(II)I"⟩
abbrev cX6_ones : ByteArray := prog_8_method_64_code
def yX6_ones : MethodName := ⟨RX6, "ones", "(I)I"⟩
abbrev cX6_eatenWithout : ByteArray := prog_8_method_65_code
def yX6_eatenWithout : MethodName := ⟨RX6, "eatenWithout", "(II)I"⟩
abbrev cX6_keep : ByteArray := prog_8_method_66_code
def yX6_keep : MethodName := ⟨RX6, "keep", "(I)I"⟩
abbrev cX6_worth : ByteArray := prog_8_method_67_code
def yX6_worth : MethodName := ⟨RX6, "worth", "(I)I"⟩
abbrev cX6_apart : ByteArray := prog_8_method_68_code
def yX6_apart : MethodName := ⟨RX6, "apart", "(I)I"⟩
abbrev cX6_swapped : ByteArray := prog_8_method_69_code
def yX6_swapped : MethodName := ⟨RX6, "swapped", "(III)I"⟩
abbrev cX6_swap : ByteArray := prog_8_method_70_code
def yX6_swap : MethodName := ⟨RX6, "swap", "(I)I"⟩
abbrev cX6_feed : ByteArray := prog_8_method_71_code
def yX6_feed : MethodName := ⟨RX6, "feed", "(II)I"⟩
abbrev cX6_wipe : ByteArray := prog_8_method_72_code
def yX6_wipe : MethodName := ⟨RX6, "wipe", "()I"⟩
abbrev cX6_byteAt : ByteArray := prog_8_method_73_code
def yX6_byteAt : MethodName := ⟨RX6, "byteAt", "(I)I"⟩
abbrev cX6_isLetter : ByteArray := prog_8_method_74_code
def yX6_isLetter : MethodName := ⟨RX6, "isLetter", "(I)Z"⟩
abbrev cX6_isDigit : ByteArray := prog_8_method_75_code
def yX6_isDigit : MethodName := ⟨RX6, "isDigit", "(I)Z"⟩
abbrev cX6_token : ByteArray := prog_8_method_76_code
def yX6_token : MethodName := ⟨RX6, "token", "()V"⟩
abbrev cX6_must : ByteArray := prog_8_method_77_code
def yX6_must : MethodName := ⟨RX6, "must", "(Z)V"⟩
abbrev cX6_word : ByteArray := prog_8_method_78_code
def yX6_word : MethodName := ⟨RX6, "word", "()J"⟩
abbrev cX6_number : ByteArray := prog_8_method_79_code
def yX6_number : MethodName := ⟨RX6, "number", "(II)V"⟩
abbrev cX6_kindHere : ByteArray := prog_8_method_80_code
def yX6_kindHere : MethodName := ⟨RX6, "kindHere", "()I"⟩
abbrev cX6_sitterItem : ByteArray := prog_8_method_81_code
def yX6_sitterItem : MethodName := ⟨RX6, "sitterItem", "(I)V"⟩
abbrev cX6_likenessItem : ByteArray := prog_8_method_82_code
def yX6_likenessItem : MethodName := ⟨RX6, "likenessItem", "()V"⟩
abbrev cX6_wheatItem : ByteArray := prog_8_method_83_code
def yX6_wheatItem : MethodName := ⟨RX6, "wheatItem", "()V"⟩
abbrev cX6_item : ByteArray := prog_8_method_84_code
def yX6_item : MethodName := ⟨RX6, "item", "()V"⟩
abbrev cX6_plain : ByteArray := prog_8_method_85_code
def yX6_plain : MethodName := ⟨RX6, "plain", "()I"⟩
abbrev cX6_isOne : ByteArray := prog_8_method_86_code
def yX6_isOne : MethodName := ⟨RX6, "isOne", "(I)Z"⟩
abbrev cX6_sheet : ByteArray := prog_8_method_87_code
def yX6_sheet : MethodName := ⟨RX6, "sheet", "(III)I"⟩
abbrev cX6_narrowed : ByteArray := prog_8_method_88_code
def yX6_narrowed : MethodName := ⟨RX6, "narrowed", "(IJ)J"⟩
abbrev cX6_wrongSheet : ByteArray := prog_8_method_89_code
def yX6_wrongSheet : MethodName := ⟨RX6, "wrongSheet", "(I)I"⟩
abbrev cX6_write : ByteArray := prog_8_method_90_code
def yX6_write : MethodName := ⟨RX6, "write", "(IIJ)J"⟩
abbrev cX6_copy : ByteArray := prog_8_method_91_code
def yX6_copy : MethodName := ⟨RX6, "copy", "(IIIII)I"⟩
abbrev cX6_lays : ByteArray := prog_8_method_92_code
def yX6_lays : MethodName := ⟨RX6, "lays", "(I)I"⟩
abbrev cX6_book : ByteArray := prog_8_method_93_code
def yX6_book : MethodName := ⟨RX6, "book", "(I)I"⟩
abbrev cX6_isBook : ByteArray := prog_8_method_94_code
def yX6_isBook : MethodName := ⟨RX6, "isBook", "(I)Z"⟩
abbrev cX6_read : ByteArray := prog_8_method_95_code
def yX6_read : MethodName := ⟨RX6, "read", "(II)I"⟩
abbrev cX6_image : ByteArray := prog_8_method_96_code
def yX6_image : MethodName := ⟨RX6, "image", "()I"⟩
abbrev cX6_undo : ByteArray := prog_8_method_97_code
def yX6_undo : MethodName := ⟨RX6, "undo", "()I"⟩
abbrev cX6_tear : ByteArray := prog_8_method_98_code
def yX6_tear : MethodName := ⟨RX6, "tear", "()I"⟩
abbrev cX6_tempers : ByteArray := prog_8_method_99_code
def yX6_tempers : MethodName := ⟨RX6, "tempers", "()I"⟩
abbrev cX6_count : ByteArray := prog_8_method_100_code
def yX6_count : MethodName := ⟨RX6, "count", "(I)I"⟩
abbrev cX6_status : ByteArray := prog_8_method_101_code
def yX6_status : MethodName := ⟨RX6, "status", "(I)I"⟩
def RJ6 : String := "java/lang/Integer"
abbrev cJ6_bitCount_0f7a4 : ByteArray := prog_9_method_49_code
def yJ6_bitCount_0f7a4 : MethodName := ⟨RJ6, "bitCount", "(I)I"⟩
def RJ9 : String := "java/lang/Math"
abbrev cJ9_abs_0f7a4 : ByteArray := prog_10_method_59_code
def yJ9_abs_0f7a4 : MethodName := ⟨RJ9, "abs", "(I)I"⟩
abbrev cJ9_max_7cf53 : ByteArray := prog_10_method_65_code
def yJ9_max_7cf53 : MethodName := ⟨RJ9, "max", "(II)I"⟩
abbrev cJ9_min_7cf53 : ByteArray := prog_10_method_69_code
def yJ9_min_7cf53 : MethodName := ⟨RJ9, "min", "(II)I"⟩
def RJ0 : String := "java/lang/String"
abbrev cJ0_length_8abf5 : ByteArray := prog_11_method_54_code
def yJ0_length_8abf5 : MethodName := ⟨RJ0, "length", "()I"⟩
abbrev cJ0_charAt_5068e : ByteArray := prog_11_method_56_code
def yJ0_charAt_5068e : MethodName := ⟨RJ0, "charAt", "(I)C"⟩
abbrev cJ0_coder_7d493 : ByteArray := prog_11_method_152_code
def yJ0_coder_7d493 : MethodName := ⟨RJ0, "coder", "()B"⟩
abbrev cJ0_isLatin1_aae02 : ByteArray := prog_11_method_154_code
def yJ0_isLatin1_aae02 : MethodName := ⟨RJ0, "isLatin1", "()Z"⟩
abbrev cJ0_checkIndex_df160 : ByteArray := prog_11_method_155_code
def yJ0_checkIndex_df160 : MethodName := ⟨RJ0, "checkIndex", "(II)V"⟩
def RJ1 : String := "java/lang/StringLatin1"
abbrev cJ1_charAt_3b067 : ByteArray := prog_12_method_2_code
def yJ1_charAt_3b067 : MethodName := ⟨RJ1, "charAt", "([BI)C"⟩
def RJ2 : String := "java/lang/StringUTF16"
abbrev cJ2_getChar_3b067 : ByteArray := prog_13_method_5_code
def yJ2_getChar_3b067 : MethodName := ⟨RJ2, "getChar", "([BI)C"⟩
abbrev cJ2_length_9d52b : ByteArray := prog_13_method_6_code
def yJ2_length_9d52b : MethodName := ⟨RJ2, "length", "([B)I"⟩
abbrev cJ2_charAt_3b067 : ByteArray := prog_13_method_83_code
def yJ2_charAt_3b067 : MethodName := ⟨RJ2, "charAt", "([BI)C"⟩
abbrev cJ2_checkIndex_2214a : ByteArray := prog_13_method_91_code
def yJ2_checkIndex_2214a : MethodName := ⟨RJ2, "checkIndex", "(I[B)V"⟩
def RJ10 : String := "java/lang/System"
def RJ7 : String := "java/util/Arrays"
abbrev cJ7_fill_d0a16 : ByteArray := prog_15_method_101_code
def yJ7_fill_d0a16 : MethodName := ⟨RJ7, "fill", "([JJ)V"⟩
abbrev cJ7_fill_53178 : ByteArray := prog_15_method_103_code
def yJ7_fill_53178 : MethodName := ⟨RJ7, "fill", "([II)V"⟩
def RJ3 : String := "jdk/internal/util/Preconditions"
abbrev cJ3_checkIndex_8e157 : ByteArray := prog_16_method_11_code
def yJ3_checkIndex_8e157 : MethodName := ⟨RJ3, "checkIndex", "(IILjava/util/function/BiFunction;)I"⟩
def RL : String := "CrowLikenessLaw"
abbrev cL_law : ByteArray := code
def yL_law : MethodName := ⟨RL, "law", "([I)Z"⟩
end
section
/-! the world of both objects: 60 cells whose references never change; their contents as whole numbers -/
abbrev ev_V : Type := Int ⊕ (Int ⊕ (Nat ⊕ Unit))
abbrev ev_M : Type := Nat → Int → Int
abbrev ev_B : Type := (Nat → Nat) × (va_G × ((Nat → ClassId) × (Value × (Nat × (Nat → Int)))))
abbrev ev_Kd : Type := (Nat × List (Option Nat)) ⊕ (Nat × Nat)
abbrev ev_Y : Type := MethodName × (ByteArray × (Nat × (Option FieldType × Room)))
abbrev vI (z : Int) : ev_V := .inl z
abbrev vL (z : Int) : ev_V := .inr (.inl z)
abbrev vR (k : Nat) : ev_V := .inr (.inr (.inl k))
abbrev vX : ev_V := .inr (.inr (.inr ()))
def ev_kds : List ev_Kd := [
  .inl (4, [some 1, some 10, some 19, some 28, some 34, some 36, some 45, none]),
  .inl (1, [some 2, none, none, none, some 3, some 4, some 5, some 6, none, some 7, some 8, some 9]),
  .inr (0, 48),
  .inr (0, 6),
  .inr (0, 6),
  .inr (0, 6),
  .inr (0, 6),
  .inr (0, 8),
  .inr (0, 8),
  .inr (0, 8),
  .inl (1, [some 11, none, none, none, some 12, some 13, some 14, some 15, none, some 16, some 17, some 18]),
  .inr (0, 48),
  .inr (0, 6),
  .inr (0, 6),
  .inr (0, 6),
  .inr (0, 6),
  .inr (0, 8),
  .inr (0, 8),
  .inr (0, 8),
  .inl (1, [some 20, none, none, none, some 21, some 22, some 23, some 24, none, some 25, some 26, some 27]),
  .inr (0, 48),
  .inr (0, 6),
  .inr (0, 6),
  .inr (0, 6),
  .inr (0, 6),
  .inr (0, 8),
  .inr (0, 8),
  .inr (0, 8),
  .inl (0, [some 29, some 30, some 31, some 32, some 33]),
  .inr (0, 48),
  .inr (0, 8),
  .inr (0, 104),
  .inr (0, 6),
  .inr (0, 6),
  .inl (3, [some 35, none, none, none, none, none, none]),
  .inr (0, 120),
  .inr (2, 4),
  .inl (2, [some 38, none, none]),
  .inr (1, 40),
  .inl (2, [some 40, none, none]),
  .inr (1, 40),
  .inl (2, [some 42, none, none]),
  .inr (1, 40),
  .inl (2, [some 44, none, none]),
  .inr (1, 40),
  .inr (0, 7),
  .inl (5, [some 47, some 48, some 49, some 50, some 51, none, none, some 52, some 53, some 54, some 55, none, none, none, none, none, some 56, some 57, some 58, some 59]),
  .inr (0, 100),
  .inr (0, 100),
  .inr (0, 100),
  .inr (0, 100),
  .inr (0, 7),
  .inr (0, 48),
  .inr (0, 104),
  .inr (0, 6),
  .inr (0, 120),
  .inr (0, 4),
  .inr (0, 4),
  .inr (1, 160),
  .inr (1, 40)]
abbrev ev_cls : List vw_C := [(RX0, TX0, 5), (RX2, TX2, 12), (RX3, TX3, 3), (RX4, TX4, 7), (RX5, TX5, 8), (RX6, TX6, 20)]
def ev_tyo : Nat → (Nat → FieldType) := fun ci => match ci with
  | 0 => tyX0
  | 1 => tyX2
  | 2 => tyX3
  | 3 => tyX4
  | 4 => tyX5
  | _ => tyX6
abbrev ev_tys (b : ev_B) : List (ClassId × FieldType) := [(b.2.2.1 0, .int), (b.2.2.1 1, .long), (b.2.2.1 2, .object RX3)]
def ev_cv (b : ev_B) : ev_V → Value
  | .inl z => .int (Int32.ofInt z)
  | .inr (.inl z) => .long (Int64.ofInt z)
  | .inr (.inr (.inl k)) => .ref (b.1 k)
  | .inr (.inr (.inr _)) => b.2.2.2.1
def ev_c2 : ev_V → Bool
  | .inr (.inl _) => true
  | _ => false
def ev_cl (b : ev_B) (q : Nat × ev_V) : Nat × Value := (q.1, ev_cv b q.2)
def ev_fd (b : ev_B) (σ : ev_M) (k : Nat) (j : Nat) (o : Option Nat) : Value := match o with
  | none => .int (Int32.ofInt (σ k j))
  | some t => .ref (b.1 t)
def ev_rt (j : Nat) : Nat := 37 + 2 * j
def ev_cell (b : ev_B) (σ : ev_M) (k : Nat) (d : ev_Kd) : va_E := match d with
  | .inl (ci, tm) => .inr (ci, tm.mapIdx (fun j o => ev_fd b σ k j o))
  | .inr (0, n) => .inl (b.2.2.1 0, n, .inl (fun j => Int32.ofInt (σ k j)))
  | .inr (1, n) => .inl (b.2.2.1 1, n, .inr (.inl (fun j => Int64.ofInt (σ k j))))
  | .inr (_, n) => .inl (b.2.2.1 2, n, .inr (.inr (.inr (.inr (fun j => some (b.1 (ev_rt j)))))))
def ev_ws (b : ev_B) (σ : ev_M) : va_W := ev_kds.mapIdx (fun k d => (b.1 k, ev_cell b σ k d))
def mup (σ : ev_M) (k : Nat) (i z : Int) : ev_M := fun a j => if a = k ∧ j = i then z else σ a j
def mcp (σ : ev_M) (k0 : Nat) (sp : Int) (k : Nat) (dp n : Int) : ev_M := fun a j => if a = k ∧ dp ≤ j ∧ j < dp + n then σ k0 (sp + (j - dp)) else σ a j
theorem ev_at {b : ev_B} {σ : ev_M} {k : Nat} {d : ev_Kd} (h : ev_kds[k]? = some d) : (ev_ws b σ)[k]? = some (b.1 k, ev_cell b σ k d) := by
  rw [ev_ws, List.getElem?_mapIdx, h]; rfl
theorem ev_cell_congr {b : ev_B} {σ τ : ev_M} {k : Nat} {d : ev_Kd} (h : ∀ j, σ k j = τ k j) : ev_cell b σ k d = ev_cell b τ k d := by
  have e : σ k = τ k := funext h
  rcases d with ⟨ci, tm⟩ | ⟨t, n⟩
  · simp only [ev_cell, ev_fd, e]
  · match t with
    | 0 => simp only [ev_cell, e]
    | 1 => simp only [ev_cell, e]
    | n + 2 => rfl
theorem ev_set {b : ev_B} {σ τ : ev_M} {k : Nat} {d : ev_Kd} (h : ev_kds[k]? = some d) (ho : ∀ a, a ≠ k → σ a = τ a) : (ev_ws b σ).set k (b.1 k, ev_cell b τ k d) = ev_ws b τ := by
  apply List.ext_getElem?
  intro q
  rw [List.getElem?_set]
  by_cases hq : k = q
  · subst hq
    have hl : k < (ev_ws b σ).length := (List.getElem?_eq_some_iff.mp (ev_at (b := b) (σ := σ) h)).1
    rw [if_pos rfl, if_pos hl, ev_at h]
  · rw [if_neg hq]
    simp only [ev_ws, List.getElem?_mapIdx]
    cases ev_kds[q]? with
    | none => rfl
    | some x =>
      simp only [Option.map_some]
      rw [ev_cell_congr (σ := σ) (τ := τ) (fun j => by rw [ho q (Ne.symm hq)])]
theorem mup_ne {σ : ev_M} {k : Nat} {i z : Int} {a : Nat} (h : a ≠ k) : mup σ k i z a = σ a := by
  funext j; simp [mup, h]
theorem mup_at {σ : ev_M} {k : Nat} {i z : Int} : mup σ k i z k i = z := by simp [mup]
theorem mup_off {σ : ev_M} {k : Nat} {i z j : Int} (h : j ≠ i) : mup σ k i z k j = σ k j := by simp [mup, h]
theorem mcp_ne {σ : ev_M} {k0 k : Nat} {sp dp n : Int} {a : Nat} (h : a ≠ k) : mcp σ k0 sp k dp n a = σ a := by
  funext j; simp [mcp, h]
theorem ev_small : ∀ (k t n : Nat), ev_kds[k]? = some (.inr (t, n)) → n < 1000 := by
  have h : ∀ x ∈ ev_kds, ∀ t n, x = .inr (t, n) → n < 1000 := by
    intro x hx
    simp only [ev_kds, List.mem_cons, List.not_mem_nil, or_false] at hx
    rcases hx with rfl | rfl | rfl | rfl | rfl | rfl | rfl | rfl | rfl | rfl | rfl | rfl | rfl | rfl | rfl | rfl | rfl | rfl | rfl | rfl | rfl | rfl | rfl | rfl | rfl | rfl | rfl | rfl | rfl | rfl | rfl | rfl | rfl | rfl | rfl | rfl | rfl | rfl | rfl | rfl | rfl | rfl | rfl | rfl | rfl | rfl | rfl | rfl | rfl | rfl | rfl | rfl | rfl | rfl | rfl | rfl | rfl | rfl | rfl | rfl <;> intro t n e <;> cases e <;> decide
  intro k t n hk
  exact h _ (List.mem_of_getElem? hk) t n rfl
/-! whole numbers as ints and longs -/
theorem ev_ti {z : Int} (h : -2147483648 ≤ z ∧ z < 2147483648) : (Int32.ofInt z).toInt = z := by
  rw [Int32.toInt_ofInt, show Int32.size = 4294967296 from rfl, Int.bmod_def]; split <;> omega
theorem ev_tl {z : Int} (h : -9223372036854775808 ≤ z ∧ z < 9223372036854775808) : (Int64.ofInt z).toInt = z := by
  rw [Int64.toInt_ofInt, show Int64.size = 18446744073709551616 from rfl, Int.bmod_def]; split <;> omega
theorem ev_lt {x y : Int} (hx : -2147483648 ≤ x ∧ x < 2147483648) (hy : -2147483648 ≤ y ∧ y < 2147483648) : Int32.ofInt x < Int32.ofInt y ↔ x < y := by
  rw [Int32.lt_iff_toInt_lt, ev_ti hx, ev_ti hy]
theorem ev_le {x y : Int} (hx : -2147483648 ≤ x ∧ x < 2147483648) (hy : -2147483648 ≤ y ∧ y < 2147483648) : Int32.ofInt x ≤ Int32.ofInt y ↔ x ≤ y := by
  rw [Int32.le_iff_toInt_le, ev_ti hx, ev_ti hy]
theorem ev_eq {x y : Int} (hx : -2147483648 ≤ x ∧ x < 2147483648) (hy : -2147483648 ≤ y ∧ y < 2147483648) : Int32.ofInt x = Int32.ofInt y ↔ x = y := by
  rw [← Int32.toInt_inj, ev_ti hx, ev_ti hy]
theorem ev_in {z : Int} {n : Nat} (h : 0 ≤ z ∧ z < n) (hn : n < 1000) : vp_in (Int32.ofInt z) n := by
  rw [vp_in_iff, ev_ti (by omega)]; exact h
theorem ev_nn {z : Int} (h : 0 ≤ z ∧ z < 2147483648) : (Int32.ofInt z).toNatClampNeg = z.toNat := by
  show (Int32.ofInt z).toInt.toNat = _
  rw [ev_ti (by omega)]
theorem ev_upi {σ : ev_M} {k : Nat} {i z : Int} (hi : 0 ≤ i) : upd (fun j : Nat => Int32.ofInt (σ k j)) i.toNat (Int32.ofInt z) = fun j : Nat => Int32.ofInt (mup σ k i z k j) := by
  funext j
  by_cases h : j = i.toNat
  · have h2 : (j : Int) = i := by omega
    simp only [upd, mup]; rw [if_pos h, if_pos ⟨trivial, h2⟩]
  · have h2 : ¬ (j : Int) = i := by omega
    simp [upd, mup, h, h2]
theorem ev_upl {σ : ev_M} {k : Nat} {i z : Int} (hi : 0 ≤ i) : vp_updL (fun j : Nat => Int64.ofInt (σ k j)) i.toNat (Int64.ofInt z) = fun j : Nat => Int64.ofInt (mup σ k i z k j) := by
  funext j
  by_cases h : j = i.toNat
  · have h2 : (j : Int) = i := by omega
    simp only [vp_updL, mup]; rw [if_pos h, if_pos ⟨trivial, h2⟩]
  · have h2 : ¬ (j : Int) = i := by omega
    simp [vp_updL, mup, h, h2]
theorem ev_upf {b : ev_B} {σ : ev_M} {k : Nat} {tm : List (Option Nat)} {j : Nat} {z : Int} (h : tm[j]? = some none) : (tm.mapIdx (fun i o => ev_fd b σ k i o)).set j (.int (Int32.ofInt z)) = tm.mapIdx (fun i o => ev_fd b (mup σ k j z) k i o) := by
  apply List.ext_getElem?
  intro q
  rw [List.getElem?_set]
  by_cases hq : j = q
  · subst hq
    have hl : j < (tm.mapIdx (fun i o => ev_fd b σ k i o)).length := by
      rw [List.length_mapIdx]; exact (List.getElem?_eq_some_iff.mp h).1
    rw [if_pos rfl, if_pos hl, List.getElem?_mapIdx, h]
    simp [ev_fd, mup]
  · rw [if_neg hq, List.getElem?_mapIdx, List.getElem?_mapIdx]
    cases tm[q]? with
    | none => rfl
    | some o =>
      have h2 : ¬ (q : Int) = (j : Int) := by omega
      cases o <;> simp [ev_fd, mup, h2]
/-! the words -/
def ev_gw : List Cond := lw_tbl.filter goodWord
theorem ev_gm {w : Cond} (h : w ∈ lw_tbl) (hg : goodWord w = true) : w ∈ ev_gw := List.mem_filter.mpr ⟨h, hg⟩
theorem ev_gg : GoodIn ev_gw ev_gw := fun w h => ⟨h, good_of_word (List.mem_filter.mp h).2⟩
theorem ev_t1 (i : Nat) {w : Cond} (h : tables_1_1[i]? = some w) : w ∈ lw_tbl := List.mem_append_right _ (List.mem_append_left _ (List.mem_of_getElem? h))
theorem ev_t2 (i : Nat) {w : Cond} (h : tables_1_2[i]? = some w) : w ∈ lw_tbl := List.mem_append_right _ (List.mem_append_right _ (List.mem_append_left _ (List.mem_of_getElem? h)))
theorem ev_t3 (i : Nat) {w : Cond} (h : tables_1_3[i]? = some w) : w ∈ lw_tbl := List.mem_append_right _ (List.mem_append_right _ (List.mem_append_right _ (List.mem_append_left _ (List.mem_of_getElem? h))))
theorem ev_t4 (i : Nat) {w : Cond} (h : tables_1_4[i]? = some w) : w ∈ lw_tbl := List.mem_append_right _ (List.mem_append_right _ (List.mem_append_right _ (List.mem_append_right _ (List.mem_append_left _ (List.mem_of_getElem? h)))))
theorem ev_t5 (i : Nat) {w : Cond} (h : tables_1_5[i]? = some w) : w ∈ lw_tbl := List.mem_append_right _ (List.mem_append_right _ (List.mem_append_right _ (List.mem_append_right _ (List.mem_append_right _ (List.mem_append_left _ (List.mem_of_getElem? h))))))
theorem ev_t6 (i : Nat) {w : Cond} (h : tables_1_6[i]? = some w) : w ∈ lw_tbl := List.mem_append_right _ (List.mem_append_right _ (List.mem_append_right _ (List.mem_append_right _ (List.mem_append_right _ (List.mem_append_right _ (List.mem_of_getElem? h))))))
theorem ev_t0 (i : Nat) {q : MethodName × Nat} (h : lw_privs[i]? = some q) : Cond.selects q.1.cls q.1 q.1 ∈ lw_tbl := List.mem_append_left _ (List.mem_map.mpr ⟨q, List.mem_of_getElem? h, rfl⟩)
end
section
/-! what stands at every state: the tables, the statics, the texts; 'ev_A': the cells of the world -/
def ev_A (b : ev_B) : Nat → Prop := fun q => ∃ k, k < 60 ∧ q = b.1 k
def ev_nw : List Cond := [.methodLinkNest RX0 105 yX5_distanceOf RX5, .methodLinkNest RX2 76 yX5_sumOf RX5, .methodLinkNest RX4 111 yX5_isWithin RX5, .fieldLinkNest RX1 9 RX5 "KIND_ABOVE" "[I" RX5]
def ev_ka : Nat → Value := fun j => .int (([-1, 0, 0, 0, 2, 3] : List Int32).getD j 0)
def ev_sn : List (Nat × String) := [(129, "sitter"), (119, "bailiff"), (121, "laughed"), (123, "dead"), (125, "lady"), (127, "stranger"), (71, "temper"), (86, "fee"), (43, "likeness"), (94, "at"), (52, "wheat"), (100, "to"), (57, "crows")]
def ev_sb : List (List Int32) := [[115, 105, 116, 116, 101, 114], [98, 97, 105, 108, 105, 102, 102], [108, 97, 117, 103, 104, 101, 100], [100, 101, 97, 100], [108, 97, 100, 121], [115, 116, 114, 97, 110, 103, 101, 114], [116, 101, 109, 112, 101, 114], [102, 101, 101], [108, 105, 107, 101, 110, 101, 115, 115], [97, 116], [119, 104, 101, 97, 116], [116, 111], [99, 114, 111, 119, 115]]
def ev_sl : List Nat := [6, 7, 7, 4, 4, 8, 6, 3, 8, 2, 5, 2, 5]
/-- what is only read -/
def ev_Ro (b : ev_B) (A : Nat → Prop) (U : State) (H : Heap) : Prop :=
  va_Z RX5 "KIND_ABOVE" "[I" (.ref (b.1 60)) A U H ∧ va_T .int (b.1 60) 6 ev_ka A U H ∧
  vk_S 13 ev_sl ev_sb (fun i => b.1 (61 + i)) (fun i => b.1 (80 + i)) A U H ∧
  va_Z RJ0 "COMPACT_STRINGS" "Z" (.int 1) A U H ∧ va_Z RJ3 "SIOOBE_FORMATTER" "Ljava/util/function/BiFunction;" b.2.2.2.1 A U H ∧
  va_T .int (b.1 74) b.2.2.2.2.1 (fun j => .int (Int32.ofInt (b.2.2.2.2.2 j))) A U H
theorem ev_Ro.moved {b : ev_B} {A : Nat → Prop} {u U : State} {H : Heap} (hvm : u.vm.Alike U.vm) (h : ev_Ro b A u H) : ev_Ro b A U H :=
  ⟨h.1.moved hvm, h.2.1.moved hvm, h.2.2.1.moved hvm, h.2.2.2.1.moved hvm, h.2.2.2.2.1.moved hvm, h.2.2.2.2.2.moved hvm⟩
theorem ev_Ro.kept {b : ev_B} {A : Nat → Prop} {U : State} {H H1 : Heap} (h : ev_Ro b A U H) (hq : ∀ a : Nat, a < H.size → ¬ A a → H1[a]? = H[a]?) : ev_Ro b A U H1 :=
  ⟨h.1.kept hq, h.2.1.kept hq, h.2.2.1.kept hq, h.2.2.2.1.kept hq, h.2.2.2.2.1.kept hq, h.2.2.2.2.2.kept hq⟩
theorem ev_Ro.narrow {b : ev_B} {A B : Nat → Prop} {U : State} {H : Heap} (h : ev_Ro b A U H) (hAB : ∀ q, B q → A q) : ev_Ro b B U H :=
  ⟨h.1.narrow hAB, h.2.1.narrow hAB, h.2.2.1.narrow hAB, h.2.2.2.1.narrow hAB, h.2.2.2.2.1.narrow hAB, h.2.2.2.2.2.narrow hAB⟩
/-- the facts that every method takes: static ones of the base, then those of a state -/
def ev_Bs (b : ev_B) : Prop := (∀ i j, i < 60 → j < 60 → b.1 i = b.1 j → i = j) ∧ (b.2.2.2.1 = .null ∨ ∃ a, b.2.2.2.1 = .ref a) ∧ b.2.2.2.2.1 < 4000
def ev_F (b : ev_B) (A : Nat → Prop) (U : State) (H : Heap) : Prop :=
  va_K b.2.1 ev_cls (ev_tys b) U ∧ (∀ w ∈ ev_nw, va_Nw w U) ∧ (∀ k, k < 60 → A (b.1 k)) ∧ ev_Bs b ∧ (∀ (i : Nat) (q : Nat × String), ev_sn[i]? = some q → vk_R RX4 q.1 q.2 (b.1 (61 + i)) U) ∧ ev_Ro b A U H
theorem ev_F.warm {b : ev_B} {A : Nat → Prop} {s U : State} {H H1 : Heap} (hW : s.WarmedH U.vm) (h : ev_F b A s H) (hq : ∀ a : Nat, a < H.size → ¬ A a → H1[a]? = H[a]?) : ev_F b A U H1 := by
  refine ⟨h.1.moved hW.alike, ?_, h.2.2.1, h.2.2.2.1, fun i q hi => (h.2.2.2.2.1 i q hi).warm hW, (h.2.2.2.2.2.moved hW.alike).kept hq⟩
  intro w hw
  have h0 := h.2.1 w hw
  simp only [ev_nw, List.mem_cons, List.not_mem_nil, or_false] at hw
  rcases hw with rfl | rfl | rfl | rfl
  · exact h0.warmM hW
  · exact h0.warmM hW
  · exact h0.warmM hW
  · exact h0.warmF hW
theorem ev_F.same {b : ev_B} {A : Nat → Prop} {s U : State} {H : Heap} (hv : U.vm = s.vm) (h : ev_F b A s H) : ev_F b A U H := by
  have hal : s.vm.Alike U.vm := by rw [hv]; exact Vm.Alike.refl _
  refine ⟨h.1.moved hal, ?_, h.2.2.1, h.2.2.2.1, fun i q hi => (h.2.2.2.2.1 i q hi).same hv, h.2.2.2.2.2.moved hal⟩
  intro w hw
  have h0 := h.2.1 w hw
  simp only [ev_nw, List.mem_cons, List.not_mem_nil, or_false] at hw
  rcases hw with rfl | rfl | rfl | rfl
  · exact h0.same rfl hv.symm
  · exact h0.same rfl hv.symm
  · exact h0.same rfl hv.symm
  · exact h0.same rfl hv.symm
theorem ev_F.narrow {b : ev_B} {A : Nat → Prop} {s : State} {H : Heap} (h : ev_F b A s H) : ev_F b (ev_A b) s H :=
  ⟨h.1, h.2.1, fun k hk => ⟨k, hk, rfl⟩, h.2.2.2.1, h.2.2.2.2.1, h.2.2.2.2.2.narrow (fun q hq => by obtain ⟨k, hk, rfl⟩ := hq; exact h.2.2.1 k hk)⟩
theorem ev_D {b : ev_B} {A : Nat → Prop} {U : State} {H : Heap} (h : ev_F b A U H) (σ : ev_M) : va_D A (ev_ws b σ) := by
  have hn : ev_kds.length = 60 := rfl
  have key : ∀ (k : Nat) (q : Nat × va_E), (ev_ws b σ)[k]? = some q → k < 60 ∧ q.1 = b.1 k := by
    intro k q hq
    rw [ev_ws, List.getElem?_mapIdx] at hq
    cases hd : ev_kds[k]? with
    | none => rw [hd] at hq; cases hq
    | some d =>
      rw [hd] at hq
      cases hq
      exact ⟨by rw [← hn]; exact (List.getElem?_eq_some_iff.mp hd).1, rfl⟩
  refine ⟨fun i j p q hp hq e => ?_, fun k q hq => ?_⟩
  · obtain ⟨h1, h2⟩ := key i p hp
    obtain ⟨h3, h4⟩ := key j q hq
    exact h.2.2.2.1.1 i j h1 h3 (by rw [← h2, ← h4, e])
  · obtain ⟨h1, h2⟩ := key k q hq
    rw [h2]
    exact h.2.2.1 k h1
theorem ev_cat {b : ev_B} (hB : ev_Bs b) (v : ev_V) : (ev_cv b v).category = if ev_c2 v then 2 else 1 := by
  rcases v with z | z | k | u
  · rfl
  · rfl
  · rfl
  · show b.2.2.2.1.category = 1
    rcases hB.2.1 with h | ⟨a, h⟩ <;> rw [h] <;> rfl
/-- what a method's frame is -/
def ev_C (b : ev_B) (y : ev_Y) (p : Program) (s : State) (m : MethodId) (args : Array Value) (meth : Method) (c : Code) (cells slots : Nat) (A : Nat → Prop) : Prop :=
  p.tables.exec = Jvm.exec ∧ c.code = y.2.1 ∧ c.maxLocals = y.2.2.1 ∧ meth.sig.returnType = y.2.2.2.1 ∧ meth.locks = false ∧ s.vm.findClass y.1.cls = some m.cls ∧ (∀ w ∈ ev_gw, w.before args s = true) ∧ ev_F b A s s.heap ∧ cells ≤ y.2.2.2.2.cells ∧ slots ≤ y.2.2.2.2.slots
/-- which answer an instruction gives back -/
def ev_rk (y : ev_Y) (r : Option ev_V) (op : Instr) : Prop :=
  (op = .ireturn ∧ ∃ z ty, r = some (vI z) ∧ y.2.2.2.1 = some ty ∧ narrow ty (.int (Int32.ofInt z)) = .int (Int32.ofInt z)) ∨ (op = .lreturn ∧ ∃ z, r = some (vL z) ∧ y.2.2.2.1 = some .long) ∨ (op = .areturn ∧ ∃ k n, r = some (vR k) ∧ y.2.2.2.1 = some (.object n)) ∨ (op = .return_ ∧ r = none ∧ y.2.2.2.1 = none)
def ev_E (b : ev_B) (y : ev_Y) (p : Program) (l : Launch) (e : Env) (s : State) (m : MethodId) (args : Array Value) (below : List Frame) (meth : Method) (c : Code) (cells slots : Nat) (A : Nat → Prop) (Z : State → Prop) (Q : Option ev_V → ev_M → Prop) : Prop :=
  ∀ (r : Option ev_V) (σ : ev_M) (H : Heap) (locs : List Loc) (pc : Nat) (lsA : Array Slot) (op : Instr), Q r σ → va_P b.2.1 ev_cls (ev_ws b σ) H → va_S A s.heap H locs → decode y.2.1 pc = .ok (op, 1) → ev_rk y r op → W p l e y.2.2.2.2 s m args below meth c H locs cells slots Z (F0 m pc lsA (r.toList.map (ev_cv b)))
/-- from here on the method comes to its end with Q -/
def Ev (b : ev_B) (y : ev_Y) (pc : Nat) (ls : List (Nat × ev_V)) (st : List ev_V) (σ : ev_M) (Q : Option ev_V → ev_M → Prop) : Prop :=
  ∀ (p : Program) (l : Launch) (e : Env) (s : State) (m : MethodId) (args : Array Value) (below : List Frame) (meth : Method) (c : Code) (H : Heap) (locs : List Loc) (cells slots : Nat) (A : Nat → Prop) (Z : State → Prop) (lsA : Array Slot),
    ev_C b y p s m args meth c cells slots A → ev_E b y p l e s m args below meth c cells slots A Z Q → va_P b.2.1 ev_cls (ev_ws b σ) H → va_S A s.heap H locs → lv_has lsA y.2.2.1 (ls.map (ev_cl b)) →
    W p l e y.2.2.2.2 s m args below meth c H locs cells slots Z (F0 m pc lsA (st.map (ev_cv b)))
/-- a method's contract -/
def Cl (b : ev_B) (y : ev_Y) (av : List ev_V) (σ : ev_M) (Q : Option ev_V → ev_M → Prop) : Prop :=
  ∀ l, Met l y.1 (Cond.code y.1 y.2.1 y.2.2.1 y.2.2.2.1 :: ev_gw) y.2.2.2.2 (va_Pc (av.map (ev_cv b)) (fun U => ev_F b (ev_A b) U U.heap ∧ va_P b.2.1 ev_cls (ev_ws b σ) U.heap))
    (fun _ st oc t => (∃ r σ', oc = .returned (r.map (ev_cv b)) ∧ Q r σ' ∧ va_P b.2.1 ev_cls (ev_ws b σ') t.heap) ∧ va_F (ev_A b) st t) 0 0 (ev_A b)
/-! locals -/
def ev_lk : List (Nat × ev_V) → Nat → Option ev_V
  | [], _ => none
  | (j, w) :: t, i => if j = i then some w else ev_lk t i
theorem ev_lk_mem : ∀ {ls : List (Nat × ev_V)} {i : Nat} {v : ev_V}, ev_lk ls i = some v → (i, v) ∈ ls
  | [], i, v, h => by cases h
  | (j, w) :: t, i, v, h => by
    unfold ev_lk at h
    by_cases hj : j = i
    · rw [if_pos hj] at h
      cases h
      rw [hj]; exact List.mem_cons_self
    · rw [if_neg hj] at h
      exact List.mem_cons_of_mem _ (ev_lk_mem h)
def ev_ins (i : Nat) (v : ev_V) : List (Nat × ev_V) → List (Nat × ev_V)
  | [] => [(i, v)]
  | (j, w) :: t => if i < j then (i, v) :: (j, w) :: t else (j, w) :: ev_ins i v t
theorem ev_ins_mem {i : Nat} {v : ev_V} : ∀ {ls : List (Nat × ev_V)} {q : Nat × ev_V}, q ∈ ev_ins i v ls → q = (i, v) ∨ q ∈ ls
  | [], q, h => by
    unfold ev_ins at h
    exact Or.inl (List.mem_singleton.mp h)
  | (j, w) :: t, q, h => by
    unfold ev_ins at h
    split at h
    · rcases List.mem_cons.mp h with h | h
      · exact Or.inl h
      · exact Or.inr h
    · rcases List.mem_cons.mp h with h | h
      · exact Or.inr (by rw [h]; exact List.mem_cons_self)
      · rcases ev_ins_mem h with h | h
        · exact Or.inl h
        · exact Or.inr (List.mem_cons_of_mem _ h)
/-- a local of one word, of two words is stored -/
def ev_s1 (ls : List (Nat × ev_V)) (i : Nat) (v : ev_V) : List (Nat × ev_V) := ev_ins i v (ls.filter (fun q => !(q.1 == i) && !(q.1 + 1 == i && ev_c2 q.2)))
def ev_s2 (ls : List (Nat × ev_V)) (i : Nat) (v : ev_V) : List (Nat × ev_V) := ev_ins i v (ls.filter (fun q => !(q.1 == i) && (!(q.1 == i + 1) && !(q.1 + 1 == i && ev_c2 q.2))))
theorem ev_has_at {b : ev_B} {lsA : Array Slot} {n : Nat} {ls : List (Nat × ev_V)} (h : lv_has lsA n (ls.map (ev_cl b))) {i : Nat} {v : ev_V} (hk : ev_lk ls i = some v) : lsA[i]? = some (.val (ev_cv b v)) :=
  h.2.2 (i, ev_cv b v) (List.mem_map.mpr ⟨(i, v), ev_lk_mem hk, rfl⟩)
theorem ev_has_s1 {b : ev_B} (hB : ev_Bs b) {lsA : Array Slot} {n : Nat} {ls : List (Nat × ev_V)} {i : Nat} {v : ev_V} (h : lv_has lsA n ((i, ev_cv b v) :: (ls.map (ev_cl b)).filter (fun q => !(q.1 == i) && !(q.1 + 1 == i && q.2.category == 2)))) : lv_has lsA n ((ev_s1 ls i v).map (ev_cl b)) := by
  refine ⟨h.1, h.2.1, fun q hq => ?_⟩
  obtain ⟨x, hx, rfl⟩ := List.mem_map.mp hq
  rcases ev_ins_mem hx with rfl | hx
  · exact h.2.2 _ List.mem_cons_self
  · obtain ⟨h1, h2⟩ := List.mem_filter.mp hx
    refine h.2.2 _ (List.mem_cons_of_mem _ (List.mem_filter.mpr ⟨List.mem_map.mpr ⟨x, h1, rfl⟩, ?_⟩))
    have e : ((ev_cl b x).2.category == 2) = ev_c2 x.2 := by
      show ((ev_cv b x.2).category == 2) = _
      rw [ev_cat hB]; cases ev_c2 x.2 <;> rfl
    rw [e]; exact h2
theorem ev_has_s2 {b : ev_B} (hB : ev_Bs b) {lsA : Array Slot} {n : Nat} {ls : List (Nat × ev_V)} {i : Nat} {v : ev_V} (h : lv_has lsA n ((i, ev_cv b v) :: (ls.map (ev_cl b)).filter (fun q => !(q.1 == i) && (!(q.1 == i + 1) && !(q.1 + 1 == i && q.2.category == 2))))) : lv_has lsA n ((ev_s2 ls i v).map (ev_cl b)) := by
  refine ⟨h.1, h.2.1, fun q hq => ?_⟩
  obtain ⟨x, hx, rfl⟩ := List.mem_map.mp hq
  rcases ev_ins_mem hx with rfl | hx
  · exact h.2.2 _ List.mem_cons_self
  · obtain ⟨h1, h2⟩ := List.mem_filter.mp hx
    refine h.2.2 _ (List.mem_cons_of_mem _ (List.mem_filter.mpr ⟨List.mem_map.mpr ⟨x, h1, rfl⟩, ?_⟩))
    have e : ((ev_cl b x).2.category == 2) = ev_c2 x.2 := by
      show ((ev_cv b x.2).category == 2) = _
      rw [ev_cat hB]; cases ev_c2 x.2 <;> rfl
    rw [e]; exact h2
/-- a method's locals at its start -/
def ev_args : Nat → List ev_V → List (Nat × ev_V)
  | _, [] => []
  | i, v :: vs => (i, v) :: ev_args (if ev_c2 v then i + 2 else i + 1) vs
theorem ev_args_eq {b : ev_B} (hB : ev_Bs b) : ∀ (vs : List ev_V) (i : Nat), (ev_args i vs).map (ev_cl b) = lv_args i (vs.map (ev_cv b))
  | [], i => rfl
  | v :: vs, i => by
    unfold ev_args
    rw [List.map_cons, List.map_cons, lv_args, ev_args_eq hB vs]
    rw [ev_cat hB v]
    cases ev_c2 v <;> rfl
def ev_wd : List ev_V → Nat
  | [] => 0
  | v :: vs => (if ev_c2 v then 2 else 1) + ev_wd vs
theorem ev_wd_sl {b : ev_B} (hB : ev_Bs b) : ∀ (vs : List ev_V), (lg_sl (vs.map (ev_cv b))).length = ev_wd vs
  | [] => rfl
  | v :: vs => by
    have ih := ev_wd_sl hB vs
    simp only [lg_sl] at ih
    simp only [lg_sl, List.map_cons, List.flatMap_cons, List.length_append, ih, ev_wd, ev_cat hB v]
    cases ev_c2 v <;> rfl
theorem ev_wd_cat {b : ev_B} (hB : ev_Bs b) : ∀ (vs : List ev_V), ((vs.map (ev_cv b)).map fun v => v.category).sum = ev_wd vs
  | [] => rfl
  | v :: vs => by
    have ih := ev_wd_cat hB vs
    simp only [List.map_cons, List.sum_cons, ih, ev_wd, ev_cat hB v]
end
section
/-! the rules, an instruction each -/
section EVR
variable {b : ev_B} {y : ev_Y} {pc : Nat} {ls : List (Nat × ev_V)} {st : List ev_V} {σ : ev_M} {Q : Option ev_V → ev_M → Prop}
theorem ev_iconst {n : Int} (hd : decode y.2.1 pc = .ok (.iconst n, 1)) (k : Ev b y (pc + 1) ls (vI n :: st) σ Q) : Ev b y pc ls st σ Q := by
  intro p l e s m args below meth c H locs cells slots A Z lsA C E hP hS hl
  exact lv_iconst C.1 C.2.1 hd rfl (k p l e s m args below meth c H locs cells slots A Z lsA C E hP hS hl)
theorem ev_bipush {n : Int} (hd : decode y.2.1 pc = .ok (.bipush n, 2)) (hv : (Int8.ofInt n).toInt32 = Int32.ofInt n) (k : Ev b y (pc + 2) ls (vI n :: st) σ Q) : Ev b y pc ls st σ Q := by
  intro p l e s m args below meth c H locs cells slots A Z lsA C E hP hS hl
  exact lv_bipush C.1 C.2.1 hd hv (k p l e s m args below meth c H locs cells slots A Z lsA C E hP hS hl)
theorem ev_sipush {n : Int} (hd : decode y.2.1 pc = .ok (.sipush n, 3)) (hv : (Int16.ofInt n).toInt32 = Int32.ofInt n) (k : Ev b y (pc + 3) ls (vI n :: st) σ Q) : Ev b y pc ls st σ Q := by
  intro p l e s m args below meth c H locs cells slots A Z lsA C E hP hS hl
  exact lv_sipush C.1 C.2.1 hd hv (k p l e s m args below meth c H locs cells slots A Z lsA C E hP hS hl)
theorem ev_lconst {n : Fin 2} {z : Int} (hd : decode y.2.1 pc = .ok (.lconst n, 1)) (hv : Int64.ofNat (n : Nat) = Int64.ofInt z) (k : Ev b y (pc + 1) ls (vL z :: st) σ Q) : Ev b y pc ls st σ Q := by
  intro p l e s m args below meth c H locs cells slots A Z lsA C E hP hS hl
  exact lv_lconst C.1 C.2.1 hd hv (k p l e s m args below meth c H locs cells slots A Z lsA C E hP hS hl)
theorem ev_ldc {i : Nat} {n : Int32} {z : Int} (hd : decode y.2.1 pc = .ok (.ldc i, 2)) (hw : Cond.constant y.1.cls i n ∈ ev_gw) (hv : n = Int32.ofInt z) (k : Ev b y (pc + 2) ls (vI z :: st) σ Q) : Ev b y pc ls st σ Q := by
  intro p l e s m args below meth c H locs cells slots A Z lsA C E hP hS hl
  subst hv
  exact lv_ldc C.1 C.2.1 C.2.2.2.2.2.1 (C.2.2.2.2.2.2.1 _ hw) hd (k p l e s m args below meth c H locs cells slots A Z lsA C E hP hS hl)
theorem ev_ldcw {i : Nat} {n : Int32} {z : Int} (hd : decode y.2.1 pc = .ok (.ldc_w i, 3)) (hw : Cond.constant y.1.cls i n ∈ ev_gw) (hv : n = Int32.ofInt z) (k : Ev b y (pc + 3) ls (vI z :: st) σ Q) : Ev b y pc ls st σ Q := by
  intro p l e s m args below meth c H locs cells slots A Z lsA C E hP hS hl
  subst hv
  exact lv_ldcw C.1 C.2.1 C.2.2.2.2.2.1 (C.2.2.2.2.2.2.1 _ hw) hd (k p l e s m args below meth c H locs cells slots A Z lsA C E hP hS hl)
theorem ev_ldc2 {i : Nat} {n : Int64} {z : Int} (hd : decode y.2.1 pc = .ok (.ldc2_w i, 3)) (hw : Cond.constantLong y.1.cls i n ∈ ev_gw) (hv : n = Int64.ofInt z) (k : Ev b y (pc + 3) ls (vL z :: st) σ Q) : Ev b y pc ls st σ Q := by
  intro p l e s m args below meth c H locs cells slots A Z lsA C E hP hS hl
  subst hv
  exact lv_ldc2 C.1 C.2.1 C.2.2.2.2.2.1 (C.2.2.2.2.2.2.1 _ hw) hd (k p l e s m args below meth c H locs cells slots A Z lsA C E hP hS hl)
theorem ev_ldcS {i j : Nat} {tx : String} (hd : decode y.2.1 pc = .ok (.ldc i, 2)) (hy : y.1.cls = RX4) (hs : ev_sn[j]? = some (i, tx)) (k : Ev b y (pc + 2) ls (vR (61 + j) :: st) σ Q) : Ev b y pc ls st σ Q := by
  intro p l e s m args below meth c H locs cells slots A Z lsA C E hP hS hl
  exact va_ldcS (own := RX4) C.1 C.2.1 (by rw [← hy]; exact C.2.2.2.2.2.1) (C.2.2.2.2.2.2.2.1.2.2.2.2.1 j _ hs) hd (k p l e s m args below meth c H locs cells slots A Z lsA C E hP hS hl)
theorem ev_iload_n {j : Fin 4} {x : Int} (hd : decode y.2.1 pc = .ok (.iload_n j, 1)) (hk : ev_lk ls j.val = some (vI x)) (k : Ev b y (pc + 1) ls (vI x :: st) σ Q) : Ev b y pc ls st σ Q := by
  intro p l e s m args below meth c H locs cells slots A Z lsA C E hP hS hl
  exact lv_iload_n C.1 C.2.1 hd rfl (ev_has_at hl hk) (k p l e s m args below meth c H locs cells slots A Z lsA C E hP hS hl)
theorem ev_iload {j : Nat} {x : Int} (hd : decode y.2.1 pc = .ok (.iload j, 2)) (hk : ev_lk ls j = some (vI x)) (k : Ev b y (pc + 2) ls (vI x :: st) σ Q) : Ev b y pc ls st σ Q := by
  intro p l e s m args below meth c H locs cells slots A Z lsA C E hP hS hl
  exact lv_iload C.1 C.2.1 hd (ev_has_at hl hk) (k p l e s m args below meth c H locs cells slots A Z lsA C E hP hS hl)
theorem ev_lload_n {j : Fin 4} {x : Int} (hd : decode y.2.1 pc = .ok (.lload_n j, 1)) (hk : ev_lk ls j.val = some (vL x)) (k : Ev b y (pc + 1) ls (vL x :: st) σ Q) : Ev b y pc ls st σ Q := by
  intro p l e s m args below meth c H locs cells slots A Z lsA C E hP hS hl
  exact lv_lload_n C.1 C.2.1 hd rfl (ev_has_at hl hk) (k p l e s m args below meth c H locs cells slots A Z lsA C E hP hS hl)
theorem ev_lload {j : Nat} {x : Int} (hd : decode y.2.1 pc = .ok (.lload j, 2)) (hk : ev_lk ls j = some (vL x)) (k : Ev b y (pc + 2) ls (vL x :: st) σ Q) : Ev b y pc ls st σ Q := by
  intro p l e s m args below meth c H locs cells slots A Z lsA C E hP hS hl
  exact lv_lload C.1 C.2.1 hd (ev_has_at hl hk) (k p l e s m args below meth c H locs cells slots A Z lsA C E hP hS hl)
theorem ev_aload_n {j : Fin 4} {x : Nat} (hd : decode y.2.1 pc = .ok (.aload_n j, 1)) (hk : ev_lk ls j.val = some (vR x)) (k : Ev b y (pc + 1) ls (vR x :: st) σ Q) : Ev b y pc ls st σ Q := by
  intro p l e s m args below meth c H locs cells slots A Z lsA C E hP hS hl
  exact lv_aload_n C.1 C.2.1 hd rfl (ev_has_at hl hk) (k p l e s m args below meth c H locs cells slots A Z lsA C E hP hS hl)
theorem ev_aload {j : Nat} {x : Nat} (hd : decode y.2.1 pc = .ok (.aload j, 2)) (hk : ev_lk ls j = some (vR x)) (k : Ev b y (pc + 2) ls (vR x :: st) σ Q) : Ev b y pc ls st σ Q := by
  intro p l e s m args below meth c H locs cells slots A Z lsA C E hP hS hl
  exact lv_aload C.1 C.2.1 hd (ev_has_at hl hk) (k p l e s m args below meth c H locs cells slots A Z lsA C E hP hS hl)
theorem ev_istore_n {j : Fin 4} {x : Int} {ls' : List (Nat × ev_V)} (hd : decode y.2.1 pc = .ok (.istore_n j, 1)) (hn : j.val < y.2.2.1) (hu : ev_s1 ls j.val (vI x) = ls') (k : Ev b y (pc + 1) ls' st σ Q) : Ev b y pc ls (vI x :: st) σ Q := by
  intro p l e s m args below meth c H locs cells slots A Z lsA C E hP hS hl
  subst hu
  exact lv_istore_n C.1 C.2.1 hd rfl hl hn rfl (fun l2 hl2 => k p l e s m args below meth c H locs cells slots A Z l2 C E hP hS (ev_has_s1 (v := vI x) C.2.2.2.2.2.2.2.1.2.2.2.1 hl2))
theorem ev_istore {j : Nat} {x : Int} {ls' : List (Nat × ev_V)} (hd : decode y.2.1 pc = .ok (.istore j, 2)) (hn : j < y.2.2.1) (hu : ev_s1 ls j (vI x) = ls') (k : Ev b y (pc + 2) ls' st σ Q) : Ev b y pc ls (vI x :: st) σ Q := by
  intro p l e s m args below meth c H locs cells slots A Z lsA C E hP hS hl
  subst hu
  exact lv_istore C.1 C.2.1 hd hl hn rfl (fun l2 hl2 => k p l e s m args below meth c H locs cells slots A Z l2 C E hP hS (ev_has_s1 (v := vI x) C.2.2.2.2.2.2.2.1.2.2.2.1 hl2))
theorem ev_astore_n {j : Fin 4} {x : Nat} {ls' : List (Nat × ev_V)} (hd : decode y.2.1 pc = .ok (.astore_n j, 1)) (hn : j.val < y.2.2.1) (hu : ev_s1 ls j.val (vR x) = ls') (k : Ev b y (pc + 1) ls' st σ Q) : Ev b y pc ls (vR x :: st) σ Q := by
  intro p l e s m args below meth c H locs cells slots A Z lsA C E hP hS hl
  subst hu
  exact lv_astore_n C.1 C.2.1 hd rfl hl hn rfl (fun l2 hl2 => k p l e s m args below meth c H locs cells slots A Z l2 C E hP hS (ev_has_s1 (v := vR x) C.2.2.2.2.2.2.2.1.2.2.2.1 hl2))
theorem ev_astore {j : Nat} {x : Nat} {ls' : List (Nat × ev_V)} (hd : decode y.2.1 pc = .ok (.astore j, 2)) (hn : j < y.2.2.1) (hu : ev_s1 ls j (vR x) = ls') (k : Ev b y (pc + 2) ls' st σ Q) : Ev b y pc ls (vR x :: st) σ Q := by
  intro p l e s m args below meth c H locs cells slots A Z lsA C E hP hS hl
  subst hu
  exact lv_astore C.1 C.2.1 hd hl hn rfl (fun l2 hl2 => k p l e s m args below meth c H locs cells slots A Z l2 C E hP hS (ev_has_s1 (v := vR x) C.2.2.2.2.2.2.2.1.2.2.2.1 hl2))
theorem ev_lstore_n {j : Fin 4} {x : Int} {ls' : List (Nat × ev_V)} (hd : decode y.2.1 pc = .ok (.lstore_n j, 1)) (hn : j.val + 1 < y.2.2.1) (hu : ev_s2 ls j.val (vL x) = ls') (k : Ev b y (pc + 1) ls' st σ Q) : Ev b y pc ls (vL x :: st) σ Q := by
  intro p l e s m args below meth c H locs cells slots A Z lsA C E hP hS hl
  subst hu
  exact lv_lstore_n C.1 C.2.1 hd rfl hl hn rfl (fun l2 hl2 => k p l e s m args below meth c H locs cells slots A Z l2 C E hP hS (ev_has_s2 (v := vL x) C.2.2.2.2.2.2.2.1.2.2.2.1 hl2))
theorem ev_lstore {j : Nat} {x : Int} {ls' : List (Nat × ev_V)} (hd : decode y.2.1 pc = .ok (.lstore j, 2)) (hn : j + 1 < y.2.2.1) (hu : ev_s2 ls j (vL x) = ls') (k : Ev b y (pc + 2) ls' st σ Q) : Ev b y pc ls (vL x :: st) σ Q := by
  intro p l e s m args below meth c H locs cells slots A Z lsA C E hP hS hl
  subst hu
  exact lv_lstore C.1 C.2.1 hd hl hn rfl (fun l2 hl2 => k p l e s m args below meth c H locs cells slots A Z l2 C E hP hS (ev_has_s2 (v := vL x) C.2.2.2.2.2.2.2.1.2.2.2.1 hl2))
theorem ev_iinc {j : Nat} {n x : Int} {ls' : List (Nat × ev_V)} (hd : decode y.2.1 pc = .ok (.iinc j n, 3)) (hk : ev_lk ls j = some (vI x)) (hn : j < y.2.2.1) (hu : ev_s1 ls j (vI (x + n)) = ls') (k : Ev b y (pc + 3) ls' st σ Q) : Ev b y pc ls st σ Q := by
  intro p l e s m args below meth c H locs cells slots A Z lsA C E hP hS hl
  subst hu
  obtain ⟨q, hq⟩ := List.getElem?_of_mem (List.mem_map.mpr ⟨(j, vI x), ev_lk_mem hk, rfl⟩ : ev_cl b (j, vI x) ∈ ls.map (ev_cl b))
  exact lv_iinc C.1 C.2.1 hd hl hq rfl hn rfl (fun l2 hl2 => k p l e s m args below meth c H locs cells slots A Z l2 C E hP hS (ev_has_s1 (v := vI (x + n)) C.2.2.2.2.2.2.2.1.2.2.2.1 (by rw [← Int32.ofInt_add] at hl2; exact hl2)))
theorem ev_iadd {x z : Int} (hd : decode y.2.1 pc = .ok (.iadd, 1)) (k : Ev b y (pc + 1) ls (vI (x + z) :: st) σ Q) : Ev b y pc ls (vI z :: vI x :: st) σ Q := by
  intro p l e s m args below meth c H locs cells slots A Z lsA C E hP hS hl
  refine lv_iadd C.1 C.2.1 hd ?_
  rw [← Int32.ofInt_add]
  exact k p l e s m args below meth c H locs cells slots A Z lsA C E hP hS hl
theorem ev_isub {x z : Int} (hd : decode y.2.1 pc = .ok (.isub, 1)) (k : Ev b y (pc + 1) ls (vI (x - z) :: st) σ Q) : Ev b y pc ls (vI z :: vI x :: st) σ Q := by
  intro p l e s m args below meth c H locs cells slots A Z lsA C E hP hS hl
  refine lv_isub C.1 C.2.1 hd ?_
  rw [← Int32.ofInt_sub]
  exact k p l e s m args below meth c H locs cells slots A Z lsA C E hP hS hl
theorem ev_imul {x z : Int} (hd : decode y.2.1 pc = .ok (.imul, 1)) (k : Ev b y (pc + 1) ls (vI (x * z) :: st) σ Q) : Ev b y pc ls (vI z :: vI x :: st) σ Q := by
  intro p l e s m args below meth c H locs cells slots A Z lsA C E hP hS hl
  refine lv_imul C.1 C.2.1 hd ?_
  rw [← Int32.ofInt_mul]
  exact k p l e s m args below meth c H locs cells slots A Z lsA C E hP hS hl
theorem ev_ineg {x : Int} (hd : decode y.2.1 pc = .ok (.ineg, 1)) (k : Ev b y (pc + 1) ls (vI (-x) :: st) σ Q) : Ev b y pc ls (vI x :: st) σ Q := by
  intro p l e s m args below meth c H locs cells slots A Z lsA C E hP hS hl
  refine lv_ineg C.1 C.2.1 hd ?_
  rw [← Int32.ofInt_neg]
  exact k p l e s m args below meth c H locs cells slots A Z lsA C E hP hS hl
theorem ev_ladd {x z : Int} (hd : decode y.2.1 pc = .ok (.ladd, 1)) (k : Ev b y (pc + 1) ls (vL (x + z) :: st) σ Q) : Ev b y pc ls (vL z :: vL x :: st) σ Q := by
  intro p l e s m args below meth c H locs cells slots A Z lsA C E hP hS hl
  refine lv_ladd C.1 C.2.1 hd ?_
  rw [← Int64.ofInt_add]
  exact k p l e s m args below meth c H locs cells slots A Z lsA C E hP hS hl
theorem ev_lmul {x z : Int} (hd : decode y.2.1 pc = .ok (.lmul, 1)) (k : Ev b y (pc + 1) ls (vL (x * z) :: st) σ Q) : Ev b y pc ls (vL z :: vL x :: st) σ Q := by
  intro p l e s m args below meth c H locs cells slots A Z lsA C E hP hS hl
  refine lv_lmul C.1 C.2.1 hd ?_
  rw [← Int64.ofInt_mul]
  exact k p l e s m args below meth c H locs cells slots A Z lsA C E hP hS hl
theorem ev_i2l {x : Int} (hd : decode y.2.1 pc = .ok (.i2l, 1)) (hx : -2147483648 ≤ x ∧ x < 2147483648) (k : Ev b y (pc + 1) ls (vL x :: st) σ Q) : Ev b y pc ls (vI x :: st) σ Q := by
  intro p l e s m args below meth c H locs cells slots A Z lsA C E hP hS hl
  refine lv_i2l (v := Int64.ofInt x) C.1 C.2.1 hd ?_ (k p l e s m args below meth c H locs cells slots A Z lsA C E hP hS hl)
  rw [← Int64.toInt_inj, Int32.toInt_toInt64, ev_ti hx, ev_tl (by omega)]
theorem ev_l2i {x : Int} (hd : decode y.2.1 pc = .ok (.l2i, 1)) (k : Ev b y (pc + 1) ls (vI x :: st) σ Q) : Ev b y pc ls (vL x :: st) σ Q := by
  intro p l e s m args below meth c H locs cells slots A Z lsA C E hP hS hl
  refine lv_l2i (v := Int32.ofInt x) C.1 C.2.1 hd ?_ (k p l e s m args below meth c H locs cells slots A Z lsA C E hP hS hl)
  exact Int64.toInt32_ofInt
theorem ev_dup {v : ev_V} (hd : decode y.2.1 pc = .ok (.dup, 1)) (hv : ev_c2 v = false) (k : Ev b y (pc + 1) ls (v :: v :: st) σ Q) : Ev b y pc ls (v :: st) σ Q := by
  intro p l e s m args below meth c H locs cells slots A Z lsA C E hP hS hl
  exact lv_dup C.1 C.2.1 hd (by rw [ev_cat C.2.2.2.2.2.2.2.1.2.2.2.1, hv]; rfl) (k p l e s m args below meth c H locs cells slots A Z lsA C E hP hS hl)
theorem ev_pop {v : ev_V} (hd : decode y.2.1 pc = .ok (.pop, 1)) (hv : ev_c2 v = false) (k : Ev b y (pc + 1) ls st σ Q) : Ev b y pc ls (v :: st) σ Q := by
  intro p l e s m args below meth c H locs cells slots A Z lsA C E hP hS hl
  exact lv_pop C.1 C.2.1 hd (by rw [ev_cat C.2.2.2.2.2.2.2.1.2.2.2.1, hv]; rfl) (k p l e s m args below meth c H locs cells slots A Z lsA C E hP hS hl)
theorem ev_dup2 {v w : ev_V} (hd : decode y.2.1 pc = .ok (.dup2, 1)) (hv : ev_c2 v = false) (hw : ev_c2 w = false) (k : Ev b y (pc + 1) ls (v :: w :: v :: w :: st) σ Q) : Ev b y pc ls (v :: w :: st) σ Q := by
  intro p l e s m args below meth c H locs cells slots A Z lsA C E hP hS hl
  exact lv_dup2_11 C.1 C.2.1 hd (by rw [ev_cat C.2.2.2.2.2.2.2.1.2.2.2.1, hv]; rfl) (by rw [ev_cat C.2.2.2.2.2.2.2.1.2.2.2.1, hw]; rfl) (k p l e s m args below meth c H locs cells slots A Z lsA C E hP hS hl)
theorem ev_goto {off : Int} {tgt : Nat} (hd : decode y.2.1 pc = .ok (.goto off, 3)) (ht : (pc : Int) + off = (tgt : Int)) (k : Ev b y tgt ls st σ Q) : Ev b y pc ls st σ Q := by
  intro p l e s m args below meth c H locs cells slots A Z lsA C E hP hS hl
  exact lv_goto C.1 C.2.1 hd ht (k p l e s m args below meth c H locs cells slots A Z lsA C E hP hS hl)
theorem ev_icmp_eq {x z : Int} {off : Int} {tgt : Nat} (hd : decode y.2.1 pc = .ok (.if_icmp .eq off, 3)) (ht : (pc : Int) + off = (tgt : Int)) (hx : -2147483648 ≤ x ∧ x < 2147483648) (hz : -2147483648 ≤ z ∧ z < 2147483648) (kt : x = z → Ev b y tgt ls st σ Q) (kf : ¬ x = z → Ev b y (pc + 3) ls st σ Q) : Ev b y pc ls (vI z :: vI x :: st) σ Q := by
  intro p l e s m args below meth c H locs cells slots A Z lsA C E hP hS hl
  exact lv_icmp_eq C.1 C.2.1 hd ht (fun q => kt ((ev_eq hx hz).mp q) p l e s m args below meth c H locs cells slots A Z lsA C E hP hS hl) (fun q => kf (fun w => q ((ev_eq hx hz).mpr w)) p l e s m args below meth c H locs cells slots A Z lsA C E hP hS hl)
theorem ev_if_eq {x : Int} {off : Int} {tgt : Nat} (hd : decode y.2.1 pc = .ok (.ifCond .eq off, 3)) (ht : (pc : Int) + off = (tgt : Int)) (hx : -2147483648 ≤ x ∧ x < 2147483648) (kt : x = 0 → Ev b y tgt ls st σ Q) (kf : ¬ x = 0 → Ev b y (pc + 3) ls st σ Q) : Ev b y pc ls (vI x :: st) σ Q := by
  intro p l e s m args below meth c H locs cells slots A Z lsA C E hP hS hl
  have hz : -2147483648 ≤ (0 : Int) ∧ (0 : Int) < 2147483648 := by decide
  exact lv_if_eq C.1 C.2.1 hd ht (fun q => kt ((ev_eq hx hz).mp q) p l e s m args below meth c H locs cells slots A Z lsA C E hP hS hl) (fun q => kf (fun w => q ((ev_eq hx hz).mpr w)) p l e s m args below meth c H locs cells slots A Z lsA C E hP hS hl)
theorem ev_icmp_ne {x z : Int} {off : Int} {tgt : Nat} (hd : decode y.2.1 pc = .ok (.if_icmp .ne off, 3)) (ht : (pc : Int) + off = (tgt : Int)) (hx : -2147483648 ≤ x ∧ x < 2147483648) (hz : -2147483648 ≤ z ∧ z < 2147483648) (kt : ¬ x = z → Ev b y tgt ls st σ Q) (kf : x = z → Ev b y (pc + 3) ls st σ Q) : Ev b y pc ls (vI z :: vI x :: st) σ Q := by
  intro p l e s m args below meth c H locs cells slots A Z lsA C E hP hS hl
  exact lv_icmp_ne C.1 C.2.1 hd ht (fun q => kt (fun w => q ((ev_eq hx hz).mpr w)) p l e s m args below meth c H locs cells slots A Z lsA C E hP hS hl) (fun q => kf ((ev_eq hx hz).mp q) p l e s m args below meth c H locs cells slots A Z lsA C E hP hS hl)
theorem ev_if_ne {x : Int} {off : Int} {tgt : Nat} (hd : decode y.2.1 pc = .ok (.ifCond .ne off, 3)) (ht : (pc : Int) + off = (tgt : Int)) (hx : -2147483648 ≤ x ∧ x < 2147483648) (kt : ¬ x = 0 → Ev b y tgt ls st σ Q) (kf : x = 0 → Ev b y (pc + 3) ls st σ Q) : Ev b y pc ls (vI x :: st) σ Q := by
  intro p l e s m args below meth c H locs cells slots A Z lsA C E hP hS hl
  have hz : -2147483648 ≤ (0 : Int) ∧ (0 : Int) < 2147483648 := by decide
  exact lv_if_ne C.1 C.2.1 hd ht (fun q => kt (fun w => q ((ev_eq hx hz).mpr w)) p l e s m args below meth c H locs cells slots A Z lsA C E hP hS hl) (fun q => kf ((ev_eq hx hz).mp q) p l e s m args below meth c H locs cells slots A Z lsA C E hP hS hl)
theorem ev_icmp_lt {x z : Int} {off : Int} {tgt : Nat} (hd : decode y.2.1 pc = .ok (.if_icmp .lt off, 3)) (ht : (pc : Int) + off = (tgt : Int)) (hx : -2147483648 ≤ x ∧ x < 2147483648) (hz : -2147483648 ≤ z ∧ z < 2147483648) (kt : x < z → Ev b y tgt ls st σ Q) (kf : ¬ x < z → Ev b y (pc + 3) ls st σ Q) : Ev b y pc ls (vI z :: vI x :: st) σ Q := by
  intro p l e s m args below meth c H locs cells slots A Z lsA C E hP hS hl
  exact lv_icmp_lt C.1 C.2.1 hd ht (fun q => kt ((ev_lt hx hz).mp q) p l e s m args below meth c H locs cells slots A Z lsA C E hP hS hl) (fun q => kf (fun w => q ((ev_lt hx hz).mpr w)) p l e s m args below meth c H locs cells slots A Z lsA C E hP hS hl)
theorem ev_if_lt {x : Int} {off : Int} {tgt : Nat} (hd : decode y.2.1 pc = .ok (.ifCond .lt off, 3)) (ht : (pc : Int) + off = (tgt : Int)) (hx : -2147483648 ≤ x ∧ x < 2147483648) (kt : x < 0 → Ev b y tgt ls st σ Q) (kf : ¬ x < 0 → Ev b y (pc + 3) ls st σ Q) : Ev b y pc ls (vI x :: st) σ Q := by
  intro p l e s m args below meth c H locs cells slots A Z lsA C E hP hS hl
  have hz : -2147483648 ≤ (0 : Int) ∧ (0 : Int) < 2147483648 := by decide
  exact lv_if_lt C.1 C.2.1 hd ht (fun q => kt ((ev_lt hx hz).mp q) p l e s m args below meth c H locs cells slots A Z lsA C E hP hS hl) (fun q => kf (fun w => q ((ev_lt hx hz).mpr w)) p l e s m args below meth c H locs cells slots A Z lsA C E hP hS hl)
theorem ev_icmp_ge {x z : Int} {off : Int} {tgt : Nat} (hd : decode y.2.1 pc = .ok (.if_icmp .ge off, 3)) (ht : (pc : Int) + off = (tgt : Int)) (hx : -2147483648 ≤ x ∧ x < 2147483648) (hz : -2147483648 ≤ z ∧ z < 2147483648) (kt : z ≤ x → Ev b y tgt ls st σ Q) (kf : ¬ z ≤ x → Ev b y (pc + 3) ls st σ Q) : Ev b y pc ls (vI z :: vI x :: st) σ Q := by
  intro p l e s m args below meth c H locs cells slots A Z lsA C E hP hS hl
  exact lv_icmp_ge C.1 C.2.1 hd ht (fun q => kt ((ev_le hz hx).mp q) p l e s m args below meth c H locs cells slots A Z lsA C E hP hS hl) (fun q => kf (fun w => q ((ev_le hz hx).mpr w)) p l e s m args below meth c H locs cells slots A Z lsA C E hP hS hl)
theorem ev_if_ge {x : Int} {off : Int} {tgt : Nat} (hd : decode y.2.1 pc = .ok (.ifCond .ge off, 3)) (ht : (pc : Int) + off = (tgt : Int)) (hx : -2147483648 ≤ x ∧ x < 2147483648) (kt : 0 ≤ x → Ev b y tgt ls st σ Q) (kf : ¬ 0 ≤ x → Ev b y (pc + 3) ls st σ Q) : Ev b y pc ls (vI x :: st) σ Q := by
  intro p l e s m args below meth c H locs cells slots A Z lsA C E hP hS hl
  have hz : -2147483648 ≤ (0 : Int) ∧ (0 : Int) < 2147483648 := by decide
  exact lv_if_ge C.1 C.2.1 hd ht (fun q => kt ((ev_le hz hx).mp q) p l e s m args below meth c H locs cells slots A Z lsA C E hP hS hl) (fun q => kf (fun w => q ((ev_le hz hx).mpr w)) p l e s m args below meth c H locs cells slots A Z lsA C E hP hS hl)
theorem ev_icmp_gt {x z : Int} {off : Int} {tgt : Nat} (hd : decode y.2.1 pc = .ok (.if_icmp .gt off, 3)) (ht : (pc : Int) + off = (tgt : Int)) (hx : -2147483648 ≤ x ∧ x < 2147483648) (hz : -2147483648 ≤ z ∧ z < 2147483648) (kt : z < x → Ev b y tgt ls st σ Q) (kf : ¬ z < x → Ev b y (pc + 3) ls st σ Q) : Ev b y pc ls (vI z :: vI x :: st) σ Q := by
  intro p l e s m args below meth c H locs cells slots A Z lsA C E hP hS hl
  exact lv_icmp_gt C.1 C.2.1 hd ht (fun q => kt ((ev_lt hz hx).mp q) p l e s m args below meth c H locs cells slots A Z lsA C E hP hS hl) (fun q => kf (fun w => q ((ev_lt hz hx).mpr w)) p l e s m args below meth c H locs cells slots A Z lsA C E hP hS hl)
theorem ev_if_gt {x : Int} {off : Int} {tgt : Nat} (hd : decode y.2.1 pc = .ok (.ifCond .gt off, 3)) (ht : (pc : Int) + off = (tgt : Int)) (hx : -2147483648 ≤ x ∧ x < 2147483648) (kt : 0 < x → Ev b y tgt ls st σ Q) (kf : ¬ 0 < x → Ev b y (pc + 3) ls st σ Q) : Ev b y pc ls (vI x :: st) σ Q := by
  intro p l e s m args below meth c H locs cells slots A Z lsA C E hP hS hl
  have hz : -2147483648 ≤ (0 : Int) ∧ (0 : Int) < 2147483648 := by decide
  exact lv_if_gt C.1 C.2.1 hd ht (fun q => kt ((ev_lt hz hx).mp q) p l e s m args below meth c H locs cells slots A Z lsA C E hP hS hl) (fun q => kf (fun w => q ((ev_lt hz hx).mpr w)) p l e s m args below meth c H locs cells slots A Z lsA C E hP hS hl)
theorem ev_icmp_le {x z : Int} {off : Int} {tgt : Nat} (hd : decode y.2.1 pc = .ok (.if_icmp .le off, 3)) (ht : (pc : Int) + off = (tgt : Int)) (hx : -2147483648 ≤ x ∧ x < 2147483648) (hz : -2147483648 ≤ z ∧ z < 2147483648) (kt : x ≤ z → Ev b y tgt ls st σ Q) (kf : ¬ x ≤ z → Ev b y (pc + 3) ls st σ Q) : Ev b y pc ls (vI z :: vI x :: st) σ Q := by
  intro p l e s m args below meth c H locs cells slots A Z lsA C E hP hS hl
  exact lv_icmp_le C.1 C.2.1 hd ht (fun q => kt ((ev_le hx hz).mp q) p l e s m args below meth c H locs cells slots A Z lsA C E hP hS hl) (fun q => kf (fun w => q ((ev_le hx hz).mpr w)) p l e s m args below meth c H locs cells slots A Z lsA C E hP hS hl)
theorem ev_if_le {x : Int} {off : Int} {tgt : Nat} (hd : decode y.2.1 pc = .ok (.ifCond .le off, 3)) (ht : (pc : Int) + off = (tgt : Int)) (hx : -2147483648 ≤ x ∧ x < 2147483648) (kt : x ≤ 0 → Ev b y tgt ls st σ Q) (kf : ¬ x ≤ 0 → Ev b y (pc + 3) ls st σ Q) : Ev b y pc ls (vI x :: st) σ Q := by
  intro p l e s m args below meth c H locs cells slots A Z lsA C E hP hS hl
  have hz : -2147483648 ≤ (0 : Int) ∧ (0 : Int) < 2147483648 := by decide
  exact lv_if_le C.1 C.2.1 hd ht (fun q => kt ((ev_le hx hz).mp q) p l e s m args below meth c H locs cells slots A Z lsA C E hP hS hl) (fun q => kf (fun w => q ((ev_le hx hz).mpr w)) p l e s m args below meth c H locs cells slots A Z lsA C E hP hS hl)
theorem ev_tableOut {dflt lo hi : Int} {offs : Array Int} {len : Nat} {x : Int} {tgt : Nat} (hd : decode y.2.1 pc = .ok (.tableswitch dflt lo hi offs, len)) (hx : -2147483648 ≤ x ∧ x < 2147483648) (h : x < lo ∨ hi < x) (ht : (pc : Int) + dflt = (tgt : Int)) (k : Ev b y tgt ls st σ Q) : Ev b y pc ls (vI x :: st) σ Q := by
  intro p l e s m args below meth c H locs cells slots A Z lsA C E hP hS hl
  exact lv_tableOut C.1 C.2.1 hd (by rw [ev_ti hx]; exact h) ht (k p l e s m args below meth c H locs cells slots A Z lsA C E hP hS hl)
theorem ev_tableIn {dflt lo hi : Int} {offs : Array Int} {len : Nat} {x off : Int} {tgt : Nat} (hd : decode y.2.1 pc = .ok (.tableswitch dflt lo hi offs, len)) (hx : -2147483648 ≤ x ∧ x < 2147483648) (h1 : ¬ x < lo) (h2 : ¬ hi < x) (ho : offs[(x - lo).toNat]? = some off) (ht : (pc : Int) + off = (tgt : Int)) (k : Ev b y tgt ls st σ Q) : Ev b y pc ls (vI x :: st) σ Q := by
  intro p l e s m args below meth c H locs cells slots A Z lsA C E hP hS hl
  exact lv_tableIn C.1 C.2.1 hd (by rw [ev_ti hx]; exact h1) (by rw [ev_ti hx]; exact h2) (by rw [ev_ti hx]; exact ho) ht (k p l e s m args below meth c H locs cells slots A Z lsA C E hP hS hl)
theorem ev_lookup {dflt : Int} {ps : Array (Int × Int)} {len : Nat} {x off : Int} {tgt : Nat} (hd : decode y.2.1 pc = .ok (.lookupswitch dflt ps, len)) (hp : (ps.toList.zip (ps.toList.drop 1)).all (fun (a, next) => a.1 < next.1) = true) (hx : -2147483648 ≤ x ∧ x < 2147483648) (ho : Op.lookupswitch.offset ps.toList dflt x = off) (ht : (pc : Int) + off = (tgt : Int)) (k : Ev b y tgt ls st σ Q) : Ev b y pc ls (vI x :: st) σ Q := by
  intro p l e s m args below meth c H locs cells slots A Z lsA C E hP hS hl
  exact lv_lookup C.1 C.2.1 hd hp (by rw [ev_ti hx]; exact ho) ht (k p l e s m args below meth c H locs cells slots A Z lsA C E hP hS hl)
end EVR
end
section
/-! numbers, fields, arrays -/
def cmpI (x z : Int) : Int := if z < x then 1 else if x = z then 0 else -1
theorem cmpI_in (x z : Int) : -2147483648 ≤ cmpI x z ∧ cmpI x z < 2147483648 := by
  unfold cmpI; split
  · decide
  · split <;> decide
theorem ev_cmp {x z : Int} (hx : -9223372036854775808 ≤ x ∧ x < 9223372036854775808) (hz : -9223372036854775808 ≤ z ∧ z < 9223372036854775808) : lg_cmp (Int64.ofInt x) (Int64.ofInt z) = Int32.ofInt (cmpI x z) := by
  have h1 : (Int64.ofInt x > Int64.ofInt z) ↔ z < x := by
    show Int64.ofInt z < Int64.ofInt x ↔ _
    rw [Int64.lt_iff_toInt_lt, ev_tl hx, ev_tl hz]
  have h2 : (Int64.ofInt x = Int64.ofInt z) ↔ x = z := by
    rw [← Int64.toInt_inj, ev_tl hx, ev_tl hz]
  unfold lg_cmp cmpI
  by_cases a : z < x
  · rw [if_pos (h1.mpr a), if_pos a]; rfl
  · rw [if_neg (fun q => a (h1.mp q)), if_neg a]
    by_cases c : x = z
    · rw [if_pos (h2.mpr c), if_pos c]; rfl
    · rw [if_neg (fun q => c (h2.mp q)), if_neg c]; rfl
theorem ev_dv {x z : Int} (hx : 0 ≤ x ∧ x < 2147483648) (hz : 0 < z ∧ z < 2147483648) : Int32.ofInt x / Int32.ofInt z = Int32.ofInt (x / z) := by
  have h0 : 0 ≤ x / z := Int.ediv_nonneg hx.1 (by omega)
  have h1 : x / z ≤ x := Int.ediv_le_self z hx.1
  rw [← Int32.toInt_inj, Int32.toInt_div, ev_ti (by omega), ev_ti (by omega), ev_ti (by omega), Int.tdiv_eq_ediv_of_nonneg hx.1, Int.bmod_def]
  split <;> omega
theorem ev_rm {x z : Int} (hx : 0 ≤ x ∧ x < 2147483648) (hz : 0 < z ∧ z < 2147483648) : Int32.ofInt x - Int32.ofInt x / Int32.ofInt z * Int32.ofInt z = Int32.ofInt (x % z) := by
  rw [ev_dv hx hz, ← Int32.ofInt_mul, ← Int32.ofInt_sub]
  congr 1
  have := Int.mul_ediv_add_emod x z
  rw [Int.mul_comm]
  omega
theorem ev_ne0 {z : Int} (hz : 0 < z ∧ z < 2147483648) : ¬ Int32.ofInt z = 0 := by
  rw [show (0 : Int32) = Int32.ofInt 0 from rfl, ev_eq (by omega) (by omega)]; omega
section EVS
variable {b : ev_B} {y : ev_Y} {pc : Nat} {ls : List (Nat × ev_V)} {st : List ev_V} {σ : ev_M} {Q : Option ev_V → ev_M → Prop}
theorem ev_idiv {x z : Int} (hd : decode y.2.1 pc = .ok (.idiv, 1)) (hx : 0 ≤ x ∧ x < 2147483648) (hz : 0 < z ∧ z < 2147483648) (k : Ev b y (pc + 1) ls (vI (x / z) :: st) σ Q) : Ev b y pc ls (vI z :: vI x :: st) σ Q := by
  intro p l e s m args below meth c H locs cells slots A Z lsA C E hP hS hl
  refine lv_idiv C.1 C.2.1 hd (ev_ne0 hz) ?_
  rw [ev_dv hx hz]
  exact k p l e s m args below meth c H locs cells slots A Z lsA C E hP hS hl
theorem ev_irem {x z : Int} (hd : decode y.2.1 pc = .ok (.irem, 1)) (hx : 0 ≤ x ∧ x < 2147483648) (hz : 0 < z ∧ z < 2147483648) (k : Ev b y (pc + 1) ls (vI (x % z) :: st) σ Q) : Ev b y pc ls (vI z :: vI x :: st) σ Q := by
  intro p l e s m args below meth c H locs cells slots A Z lsA C E hP hS hl
  refine lv_irem C.1 C.2.1 hd (ev_ne0 hz) ?_
  rw [ev_rm hx hz]
  exact k p l e s m args below meth c H locs cells slots A Z lsA C E hP hS hl
theorem ev_iand {x z w : Int} (hd : decode y.2.1 pc = .ok (.iand, 1)) (hw : Int32.ofInt x &&& Int32.ofInt z = Int32.ofInt w) (k : Ev b y (pc + 1) ls (vI w :: st) σ Q) : Ev b y pc ls (vI z :: vI x :: st) σ Q := by
  intro p l e s m args below meth c H locs cells slots A Z lsA C E hP hS hl
  refine lv_iand C.1 C.2.1 hd ?_
  rw [hw]
  exact k p l e s m args below meth c H locs cells slots A Z lsA C E hP hS hl
theorem ev_ior {x z w : Int} (hd : decode y.2.1 pc = .ok (.ior, 1)) (hw : Int32.ofInt x ||| Int32.ofInt z = Int32.ofInt w) (k : Ev b y (pc + 1) ls (vI w :: st) σ Q) : Ev b y pc ls (vI z :: vI x :: st) σ Q := by
  intro p l e s m args below meth c H locs cells slots A Z lsA C E hP hS hl
  refine lv_ior C.1 C.2.1 hd ?_
  rw [hw]
  exact k p l e s m args below meth c H locs cells slots A Z lsA C E hP hS hl
theorem ev_ixor {x z w : Int} (hd : decode y.2.1 pc = .ok (.ixor, 1)) (hw : Int32.ofInt x ^^^ Int32.ofInt z = Int32.ofInt w) (k : Ev b y (pc + 1) ls (vI w :: st) σ Q) : Ev b y pc ls (vI z :: vI x :: st) σ Q := by
  intro p l e s m args below meth c H locs cells slots A Z lsA C E hP hS hl
  refine lv_ixor C.1 C.2.1 hd ?_
  rw [hw]
  exact k p l e s m args below meth c H locs cells slots A Z lsA C E hP hS hl
theorem ev_ishl {x z w : Int} (hd : decode y.2.1 pc = .ok (.ishl, 1)) (hw : Int32.ofInt x <<< (Int32.ofInt z &&& 31) = Int32.ofInt w) (k : Ev b y (pc + 1) ls (vI w :: st) σ Q) : Ev b y pc ls (vI z :: vI x :: st) σ Q := by
  intro p l e s m args below meth c H locs cells slots A Z lsA C E hP hS hl
  refine lv_ishl C.1 C.2.1 hd ?_
  rw [hw]
  exact k p l e s m args below meth c H locs cells slots A Z lsA C E hP hS hl
theorem ev_ishr {x z w : Int} (hd : decode y.2.1 pc = .ok (.ishr, 1)) (hw : Int32.ofInt x >>> (Int32.ofInt z &&& 31) = Int32.ofInt w) (k : Ev b y (pc + 1) ls (vI w :: st) σ Q) : Ev b y pc ls (vI z :: vI x :: st) σ Q := by
  intro p l e s m args below meth c H locs cells slots A Z lsA C E hP hS hl
  refine lv_ishr C.1 C.2.1 hd ?_
  rw [hw]
  exact k p l e s m args below meth c H locs cells slots A Z lsA C E hP hS hl
theorem ev_iushr {x z w : Int} (hd : decode y.2.1 pc = .ok (.iushr, 1)) (hw : ((Int32.ofInt x).toUInt32 >>> ((Int32.ofInt z).toUInt32 &&& Int32.toUInt32 31)).toInt32 = Int32.ofInt w) (k : Ev b y (pc + 1) ls (vI w :: st) σ Q) : Ev b y pc ls (vI z :: vI x :: st) σ Q := by
  intro p l e s m args below meth c H locs cells slots A Z lsA C E hP hS hl
  exact lv_iushr C.1 C.2.1 hd hw (k p l e s m args below meth c H locs cells slots A Z lsA C E hP hS hl)
theorem ev_lshl {x z w : Int} (hd : decode y.2.1 pc = .ok (.lshl, 1)) (hw : Int64.ofInt x <<< ((Int32.ofInt z).toInt64 &&& 63) = Int64.ofInt w) (k : Ev b y (pc + 1) ls (vL w :: st) σ Q) : Ev b y pc ls (vI z :: vL x :: st) σ Q := by
  intro p l e s m args below meth c H locs cells slots A Z lsA C E hP hS hl
  exact lv_lshl C.1 C.2.1 hd hw (k p l e s m args below meth c H locs cells slots A Z lsA C E hP hS hl)
theorem ev_land {x z w : Int} (hd : decode y.2.1 pc = .ok (.land, 1)) (hw : Int64.ofInt x &&& Int64.ofInt z = Int64.ofInt w) (k : Ev b y (pc + 1) ls (vL w :: st) σ Q) : Ev b y pc ls (vL z :: vL x :: st) σ Q := by
  intro p l e s m args below meth c H locs cells slots A Z lsA C E hP hS hl
  refine lv_land C.1 C.2.1 hd ?_
  rw [hw]
  exact k p l e s m args below meth c H locs cells slots A Z lsA C E hP hS hl
theorem ev_lor {x z w : Int} (hd : decode y.2.1 pc = .ok (.lor, 1)) (hw : Int64.ofInt x ||| Int64.ofInt z = Int64.ofInt w) (k : Ev b y (pc + 1) ls (vL w :: st) σ Q) : Ev b y pc ls (vL z :: vL x :: st) σ Q := by
  intro p l e s m args below meth c H locs cells slots A Z lsA C E hP hS hl
  refine lv_lor C.1 C.2.1 hd ?_
  rw [hw]
  exact k p l e s m args below meth c H locs cells slots A Z lsA C E hP hS hl
theorem ev_i2b {x w : Int} (hd : decode y.2.1 pc = .ok (.i2b, 1)) (hw : (Int32.ofInt x).toInt8.toInt32 = Int32.ofInt w) (k : Ev b y (pc + 1) ls (vI w :: st) σ Q) : Ev b y pc ls (vI x :: st) σ Q := by
  intro p l e s m args below meth c H locs cells slots A Z lsA C E hP hS hl
  exact lv_i2b C.1 C.2.1 hd hw (k p l e s m args below meth c H locs cells slots A Z lsA C E hP hS hl)
theorem ev_i2s {x w : Int} (hd : decode y.2.1 pc = .ok (.i2s, 1)) (hw : (Int32.ofInt x).toInt16.toInt32 = Int32.ofInt w) (k : Ev b y (pc + 1) ls (vI w :: st) σ Q) : Ev b y pc ls (vI x :: st) σ Q := by
  intro p l e s m args below meth c H locs cells slots A Z lsA C E hP hS hl
  exact lv_i2s C.1 C.2.1 hd hw (k p l e s m args below meth c H locs cells slots A Z lsA C E hP hS hl)
theorem ev_i2c {x w : Int} (hd : decode y.2.1 pc = .ok (.i2c, 1)) (hw : ((Int32.ofInt x).toUInt32 % 65536).toInt32 = Int32.ofInt w) (k : Ev b y (pc + 1) ls (vI w :: st) σ Q) : Ev b y pc ls (vI x :: st) σ Q := by
  intro p l e s m args below meth c H locs cells slots A Z lsA C E hP hS hl
  exact lv_i2c C.1 C.2.1 hd hw (k p l e s m args below meth c H locs cells slots A Z lsA C E hP hS hl)
theorem ev_lcmp {x z : Int} (hd : decode y.2.1 pc = .ok (.lcmp, 1)) (hx : -9223372036854775808 ≤ x ∧ x < 9223372036854775808) (hz : -9223372036854775808 ≤ z ∧ z < 9223372036854775808) (k : Ev b y (pc + 1) ls (vI (cmpI x z) :: st) σ Q) : Ev b y pc ls (vL z :: vL x :: st) σ Q := by
  intro p l e s m args below meth c H locs cells slots A Z lsA C E hP hS hl
  refine W.lcmp C.1 C.2.1 hd ?_
  rw [ev_cmp hx hz]
  exact k p l e s m args below meth c H locs cells slots A Z lsA C E hP hS hl
theorem ev_lc_eq {x z : Int} {off : Int} {tgt : Nat} (hd : decode y.2.1 pc = .ok (.lcmp, 1)) (hd2 : decode y.2.1 (pc + 1) = .ok (.ifCond .eq off, 3)) (ht : ((pc + 1 : Nat) : Int) + off = (tgt : Int)) (hx : -9223372036854775808 ≤ x ∧ x < 9223372036854775808) (hz : -9223372036854775808 ≤ z ∧ z < 9223372036854775808) (kt : x = z → Ev b y tgt ls st σ Q) (kf : ¬ x = z → Ev b y (pc + 1 + 3) ls st σ Q) : Ev b y pc ls (vL z :: vL x :: st) σ Q :=
  ev_lcmp hd hx hz (ev_if_eq hd2 ht (cmpI_in x z) (fun q => kt (by unfold cmpI at q; split at q <;> first | omega | (split at q <;> omega))) (fun q => kf (by unfold cmpI at q; split at q <;> first | omega | (split at q <;> omega))))
theorem ev_lc_ne {x z : Int} {off : Int} {tgt : Nat} (hd : decode y.2.1 pc = .ok (.lcmp, 1)) (hd2 : decode y.2.1 (pc + 1) = .ok (.ifCond .ne off, 3)) (ht : ((pc + 1 : Nat) : Int) + off = (tgt : Int)) (hx : -9223372036854775808 ≤ x ∧ x < 9223372036854775808) (hz : -9223372036854775808 ≤ z ∧ z < 9223372036854775808) (kt : ¬ x = z → Ev b y tgt ls st σ Q) (kf : x = z → Ev b y (pc + 1 + 3) ls st σ Q) : Ev b y pc ls (vL z :: vL x :: st) σ Q :=
  ev_lcmp hd hx hz (ev_if_ne hd2 ht (cmpI_in x z) (fun q => kt (by unfold cmpI at q; split at q <;> first | omega | (split at q <;> omega))) (fun q => kf (by unfold cmpI at q; split at q <;> first | omega | (split at q <;> omega))))
theorem ev_lc_lt {x z : Int} {off : Int} {tgt : Nat} (hd : decode y.2.1 pc = .ok (.lcmp, 1)) (hd2 : decode y.2.1 (pc + 1) = .ok (.ifCond .lt off, 3)) (ht : ((pc + 1 : Nat) : Int) + off = (tgt : Int)) (hx : -9223372036854775808 ≤ x ∧ x < 9223372036854775808) (hz : -9223372036854775808 ≤ z ∧ z < 9223372036854775808) (kt : x < z → Ev b y tgt ls st σ Q) (kf : ¬ x < z → Ev b y (pc + 1 + 3) ls st σ Q) : Ev b y pc ls (vL z :: vL x :: st) σ Q :=
  ev_lcmp hd hx hz (ev_if_lt hd2 ht (cmpI_in x z) (fun q => kt (by unfold cmpI at q; split at q <;> first | omega | (split at q <;> omega))) (fun q => kf (by unfold cmpI at q; split at q <;> first | omega | (split at q <;> omega))))
theorem ev_lc_ge {x z : Int} {off : Int} {tgt : Nat} (hd : decode y.2.1 pc = .ok (.lcmp, 1)) (hd2 : decode y.2.1 (pc + 1) = .ok (.ifCond .ge off, 3)) (ht : ((pc + 1 : Nat) : Int) + off = (tgt : Int)) (hx : -9223372036854775808 ≤ x ∧ x < 9223372036854775808) (hz : -9223372036854775808 ≤ z ∧ z < 9223372036854775808) (kt : z ≤ x → Ev b y tgt ls st σ Q) (kf : ¬ z ≤ x → Ev b y (pc + 1 + 3) ls st σ Q) : Ev b y pc ls (vL z :: vL x :: st) σ Q :=
  ev_lcmp hd hx hz (ev_if_ge hd2 ht (cmpI_in x z) (fun q => kt (by unfold cmpI at q; split at q <;> first | omega | (split at q <;> omega))) (fun q => kf (by unfold cmpI at q; split at q <;> first | omega | (split at q <;> omega))))
theorem ev_lc_gt {x z : Int} {off : Int} {tgt : Nat} (hd : decode y.2.1 pc = .ok (.lcmp, 1)) (hd2 : decode y.2.1 (pc + 1) = .ok (.ifCond .gt off, 3)) (ht : ((pc + 1 : Nat) : Int) + off = (tgt : Int)) (hx : -9223372036854775808 ≤ x ∧ x < 9223372036854775808) (hz : -9223372036854775808 ≤ z ∧ z < 9223372036854775808) (kt : z < x → Ev b y tgt ls st σ Q) (kf : ¬ z < x → Ev b y (pc + 1 + 3) ls st σ Q) : Ev b y pc ls (vL z :: vL x :: st) σ Q :=
  ev_lcmp hd hx hz (ev_if_gt hd2 ht (cmpI_in x z) (fun q => kt (by unfold cmpI at q; split at q <;> first | omega | (split at q <;> omega))) (fun q => kf (by unfold cmpI at q; split at q <;> first | omega | (split at q <;> omega))))
theorem ev_lc_le {x z : Int} {off : Int} {tgt : Nat} (hd : decode y.2.1 pc = .ok (.lcmp, 1)) (hd2 : decode y.2.1 (pc + 1) = .ok (.ifCond .le off, 3)) (ht : ((pc + 1 : Nat) : Int) + off = (tgt : Int)) (hx : -9223372036854775808 ≤ x ∧ x < 9223372036854775808) (hz : -9223372036854775808 ≤ z ∧ z < 9223372036854775808) (kt : x ≤ z → Ev b y tgt ls st σ Q) (kf : ¬ x ≤ z → Ev b y (pc + 1 + 3) ls st σ Q) : Ev b y pc ls (vL z :: vL x :: st) σ Q :=
  ev_lcmp hd hx hz (ev_if_le hd2 ht (cmpI_in x z) (fun q => kt (by unfold cmpI at q; split at q <;> first | omega | (split at q <;> omega))) (fun q => kf (by unfold cmpI at q; split at q <;> first | omega | (split at q <;> omega))))
/-- the fields of the world's objects -/
theorem ev_geti {o ci i : Nat} (j : Nat) (jz : Int) {tm : List (Option Nat)} {CC : String} {T : u_T} {N : Nat} (hd : decode y.2.1 pc = .ok (.getfield i, 3)) (hk : ev_kds[o]? = some (.inl (ci, tm))) (hc : ev_cls[ci]? = some (CC, T, N)) (hw : Cond.fieldLink y.1.cls i (T j).1 (T j).2.1 (T j).2.2.1 ∈ ev_gw) (hin : ∀ w ∈ u_ws CC T N, w ∈ ev_gw) (hj : j < N) (ht : tm[j]? = some none) (hz : (j : Int) = jz) (k : Ev b y (pc + 3) ls (vI (σ o jz) :: st) σ Q) : Ev b y pc ls (vR o :: st) σ Q := by
  subst hz
  intro p l e s m args below meth c H locs cells slots A Z lsA C E hP hS hl
  exact va_get (C := CC) (v := .int (Int32.ofInt (σ o j))) C.1 C.2.1 C.2.2.2.2.2.2.1 hin C.2.2.2.2.2.1 C.2.2.2.2.2.2.2.1.1 hP o (ev_at hk) hc j hj (C.2.2.2.2.2.2.1 _ hw) (fun _ h => h) (by rw [List.getElem?_mapIdx, ht]; rfl) hd (k p l e s m args below meth c H locs cells slots A Z lsA C E hP hS hl)
theorem ev_getr {o ci i : Nat} (j : Nat) {t : Nat} {tm : List (Option Nat)} {CC : String} {T : u_T} {N : Nat} (hd : decode y.2.1 pc = .ok (.getfield i, 3)) (hk : ev_kds[o]? = some (.inl (ci, tm))) (hc : ev_cls[ci]? = some (CC, T, N)) (hw : Cond.fieldLink y.1.cls i (T j).1 (T j).2.1 (T j).2.2.1 ∈ ev_gw) (hin : ∀ w ∈ u_ws CC T N, w ∈ ev_gw) (hj : j < N) (ht : tm[j]? = some (some t)) (k : Ev b y (pc + 3) ls (vR t :: st) σ Q) : Ev b y pc ls (vR o :: st) σ Q := by
  intro p l e s m args below meth c H locs cells slots A Z lsA C E hP hS hl
  exact va_get (C := CC) (v := .ref (b.1 t)) C.1 C.2.1 C.2.2.2.2.2.2.1 hin C.2.2.2.2.2.1 C.2.2.2.2.2.2.2.1.1 hP o (ev_at hk) hc j hj (C.2.2.2.2.2.2.1 _ hw) (fun _ h => h) (by rw [List.getElem?_mapIdx, ht]; rfl) hd (k p l e s m args below meth c H locs cells slots A Z lsA C E hP hS hl)
theorem ev_put {o ci i : Nat} (j : Nat) (jz : Int) {z : Int} {tm : List (Option Nat)} {CC : String} {T : u_T} {N : Nat} {ty0 : Nat → FieldType} {ty : FieldType} (hd : decode y.2.1 pc = .ok (.putfield i, 3)) (hk : ev_kds[o]? = some (.inl (ci, tm))) (hc : ev_cls[ci]? = some (CC, T, N)) (hw : Cond.fieldLink y.1.cls i (T j).1 (T j).2.1 (T j).2.2.1 ∈ ev_gw) (hin : ∀ w ∈ u_ws CC T N, w ∈ ev_gw) (hty : ∀ k, k < N → parseFieldDescriptor (T k).2.2.1 = some (ty0 k)) (hnm : ∀ a, a < N → ∀ b, b < N → a ≠ b → (T a).2.1 ≠ (T b).2.1) (hj : j < N) (ht : tm[j]? = some none) (hf : (T j).2.2.2 = false) (hty2 : parseFieldDescriptor (T j).2.2.1 = some ty) (hna : narrow ty (.int (Int32.ofInt z)) = .int (Int32.ofInt z)) (hfi : fits ty (.int (Int32.ofInt z)) = true) (hz : (j : Int) = jz) (k : Ev b y (pc + 3) ls st (mup σ o jz z) Q) : Ev b y pc ls (vI z :: vR o :: st) σ Q := by
  subst hz
  intro p l e s m args below meth c H locs cells slots A Z lsA C E hP hS hl
  refine va_put (C := CC) (v := .int (Int32.ofInt z)) C.1 C.2.1 C.2.2.2.2.2.2.1 hin ty0 hty hnm C.2.2.2.2.2.1 C.2.2.2.2.2.2.2.1.1 hP (ev_D C.2.2.2.2.2.2.2.1 σ) hS o (ev_at hk) hc j hj (C.2.2.2.2.2.2.1 _ hw) (fun _ h => h) hf hty2 hna hfi (by rw [List.length_mapIdx]; exact (List.getElem?_eq_some_iff.mp ht).1) hd (fun H1 locs1 hP1 hD1 hS1 => ?_)
  refine k p l e s m args below meth c H1 locs1 cells slots A Z lsA C E ?_ hS1 hl
  have e1 := ev_set (b := b) (σ := σ) (τ := mup σ o j z) hk (fun a ha => (mup_ne ha).symm)
  rw [← e1]
  rw [ev_upf ht] at hP1
  exact hP1
theorem ev_iald {a n : Nat} {i : Int} (hd : decode y.2.1 pc = .ok (.iaload, 1)) (hk : ev_kds[a]? = some (.inr (0, n))) (hi : 0 ≤ i ∧ i < n) (k : Ev b y (pc + 1) ls (vI (σ a i) :: st) σ Q) : Ev b y pc ls (vI i :: vR a :: st) σ Q := by
  intro p l e s m args below meth c H locs cells slots A Z lsA C E hP hS hl
  have hn := ev_small _ _ _ hk
  refine va_iald C.1 C.2.1 C.2.2.2.2.2.2.2.1.1 hP a 0 (ev_at hk) rfl (ev_in hi hn) hd ?_
  have e1 : ((i.toNat : Nat) : Int) = i := by omega
  rw [ev_nn (by omega), e1]
  exact k p l e s m args below meth c H locs cells slots A Z lsA C E hP hS hl
theorem ev_lald {a n : Nat} {i : Int} (hd : decode y.2.1 pc = .ok (.laload, 1)) (hk : ev_kds[a]? = some (.inr (1, n))) (hi : 0 ≤ i ∧ i < n) (k : Ev b y (pc + 1) ls (vL (σ a i) :: st) σ Q) : Ev b y pc ls (vI i :: vR a :: st) σ Q := by
  intro p l e s m args below meth c H locs cells slots A Z lsA C E hP hS hl
  have hn := ev_small _ _ _ hk
  refine va_lald C.1 C.2.1 C.2.2.2.2.2.2.2.1.1 hP a 1 (ev_at hk) rfl (ev_in hi hn) hd ?_
  have e1 : ((i.toNat : Nat) : Int) = i := by omega
  rw [ev_nn (by omega), e1]
  exact k p l e s m args below meth c H locs cells slots A Z lsA C E hP hS hl
theorem ev_aald {a n : Nat} {i : Int} (hd : decode y.2.1 pc = .ok (.aaload, 1)) (hk : ev_kds[a]? = some (.inr (2, n))) (hi : 0 ≤ i ∧ i < n) (k : Ev b y (pc + 1) ls (vR (ev_rt i.toNat) :: st) σ Q) : Ev b y pc ls (vI i :: vR a :: st) σ Q := by
  intro p l e s m args below meth c H locs cells slots A Z lsA C E hP hS hl
  have hn := ev_small _ _ _ hk
  refine va_aldq C.1 C.2.1 C.2.2.2.2.2.2.2.1.1 hP a 2 (ev_at hk) rfl (ev_in hi hn) hd ?_
  rw [ev_nn (by omega)]
  exact k p l e s m args below meth c H locs cells slots A Z lsA C E hP hS hl
theorem ev_iast {a n : Nat} {i z : Int} (hd : decode y.2.1 pc = .ok (.iastore, 1)) (hk : ev_kds[a]? = some (.inr (0, n))) (hi : 0 ≤ i ∧ i < n) (k : Ev b y (pc + 1) ls st (mup σ a i z) Q) : Ev b y pc ls (vI z :: vI i :: vR a :: st) σ Q := by
  intro p l e s m args below meth c H locs cells slots A Z lsA C E hP hS hl
  have hn := ev_small _ _ _ hk
  refine va_iast (x := Int32.ofInt z) C.1 C.2.1 C.2.2.2.2.2.2.2.1.1 hP (ev_D C.2.2.2.2.2.2.2.1 σ) hS a 0 (ev_at hk) rfl (ev_in hi hn) hd (fun H1 locs1 hP1 hD1 hS1 => ?_)
  refine k p l e s m args below meth c H1 locs1 cells slots A Z lsA C E ?_ hS1 hl
  rw [ev_nn (by omega), ev_upi hi.1] at hP1
  rw [← ev_set (b := b) (σ := σ) (τ := mup σ a i z) hk (fun q hq => (mup_ne hq).symm)]
  exact hP1
theorem ev_last {a n : Nat} {i z : Int} (hd : decode y.2.1 pc = .ok (.lastore, 1)) (hk : ev_kds[a]? = some (.inr (1, n))) (hi : 0 ≤ i ∧ i < n) (k : Ev b y (pc + 1) ls st (mup σ a i z) Q) : Ev b y pc ls (vL z :: vI i :: vR a :: st) σ Q := by
  intro p l e s m args below meth c H locs cells slots A Z lsA C E hP hS hl
  have hn := ev_small _ _ _ hk
  refine va_last (x := Int64.ofInt z) C.1 C.2.1 C.2.2.2.2.2.2.2.1.1 hP (ev_D C.2.2.2.2.2.2.2.1 σ) hS a 1 (ev_at hk) rfl (ev_in hi hn) hd (fun H1 locs1 hP1 hD1 hS1 => ?_)
  refine k p l e s m args below meth c H1 locs1 cells slots A Z lsA C E ?_ hS1 hl
  rw [ev_nn (by omega), ev_upl hi.1] at hP1
  rw [← ev_set (b := b) (σ := σ) (τ := mup σ a i z) hk (fun q hq => (mup_ne hq).symm)]
  exact hP1
theorem ev_alen0 {a n : Nat} {nz : Int} (hd : decode y.2.1 pc = .ok (.arraylength, 1)) (hk : ev_kds[a]? = some (.inr (0, n))) (hz : (n : Int) = nz) (k : Ev b y (pc + 1) ls (vI nz :: st) σ Q) : Ev b y pc ls (vR a :: st) σ Q := by
  subst hz
  intro p l e s m args below meth c H locs cells slots A Z lsA C E hP hS hl
  exact va_alen (v := Int32.ofInt n) C.1 C.2.1 C.2.2.2.2.2.2.2.1.1 hP a 0 (ev_at hk) rfl (by rfl) hd (k p l e s m args below meth c H locs cells slots A Z lsA C E hP hS hl)
theorem ev_alen1 {a n : Nat} {nz : Int} (hd : decode y.2.1 pc = .ok (.arraylength, 1)) (hk : ev_kds[a]? = some (.inr (1, n))) (hz : (n : Int) = nz) (k : Ev b y (pc + 1) ls (vI nz :: st) σ Q) : Ev b y pc ls (vR a :: st) σ Q := by
  subst hz
  intro p l e s m args below meth c H locs cells slots A Z lsA C E hP hS hl
  exact va_alen (v := Int32.ofInt n) C.1 C.2.1 C.2.2.2.2.2.2.2.1.1 hP a 1 (ev_at hk) rfl (by rfl) hd (k p l e s m args below meth c H locs cells slots A Z lsA C E hP hS hl)
/-- the script -/
theorem ev_sald {i : Int} (hd : decode y.2.1 pc = .ok (.iaload, 1)) (hi : 0 ≤ i ∧ i < (b.2.2.2.2.1 : Int)) (k : Ev b y (pc + 1) ls (vI (b.2.2.2.2.2 i.toNat) :: st) σ Q) : Ev b y pc ls (vI i :: vR 74 :: st) σ Q := by
  intro p l e s m args below meth c H locs cells slots A Z lsA C E hP hS hl
  have hn := C.2.2.2.2.2.2.2.1.2.2.2.1.2.2
  refine va_ti (v := .int (Int32.ofInt (b.2.2.2.2.2 i.toNat))) C.1 C.2.1 C.2.2.2.2.2.2.2.1.2.2.2.2.2.2.2.2.2.2 hS (i := Int32.ofInt i) ?_ ?_ hd (k p l e s m args below meth c H locs cells slots A Z lsA C E hP hS hl)
  · rw [vp_in_iff, ev_ti (by omega)]; exact hi
  · rw [ev_nn (by omega)]
theorem ev_slen (hd : decode y.2.1 pc = .ok (.arraylength, 1)) (k : Ev b y (pc + 1) ls (vI b.2.2.2.2.1 :: st) σ Q) : Ev b y pc ls (vR 74 :: st) σ Q := by
  intro p l e s m args below meth c H locs cells slots A Z lsA C E hP hS hl
  exact va_tlen (v := Int32.ofInt b.2.2.2.2.1) C.1 C.2.1 C.2.2.2.2.2.2.2.1.2.2.2.2.2.2.2.2.2.2 hS (by rfl) hd (k p l e s m args below meth c H locs cells slots A Z lsA C E hP hS hl)
/-- returns -/
theorem ev_iret {z : Int} {ty : FieldType} (hd : decode y.2.1 pc = .ok (.ireturn, 1)) (hr : y.2.2.2.1 = some ty) (hn : narrow ty (.int (Int32.ofInt z)) = .int (Int32.ofInt z)) (hQ : Q (some (vI z)) σ) : Ev b y pc ls [vI z] σ Q := by
  intro p l e s m args below meth c H locs cells slots A Z lsA C E hP hS hl
  exact E (some (vI z)) σ H locs pc lsA .ireturn hQ hP hS hd (Or.inl ⟨rfl, z, ty, rfl, hr, hn⟩)
theorem ev_lret {z : Int} (hd : decode y.2.1 pc = .ok (.lreturn, 1)) (hr : y.2.2.2.1 = some .long) (hQ : Q (some (vL z)) σ) : Ev b y pc ls [vL z] σ Q := by
  intro p l e s m args below meth c H locs cells slots A Z lsA C E hP hS hl
  exact E (some (vL z)) σ H locs pc lsA .lreturn hQ hP hS hd (Or.inr (Or.inl ⟨rfl, z, rfl, hr⟩))
theorem ev_aret {t : Nat} {n : String} (hd : decode y.2.1 pc = .ok (.areturn, 1)) (hr : y.2.2.2.1 = some (.object n)) (hQ : Q (some (vR t)) σ) : Ev b y pc ls [vR t] σ Q := by
  intro p l e s m args below meth c H locs cells slots A Z lsA C E hP hS hl
  exact E (some (vR t)) σ H locs pc lsA .areturn hQ hP hS hd (Or.inr (Or.inr (Or.inl ⟨rfl, t, n, rfl, hr⟩)))
theorem ev_vret (hd : decode y.2.1 pc = .ok (.return_, 1)) (hr : y.2.2.2.1 = none) (hQ : Q none σ) : Ev b y pc ls [] σ Q := by
  intro p l e s m args below meth c H locs cells slots A Z lsA C E hP hS hl
  exact E none σ H locs pc lsA .return_ hQ hP hS hd (Or.inr (Or.inr (Or.inr ⟨rfl, rfl, hr⟩)))
theorem Ev.mono {Q2 : Option ev_V → ev_M → Prop} (h : Ev b y pc ls st σ Q) (hq : ∀ r τ, Q r τ → Q2 r τ) : Ev b y pc ls st σ Q2 := by
  intro p l e s m args below meth c H locs cells slots A Z lsA C E hP hS hl
  exact h p l e s m args below meth c H locs cells slots A Z lsA C (fun r τ H1 locs1 pc1 ls1 op q => E r τ H1 locs1 pc1 ls1 op (hq r τ q)) hP hS hl
theorem Ev.lsub {ls' : List (Nat × ev_V)} (hs : ∀ q ∈ ls', ev_lk ls q.1 = some q.2) (h : Ev b y pc ls' st σ Q) : Ev b y pc ls st σ Q := by
  intro p l e s m args below meth c H locs cells slots A Z lsA C E hP hS hl
  refine h p l e s m args below meth c H locs cells slots A Z lsA C E hP hS ⟨hl.1, hl.2.1, fun q hq => ?_⟩
  obtain ⟨x, hx, rfl⟩ := List.mem_map.mp hq
  exact ev_has_at hl (hs x hx)
end EVS
end
section
/-! calls -/
def ev_Okc (z : ev_Y) (n : Nat) : Prop := Cond.code z.1 z.2.1 z.2.2.1 z.2.2.2.1 ∈ ev_gw ∧ Cond.initialized z.1.cls ∈ ev_gw ∧ (z.1.cls ≠ "java/lang/invoke/MethodHandle" ∧ z.1.cls ≠ "java/lang/invoke/VarHandle" ∧ (parseMethodDescriptor z.1.desc).map (fun d => d.parameters.length) = some n) ∧ z.2.2.2.2.cells = 0 ∧ z.2.2.2.2.slots = 0 ∧ plainName z.1.cls = true
def ev_OkV (z : ev_Y) (n : Nat) : Prop := ev_Okc z n ∧ Cond.instanceMethod z.1 ∈ ev_gw ∧ Cond.selects z.1.cls z.1 z.1 ∈ ev_gw
def ev_OkS (z : ev_Y) (n : Nat) : Prop := ev_Okc z n ∧ Cond.static z.1 ∈ ev_gw
theorem ev_gc {z : ev_Y} {n : Nat} (h : ev_Okc z n) : GoodIn ev_gw (Cond.code z.1 z.2.1 z.2.2.1 z.2.2.2.1 :: ev_gw) := by
  intro w hw
  rcases List.mem_cons.mp hw with rfl | hw
  · exact ev_gg _ h.1
  · exact ev_gg _ hw
theorem ev_blind {b : ev_B} {av : List Value} {σ : ev_M} : FrameBlind (va_Pc av (fun U => ev_F b (ev_A b) U U.heap ∧ va_P b.2.1 ev_cls (ev_ws b σ) U.heap)) := by
  intro a U g mk h
  exact ⟨h.1, (h.2.1).same (s := U) (U := U.calling g mk a) rfl, h.2.2⟩
theorem ev_pre {b : ev_B} {A : Nat → Prop} {s : State} {H : Heap} {locs : List Loc} {σ : ev_M} (hF : ev_F b A s s.heap) (hS : va_S A s.heap H locs) (hP : va_P b.2.1 ev_cls (ev_ws b σ) H) {av : List Value} : ∀ U : State, U.heap = H → s.WarmedH U.vm → va_Pc av (fun U => ev_F b (ev_A b) U U.heap ∧ va_P b.2.1 ev_cls (ev_ws b σ) U.heap) av.toArray U := by
  intro U hU hW
  refine ⟨rfl, ?_, by rw [hU]; exact hP⟩
  rw [hU]
  exact (hF.warm hW hS.2.1).narrow
theorem ev_sub {b : ev_B} {A : Nat → Prop} {U : State} {H : Heap} (h : ev_F b A U H) : ∀ q, ev_A b q → A q := by
  intro q hq
  obtain ⟨k, hk, rfl⟩ := hq
  exact h.2.2.1 k hk
section EVC
variable {b : ev_B} {y z : ev_Y} {pc : Nat} {ls : List (Nat × ev_V)} {st stk : List ev_V} {σ : ev_M} {Q Q1 : Option ev_V → ev_M → Prop}
/-- what goes on behind a call -/
theorem ev_after {p : Program} {l : Launch} {e : Env} {s : State} {m : MethodId} {args : Array Value} {below : List Frame} {meth : Method} {c : Code} {H : Heap} {locs : List Loc} {cells slots : Nat} {A : Nat → Prop} {Z : State → Prop} {lsA : Array Slot} {st0 : List Value} {a : Array Value}
    (C : ev_C b y p s m args meth c cells slots A) (E : ev_E b y p l e s m args below meth c cells slots A Z Q) (hS : va_S A s.heap H locs) (hl : lv_has lsA y.2.2.1 (ls.map (ev_cl b)))
    (hr : va_Run p l e y.2.2.2.2 s m args below meth c H locs cells slots 0 0 (F0 m pc lsA st0) (st.map (ev_cv b)) ((fun _ st oc t => (∃ r σ', oc = .returned (r.map (ev_cv b)) ∧ Q1 r σ' ∧ va_P b.2.1 ev_cls (ev_ws b σ') t.heap) ∧ va_F (ev_A b) st t) a) (ev_A b))
    (k : ∀ r σ', Q1 r σ' → Ev b y (pc + 3) ls (r.toList ++ st) σ' Q) : W p l e y.2.2.2.2 s m args below meth c H locs cells slots Z (F0 m pc lsA st0) := by
  intro T hT X
  obtain ⟨v, st₀, t, T', L, h0, X', hL, e1, e2, ⟨⟨r, σ', hv, hq, hP'⟩, hz, hk⟩, st1⟩ := hr T hT X
  have hv' : v = r.map (ev_cv b) := by cases hv; rfl
  subst hv'
  rw [h0] at hz hk
  have hsub := ev_sub C.2.2.2.2.2.2.2.1
  have hS' : va_S A s.heap T'.heap (locs ++ L) := ⟨Nat.le_trans hS.1 (by rw [e1]; exact hz), fun q h1 h2 => by
      rw [e1, hk q (Nat.lt_of_lt_of_le h1 hS.1) (fun w => h2 (hsub q w))]; exact hS.2.1 q h1 h2, fun q hq' => by
      rcases List.mem_append.mp hq' with h | h
      · exact hS.2.2 q h
      · exact hsub _ (hL q h)⟩
  have kk := k r σ' hq p l e s m args below meth c T'.heap (locs ++ L) cells slots A Z lsA C E (by rw [e1]; exact hP') hS' hl T' rfl X'
  obtain ⟨t2, a1, b1⟩ := kk
  refine ⟨t2, st1 t2 ?_, b1⟩
  have e3 : (r.toList ++ st).map (ev_cv b) = (r.map (ev_cv b)).toList ++ st.map (ev_cv b) := by
    cases r <;> simp
  rw [e3] at a1
  exact a1
theorem ev_callV {av : List ev_V} {o ci i : Nat} {tm : List (Option Nat)} {T : u_T} {N : Nat} (hc : Cl b z (vR o :: av) σ Q1) (ok : ev_OkV z av.length) (hd : decode y.2.1 pc = .ok (.invokevirtual i, 3)) (hw : Cond.methodLink y.1.cls i z.1 ∈ ev_gw) (hk : ev_kds[o]? = some (.inl (ci, tm))) (hcl : ev_cls[ci]? = some (z.1.cls, T, N)) (hR : z.2.2.2.2.frames + 1 ≤ y.2.2.2.2.frames ∧ 8 + (z.2.2.1 + 11) + z.2.2.2.2.locals ≤ y.2.2.2.2.locals) (hs : stk = av.reverse ++ vR o :: st) (hst : ev_wd st ≤ 8) (k : ∀ r σ', Q1 r σ' → Ev b y (pc + 3) ls (r.toList ++ st) σ' Q) : Ev b y pc ls stk σ Q := by
  intro p l e s m args below meth c H locs cells slots A Z lsA C E hP hS hl
  subst hs
  have hF := C.2.2.2.2.2.2.2.1
  have hts := C.2.2.2.2.2.2.1
  obtain ⟨⟨ok1, ok2, ok3, ok4, ok5, ok6⟩, ok7, ok8⟩ := id ok
  refine ev_after (a := (Value.ref (b.1 o) :: av.map (ev_cv b)).toArray) C E hS hl ?_ k
  refine va_runV (As := av.map (ev_cv b)) (b := b.1 o) (C := z.1.cls) (Ts := ev_gw) (own := y.1.cls) (nL := y.2.2.1) (cc := y.2.1) (index := i) (bytes := z.2.1) (maxL := z.2.2.1) (ret := z.2.2.2.1) (n := av.length) ⟨C.1, C.2.1, C.2.2.1, C.2.2.2.2.2.1, hts⟩ (hc l) ?_ ⟨ev_blind, va_recv hF.1 hP hcl (ev_at hk), ev_pre hF hS hP⟩ rfl (by simp) hl.1 ?_ (lv_room (by rw [ev_wd_cat hF.2.2.2.1]; exact hst)) hd ⟨C.2.2.2.2.2.2.2.2.1, C.2.2.2.2.2.2.2.2.2⟩
  · exact ⟨callB_of av.length hts (ev_gc ok.1) rfl ok4 ok5 (hts _ ok2) (hts _ hw) ok3 hR, hts _ ok7, hts _ ok8⟩
  · simp [ev_cv]
theorem ev_callS {av : List ev_V} {i : Nat} (hc : Cl b z av σ Q1) (ok : ev_OkS z av.length) (hd : decode y.2.1 pc = .ok (.invokestatic i, 3)) (hw : Cond.methodLink y.1.cls i z.1 ∈ ev_gw) (hR : z.2.2.2.2.frames + 1 ≤ y.2.2.2.2.frames ∧ 8 + (z.2.2.1 + 11) + z.2.2.2.2.locals ≤ y.2.2.2.2.locals) (hs : stk = av.reverse ++ st) (hst : ev_wd st ≤ 8) (k : ∀ r σ', Q1 r σ' → Ev b y (pc + 3) ls (r.toList ++ st) σ' Q) : Ev b y pc ls stk σ Q := by
  intro p l e s m args below meth c H locs cells slots A Z lsA C E hP hS hl
  subst hs
  have hF := C.2.2.2.2.2.2.2.1
  have hts := C.2.2.2.2.2.2.1
  obtain ⟨⟨ok1, ok2, ok3, ok4, ok5, ok6⟩, ok7⟩ := id ok
  refine ev_after (a := (av.map (ev_cv b)).toArray) C E hS hl ?_ k
  refine va_runS (As := av.map (ev_cv b)) (Ts := ev_gw) (own := y.1.cls) (nL := y.2.2.1) (cc := y.2.1) (index := i) (bytes := z.2.1) (maxL := z.2.2.1) (ret := z.2.2.2.1) (n := av.length) ⟨C.1, C.2.1, C.2.2.1, C.2.2.2.2.2.1, hts⟩ (hc l) ?_ ⟨ev_blind, ev_pre hF hS hP⟩ rfl (by simp) hl.1 ?_ (lv_room (by rw [ev_wd_cat hF.2.2.2.1]; exact hst)) hd ⟨C.2.2.2.2.2.2.2.2.1, C.2.2.2.2.2.2.2.2.2⟩
  · exact ⟨callB_of av.length hts (ev_gc ok.1) rfl ok4 ok5 (hts _ ok2) (hts _ hw) ok3 hR, hts _ ok7⟩
  · simp
theorem ev_callSN {av : List ev_V} {i : Nat} {host : String} (hc : Cl b z av σ Q1) (ok : ev_OkS z av.length) (hd : decode y.2.1 pc = .ok (.invokestatic i, 3)) (hw : Cond.methodLinkNest y.1.cls i z.1 host ∈ ev_nw) (hR : z.2.2.2.2.frames + 1 ≤ y.2.2.2.2.frames ∧ 8 + (z.2.2.1 + 11) + z.2.2.2.2.locals ≤ y.2.2.2.2.locals) (hs : stk = av.reverse ++ st) (hst : ev_wd st ≤ 8) (k : ∀ r σ', Q1 r σ' → Ev b y (pc + 3) ls (r.toList ++ st) σ' Q) : Ev b y pc ls stk σ Q := by
  intro p l e s m args below meth c H locs cells slots A Z lsA C E hP hS hl
  subst hs
  have hF := C.2.2.2.2.2.2.2.1
  have hts := C.2.2.2.2.2.2.1
  obtain ⟨⟨ok1, ok2, ok3, ok4, ok5, ok6⟩, ok7⟩ := id ok
  refine ev_after (a := (av.map (ev_cv b)).toArray) C E hS hl ?_ k
  refine va_runSN (As := av.map (ev_cv b)) (Ts := ev_gw) (own := y.1.cls) (host := host) (nL := y.2.2.1) (cc := y.2.1) (index := i) (bytes := z.2.1) (maxL := z.2.2.1) (ret := z.2.2.2.1) (n := av.length) ⟨C.1, C.2.1, C.2.2.1, C.2.2.2.2.2.1, hts⟩ (hc l) ?_ ⟨ev_blind, ev_pre hF hS hP⟩ rfl (by simp) hl.1 ?_ (lv_room (by rw [ev_wd_cat hF.2.2.2.1]; exact hst)) hd ⟨C.2.2.2.2.2.2.2.2.1, C.2.2.2.2.2.2.2.2.2⟩
  · exact ⟨va_cnB av.length hts (ev_gc ok.1) rfl ok4 ok5 (hF.2.1 _ hw) (hts _ ok2) ok3 hR, hts _ ok7, trivial⟩
  · simp
/-- a text's own methods -/
theorem ev_callT {av : List ev_V} {i j : Nat} (hc : Cl b z (vR (61 + j) :: av) σ Q1) (ok : ev_OkV z av.length) (hd : decode y.2.1 pc = .ok (.invokevirtual i, 3)) (hw : Cond.methodLink y.1.cls i z.1 ∈ ev_gw) (hj : j < 13) (hcl : z.1.cls = RJ0) (hR : z.2.2.2.2.frames + 1 ≤ y.2.2.2.2.frames ∧ 8 + (z.2.2.1 + 11) + z.2.2.2.2.locals ≤ y.2.2.2.2.locals) (hs : stk = av.reverse ++ vR (61 + j) :: st) (hst : ev_wd st ≤ 8) (k : ∀ r σ', Q1 r σ' → Ev b y (pc + 3) ls (r.toList ++ st) σ' Q) : Ev b y pc ls stk σ Q := by
  intro p l e s m args below meth c H locs cells slots A Z lsA C E hP hS hl
  subst hs
  have hF := C.2.2.2.2.2.2.2.1
  have hts := C.2.2.2.2.2.2.1
  obtain ⟨⟨ok1, ok2, ok3, ok4, ok5, ok6⟩, ok7, ok8⟩ := id ok
  refine ev_after (a := (Value.ref (b.1 (61 + j)) :: av.map (ev_cv b)).toArray) C E hS hl ?_ k
  have hrec : ∃ cell : Cell, H[b.1 (61 + j)]? = some cell ∧ cell.vm.isStatics = false ∧ s.vm.findClass z.1.cls = some cell.cls := by
    rw [hcl]
    exact vk_recv (N := 13) (adK := fun i => b.1 (61 + i)) (i := j) (hF.2.2.2.2.2.2.2.1) hj hS
  refine va_runV (As := av.map (ev_cv b)) (b := b.1 (61 + j)) (C := z.1.cls) (Ts := ev_gw) (own := y.1.cls) (nL := y.2.2.1) (cc := y.2.1) (index := i) (bytes := z.2.1) (maxL := z.2.2.1) (ret := z.2.2.2.1) (n := av.length) ⟨C.1, C.2.1, C.2.2.1, C.2.2.2.2.2.1, hts⟩ (hc l) ?_ ⟨ev_blind, hrec, ev_pre hF hS hP⟩ rfl (by simp) hl.1 ?_ (lv_room (by rw [ev_wd_cat hF.2.2.2.1]; exact hst)) hd ⟨C.2.2.2.2.2.2.2.2.1, C.2.2.2.2.2.2.2.2.2⟩
  · exact ⟨callB_of av.length hts (ev_gc ok.1) rfl ok4 ok5 (hts _ ok2) (hts _ hw) ok3 hR, hts _ ok7, hts _ ok8⟩
  · simp [ev_cv]
theorem Cl.mono {av : List ev_V} {Q2 : Option ev_V → ev_M → Prop} (h : Cl b y av σ Q) (hq : ∀ r τ, Q r τ → Q2 r τ) : Cl b y av σ Q2 := by
  intro l
  have h1 := h l
  intro p e ha hc hk s m args below hf happ hpre hx
  obtain ⟨t, o, w1, w2, w3, ⟨⟨⟨r, σ', g1, g2, g3⟩, g4⟩, w5⟩⟩ := h1 p e ha hc hk s m args below hf happ hpre hx
  exact ⟨t, o, w1, w2, w3, ⟨⟨⟨r, σ', g1, hq _ _ g2, g3⟩, g4⟩, w5⟩⟩
/-- a method's contract out of its walk -/
theorem ev_enter {av : List ev_V} {n : Nat} (ok : ev_Okc y n) (hm : ev_wd av ≤ y.2.2.1) (h : Ev b y 0 (ev_args 0 av) [] σ Q) : Cl b y av σ Q := by
  intro l
  refine Met.ofW (cc := y.2.1) (maxL := y.2.2.1) (ret := y.2.2.2.1) ok.2.2.2.2.2 rfl ?_
  intro p e s m args below meth c s₁ B hml hv
  obtain ⟨rfl, hF, hP⟩ := hv
  have hx := B.exec
  have hb := B.bytes
  have hr := B.returns
  have hts := atoms_spec (ws := Cond.code y.1 y.2.1 y.2.2.1 y.2.2.2.1 :: ev_gw) B.pre
  have hown : s.vm.findClass y.1.cls = some m.cls := findClass_of_methodNamed B.named
  have hlocks := B.notSynchronized
  have hS : va_S (ev_A b) s.heap s.heap [] := va_S.rf
  have hl := lv_entry (av.map (ev_cv b)) (n := y.2.2.1) (by rw [ev_wd_sl hF.2.2.2.1]; exact hm)
  rw [← ev_args_eq hF.2.2.2.1] at hl
  rw [lg_entry_eq]
  have C : ev_C b y p s m (av.map (ev_cv b)).toArray meth c 0 0 (ev_A b) := ⟨hx, hb, hml, hr, hlocks, hown, fun w hw => hts w (List.mem_cons_of_mem _ hw), hF, Nat.zero_le _, Nat.zero_le _⟩
  refine h p l e s m _ below meth c s.heap [] 0 0 (ev_A b) _ _ C ?_ hP hS hl
  intro r τ H locs pc lsA op hQ hP1 hS1 hd hk
  rcases hk with ⟨rfl, z, ty, rfl, h1, h2⟩ | ⟨rfl, z, rfl, h1⟩ | ⟨rfl, k, nm, rfl, h1⟩ | ⟨rfl, rfl, h1⟩
  · exact W.zret (v := Int32.ofInt z) (ty := ty) hx hb (hr.trans h1) h2 (fun t ht hW => ⟨⟨_, τ, rfl, hQ, by rw [ht]; exact hP1⟩, hS1.F ht⟩) hS1.2.2 hd
  · exact W.lret (v := Int64.ofInt z) hx hb (hr.trans h1) (fun t ht hW => ⟨⟨_, τ, rfl, hQ, by rw [ht]; exact hP1⟩, hS1.F ht⟩) hS1.2.2 hd
  · exact W.aret (v := .ref (b.1 k)) (rt := .object nm) hx hb (hr.trans h1) (Or.inl ⟨nm, rfl⟩) (Or.inr ⟨_, rfl⟩) (fun t ht hW => ⟨⟨_, τ, rfl, hQ, by rw [ht]; exact hP1⟩, hS1.F ht⟩) hS1.2.2 hd
  · exact W.vret hx hb (hr.trans h1) (fun t ht hW => ⟨⟨none, τ, rfl, hQ, by rw [ht]; exact hP1⟩, hS1.F ht⟩) hS1.2.2 hd
end EVC

/-- a contract whose answer and memory are told -/
def CF (b : ev_B) (y : ev_Y) (av : List ev_V) (σ : ev_M) (r : Option ev_V) (τ : ev_M) : Prop := Cl b y av σ (fun r' τ' => r' = r ∧ τ' = τ)
section EVF
variable {b : ev_B} {y z : ev_Y} {pc : Nat} {ls : List (Nat × ev_V)} {st stk : List ev_V} {σ τ : ev_M} {Q : Option ev_V → ev_M → Prop}
theorem ev_V1 {av : List ev_V} {v : ev_V} {o ci i : Nat} {tm : List (Option Nat)} {T : u_T} {N : Nat} (hc : CF b z (vR o :: av) σ (some v) τ) (ok : ev_OkV z av.length) (hd : decode y.2.1 pc = .ok (.invokevirtual i, 3)) (hw : Cond.methodLink y.1.cls i z.1 ∈ ev_gw) (hk : ev_kds[o]? = some (.inl (ci, tm))) (hcl : ev_cls[ci]? = some (z.1.cls, T, N)) (hR : z.2.2.2.2.frames + 1 ≤ y.2.2.2.2.frames ∧ 8 + (z.2.2.1 + 11) + z.2.2.2.2.locals ≤ y.2.2.2.2.locals) (hs : stk = av.reverse ++ vR o :: st) (hst : ev_wd st ≤ 8) (k : Ev b y (pc + 3) ls (v :: st) τ Q) : Ev b y pc ls stk σ Q :=
  ev_callV hc ok hd hw hk hcl hR hs hst (fun r σ' h => by obtain ⟨rfl, rfl⟩ := h; exact k)
theorem ev_V0 {av : List ev_V} {o ci i : Nat} {tm : List (Option Nat)} {T : u_T} {N : Nat} (hc : CF b z (vR o :: av) σ none τ) (ok : ev_OkV z av.length) (hd : decode y.2.1 pc = .ok (.invokevirtual i, 3)) (hw : Cond.methodLink y.1.cls i z.1 ∈ ev_gw) (hk : ev_kds[o]? = some (.inl (ci, tm))) (hcl : ev_cls[ci]? = some (z.1.cls, T, N)) (hR : z.2.2.2.2.frames + 1 ≤ y.2.2.2.2.frames ∧ 8 + (z.2.2.1 + 11) + z.2.2.2.2.locals ≤ y.2.2.2.2.locals) (hs : stk = av.reverse ++ vR o :: st) (hst : ev_wd st ≤ 8) (k : Ev b y (pc + 3) ls st τ Q) : Ev b y pc ls stk σ Q :=
  ev_callV hc ok hd hw hk hcl hR hs hst (fun r σ' h => by obtain ⟨rfl, rfl⟩ := h; exact k)
theorem ev_Vbeq {av : List ev_V} {P : Prop} [Decidable P] {off : Int} {tgt : Nat} {o ci i : Nat} {tm : List (Option Nat)} {T : u_T} {N : Nat} (hc : CF b z (vR o :: av) σ (some (vI (if P then 1 else 0))) τ) (ok : ev_OkV z av.length) (hd : decode y.2.1 pc = .ok (.invokevirtual i, 3)) (hw : Cond.methodLink y.1.cls i z.1 ∈ ev_gw) (hk : ev_kds[o]? = some (.inl (ci, tm))) (hcl : ev_cls[ci]? = some (z.1.cls, T, N)) (hR : z.2.2.2.2.frames + 1 ≤ y.2.2.2.2.frames ∧ 8 + (z.2.2.1 + 11) + z.2.2.2.2.locals ≤ y.2.2.2.2.locals) (hs : stk = av.reverse ++ vR o :: st) (hst : ev_wd st ≤ 8) (hd2 : decode y.2.1 (pc + 3) = .ok (.ifCond .eq off, 3)) (ht : ((pc + 3 : Nat) : Int) + off = (tgt : Int)) (kt : ¬ P → Ev b y tgt ls st τ Q) (kf : P → Ev b y (pc + 3 + 3) ls st τ Q) : Ev b y pc ls stk σ Q := by
  refine ev_V1 hc ok hd hw hk hcl hR hs hst ?_
  by_cases h : P
  · rw [if_pos h]
    exact ev_if_eq hd2 ht (by decide) (fun q => absurd q (by decide)) (fun q => kf h)
  · rw [if_neg h]
    exact ev_if_eq hd2 ht (by decide) (fun q => kt h) (fun q => absurd rfl q)
theorem ev_Vbne {av : List ev_V} {P : Prop} [Decidable P] {off : Int} {tgt : Nat} {o ci i : Nat} {tm : List (Option Nat)} {T : u_T} {N : Nat} (hc : CF b z (vR o :: av) σ (some (vI (if P then 1 else 0))) τ) (ok : ev_OkV z av.length) (hd : decode y.2.1 pc = .ok (.invokevirtual i, 3)) (hw : Cond.methodLink y.1.cls i z.1 ∈ ev_gw) (hk : ev_kds[o]? = some (.inl (ci, tm))) (hcl : ev_cls[ci]? = some (z.1.cls, T, N)) (hR : z.2.2.2.2.frames + 1 ≤ y.2.2.2.2.frames ∧ 8 + (z.2.2.1 + 11) + z.2.2.2.2.locals ≤ y.2.2.2.2.locals) (hs : stk = av.reverse ++ vR o :: st) (hst : ev_wd st ≤ 8) (hd2 : decode y.2.1 (pc + 3) = .ok (.ifCond .ne off, 3)) (ht : ((pc + 3 : Nat) : Int) + off = (tgt : Int)) (kt : P → Ev b y tgt ls st τ Q) (kf : ¬ P → Ev b y (pc + 3 + 3) ls st τ Q) : Ev b y pc ls stk σ Q := by
  refine ev_V1 hc ok hd hw hk hcl hR hs hst ?_
  by_cases h : P
  · rw [if_pos h]
    exact ev_if_ne hd2 ht (by decide) (fun q => kt h) (fun q => absurd q (by decide))
  · rw [if_neg h]
    exact ev_if_ne hd2 ht (by decide) (fun q => absurd rfl q) (fun q => kf h)
theorem ev_S1 {av : List ev_V} {v : ev_V} {i : Nat} (hc : CF b z av σ (some v) τ) (ok : ev_OkS z av.length) (hd : decode y.2.1 pc = .ok (.invokestatic i, 3)) (hw : Cond.methodLink y.1.cls i z.1 ∈ ev_gw) (hR : z.2.2.2.2.frames + 1 ≤ y.2.2.2.2.frames ∧ 8 + (z.2.2.1 + 11) + z.2.2.2.2.locals ≤ y.2.2.2.2.locals) (hs : stk = av.reverse ++ st) (hst : ev_wd st ≤ 8) (k : Ev b y (pc + 3) ls (v :: st) τ Q) : Ev b y pc ls stk σ Q :=
  ev_callS hc ok hd hw hR hs hst (fun r σ' h => by obtain ⟨rfl, rfl⟩ := h; exact k)
theorem ev_S0 {av : List ev_V} {i : Nat} (hc : CF b z av σ none τ) (ok : ev_OkS z av.length) (hd : decode y.2.1 pc = .ok (.invokestatic i, 3)) (hw : Cond.methodLink y.1.cls i z.1 ∈ ev_gw) (hR : z.2.2.2.2.frames + 1 ≤ y.2.2.2.2.frames ∧ 8 + (z.2.2.1 + 11) + z.2.2.2.2.locals ≤ y.2.2.2.2.locals) (hs : stk = av.reverse ++ st) (hst : ev_wd st ≤ 8) (k : Ev b y (pc + 3) ls st τ Q) : Ev b y pc ls stk σ Q :=
  ev_callS hc ok hd hw hR hs hst (fun r σ' h => by obtain ⟨rfl, rfl⟩ := h; exact k)
theorem ev_Sbeq {av : List ev_V} {P : Prop} [Decidable P] {off : Int} {tgt : Nat} {i : Nat} (hc : CF b z av σ (some (vI (if P then 1 else 0))) τ) (ok : ev_OkS z av.length) (hd : decode y.2.1 pc = .ok (.invokestatic i, 3)) (hw : Cond.methodLink y.1.cls i z.1 ∈ ev_gw) (hR : z.2.2.2.2.frames + 1 ≤ y.2.2.2.2.frames ∧ 8 + (z.2.2.1 + 11) + z.2.2.2.2.locals ≤ y.2.2.2.2.locals) (hs : stk = av.reverse ++ st) (hst : ev_wd st ≤ 8) (hd2 : decode y.2.1 (pc + 3) = .ok (.ifCond .eq off, 3)) (ht : ((pc + 3 : Nat) : Int) + off = (tgt : Int)) (kt : ¬ P → Ev b y tgt ls st τ Q) (kf : P → Ev b y (pc + 3 + 3) ls st τ Q) : Ev b y pc ls stk σ Q := by
  refine ev_S1 hc ok hd hw hR hs hst ?_
  by_cases h : P
  · rw [if_pos h]
    exact ev_if_eq hd2 ht (by decide) (fun q => absurd q (by decide)) (fun q => kf h)
  · rw [if_neg h]
    exact ev_if_eq hd2 ht (by decide) (fun q => kt h) (fun q => absurd rfl q)
theorem ev_Sbne {av : List ev_V} {P : Prop} [Decidable P] {off : Int} {tgt : Nat} {i : Nat} (hc : CF b z av σ (some (vI (if P then 1 else 0))) τ) (ok : ev_OkS z av.length) (hd : decode y.2.1 pc = .ok (.invokestatic i, 3)) (hw : Cond.methodLink y.1.cls i z.1 ∈ ev_gw) (hR : z.2.2.2.2.frames + 1 ≤ y.2.2.2.2.frames ∧ 8 + (z.2.2.1 + 11) + z.2.2.2.2.locals ≤ y.2.2.2.2.locals) (hs : stk = av.reverse ++ st) (hst : ev_wd st ≤ 8) (hd2 : decode y.2.1 (pc + 3) = .ok (.ifCond .ne off, 3)) (ht : ((pc + 3 : Nat) : Int) + off = (tgt : Int)) (kt : P → Ev b y tgt ls st τ Q) (kf : ¬ P → Ev b y (pc + 3 + 3) ls st τ Q) : Ev b y pc ls stk σ Q := by
  refine ev_S1 hc ok hd hw hR hs hst ?_
  by_cases h : P
  · rw [if_pos h]
    exact ev_if_ne hd2 ht (by decide) (fun q => kt h) (fun q => absurd q (by decide))
  · rw [if_neg h]
    exact ev_if_ne hd2 ht (by decide) (fun q => absurd rfl q) (fun q => kf h)
theorem ev_SN1 {av : List ev_V} {v : ev_V} {i : Nat} {host : String} (hc : CF b z av σ (some v) τ) (ok : ev_OkS z av.length) (hd : decode y.2.1 pc = .ok (.invokestatic i, 3)) (hw : Cond.methodLinkNest y.1.cls i z.1 host ∈ ev_nw) (hR : z.2.2.2.2.frames + 1 ≤ y.2.2.2.2.frames ∧ 8 + (z.2.2.1 + 11) + z.2.2.2.2.locals ≤ y.2.2.2.2.locals) (hs : stk = av.reverse ++ st) (hst : ev_wd st ≤ 8) (k : Ev b y (pc + 3) ls (v :: st) τ Q) : Ev b y pc ls stk σ Q :=
  ev_callSN hc ok hd hw hR hs hst (fun r σ' h => by obtain ⟨rfl, rfl⟩ := h; exact k)
theorem ev_SN0 {av : List ev_V} {i : Nat} {host : String} (hc : CF b z av σ none τ) (ok : ev_OkS z av.length) (hd : decode y.2.1 pc = .ok (.invokestatic i, 3)) (hw : Cond.methodLinkNest y.1.cls i z.1 host ∈ ev_nw) (hR : z.2.2.2.2.frames + 1 ≤ y.2.2.2.2.frames ∧ 8 + (z.2.2.1 + 11) + z.2.2.2.2.locals ≤ y.2.2.2.2.locals) (hs : stk = av.reverse ++ st) (hst : ev_wd st ≤ 8) (k : Ev b y (pc + 3) ls st τ Q) : Ev b y pc ls stk σ Q :=
  ev_callSN hc ok hd hw hR hs hst (fun r σ' h => by obtain ⟨rfl, rfl⟩ := h; exact k)
theorem ev_SNbeq {av : List ev_V} {P : Prop} [Decidable P] {off : Int} {tgt : Nat} {i : Nat} {host : String} (hc : CF b z av σ (some (vI (if P then 1 else 0))) τ) (ok : ev_OkS z av.length) (hd : decode y.2.1 pc = .ok (.invokestatic i, 3)) (hw : Cond.methodLinkNest y.1.cls i z.1 host ∈ ev_nw) (hR : z.2.2.2.2.frames + 1 ≤ y.2.2.2.2.frames ∧ 8 + (z.2.2.1 + 11) + z.2.2.2.2.locals ≤ y.2.2.2.2.locals) (hs : stk = av.reverse ++ st) (hst : ev_wd st ≤ 8) (hd2 : decode y.2.1 (pc + 3) = .ok (.ifCond .eq off, 3)) (ht : ((pc + 3 : Nat) : Int) + off = (tgt : Int)) (kt : ¬ P → Ev b y tgt ls st τ Q) (kf : P → Ev b y (pc + 3 + 3) ls st τ Q) : Ev b y pc ls stk σ Q := by
  refine ev_SN1 hc ok hd hw hR hs hst ?_
  by_cases h : P
  · rw [if_pos h]
    exact ev_if_eq hd2 ht (by decide) (fun q => absurd q (by decide)) (fun q => kf h)
  · rw [if_neg h]
    exact ev_if_eq hd2 ht (by decide) (fun q => kt h) (fun q => absurd rfl q)
theorem ev_SNbne {av : List ev_V} {P : Prop} [Decidable P] {off : Int} {tgt : Nat} {i : Nat} {host : String} (hc : CF b z av σ (some (vI (if P then 1 else 0))) τ) (ok : ev_OkS z av.length) (hd : decode y.2.1 pc = .ok (.invokestatic i, 3)) (hw : Cond.methodLinkNest y.1.cls i z.1 host ∈ ev_nw) (hR : z.2.2.2.2.frames + 1 ≤ y.2.2.2.2.frames ∧ 8 + (z.2.2.1 + 11) + z.2.2.2.2.locals ≤ y.2.2.2.2.locals) (hs : stk = av.reverse ++ st) (hst : ev_wd st ≤ 8) (hd2 : decode y.2.1 (pc + 3) = .ok (.ifCond .ne off, 3)) (ht : ((pc + 3 : Nat) : Int) + off = (tgt : Int)) (kt : P → Ev b y tgt ls st τ Q) (kf : ¬ P → Ev b y (pc + 3 + 3) ls st τ Q) : Ev b y pc ls stk σ Q := by
  refine ev_SN1 hc ok hd hw hR hs hst ?_
  by_cases h : P
  · rw [if_pos h]
    exact ev_if_ne hd2 ht (by decide) (fun q => kt h) (fun q => absurd q (by decide))
  · rw [if_neg h]
    exact ev_if_ne hd2 ht (by decide) (fun q => absurd rfl q) (fun q => kf h)
theorem ev_T1 {av : List ev_V} {v : ev_V} {i j : Nat} (hc : CF b z (vR (61 + j) :: av) σ (some v) τ) (ok : ev_OkV z av.length) (hd : decode y.2.1 pc = .ok (.invokevirtual i, 3)) (hw : Cond.methodLink y.1.cls i z.1 ∈ ev_gw) (hj : j < 13) (hcl : z.1.cls = RJ0) (hR : z.2.2.2.2.frames + 1 ≤ y.2.2.2.2.frames ∧ 8 + (z.2.2.1 + 11) + z.2.2.2.2.locals ≤ y.2.2.2.2.locals) (hs : stk = av.reverse ++ vR (61 + j) :: st) (hst : ev_wd st ≤ 8) (k : Ev b y (pc + 3) ls (v :: st) τ Q) : Ev b y pc ls stk σ Q :=
  ev_callT hc ok hd hw hj hcl hR hs hst (fun r σ' h => by obtain ⟨rfl, rfl⟩ := h; exact k)
theorem ev_T0 {av : List ev_V} {i j : Nat} (hc : CF b z (vR (61 + j) :: av) σ none τ) (ok : ev_OkV z av.length) (hd : decode y.2.1 pc = .ok (.invokevirtual i, 3)) (hw : Cond.methodLink y.1.cls i z.1 ∈ ev_gw) (hj : j < 13) (hcl : z.1.cls = RJ0) (hR : z.2.2.2.2.frames + 1 ≤ y.2.2.2.2.frames ∧ 8 + (z.2.2.1 + 11) + z.2.2.2.2.locals ≤ y.2.2.2.2.locals) (hs : stk = av.reverse ++ vR (61 + j) :: st) (hst : ev_wd st ≤ 8) (k : Ev b y (pc + 3) ls st τ Q) : Ev b y pc ls stk σ Q :=
  ev_callT hc ok hd hw hj hcl hR hs hst (fun r σ' h => by obtain ⟨rfl, rfl⟩ := h; exact k)
theorem ev_Tbeq {av : List ev_V} {P : Prop} [Decidable P] {off : Int} {tgt : Nat} {i j : Nat} (hc : CF b z (vR (61 + j) :: av) σ (some (vI (if P then 1 else 0))) τ) (ok : ev_OkV z av.length) (hd : decode y.2.1 pc = .ok (.invokevirtual i, 3)) (hw : Cond.methodLink y.1.cls i z.1 ∈ ev_gw) (hj : j < 13) (hcl : z.1.cls = RJ0) (hR : z.2.2.2.2.frames + 1 ≤ y.2.2.2.2.frames ∧ 8 + (z.2.2.1 + 11) + z.2.2.2.2.locals ≤ y.2.2.2.2.locals) (hs : stk = av.reverse ++ vR (61 + j) :: st) (hst : ev_wd st ≤ 8) (hd2 : decode y.2.1 (pc + 3) = .ok (.ifCond .eq off, 3)) (ht : ((pc + 3 : Nat) : Int) + off = (tgt : Int)) (kt : ¬ P → Ev b y tgt ls st τ Q) (kf : P → Ev b y (pc + 3 + 3) ls st τ Q) : Ev b y pc ls stk σ Q := by
  refine ev_T1 hc ok hd hw hj hcl hR hs hst ?_
  by_cases h : P
  · rw [if_pos h]
    exact ev_if_eq hd2 ht (by decide) (fun q => absurd q (by decide)) (fun q => kf h)
  · rw [if_neg h]
    exact ev_if_eq hd2 ht (by decide) (fun q => kt h) (fun q => absurd rfl q)
theorem ev_Tbne {av : List ev_V} {P : Prop} [Decidable P] {off : Int} {tgt : Nat} {i j : Nat} (hc : CF b z (vR (61 + j) :: av) σ (some (vI (if P then 1 else 0))) τ) (ok : ev_OkV z av.length) (hd : decode y.2.1 pc = .ok (.invokevirtual i, 3)) (hw : Cond.methodLink y.1.cls i z.1 ∈ ev_gw) (hj : j < 13) (hcl : z.1.cls = RJ0) (hR : z.2.2.2.2.frames + 1 ≤ y.2.2.2.2.frames ∧ 8 + (z.2.2.1 + 11) + z.2.2.2.2.locals ≤ y.2.2.2.2.locals) (hs : stk = av.reverse ++ vR (61 + j) :: st) (hst : ev_wd st ≤ 8) (hd2 : decode y.2.1 (pc + 3) = .ok (.ifCond .ne off, 3)) (ht : ((pc + 3 : Nat) : Int) + off = (tgt : Int)) (kt : P → Ev b y tgt ls st τ Q) (kf : ¬ P → Ev b y (pc + 3 + 3) ls st τ Q) : Ev b y pc ls stk σ Q := by
  refine ev_T1 hc ok hd hw hj hcl hR hs hst ?_
  by_cases h : P
  · rw [if_pos h]
    exact ev_if_ne hd2 ht (by decide) (fun q => kt h) (fun q => absurd q (by decide))
  · rw [if_neg h]
    exact ev_if_ne hd2 ht (by decide) (fun q => absurd rfl q) (fun q => kf h)
end EVF
theorem ev_nb {P : Prop} [Decidable P] : narrow .boolean (.int (Int32.ofInt (if P then 1 else 0))) = .int (Int32.ofInt (if P then 1 else 0)) := by
  split <;> rfl
end
section
/-! arraycopy, statics, texts -/
theorem ev_cpyi {σ : ev_M} {k0 k : Nat} {sp dp n : Int} (h1 : 0 ≤ sp) (h2 : 0 ≤ dp) (h3 : 0 ≤ n) : va_cpy (fun j : Nat => Int32.ofInt (σ k0 j)) (fun j : Nat => Int32.ofInt (σ k j)) sp.toNat dp.toNat n.toNat = fun j : Nat => Int32.ofInt (mcp σ k0 sp k dp n k j) := by
  funext j
  by_cases h : dp ≤ (j : Int) ∧ (j : Int) < dp + n
  · simp only [va_cpy, mcp]
    rw [if_pos (by omega), if_pos ⟨trivial, h⟩]
    congr 2
    omega
  · simp only [va_cpy, mcp]
    rw [if_neg (by omega), if_neg (fun q => h q.2)]
theorem ev_cpyl {σ : ev_M} {k0 k : Nat} {sp dp n : Int} (h1 : 0 ≤ sp) (h2 : 0 ≤ dp) (h3 : 0 ≤ n) : va_cpy (fun j : Nat => Int64.ofInt (σ k0 j)) (fun j : Nat => Int64.ofInt (σ k j)) sp.toNat dp.toNat n.toNat = fun j : Nat => Int64.ofInt (mcp σ k0 sp k dp n k j) := by
  funext j
  by_cases h : dp ≤ (j : Int) ∧ (j : Int) < dp + n
  · simp only [va_cpy, mcp]
    rw [if_pos (by omega), if_pos ⟨trivial, h⟩]
    congr 2
    omega
  · simp only [va_cpy, mcp]
    rw [if_neg (by omega), if_neg (fun q => h q.2)]
theorem ev_nlt {z : Int} (h : 0 ≤ z ∧ z < 1000) : ¬ Int32.ofInt z < 0 := by
  rw [show (0 : Int32) = Int32.ofInt 0 from rfl, ev_lt (by omega) (by omega)]; omega
section EVA
variable {b : ev_B} {y z : ev_Y} {pc : Nat} {ls : List (Nat × ev_V)} {st stk : List ev_V} {σ : ev_M} {Q Q1 : Option ev_V → ev_M → Prop}
theorem ev_copyi {i k0 k1 n0 n1 : Nat} {sp dp n : Int} (hd : decode y.2.1 pc = .ok (.invokestatic i, 3)) (hw : Cond.methodLink y.1.cls i arraycopyName ∈ ev_gw) (hw2 : Cond.native arraycopyName ∈ lw_tbl ∧ goodWord (Cond.native arraycopyName) = true) (hw3 : Cond.static arraycopyName ∈ ev_gw) (hw4 : Cond.initialized "java/lang/System" ∈ ev_gw)
    (hk0 : ev_kds[k0]? = some (.inr (0, n0))) (hk1 : ev_kds[k1]? = some (.inr (0, n1))) (h1 : 0 ≤ sp) (h2 : 0 ≤ dp) (h3 : 0 ≤ n) (h4 : sp + n ≤ n0) (h5 : dp + n ≤ n1) (hR : 1 ≤ y.2.2.2.2.frames ∧ ev_wd st + (nativeFrameWords "java/lang/System" "arraycopy" 5 + 11) ≤ y.2.2.2.2.locals)
    (k : Ev b y (pc + 3) ls st (mcp σ k0 sp k1 dp n) Q) : Ev b y pc ls (vI n :: vI dp :: vR k1 :: vI sp :: vR k0 :: st) σ Q := by
  intro p l e s m args below meth c H locs cells slots A Z lsA C E hP hS hl
  have hF := C.2.2.2.2.2.2.2.1
  have hts := C.2.2.2.2.2.2.1
  have hn0 := ev_small _ _ _ hk0
  have hn1 := ev_small _ _ _ hk1
  refine va_copyi C.1 C.2.1 (C.2.2.1.trans hl.1.symm) C.2.2.2.2.2.1 (hts _ hw) (hts _ (ev_gm hw2.1 hw2.2)) (hts _ hw3) (hts _ hw4) hF.1 hP (ev_D hF σ) hS k0 k1 0 0 (ty := .int) (ev_at hk0) (ev_at hk1) rfl rfl rfl (ev_nlt (by omega)) (ev_nlt (by omega)) (ev_nlt (by omega)) (by rw [ev_nn (by omega), ev_nn (by omega)]; omega) (by rw [ev_nn (by omega), ev_nn (by omega)]; omega) (fun _ _ => rfl) hR.1 (by rw [ev_wd_cat hF.2.2.2.1]; exact hR.2) hd (fun H1 locs1 hP1 hD1 hS1 => ?_)
  refine k p l e s m args below meth c H1 locs1 cells slots A Z lsA C E ?_ hS1 hl
  rw [ev_nn (by omega), ev_nn (by omega), ev_nn (by omega), ev_cpyi h1 h2 h3] at hP1
  rw [← ev_set (b := b) (σ := σ) (τ := mcp σ k0 sp k1 dp n) hk1 (fun q hq => (mcp_ne hq).symm)]
  exact hP1
theorem ev_copyl {i k0 k1 n0 n1 : Nat} {sp dp n : Int} (hd : decode y.2.1 pc = .ok (.invokestatic i, 3)) (hw : Cond.methodLink y.1.cls i arraycopyName ∈ ev_gw) (hw2 : Cond.native arraycopyName ∈ lw_tbl ∧ goodWord (Cond.native arraycopyName) = true) (hw3 : Cond.static arraycopyName ∈ ev_gw) (hw4 : Cond.initialized "java/lang/System" ∈ ev_gw)
    (hk0 : ev_kds[k0]? = some (.inr (1, n0))) (hk1 : ev_kds[k1]? = some (.inr (1, n1))) (h1 : 0 ≤ sp) (h2 : 0 ≤ dp) (h3 : 0 ≤ n) (h4 : sp + n ≤ n0) (h5 : dp + n ≤ n1) (hR : 1 ≤ y.2.2.2.2.frames ∧ ev_wd st + (nativeFrameWords "java/lang/System" "arraycopy" 5 + 11) ≤ y.2.2.2.2.locals)
    (k : Ev b y (pc + 3) ls st (mcp σ k0 sp k1 dp n) Q) : Ev b y pc ls (vI n :: vI dp :: vR k1 :: vI sp :: vR k0 :: st) σ Q := by
  intro p l e s m args below meth c H locs cells slots A Z lsA C E hP hS hl
  have hF := C.2.2.2.2.2.2.2.1
  have hts := C.2.2.2.2.2.2.1
  have hn0 := ev_small _ _ _ hk0
  have hn1 := ev_small _ _ _ hk1
  refine va_copyl C.1 C.2.1 (C.2.2.1.trans hl.1.symm) C.2.2.2.2.2.1 (hts _ hw) (hts _ (ev_gm hw2.1 hw2.2)) (hts _ hw3) (hts _ hw4) hF.1 hP (ev_D hF σ) hS k0 k1 1 1 (ty := .long) (ev_at hk0) (ev_at hk1) rfl rfl rfl (ev_nlt (by omega)) (ev_nlt (by omega)) (ev_nlt (by omega)) (by rw [ev_nn (by omega), ev_nn (by omega)]; omega) (by rw [ev_nn (by omega), ev_nn (by omega)]; omega) (fun _ _ => rfl) hR.1 (by rw [ev_wd_cat hF.2.2.2.1]; exact hR.2) hd (fun H1 locs1 hP1 hD1 hS1 => ?_)
  refine k p l e s m args below meth c H1 locs1 cells slots A Z lsA C E ?_ hS1 hl
  rw [ev_nn (by omega), ev_nn (by omega), ev_nn (by omega), ev_cpyl h1 h2 h3] at hP1
  rw [← ev_set (b := b) (σ := σ) (τ := mcp σ k0 sp k1 dp n) hk1 (fun q hq => (mcp_ne hq).symm)]
  exact hP1
theorem ev_getKA (hd : decode y.2.1 pc = .ok (.getstatic 9, 3)) (hy : y.1.cls = RX1) (k : Ev b y (pc + 3) ls (vR 60 :: st) σ Q) : Ev b y pc ls st σ Q := by
  intro p l e s m args below meth c H locs cells slots A Z lsA C E hP hS hl
  have hF := C.2.2.2.2.2.2.2.1
  exact va_getsN (own := RX1) (ref := RX5) (host := RX5) C.1 C.2.1 hF.2.2.2.2.2.1 hS (by rw [← hy]; exact C.2.2.2.2.2.1) (va_Nw.use rfl (hF.2.1 _ (by simp [ev_nw]))) (fun _ h => h) hd (k p l e s m args below meth c H locs cells slots A Z lsA C E hP hS hl)
theorem ev_kald {i : Int} {v : Int} (hd : decode y.2.1 pc = .ok (.iaload, 1)) (hi : 0 ≤ i ∧ i < 6) (hv : ev_ka i.toNat = .int (Int32.ofInt v)) (k : Ev b y (pc + 1) ls (vI v :: st) σ Q) : Ev b y pc ls (vI i :: vR 60 :: st) σ Q := by
  intro p l e s m args below meth c H locs cells slots A Z lsA C E hP hS hl
  have hF := C.2.2.2.2.2.2.2.1
  refine va_ti (v := .int (Int32.ofInt v)) C.1 C.2.1 hF.2.2.2.2.2.2.1 hS (i := Int32.ofInt i) (ev_in (n := 6) hi (by decide)) ?_ hd (k p l e s m args below meth c H locs cells slots A Z lsA C E hP hS hl)
  rw [ev_nn (by omega)]; exact hv
theorem ev_getCS {i : Nat} (hd : decode y.2.1 pc = .ok (.getstatic i, 3)) (hw : Cond.fieldLink y.1.cls i RJ0 "COMPACT_STRINGS" "Z" ∈ ev_gw) (k : Ev b y (pc + 3) ls (vI 1 :: st) σ Q) : Ev b y pc ls st σ Q := by
  intro p l e s m args below meth c H locs cells slots A Z lsA C E hP hS hl
  have hF := C.2.2.2.2.2.2.2.1
  exact va_gets (ref := RJ0) C.1 C.2.1 hF.2.2.2.2.2.2.2.2.1 hS C.2.2.2.2.2.1 (C.2.2.2.2.2.2.1 _ hw) (fun _ h => h) hd (k p l e s m args below meth c H locs cells slots A Z lsA C E hP hS hl)
theorem ev_getSF {i : Nat} (hd : decode y.2.1 pc = .ok (.getstatic i, 3)) (hw : Cond.fieldLink y.1.cls i RJ3 "SIOOBE_FORMATTER" "Ljava/util/function/BiFunction;" ∈ ev_gw) (k : Ev b y (pc + 3) ls (vX :: st) σ Q) : Ev b y pc ls st σ Q := by
  intro p l e s m args below meth c H locs cells slots A Z lsA C E hP hS hl
  have hF := C.2.2.2.2.2.2.2.1
  exact va_gets (ref := RJ3) C.1 C.2.1 hF.2.2.2.2.2.2.2.2.2.1 hS C.2.2.2.2.2.1 (C.2.2.2.2.2.2.1 _ hw) (fun _ h => h) hd (k p l e s m args below meth c H locs cells slots A Z lsA C E hP hS hl)
theorem ev_getTc {i j : Nat} (hd : decode y.2.1 pc = .ok (.getfield i, 3)) (hw : Cond.fieldLink y.1.cls i RJ0 "coder" "B" ∈ ev_gw) (hj : j < 13) (k : Ev b y (pc + 3) ls (vI 0 :: st) σ Q) : Ev b y pc ls (vR (61 + j) :: st) σ Q := by
  intro p l e s m args below meth c H locs cells slots A Z lsA C E hP hS hl
  have hF := C.2.2.2.2.2.2.2.1
  exact vk_getf (ref := RJ0) C.1 C.2.1 (hF.2.2.2.2.2.2.2.1.1 j hj).2.1 hS C.2.2.2.2.2.1 (C.2.2.2.2.2.2.1 _ hw) (fun _ h => h) hd (k p l e s m args below meth c H locs cells slots A Z lsA C E hP hS hl)
theorem ev_getTv {i j : Nat} (hd : decode y.2.1 pc = .ok (.getfield i, 3)) (hw : Cond.fieldLink y.1.cls i RJ0 "value" "[B" ∈ ev_gw) (hj : j < 13) (k : Ev b y (pc + 3) ls (vR (80 + j) :: st) σ Q) : Ev b y pc ls (vR (61 + j) :: st) σ Q := by
  intro p l e s m args below meth c H locs cells slots A Z lsA C E hP hS hl
  have hF := C.2.2.2.2.2.2.2.1
  exact vk_getf (ref := RJ0) C.1 C.2.1 (hF.2.2.2.2.2.2.2.1.1 j hj).2.2.1 hS C.2.2.2.2.2.1 (C.2.2.2.2.2.2.1 _ hw) (fun _ h => h) hd (k p l e s m args below meth c H locs cells slots A Z lsA C E hP hS hl)
theorem ev_tlen {j : Nat} (hd : decode y.2.1 pc = .ok (.arraylength, 1)) (hj : j < 13) (k : Ev b y (pc + 1) ls (vI (ev_sl.getD j 0) :: st) σ Q) : Ev b y pc ls (vR (80 + j) :: st) σ Q := by
  intro p l e s m args below meth c H locs cells slots A Z lsA C E hP hS hl
  have hF := C.2.2.2.2.2.2.2.1
  exact va_tlen (v := Int32.ofInt (ev_sl.getD j 0)) C.1 C.2.1 (hF.2.2.2.2.2.2.2.1.1 j hj).2.2.2 hS (by rfl) hd (k p l e s m args below meth c H locs cells slots A Z lsA C E hP hS hl)
theorem ev_tbyte {j : Nat} {i : Int} (hd : decode y.2.1 pc = .ok (.baload, 1)) (hj : j < 13) (hi : 0 ≤ i ∧ i < (ev_sl.getD j 0 : Nat)) (k : Ev b y (pc + 1) ls (vI ((ev_sb.getD j []).getD i.toNat 0).toInt :: st) σ Q) : Ev b y pc ls (vI i :: vR (80 + j) :: st) σ Q := by
  intro p l e s m args below meth c H locs cells slots A Z lsA C E hP hS hl
  have hF := C.2.2.2.2.2.2.2.1
  have hsm : ∀ j, j < 13 → ev_sl.getD j 0 < 1000 := by decide
  refine va_tb (v := .int (Int32.ofInt ((ev_sb.getD j []).getD i.toNat 0).toInt)) C.1 C.2.1 (hF.2.2.2.2.2.2.2.1.1 j hj).2.2.2 hS (i := Int32.ofInt i) (ev_in hi (hsm j hj)) ?_ hd (k p l e s m args below meth c H locs cells slots A Z lsA C E hP hS hl)
  have := hsm j hj
  rw [ev_nn (by omega), Int32.ofInt_toInt]
theorem ev_mmax {i : Nat} {x z : Int} (hd : decode y.2.1 pc = .ok (.invokestatic i, 3)) (hw : Cond.methodLink y.1.cls i Lib.Math.max.name ∈ ev_gw) (hw2 : Cond.static Lib.Math.max.name ∈ ev_gw ∧ Cond.initialized "java/lang/Math" ∈ ev_gw ∧ Cond.code Lib.Math.max.name Lib.Math.max.code 2 (some .int) ∈ ev_gw) (hx : -2147483648 ≤ x ∧ x < 2147483648) (hz : -2147483648 ≤ z ∧ z < 2147483648) (hR : 1 ≤ y.2.2.2.2.frames ∧ ev_wd st + 13 ≤ y.2.2.2.2.locals) (k : Ev b y (pc + 3) ls (vI (max x z) :: st) σ Q) : Ev b y pc ls (vI z :: vI x :: st) σ Q := by
  intro p l e s m args below meth c H locs cells slots A Z lsA C E hP hS hl
  have hF := C.2.2.2.2.2.2.2.1
  have hts := C.2.2.2.2.2.2.1
  refine va_mmax C.1 C.2.1 (C.2.2.1.trans hl.1.symm) C.2.2.2.2.2.1 (hts _ hw) (hts _ hw2.1) (hts _ hw2.2.1) (hts _ hw2.2.2) hR.1 (by rw [ev_wd_cat hF.2.2.2.1]; exact hR.2) C.2.2.2.2.2.2.2.2.1 C.2.2.2.2.2.2.2.2.2 hd ?_
  have e1 : (if Int32.ofInt x < Int32.ofInt z then Int32.ofInt z else Int32.ofInt x) = Int32.ofInt (max x z) := by
    by_cases h : x < z
    · rw [if_pos ((ev_lt hx hz).mpr h), show max x z = z by omega]
    · rw [if_neg (fun q => h ((ev_lt hx hz).mp q)), show max x z = x by omega]
  rw [e1]
  exact k p l e s m args below meth c H locs cells slots A Z lsA C E hP hS hl
theorem ev_mmin {i : Nat} {x z : Int} (hd : decode y.2.1 pc = .ok (.invokestatic i, 3)) (hw : Cond.methodLink y.1.cls i Lib.Math.min.name ∈ ev_gw) (hw2 : Cond.static Lib.Math.min.name ∈ ev_gw ∧ Cond.initialized "java/lang/Math" ∈ ev_gw ∧ Cond.code Lib.Math.min.name Lib.Math.min.code 2 (some .int) ∈ ev_gw) (hx : -2147483648 ≤ x ∧ x < 2147483648) (hz : -2147483648 ≤ z ∧ z < 2147483648) (hR : 1 ≤ y.2.2.2.2.frames ∧ ev_wd st + 13 ≤ y.2.2.2.2.locals) (k : Ev b y (pc + 3) ls (vI (min x z) :: st) σ Q) : Ev b y pc ls (vI z :: vI x :: st) σ Q := by
  intro p l e s m args below meth c H locs cells slots A Z lsA C E hP hS hl
  have hF := C.2.2.2.2.2.2.2.1
  have hts := C.2.2.2.2.2.2.1
  refine va_mmin C.1 C.2.1 (C.2.2.1.trans hl.1.symm) C.2.2.2.2.2.1 (hts _ hw) (hts _ hw2.1) (hts _ hw2.2.1) (hts _ hw2.2.2) hR.1 (by rw [ev_wd_cat hF.2.2.2.1]; exact hR.2) C.2.2.2.2.2.2.2.2.1 C.2.2.2.2.2.2.2.2.2 hd ?_
  have e1 : (if Int32.ofInt z < Int32.ofInt x then Int32.ofInt z else Int32.ofInt x) = Int32.ofInt (min x z) := by
    by_cases h : z < x
    · rw [if_pos ((ev_lt hz hx).mpr h), show min x z = z by omega]
    · rw [if_neg (fun q => h ((ev_lt hz hx).mp q)), show min x z = x by omega]
  rw [e1]
  exact k p l e s m args below meth c H locs cells slots A Z lsA C E hP hS hl
theorem ev_mabs {i : Nat} {x : Int} (hd : decode y.2.1 pc = .ok (.invokestatic i, 3)) (hw : Cond.methodLink y.1.cls i Lib.Math.abs.name ∈ ev_gw) (hw2 : Cond.static Lib.Math.abs.name ∈ ev_gw ∧ Cond.initialized "java/lang/Math" ∈ ev_gw ∧ Cond.code Lib.Math.abs.name Lib.Math.abs.code 1 (some .int) ∈ ev_gw) (hx : -2147483648 ≤ x ∧ x < 2147483648) (hR : 1 ≤ y.2.2.2.2.frames ∧ ev_wd st + 13 ≤ y.2.2.2.2.locals) (k : Ev b y (pc + 3) ls (vI (max x (-x)) :: st) σ Q) : Ev b y pc ls (vI x :: st) σ Q := by
  intro p l e s m args below meth c H locs cells slots A Z lsA C E hP hS hl
  have hF := C.2.2.2.2.2.2.2.1
  have hts := C.2.2.2.2.2.2.1
  refine va_mabs C.1 C.2.1 (C.2.2.1.trans hl.1.symm) C.2.2.2.2.2.1 (hts _ hw) (hts _ hw2.1) (hts _ hw2.2.1) (hts _ hw2.2.2) hR.1 (by rw [ev_wd_cat hF.2.2.2.1]; exact hR.2) C.2.2.2.2.2.2.2.2.1 C.2.2.2.2.2.2.2.2.2 hd ?_
  have e1 : (if 0 ≤ Int32.ofInt x then Int32.ofInt x else 0 - Int32.ofInt x) = Int32.ofInt (max x (-x)) := by
    have h0 : (0 : Int32) ≤ Int32.ofInt x ↔ 0 ≤ x := ev_le (x := 0) (by decide) hx
    by_cases h : 0 ≤ x
    · rw [if_pos (h0.mpr h), show max x (-x) = x by omega]
    · rw [if_neg (fun q => h (h0.mp q)), show max x (-x) = 0 - x by omega, Int32.ofInt_sub]; rfl
  rw [e1]
  exact k p l e s m args below meth c H locs cells slots A Z lsA C E hP hS hl
end EVA
end
section
def mX0_init : ev_Y := (yX0_init, cX0_init, 1, none, { frames := 1, cells := 0, slots := 0, locals := 20 })
def mX0_look : ev_Y := (yX0_look, cX0_look, 3, none, { frames := 4, cells := 0, slots := 0, locals := 90 })
def mX0_landing : ev_Y := (yX0_landing, cX0_landing, 6, some .int, { frames := 0, cells := 0, slots := 0, locals := 0 })
def mX0_fearedCells : ev_Y := (yX0_fearedCells, cX0_fearedCells, 3, some .int, { frames := 0, cells := 0, slots := 0, locals := 0 })
def mX0_passDays : ev_Y := (yX0_passDays, cX0_passDays, 6, some .int, { frames := 5, cells := 0, slots := 0, locals := 118 })
def mX0_passDay : ev_Y := (yX0_passDay, cX0_passDay, 6, some .int, { frames := 4, cells := 0, slots := 0, locals := 93 })
def mX0_renewScares : ev_Y := (yX0_renewScares, cX0_renewScares, 5, some .boolean, { frames := 3, cells := 0, slots := 0, locals := 69 })
def mX0_takeScares : ev_Y := (yX0_takeScares, cX0_takeScares, 6, none, { frames := 2, cells := 0, slots := 0, locals := 44 })
def mX0_weighFears : ev_Y := (yX0_weighFears, cX0_weighFears, 3, none, { frames := 3, cells := 0, slots := 0, locals := 68 })
def mX0_fearAt : ev_Y := (yX0_fearAt, cX0_fearAt, 6, some .int, { frames := 2, cells := 0, slots := 0, locals := 43 })
def mX0_growOlder : ev_Y := (yX0_growOlder, cX0_growOlder, 3, none, { frames := 1, cells := 0, slots := 0, locals := 21 })
def mX1_isUnder : ev_Y := (yX1_isUnder, cX1_isUnder, 4, some .boolean, { frames := 0, cells := 0, slots := 0, locals := 0 })
def mX1_fade : ev_Y := (yX1_fade, cX1_fade, 5, some .int, { frames := 1, cells := 0, slots := 0, locals := 21 })
def mX1_scare : ev_Y := (yX1_scare, cX1_scare, 4, some .int, { frames := 1, cells := 0, slots := 0, locals := 21 })
def mX2_init : ev_Y := (yX2_init, cX2_init, 1, none, { frames := 1, cells := 0, slots := 0, locals := 23 })
def mX2_become : ev_Y := (yX2_become, cX2_become, 2, none, { frames := 1, cells := 0, slots := 0, locals := 26 })
def mX2_addSitter : ev_Y := (yX2_addSitter, cX2_addSitter, 2, some .int, { frames := 0, cells := 0, slots := 0, locals := 0 })
def mX2_addLikeness : ev_Y := (yX2_addLikeness, cX2_addLikeness, 3, some .int, { frames := 0, cells := 0, slots := 0, locals := 0 })
def mX2_keepOnly : ev_Y := (yX2_keepOnly, cX2_keepOnly, 4, none, { frames := 0, cells := 0, slots := 0, locals := 0 })
def mX2_allLikenesses : ev_Y := (yX2_allLikenesses, cX2_allLikenesses, 1, some .int, { frames := 0, cells := 0, slots := 0, locals := 0 })
def mX2_likenessesAt : ev_Y := (yX2_likenessesAt, cX2_likenessesAt, 2, some .int, { frames := 1, cells := 0, slots := 0, locals := 24 })
def mX2_likenessesOf : ev_Y := (yX2_likenessesOf, cX2_likenessesOf, 2, some .int, { frames := 1, cells := 0, slots := 0, locals := 24 })
def mX2_placesOf : ev_Y := (yX2_placesOf, cX2_placesOf, 5, some .int, { frames := 0, cells := 0, slots := 0, locals := 0 })
def mX2_meetings : ev_Y := (yX2_meetings, cX2_meetings, 5, some .int, { frames := 1, cells := 0, slots := 0, locals := 22 })
def mX2_isMeeting : ev_Y := (yX2_isMeeting, cX2_isMeeting, 3, some .boolean, { frames := 0, cells := 0, slots := 0, locals := 0 })
def mX2_sittersWhoMeet : ev_Y := (yX2_sittersWhoMeet, cX2_sittersWhoMeet, 3, some .int, { frames := 2, cells := 0, slots := 0, locals := 46 })
def mX2_feesDue : ev_Y := (yX2_feesDue, cX2_feesDue, 3, some .int, { frames := 2, cells := 0, slots := 0, locals := 45 })
def mX2_wheatOfAll : ev_Y := (yX2_wheatOfAll, cX2_wheatOfAll, 1, some .int, { frames := 1, cells := 0, slots := 0, locals := 23 })
def mX2_temperOfAll : ev_Y := (yX2_temperOfAll, cX2_temperOfAll, 1, some .int, { frames := 1, cells := 0, slots := 0, locals := 23 })
def mX2_countsFor : ev_Y := (yX2_countsFor, cX2_countsFor, 3, some .int, { frames := 2, cells := 0, slots := 0, locals := 45 })
def mX2_scareOf : ev_Y := (yX2_scareOf, cX2_scareOf, 4, some .int, { frames := 3, cells := 0, slots := 0, locals := 67 })
def mX3_init : ev_Y := (yX3_init, cX3_init, 1, none, { frames := 1, cells := 0, slots := 0, locals := 20 })
def mX3_begin : ev_Y := (yX3_begin, cX3_begin, 3, none, { frames := 1, cells := 0, slots := 0, locals := 24 })
def mX3_isMissing : ev_Y := (yX3_isMissing, cX3_isMissing, 1, some .boolean, { frames := 0, cells := 0, slots := 0, locals := 0 })
def mX3_hasRun : ev_Y := (yX3_hasRun, cX3_hasRun, 3, some .boolean, { frames := 0, cells := 0, slots := 0, locals := 0 })
def mX3_put : ev_Y := (yX3_put, cX3_put, 4, none, { frames := 1, cells := 0, slots := 0, locals := 22 })
def mX3_cut : ev_Y := (yX3_cut, cX3_cut, 3, some .long, { frames := 0, cells := 0, slots := 0, locals := 0 })
def mX4_init : ev_Y := (yX4_init, cX4_init, 1, none, { frames := 1, cells := 0, slots := 0, locals := 20 })
def mX4_add : ev_Y := (yX4_add, cX4_add, 2, none, { frames := 0, cells := 0, slots := 0, locals := 0 })
def mX4_parse : ev_Y := (yX4_parse, cX4_parse, 3, some .int, { frames := 9, cells := 0, slots := 0, locals := 196 })
def mX4_takeItem : ev_Y := (yX4_takeItem, cX4_takeItem, 3, some .boolean, { frames := 8, cells := 0, slots := 0, locals := 174 })
def mX4_takeSitter : ev_Y := (yX4_takeSitter, cX4_takeSitter, 4, some .boolean, { frames := 7, cells := 0, slots := 0, locals := 149 })
def mX4_takeLikeness : ev_Y := (yX4_takeLikeness, cX4_takeLikeness, 3, some .boolean, { frames := 7, cells := 0, slots := 0, locals := 149 })
def mX4_takeWheat : ev_Y := (yX4_takeWheat, cX4_takeWheat, 6, some .boolean, { frames := 7, cells := 0, slots := 0, locals := 149 })
def mX4_takeCrows : ev_Y := (yX4_takeCrows, cX4_takeCrows, 2, some .boolean, { frames := 4, cells := 0, slots := 0, locals := 83 })
def mX4_takeWord : ev_Y := (yX4_takeWord, cX4_takeWord, 2, some .boolean, { frames := 6, cells := 0, slots := 0, locals := 128 })
def mX4_takeNumber : ev_Y := (yX4_takeNumber, cX4_takeNumber, 3, some .boolean, { frames := 3, cells := 0, slots := 0, locals := 61 })
def mX4_kindNamed : ev_Y := (yX4_kindNamed, cX4_kindNamed, 2, some .int, { frames := 6, cells := 0, slots := 0, locals := 128 })
def mX4_nameOf : ev_Y := (yX4_nameOf, cX4_nameOf, 1, some (.object "java/lang/String"), { frames := 0, cells := 0, slots := 0, locals := 0 })
def mX4_isWord : ev_Y := (yX4_isWord, cX4_isWord, 3, some .boolean, { frames := 5, cells := 0, slots := 0, locals := 106 })
def mX4_advance : ev_Y := (yX4_advance, cX4_advance, 1, none, { frames := 2, cells := 0, slots := 0, locals := 41 })
def mX4_passLetters : ev_Y := (yX4_passLetters, cX4_passLetters, 1, none, { frames := 1, cells := 0, slots := 0, locals := 20 })
def mX4_passDigits : ev_Y := (yX4_passDigits, cX4_passDigits, 1, none, { frames := 1, cells := 0, slots := 0, locals := 21 })
def mX4_isLetter : ev_Y := (yX4_isLetter, cX4_isLetter, 1, some .boolean, { frames := 0, cells := 0, slots := 0, locals := 0 })
def mX4_isDigit : ev_Y := (yX4_isDigit, cX4_isDigit, 1, some .boolean, { frames := 0, cells := 0, slots := 0, locals := 0 })
def mX5_init : ev_Y := (yX5_init, cX5_init, 2, none, { frames := 2, cells := 0, slots := 0, locals := 43 })
def mX5_wheat : ev_Y := (yX5_wheat, cX5_wheat, 4, some .int, { frames := 2, cells := 0, slots := 0, locals := 42 })
def mX5_cell : ev_Y := (yX5_cell, cX5_cell, 3, some .int, { frames := 5, cells := 0, slots := 0, locals := 112 })
def mX5_crows : ev_Y := (yX5_crows, cX5_crows, 3, some .int, { frames := 1, cells := 0, slots := 0, locals := 22 })
def mX5_sitter : ev_Y := (yX5_sitter, cX5_sitter, 2, some .int, { frames := 2, cells := 0, slots := 0, locals := 42 })
def mX5_of : ev_Y := (yX5_of, cX5_of, 3, some .int, { frames := 2, cells := 0, slots := 0, locals := 46 })
def mX5_set : ev_Y := (yX5_set, cX5_set, 4, some .int, { frames := 2, cells := 0, slots := 0, locals := 43 })
def mX5_turn : ev_Y := (yX5_turn, cX5_turn, 3, some .int, { frames := 2, cells := 0, slots := 0, locals := 43 })
def mX5_as : ev_Y := (yX5_as, cX5_as, 3, some .int, { frames := 2, cells := 0, slots := 0, locals := 43 })
def mX5_likeness : ev_Y := (yX5_likeness, cX5_likeness, 3, some .int, { frames := 2, cells := 0, slots := 0, locals := 43 })
def mX5_told : ev_Y := (yX5_told, cX5_told, 3, some .int, { frames := 4, cells := 0, slots := 0, locals := 90 })
def mX5_place : ev_Y := (yX5_place, cX5_place, 4, some .int, { frames := 2, cells := 0, slots := 0, locals := 43 })
def mX5_scares : ev_Y := (yX5_scares, cX5_scares, 3, some .int, { frames := 4, cells := 0, slots := 0, locals := 90 })
def mX5_lands : ev_Y := (yX5_lands, cX5_lands, 2, some .int, { frames := 5, cells := 0, slots := 0, locals := 112 })
def mX5_days : ev_Y := (yX5_days, cX5_days, 2, some .int, { frames := 6, cells := 0, slots := 0, locals := 143 })
def mX5_now : ev_Y := (yX5_now, cX5_now, 2, some .int, { frames := 5, cells := 0, slots := 0, locals := 112 })
def mX5_on : ev_Y := (yX5_on, cX5_on, 3, some .int, { frames := 7, cells := 0, slots := 0, locals := 164 })
def mX5_eaten : ev_Y := (yX5_eaten, cX5_eaten, 2, some .int, { frames := 7, cells := 0, slots := 0, locals := 164 })
def mX5_first : ev_Y := (yX5_first, cX5_first, 3, some .int, { frames := 5, cells := 0, slots := 0, locals := 118 })
def mX5_spot : ev_Y := (yX5_spot, cX5_spot, 3, some .int, { frames := 7, cells := 0, slots := 0, locals := 171 })
def mX5_whose : ev_Y := (yX5_whose, cX5_whose, 3, some .int, { frames := 7, cells := 0, slots := 0, locals := 171 })
def mX5_kind : ev_Y := (yX5_kind, cX5_kind, 3, some .int, { frames := 7, cells := 0, slots := 0, locals := 171 })
def mX5_temper : ev_Y := (yX5_temper, cX5_temper, 3, some .int, { frames := 7, cells := 0, slots := 0, locals := 171 })
def mX5_keep : ev_Y := (yX5_keep, cX5_keep, 6, some .int, { frames := 7, cells := 0, slots := 0, locals := 166 })
def mX5_worth : ev_Y := (yX5_worth, cX5_worth, 7, some .int, { frames := 7, cells := 0, slots := 0, locals := 166 })
def mX5_apart : ev_Y := (yX5_apart, cX5_apart, 10, some .int, { frames := 2, cells := 0, slots := 0, locals := 47 })
def mX5_swap : ev_Y := (yX5_swap, cX5_swap, 7, some .int, { frames := 7, cells := 0, slots := 0, locals := 167 })
def mX5_feed : ev_Y := (yX5_feed, cX5_feed, 4, some .int, { frames := 1, cells := 0, slots := 0, locals := 22 })
def mX5_wipe : ev_Y := (yX5_wipe, cX5_wipe, 2, some .int, { frames := 0, cells := 0, slots := 0, locals := 0 })
def mX5_plain : ev_Y := (yX5_plain, cX5_plain, 2, some .int, { frames := 10, cells := 0, slots := 0, locals := 218 })
def mX5_sheet : ev_Y := (yX5_sheet, cX5_sheet, 4, some .int, { frames := 2, cells := 0, slots := 0, locals := 46 })
def mX5_write : ev_Y := (yX5_write, cX5_write, 8, some .long, { frames := 2, cells := 0, slots := 0, locals := 45 })
def mX5_copy : ev_Y := (yX5_copy, cX5_copy, 8, some .int, { frames := 2, cells := 0, slots := 0, locals := 42 })
def mX5_lays : ev_Y := (yX5_lays, cX5_lays, 7, some .int, { frames := 2, cells := 0, slots := 0, locals := 42 })
def mX5_book : ev_Y := (yX5_book, cX5_book, 5, some .int, { frames := 5, cells := 0, slots := 0, locals := 118 })
def mX5_read : ev_Y := (yX5_read, cX5_read, 6, some .int, { frames := 6, cells := 0, slots := 0, locals := 141 })
def mX5_image : ev_Y := (yX5_image, cX5_image, 1, some .int, { frames := 2, cells := 0, slots := 0, locals := 47 })
def mX5_undo : ev_Y := (yX5_undo, cX5_undo, 1, some .int, { frames := 2, cells := 0, slots := 0, locals := 47 })
def mX5_tear : ev_Y := (yX5_tear, cX5_tear, 2, some .int, { frames := 0, cells := 0, slots := 0, locals := 0 })
def mX5_count : ev_Y := (yX5_count, cX5_count, 2, some .int, { frames := 2, cells := 0, slots := 0, locals := 43 })
def mX5_status : ev_Y := (yX5_status, cX5_status, 2, some .int, { frames := 1, cells := 0, slots := 0, locals := 23 })
def mX5_finding : ev_Y := (yX5_finding, cX5_finding, 2, some .int, { frames := 0, cells := 0, slots := 0, locals := 0 })
def mX5_isSitter : ev_Y := (yX5_isSitter, cX5_isSitter, 2, some .boolean, { frames := 1, cells := 0, slots := 0, locals := 22 })
def mX5_isLikeness : ev_Y := (yX5_isLikeness, cX5_isLikeness, 2, some .boolean, { frames := 1, cells := 0, slots := 0, locals := 22 })
def mX5_eatenAsItIs : ev_Y := (yX5_eatenAsItIs, cX5_eatenAsItIs, 2, some .int, { frames := 6, cells := 0, slots := 0, locals := 143 })
def mX5_eatenWith : ev_Y := (yX5_eatenWith, cX5_eatenWith, 4, some .int, { frames := 6, cells := 0, slots := 0, locals := 143 })
def mX5_eatenSwapped : ev_Y := (yX5_eatenSwapped, cX5_eatenSwapped, 5, some .int, { frames := 6, cells := 0, slots := 0, locals := 143 })
def mX5_bestChoice : ev_Y := (yX5_bestChoice, cX5_bestChoice, 9, some .int, { frames := 6, cells := 0, slots := 0, locals := 143 })
def mX5_trialGoesAs : ev_Y := (yX5_trialGoesAs, cX5_trialGoesAs, 4, some .boolean, { frames := 5, cells := 0, slots := 0, locals := 118 })
def mX5_isWithin : ev_Y := (yX5_isWithin, cX5_isWithin, 3, some .boolean, { frames := 0, cells := 0, slots := 0, locals := 0 })
def mX5_isCell : ev_Y := (yX5_isCell, cX5_isCell, 1, some .boolean, { frames := 1, cells := 0, slots := 0, locals := 22 })
def mX5_isKind : ev_Y := (yX5_isKind, cX5_isKind, 1, some .boolean, { frames := 1, cells := 0, slots := 0, locals := 22 })
def mX5_isSheet : ev_Y := (yX5_isSheet, cX5_isSheet, 1, some .boolean, { frames := 1, cells := 0, slots := 0, locals := 22 })
def mX5_exchange : ev_Y := (yX5_exchange, cX5_exchange, 4, some .int, { frames := 0, cells := 0, slots := 0, locals := 0 })
def mX5_sumOf : ev_Y := (yX5_sumOf, cX5_sumOf, 4, some .int, { frames := 0, cells := 0, slots := 0, locals := 0 })
def mX5_distanceOf : ev_Y := (yX5_distanceOf, cX5_distanceOf, 4, some .int, { frames := 1, cells := 0, slots := 0, locals := 20 })
def mX6_init : ev_Y := (yX6_init, cX6_init, 2, none, { frames := 1, cells := 0, slots := 0, locals := 20 })
def mX6_in : ev_Y := (yX6_in, cX6_in, 6, some .boolean, { frames := 0, cells := 0, slots := 0, locals := 0 })
def mX6_finds : ev_Y := (yX6_finds, cX6_finds, 2, some .int, { frames := 0, cells := 0, slots := 0, locals := 0 })
def mX6_saves : ev_Y := (yX6_saves, cX6_saves, 2, none, { frames := 0, cells := 0, slots := 0, locals := 0 })
def mX6_putsBack : ev_Y := (yX6_putsBack, cX6_putsBack, 2, none, { frames := 0, cells := 0, slots := 0, locals := 0 })
def mX6_laysAside : ev_Y := (yX6_laysAside, cX6_laysAside, 2, none, { frames := 0, cells := 0, slots := 0, locals := 0 })
def mX6_takesBack : ev_Y := (yX6_takesBack, cX6_takesBack, 3, some .int, { frames := 0, cells := 0, slots := 0, locals := 0 })
def mX6_becomes : ev_Y := (yX6_becomes, cX6_becomes, 4, some .int, { frames := 0, cells := 0, slots := 0, locals := 0 })
def mX6_isCell : ev_Y := (yX6_isCell, cX6_isCell, 1, some .boolean, { frames := 1, cells := 0, slots := 0, locals := 25 })
def mX6_isSitter : ev_Y := (yX6_isSitter, cX6_isSitter, 2, some .boolean, { frames := 1, cells := 0, slots := 0, locals := 25 })
def mX6_isLikeness : ev_Y := (yX6_isLikeness, cX6_isLikeness, 2, some .boolean, { frames := 1, cells := 0, slots := 0, locals := 25 })
def mX6_isKind : ev_Y := (yX6_isKind, cX6_isKind, 1, some .boolean, { frames := 1, cells := 0, slots := 0, locals := 25 })
def mX6_spotOf : ev_Y := (yX6_spotOf, cX6_spotOf, 2, some .int, { frames := 0, cells := 0, slots := 0, locals := 0 })
def mX6_its : ev_Y := (yX6_its, cX6_its, 3, some .int, { frames := 1, cells := 0, slots := 0, locals := 21 })
def mX6_placeOf : ev_Y := (yX6_placeOf, cX6_placeOf, 2, some .int, { frames := 0, cells := 0, slots := 0, locals := 0 })
def mX6_likes : ev_Y := (yX6_likes, cX6_likes, 3, some .int, { frames := 1, cells := 0, slots := 0, locals := 21 })
def mX6_isThere : ev_Y := (yX6_isThere, cX6_isThere, 2, some .boolean, { frames := 0, cells := 0, slots := 0, locals := 0 })
def mX6_far : ev_Y := (yX6_far, cX6_far, 4, some .int, { frames := 0, cells := 0, slots := 0, locals := 0 })
def mX6_counts : ev_Y := (yX6_counts, cX6_counts, 6, some .int, { frames := 2, cells := 0, slots := 0, locals := 43 })
def mX6_atLeastNothing : ev_Y := (yX6_atLeastNothing, cX6_atLeastNothing, 1, some .int, { frames := 0, cells := 0, slots := 0, locals := 0 })
def mX6_scared : ev_Y := (yX6_scared, cX6_scared, 5, some .int, { frames := 3, cells := 0, slots := 0, locals := 68 })
def mX6_fear : ev_Y := (yX6_fear, cX6_fear, 7, some .int, { frames := 4, cells := 0, slots := 0, locals := 92 })
def mX6_wheat : ev_Y := (yX6_wheat, cX6_wheat, 3, some .int, { frames := 2, cells := 0, slots := 0, locals := 45 })
def mX6_thoseAt : ev_Y := (yX6_thoseAt, cX6_thoseAt, 4, some .int, { frames := 2, cells := 0, slots := 0, locals := 43 })
def mX6_cell : ev_Y := (yX6_cell, cX6_cell, 3, some .int, { frames := 5, cells := 0, slots := 0, locals := 118 })
def mX6_crows : ev_Y := (yX6_crows, cX6_crows, 2, some .int, { frames := 1, cells := 0, slots := 0, locals := 25 })
def mX6_adds : ev_Y := (yX6_adds, cX6_adds, 3, some .int, { frames := 1, cells := 0, slots := 0, locals := 21 })
def mX6_sitter : ev_Y := (yX6_sitter, cX6_sitter, 2, some .int, { frames := 2, cells := 0, slots := 0, locals := 45 })
def mX6_likenessesOf : ev_Y := (yX6_likenessesOf, cX6_likenessesOf, 4, some .int, { frames := 2, cells := 0, slots := 0, locals := 43 })
def mX6_areMet : ev_Y := (yX6_areMet, cX6_areMet, 5, some .boolean, { frames := 2, cells := 0, slots := 0, locals := 43 })
def mX6_meets : ev_Y := (yX6_meets, cX6_meets, 5, some .int, { frames := 3, cells := 0, slots := 0, locals := 67 })
def mX6_of : ev_Y := (yX6_of, cX6_of, 3, some .int, { frames := 4, cells := 0, slots := 0, locals := 91 })
def mX6_set : ev_Y := (yX6_set, cX6_set, 5, some .int, { frames := 2, cells := 0, slots := 0, locals := 46 })
def mX6_turn : ev_Y := (yX6_turn, cX6_turn, 3, some .int, { frames := 2, cells := 0, slots := 0, locals := 46 })
def mX6_isUnder : ev_Y := (yX6_isUnder, cX6_isUnder, 2, some .boolean, { frames := 0, cells := 0, slots := 0, locals := 0 })
def mX6_as : ev_Y := (yX6_as, cX6_as, 3, some .int, { frames := 2, cells := 0, slots := 0, locals := 46 })
def mX6_puts : ev_Y := (yX6_puts, cX6_puts, 4, some .int, { frames := 1, cells := 0, slots := 0, locals := 21 })
def mX6_likeness : ev_Y := (yX6_likeness, cX6_likeness, 3, some .int, { frames := 2, cells := 0, slots := 0, locals := 46 })
def mX6_told : ev_Y := (yX6_told, cX6_told, 3, some .int, { frames := 4, cells := 0, slots := 0, locals := 92 })
def mX6_place : ev_Y := (yX6_place, cX6_place, 5, some .int, { frames := 2, cells := 0, slots := 0, locals := 46 })
def mX6_scares : ev_Y := (yX6_scares, cX6_scares, 3, some .int, { frames := 4, cells := 0, slots := 0, locals := 92 })
def mX6_fearBy : ev_Y := (yX6_fearBy, cX6_fearBy, 5, some .int, { frames := 2, cells := 0, slots := 0, locals := 43 })
def mX6_fearsNow : ev_Y := (yX6_fearsNow, cX6_fearsNow, 2, none, { frames := 4, cells := 0, slots := 0, locals := 92 })
def mX6_landsAt : ev_Y := (yX6_landsAt, cX6_landsAt, 4, some .int, { frames := 0, cells := 0, slots := 0, locals := 0 })
def mX6_lands : ev_Y := (yX6_lands, cX6_lands, 2, some .int, { frames := 5, cells := 0, slots := 0, locals := 113 })
def mX6_day : ev_Y := (yX6_day, cX6_day, 5, some .int, { frames := 5, cells := 0, slots := 0, locals := 113 })
def mX6_daysGo : ev_Y := (yX6_daysGo, cX6_daysGo, 4, some .int, { frames := 6, cells := 0, slots := 0, locals := 137 })
def mX6_days : ev_Y := (yX6_days, cX6_days, 2, some .int, { frames := 7, cells := 0, slots := 0, locals := 160 })
def mX6_wheatAll : ev_Y := (yX6_wheatAll, cX6_wheatAll, 3, some .int, { frames := 0, cells := 0, slots := 0, locals := 0 })
def mX6_fees : ev_Y := (yX6_fees, cX6_fees, 3, some .int, { frames := 3, cells := 0, slots := 0, locals := 66 })
def mX6_feared : ev_Y := (yX6_feared, cX6_feared, 3, some .int, { frames := 5, cells := 0, slots := 0, locals := 118 })
def mX6_meeting : ev_Y := (yX6_meeting, cX6_meeting, 3, some .int, { frames := 4, cells := 0, slots := 0, locals := 91 })
def mX6_now : ev_Y := (yX6_now, cX6_now, 2, some .int, { frames := 6, cells := 0, slots := 0, locals := 140 })
def mX6_on : ev_Y := (yX6_on, cX6_on, 4, some .int, { frames := 7, cells := 0, slots := 0, locals := 160 })
def mX6_eatenOn : ev_Y := (yX6_eatenOn, cX6_eatenOn, 2, some .int, { frames := 7, cells := 0, slots := 0, locals := 160 })
def mX6_eaten : ev_Y := (yX6_eaten, cX6_eaten, 2, some .int, { frames := 8, cells := 0, slots := 0, locals := 181 })
def mX6_first : ev_Y := (yX6_first, cX6_first, 5, some .int, { frames := 6, cells := 0, slots := 0, locals := 137 })
def mX6_isSoon : ev_Y := (yX6_isSoon, cX6_isSoon, 1, some .boolean, { frames := 1, cells := 0, slots := 0, locals := 25 })
def mX6_leastBy : ev_Y := (yX6_leastBy, cX6_leastBy, 9, some .int, { frames := 8, cells := 0, slots := 0, locals := 181 })
def mX6_spot : ev_Y := (yX6_spot, cX6_spot, 3, some .int, { frames := 9, cells := 0, slots := 0, locals := 209 })
def mX6_whose : ev_Y := (yX6_whose, cX6_whose, 3, some .int, { frames := 9, cells := 0, slots := 0, locals := 209 })
def mX6_kind : ev_Y := (yX6_kind, cX6_kind, 3, some .int, { frames := 9, cells := 0, slots := 0, locals := 209 })
def mX6_temper : ev_Y := (yX6_temper, cX6_temper, 3, some .int, { frames := 9, cells := 0, slots := 0, locals := 209 })
def mX6_ones : ev_Y := (yX6_ones, cX6_ones, 3, some .int, { frames := 0, cells := 0, slots := 0, locals := 0 })
def mX6_eatenWithout : ev_Y := (yX6_eatenWithout, cX6_eatenWithout, 4, some .int, { frames := 8, cells := 0, slots := 0, locals := 181 })
def mX6_keep : ev_Y := (yX6_keep, cX6_keep, 6, some .int, { frames := 9, cells := 0, slots := 0, locals := 204 })
def mX6_worth : ev_Y := (yX6_worth, cX6_worth, 7, some .int, { frames := 9, cells := 0, slots := 0, locals := 204 })
def mX6_apart : ev_Y := (yX6_apart, cX6_apart, 8, some .int, { frames := 4, cells := 0, slots := 0, locals := 91 })
def mX6_swapped : ev_Y := (yX6_swapped, cX6_swapped, 7, some .int, { frames := 8, cells := 0, slots := 0, locals := 181 })
def mX6_swap : ev_Y := (yX6_swap, cX6_swap, 7, some .int, { frames := 9, cells := 0, slots := 0, locals := 207 })
def mX6_feed : ev_Y := (yX6_feed, cX6_feed, 4, some .int, { frames := 1, cells := 0, slots := 0, locals := 25 })
def mX6_wipe : ev_Y := (yX6_wipe, cX6_wipe, 2, some .int, { frames := 0, cells := 0, slots := 0, locals := 0 })
def mX6_byteAt : ev_Y := (yX6_byteAt, cX6_byteAt, 2, some .int, { frames := 0, cells := 0, slots := 0, locals := 0 })
def mX6_isLetter : ev_Y := (yX6_isLetter, cX6_isLetter, 1, some .boolean, { frames := 1, cells := 0, slots := 0, locals := 25 })
def mX6_isDigit : ev_Y := (yX6_isDigit, cX6_isDigit, 1, some .boolean, { frames := 1, cells := 0, slots := 0, locals := 25 })
def mX6_token : ev_Y := (yX6_token, cX6_token, 3, none, { frames := 2, cells := 0, slots := 0, locals := 45 })
def mX6_must : ev_Y := (yX6_must, cX6_must, 2, none, { frames := 3, cells := 0, slots := 0, locals := 67 })
def mX6_word : ev_Y := (yX6_word, cX6_word, 4, some .long, { frames := 2, cells := 0, slots := 0, locals := 45 })
def mX6_number : ev_Y := (yX6_number, cX6_number, 6, none, { frames := 4, cells := 0, slots := 0, locals := 88 })
def mX6_kindHere : ev_Y := (yX6_kindHere, cX6_kindHere, 3, some .int, { frames := 3, cells := 0, slots := 0, locals := 68 })
def mX6_sitterItem : ev_Y := (yX6_sitterItem, cX6_sitterItem, 3, none, { frames := 5, cells := 0, slots := 0, locals := 113 })
def mX6_likenessItem : ev_Y := (yX6_likenessItem, cX6_likenessItem, 3, none, { frames := 5, cells := 0, slots := 0, locals := 113 })
def mX6_wheatItem : ev_Y := (yX6_wheatItem, cX6_wheatItem, 5, none, { frames := 5, cells := 0, slots := 0, locals := 113 })
def mX6_item : ev_Y := (yX6_item, cX6_item, 4, none, { frames := 6, cells := 0, slots := 0, locals := 137 })
def mX6_plain : ev_Y := (yX6_plain, cX6_plain, 2, some .int, { frames := 7, cells := 0, slots := 0, locals := 160 })
def mX6_isOne : ev_Y := (yX6_isOne, cX6_isOne, 1, some .boolean, { frames := 1, cells := 0, slots := 0, locals := 25 })
def mX6_sheet : ev_Y := (yX6_sheet, cX6_sheet, 5, some .int, { frames := 2, cells := 0, slots := 0, locals := 45 })
def mX6_narrowed : ev_Y := (yX6_narrowed, cX6_narrowed, 3, some .long, { frames := 0, cells := 0, slots := 0, locals := 0 })
def mX6_wrongSheet : ev_Y := (yX6_wrongSheet, cX6_wrongSheet, 2, some .int, { frames := 2, cells := 0, slots := 0, locals := 45 })
def mX6_write : ev_Y := (yX6_write, cX6_write, 8, some .long, { frames := 3, cells := 0, slots := 0, locals := 66 })
def mX6_copy : ev_Y := (yX6_copy, cX6_copy, 7, some .int, { frames := 2, cells := 0, slots := 0, locals := 45 })
def mX6_lays : ev_Y := (yX6_lays, cX6_lays, 6, some .int, { frames := 3, cells := 0, slots := 0, locals := 66 })
def mX6_book : ev_Y := (yX6_book, cX6_book, 5, some .int, { frames := 6, cells := 0, slots := 0, locals := 137 })
def mX6_isBook : ev_Y := (yX6_isBook, cX6_isBook, 4, some .boolean, { frames := 6, cells := 0, slots := 0, locals := 137 })
def mX6_read : ev_Y := (yX6_read, cX6_read, 6, some .int, { frames := 7, cells := 0, slots := 0, locals := 160 })
def mX6_image : ev_Y := (yX6_image, cX6_image, 2, some .int, { frames := 0, cells := 0, slots := 0, locals := 0 })
def mX6_undo : ev_Y := (yX6_undo, cX6_undo, 2, some .int, { frames := 1, cells := 0, slots := 0, locals := 21 })
def mX6_tear : ev_Y := (yX6_tear, cX6_tear, 2, some .int, { frames := 0, cells := 0, slots := 0, locals := 0 })
def mX6_tempers : ev_Y := (yX6_tempers, cX6_tempers, 3, some .int, { frames := 2, cells := 0, slots := 0, locals := 43 })
def mX6_count : ev_Y := (yX6_count, cX6_count, 2, some .int, { frames := 3, cells := 0, slots := 0, locals := 65 })
def mX6_status : ev_Y := (yX6_status, cX6_status, 4, some .int, { frames := 1, cells := 0, slots := 0, locals := 25 })
def mJ6_bitCount_0f7a4 : ev_Y := (yJ6_bitCount_0f7a4, cJ6_bitCount_0f7a4, 1, some .int, { frames := 0, cells := 0, slots := 0, locals := 0 })
def mJ9_abs_0f7a4 : ev_Y := (yJ9_abs_0f7a4, cJ9_abs_0f7a4, 1, some .int, { frames := 0, cells := 0, slots := 0, locals := 0 })
def mJ9_max_7cf53 : ev_Y := (yJ9_max_7cf53, cJ9_max_7cf53, 2, some .int, { frames := 0, cells := 0, slots := 0, locals := 0 })
def mJ9_min_7cf53 : ev_Y := (yJ9_min_7cf53, cJ9_min_7cf53, 2, some .int, { frames := 0, cells := 0, slots := 0, locals := 0 })
def mJ0_length_8abf5 : ev_Y := (yJ0_length_8abf5, cJ0_length_8abf5, 1, some .int, { frames := 1, cells := 0, slots := 0, locals := 20 })
def mJ0_charAt_5068e : ev_Y := (yJ0_charAt_5068e, cJ0_charAt_5068e, 2, some .char, { frames := 4, cells := 0, slots := 0, locals := 85 })
def mJ0_coder_7d493 : ev_Y := (yJ0_coder_7d493, cJ0_coder_7d493, 1, some .byte, { frames := 0, cells := 0, slots := 0, locals := 0 })
def mJ0_isLatin1_aae02 : ev_Y := (yJ0_isLatin1_aae02, cJ0_isLatin1_aae02, 1, some .boolean, { frames := 0, cells := 0, slots := 0, locals := 0 })
def mJ0_checkIndex_df160 : ev_Y := (yJ0_checkIndex_df160, cJ0_checkIndex_df160, 2, none, { frames := 1, cells := 0, slots := 0, locals := 22 })
def mJ1_charAt_3b067 : ev_Y := (yJ1_charAt_3b067, cJ1_charAt_3b067, 2, some .char, { frames := 2, cells := 0, slots := 0, locals := 43 })
def mJ2_getChar_3b067 : ev_Y := (yJ2_getChar_3b067, cJ2_getChar_3b067, 2, some .char, { frames := 1, cells := 0, slots := 0, locals := 20 })
def mJ2_length_9d52b : ev_Y := (yJ2_length_9d52b, cJ2_length_9d52b, 1, some .int, { frames := 0, cells := 0, slots := 0, locals := 0 })
def mJ2_charAt_3b067 : ev_Y := (yJ2_charAt_3b067, cJ2_charAt_3b067, 2, some .char, { frames := 3, cells := 0, slots := 0, locals := 64 })
def mJ2_checkIndex_2214a : ev_Y := (yJ2_checkIndex_2214a, cJ2_checkIndex_2214a, 2, none, { frames := 2, cells := 0, slots := 0, locals := 43 })
def mJ7_fill_d0a16 : ev_Y := (yJ7_fill_d0a16, cJ7_fill_d0a16, 5, none, { frames := 0, cells := 0, slots := 0, locals := 0 })
def mJ7_fill_53178 : ev_Y := (yJ7_fill_53178, cJ7_fill_53178, 4, none, { frames := 0, cells := 0, slots := 0, locals := 0 })
def mJ3_checkIndex_8e157 : ev_Y := (yJ3_checkIndex_8e157, cJ3_checkIndex_8e157, 3, some .int, { frames := 0, cells := 0, slots := 0, locals := 0 })
def mL_law : ev_Y := (yL_law, cL_law, 4, some .boolean, room_1)
theorem okX0_look : ev_OkV mX0_look 1 := ⟨⟨(ev_gm (ev_t1 219 rfl) rfl), (ev_gm (ev_t1 4 rfl) rfl), ⟨by decide, by decide, by decide +kernel⟩, rfl, rfl, by decide⟩, (ev_gm (ev_t1 217 rfl) rfl), (ev_gm (ev_t1 218 rfl) rfl)⟩
theorem okX0_landing : ev_OkV mX0_landing 1 := ⟨⟨(ev_gm (ev_t2 125 rfl) rfl), (ev_gm (ev_t1 4 rfl) rfl), ⟨by decide, by decide, by decide +kernel⟩, rfl, rfl, by decide⟩, (ev_gm (ev_t2 123 rfl) rfl), (ev_gm (ev_t2 124 rfl) rfl)⟩
theorem okX0_fearedCells : ev_OkV mX0_fearedCells 0 := ⟨⟨(ev_gm (ev_t2 169 rfl) rfl), (ev_gm (ev_t1 4 rfl) rfl), ⟨by decide, by decide, by decide +kernel⟩, rfl, rfl, by decide⟩, (ev_gm (ev_t2 167 rfl) rfl), (ev_gm (ev_t2 168 rfl) rfl)⟩
theorem okX0_passDays : ev_OkV mX0_passDays 3 := ⟨⟨(ev_gm (ev_t2 134 rfl) rfl), (ev_gm (ev_t1 4 rfl) rfl), ⟨by decide, by decide, by decide +kernel⟩, rfl, rfl, by decide⟩, (ev_gm (ev_t2 132 rfl) rfl), (ev_gm (ev_t2 133 rfl) rfl)⟩
theorem okX0_passDay : ev_OkV mX0_passDay 1 := ⟨⟨(ev_gm (ev_t2 139 rfl) rfl), (ev_gm (ev_t1 4 rfl) rfl), ⟨by decide, by decide, by decide +kernel⟩, rfl, rfl, by decide⟩, (ev_gm (ev_t2 137 rfl) rfl), (ev_gm (ev_t2 138 rfl) rfl)⟩
theorem okX0_renewScares : ev_OkV mX0_renewScares 1 := ⟨⟨(ev_gm (ev_t2 143 rfl) rfl), (ev_gm (ev_t1 4 rfl) rfl), ⟨by decide, by decide, by decide +kernel⟩, rfl, rfl, by decide⟩, (ev_gm (ev_t2 142 rfl) rfl), (ev_gm (ev_t0 8 rfl) rfl)⟩
theorem okX0_takeScares : ev_OkV mX0_takeScares 3 := ⟨⟨(ev_gm (ev_t1 233 rfl) rfl), (ev_gm (ev_t1 4 rfl) rfl), ⟨by decide, by decide, by decide +kernel⟩, rfl, rfl, by decide⟩, (ev_gm (ev_t1 232 rfl) rfl), (ev_gm (ev_t0 1 rfl) rfl)⟩
theorem okX0_weighFears : ev_OkV mX0_weighFears 1 := ⟨⟨(ev_gm (ev_t2 11 rfl) rfl), (ev_gm (ev_t1 4 rfl) rfl), ⟨by decide, by decide, by decide +kernel⟩, rfl, rfl, by decide⟩, (ev_gm (ev_t2 10 rfl) rfl), (ev_gm (ev_t0 3 rfl) rfl)⟩
theorem okX0_fearAt : ev_OkV mX0_fearAt 2 := ⟨⟨(ev_gm (ev_t2 15 rfl) rfl), (ev_gm (ev_t1 4 rfl) rfl), ⟨by decide, by decide, by decide +kernel⟩, rfl, rfl, by decide⟩, (ev_gm (ev_t2 14 rfl) rfl), (ev_gm (ev_t0 4 rfl) rfl)⟩
theorem okX0_growOlder : ev_OkV mX0_growOlder 1 := ⟨⟨(ev_gm (ev_t2 149 rfl) rfl), (ev_gm (ev_t1 4 rfl) rfl), ⟨by decide, by decide, by decide +kernel⟩, rfl, rfl, by decide⟩, (ev_gm (ev_t2 148 rfl) rfl), (ev_gm (ev_t0 9 rfl) rfl)⟩
theorem okX1_isUnder : ev_OkS mX1_isUnder 2 := ⟨⟨(ev_gm (ev_t2 84 rfl) rfl), (ev_gm (ev_t1 8 rfl) rfl), ⟨by decide, by decide, by decide +kernel⟩, rfl, rfl, by decide⟩, (ev_gm (ev_t2 83 rfl) rfl)⟩
theorem okX1_fade : ev_OkS mX1_fade 3 := ⟨⟨(ev_gm (ev_t1 226 rfl) rfl), (ev_gm (ev_t1 8 rfl) rfl), ⟨by decide, by decide, by decide +kernel⟩, rfl, rfl, by decide⟩, (ev_gm (ev_t1 225 rfl) rfl)⟩
theorem okX1_scare : ev_OkS mX1_scare 3 := ⟨⟨(ev_gm (ev_t1 236 rfl) rfl), (ev_gm (ev_t1 8 rfl) rfl), ⟨by decide, by decide, by decide +kernel⟩, rfl, rfl, by decide⟩, (ev_gm (ev_t1 235 rfl) rfl)⟩
theorem okX2_become : ev_OkV mX2_become 1 := ⟨⟨(ev_gm (ev_t2 186 rfl) rfl), (ev_gm (ev_t1 2 rfl) rfl), ⟨by decide, by decide, by decide +kernel⟩, rfl, rfl, by decide⟩, (ev_gm (ev_t2 184 rfl) rfl), (ev_gm (ev_t2 185 rfl) rfl)⟩
theorem okX2_addSitter : ev_OkV mX2_addSitter 1 := ⟨⟨(ev_gm (ev_t2 47 rfl) rfl), (ev_gm (ev_t1 2 rfl) rfl), ⟨by decide, by decide, by decide +kernel⟩, rfl, rfl, by decide⟩, (ev_gm (ev_t2 45 rfl) rfl), (ev_gm (ev_t2 46 rfl) rfl)⟩
theorem okX2_addLikeness : ev_OkV mX2_addLikeness 2 := ⟨⟨(ev_gm (ev_t2 94 rfl) rfl), (ev_gm (ev_t1 2 rfl) rfl), ⟨by decide, by decide, by decide +kernel⟩, rfl, rfl, by decide⟩, (ev_gm (ev_t2 92 rfl) rfl), (ev_gm (ev_t2 93 rfl) rfl)⟩
theorem okX2_keepOnly : ev_OkV mX2_keepOnly 1 := ⟨⟨(ev_gm (ev_t2 234 rfl) rfl), (ev_gm (ev_t1 2 rfl) rfl), ⟨by decide, by decide, by decide +kernel⟩, rfl, rfl, by decide⟩, (ev_gm (ev_t2 232 rfl) rfl), (ev_gm (ev_t2 233 rfl) rfl)⟩
theorem okX2_allLikenesses : ev_OkV mX2_allLikenesses 0 := ⟨⟨(ev_gm (ev_t2 226 rfl) rfl), (ev_gm (ev_t1 2 rfl) rfl), ⟨by decide, by decide, by decide +kernel⟩, rfl, rfl, by decide⟩, (ev_gm (ev_t2 224 rfl) rfl), (ev_gm (ev_t2 225 rfl) rfl)⟩
theorem okX2_likenessesAt : ev_OkV mX2_likenessesAt 1 := ⟨⟨(ev_gm (ev_t2 28 rfl) rfl), (ev_gm (ev_t1 2 rfl) rfl), ⟨by decide, by decide, by decide +kernel⟩, rfl, rfl, by decide⟩, (ev_gm (ev_t2 26 rfl) rfl), (ev_gm (ev_t2 27 rfl) rfl)⟩
theorem okX2_likenessesOf : ev_OkV mX2_likenessesOf 1 := ⟨⟨(ev_gm (ev_t2 59 rfl) rfl), (ev_gm (ev_t1 2 rfl) rfl), ⟨by decide, by decide, by decide +kernel⟩, rfl, rfl, by decide⟩, (ev_gm (ev_t2 57 rfl) rfl), (ev_gm (ev_t2 58 rfl) rfl)⟩
theorem okX2_placesOf : ev_OkV mX2_placesOf 2 := ⟨⟨(ev_gm (ev_t2 32 rfl) rfl), (ev_gm (ev_t1 2 rfl) rfl), ⟨by decide, by decide, by decide +kernel⟩, rfl, rfl, by decide⟩, (ev_gm (ev_t2 31 rfl) rfl), (ev_gm (ev_t0 5 rfl) rfl)⟩
theorem okX2_meetings : ev_OkV mX2_meetings 1 := ⟨⟨(ev_gm (ev_t2 3 rfl) rfl), (ev_gm (ev_t1 2 rfl) rfl), ⟨by decide, by decide, by decide +kernel⟩, rfl, rfl, by decide⟩, (ev_gm (ev_t2 1 rfl) rfl), (ev_gm (ev_t2 2 rfl) rfl)⟩
theorem okX2_isMeeting : ev_OkV mX2_isMeeting 2 := ⟨⟨(ev_gm (ev_t2 7 rfl) rfl), (ev_gm (ev_t1 2 rfl) rfl), ⟨by decide, by decide, by decide +kernel⟩, rfl, rfl, by decide⟩, (ev_gm (ev_t2 6 rfl) rfl), (ev_gm (ev_t0 2 rfl) rfl)⟩
theorem okX2_sittersWhoMeet : ev_OkV mX2_sittersWhoMeet 0 := ⟨⟨(ev_gm (ev_t2 173 rfl) rfl), (ev_gm (ev_t1 2 rfl) rfl), ⟨by decide, by decide, by decide +kernel⟩, rfl, rfl, by decide⟩, (ev_gm (ev_t2 171 rfl) rfl), (ev_gm (ev_t2 172 rfl) rfl)⟩
theorem okX2_feesDue : ev_OkV mX2_feesDue 0 := ⟨⟨(ev_gm (ev_t2 164 rfl) rfl), (ev_gm (ev_t1 2 rfl) rfl), ⟨by decide, by decide, by decide +kernel⟩, rfl, rfl, by decide⟩, (ev_gm (ev_t2 162 rfl) rfl), (ev_gm (ev_t2 163 rfl) rfl)⟩
theorem okX2_wheatOfAll : ev_OkV mX2_wheatOfAll 0 := ⟨⟨(ev_gm (ev_t2 157 rfl) rfl), (ev_gm (ev_t1 2 rfl) rfl), ⟨by decide, by decide, by decide +kernel⟩, rfl, rfl, by decide⟩, (ev_gm (ev_t2 155 rfl) rfl), (ev_gm (ev_t2 156 rfl) rfl)⟩
theorem okX2_temperOfAll : ev_OkV mX2_temperOfAll 0 := ⟨⟨(ev_gm (ev_t3 230 rfl) rfl), (ev_gm (ev_t1 2 rfl) rfl), ⟨by decide, by decide, by decide +kernel⟩, rfl, rfl, by decide⟩, (ev_gm (ev_t3 228 rfl) rfl), (ev_gm (ev_t3 229 rfl) rfl)⟩
theorem okX2_countsFor : ev_OkV mX2_countsFor 1 := ⟨⟨(ev_gm (ev_t1 223 rfl) rfl), (ev_gm (ev_t1 2 rfl) rfl), ⟨by decide, by decide, by decide +kernel⟩, rfl, rfl, by decide⟩, (ev_gm (ev_t1 221 rfl) rfl), (ev_gm (ev_t1 222 rfl) rfl)⟩
theorem okX2_scareOf : ev_OkV mX2_scareOf 2 := ⟨⟨(ev_gm (ev_t2 107 rfl) rfl), (ev_gm (ev_t1 2 rfl) rfl), ⟨by decide, by decide, by decide +kernel⟩, rfl, rfl, by decide⟩, (ev_gm (ev_t2 105 rfl) rfl), (ev_gm (ev_t2 106 rfl) rfl)⟩
theorem okX3_begin : ev_OkV mX3_begin 2 := ⟨⟨(ev_gm (ev_t3 165 rfl) rfl), (ev_gm (ev_t1 6 rfl) rfl), ⟨by decide, by decide, by decide +kernel⟩, rfl, rfl, by decide⟩, (ev_gm (ev_t3 163 rfl) rfl), (ev_gm (ev_t3 164 rfl) rfl)⟩
theorem okX3_isMissing : ev_OkV mX3_isMissing 0 := ⟨⟨(ev_gm (ev_t3 176 rfl) rfl), (ev_gm (ev_t1 6 rfl) rfl), ⟨by decide, by decide, by decide +kernel⟩, rfl, rfl, by decide⟩, (ev_gm (ev_t3 174 rfl) rfl), (ev_gm (ev_t3 175 rfl) rfl)⟩
theorem okX3_hasRun : ev_OkV mX3_hasRun 2 := ⟨⟨(ev_gm (ev_t3 192 rfl) rfl), (ev_gm (ev_t1 6 rfl) rfl), ⟨by decide, by decide, by decide +kernel⟩, rfl, rfl, by decide⟩, (ev_gm (ev_t3 190 rfl) rfl), (ev_gm (ev_t3 191 rfl) rfl)⟩
theorem okX3_put : ev_OkV mX3_put 2 := ⟨⟨(ev_gm (ev_t3 180 rfl) rfl), (ev_gm (ev_t1 6 rfl) rfl), ⟨by decide, by decide, by decide +kernel⟩, rfl, rfl, by decide⟩, (ev_gm (ev_t3 178 rfl) rfl), (ev_gm (ev_t3 179 rfl) rfl)⟩
theorem okX3_cut : ev_OkV mX3_cut 1 := ⟨⟨(ev_gm (ev_t3 184 rfl) rfl), (ev_gm (ev_t1 6 rfl) rfl), ⟨by decide, by decide, by decide +kernel⟩, rfl, rfl, by decide⟩, (ev_gm (ev_t3 183 rfl) rfl), (ev_gm (ev_t0 26 rfl) rfl)⟩
theorem okX4_add : ev_OkV mX4_add 1 := ⟨⟨(ev_gm (ev_t3 19 rfl) rfl), (ev_gm (ev_t1 5 rfl) rfl), ⟨by decide, by decide, by decide +kernel⟩, rfl, rfl, by decide⟩, (ev_gm (ev_t3 17 rfl) rfl), (ev_gm (ev_t3 18 rfl) rfl)⟩
theorem okX4_parse : ev_OkV mX4_parse 1 := ⟨⟨(ev_gm (ev_t3 31 rfl) rfl), (ev_gm (ev_t1 5 rfl) rfl), ⟨by decide, by decide, by decide +kernel⟩, rfl, rfl, by decide⟩, (ev_gm (ev_t3 29 rfl) rfl), (ev_gm (ev_t3 30 rfl) rfl)⟩
theorem okX4_takeItem : ev_OkV mX4_takeItem 1 := ⟨⟨(ev_gm (ev_t3 54 rfl) rfl), (ev_gm (ev_t1 5 rfl) rfl), ⟨by decide, by decide, by decide +kernel⟩, rfl, rfl, by decide⟩, (ev_gm (ev_t3 53 rfl) rfl), (ev_gm (ev_t0 17 rfl) rfl)⟩
theorem okX4_takeSitter : ev_OkV mX4_takeSitter 2 := ⟨⟨(ev_gm (ev_t3 123 rfl) rfl), (ev_gm (ev_t1 5 rfl) rfl), ⟨by decide, by decide, by decide +kernel⟩, rfl, rfl, by decide⟩, (ev_gm (ev_t3 122 rfl) rfl), (ev_gm (ev_t0 20 rfl) rfl)⟩
theorem okX4_takeLikeness : ev_OkV mX4_takeLikeness 1 := ⟨⟨(ev_gm (ev_t3 140 rfl) rfl), (ev_gm (ev_t1 5 rfl) rfl), ⟨by decide, by decide, by decide +kernel⟩, rfl, rfl, by decide⟩, (ev_gm (ev_t3 139 rfl) rfl), (ev_gm (ev_t0 23 rfl) rfl)⟩
theorem okX4_takeWheat : ev_OkV mX4_takeWheat 1 := ⟨⟨(ev_gm (ev_t3 147 rfl) rfl), (ev_gm (ev_t1 5 rfl) rfl), ⟨by decide, by decide, by decide +kernel⟩, rfl, rfl, by decide⟩, (ev_gm (ev_t3 146 rfl) rfl), (ev_gm (ev_t0 24 rfl) rfl)⟩
theorem okX4_takeCrows : ev_OkV mX4_takeCrows 1 := ⟨⟨(ev_gm (ev_t3 153 rfl) rfl), (ev_gm (ev_t1 5 rfl) rfl), ⟨by decide, by decide, by decide +kernel⟩, rfl, rfl, by decide⟩, (ev_gm (ev_t3 152 rfl) rfl), (ev_gm (ev_t0 25 rfl) rfl)⟩
theorem okX4_takeWord : ev_OkV mX4_takeWord 1 := ⟨⟨(ev_gm (ev_t3 129 rfl) rfl), (ev_gm (ev_t1 5 rfl) rfl), ⟨by decide, by decide, by decide +kernel⟩, rfl, rfl, by decide⟩, (ev_gm (ev_t3 128 rfl) rfl), (ev_gm (ev_t0 21 rfl) rfl)⟩
theorem okX4_takeNumber : ev_OkV mX4_takeNumber 2 := ⟨⟨(ev_gm (ev_t3 133 rfl) rfl), (ev_gm (ev_t1 5 rfl) rfl), ⟨by decide, by decide, by decide +kernel⟩, rfl, rfl, by decide⟩, (ev_gm (ev_t3 132 rfl) rfl), (ev_gm (ev_t0 22 rfl) rfl)⟩
theorem okX4_kindNamed : ev_OkV mX4_kindNamed 0 := ⟨⟨(ev_gm (ev_t3 58 rfl) rfl), (ev_gm (ev_t1 5 rfl) rfl), ⟨by decide, by decide, by decide +kernel⟩, rfl, rfl, by decide⟩, (ev_gm (ev_t3 57 rfl) rfl), (ev_gm (ev_t0 18 rfl) rfl)⟩
theorem okX4_nameOf : ev_OkS mX4_nameOf 1 := ⟨⟨(ev_gm (ev_t3 61 rfl) rfl), (ev_gm (ev_t1 5 rfl) rfl), ⟨by decide, by decide, by decide +kernel⟩, rfl, rfl, by decide⟩, (ev_gm (ev_t3 60 rfl) rfl)⟩
theorem okX4_isWord : ev_OkV mX4_isWord 1 := ⟨⟨(ev_gm (ev_t3 71 rfl) rfl), (ev_gm (ev_t1 5 rfl) rfl), ⟨by decide, by decide, by decide +kernel⟩, rfl, rfl, by decide⟩, (ev_gm (ev_t3 70 rfl) rfl), (ev_gm (ev_t0 19 rfl) rfl)⟩
theorem okX4_advance : ev_OkV mX4_advance 0 := ⟨⟨(ev_gm (ev_t3 35 rfl) rfl), (ev_gm (ev_t1 5 rfl) rfl), ⟨by decide, by decide, by decide +kernel⟩, rfl, rfl, by decide⟩, (ev_gm (ev_t3 34 rfl) rfl), (ev_gm (ev_t0 14 rfl) rfl)⟩
theorem okX4_passLetters : ev_OkV mX4_passLetters 0 := ⟨⟨(ev_gm (ev_t3 42 rfl) rfl), (ev_gm (ev_t1 5 rfl) rfl), ⟨by decide, by decide, by decide +kernel⟩, rfl, rfl, by decide⟩, (ev_gm (ev_t3 41 rfl) rfl), (ev_gm (ev_t0 15 rfl) rfl)⟩
theorem okX4_passDigits : ev_OkV mX4_passDigits 0 := ⟨⟨(ev_gm (ev_t3 49 rfl) rfl), (ev_gm (ev_t1 5 rfl) rfl), ⟨by decide, by decide, by decide +kernel⟩, rfl, rfl, by decide⟩, (ev_gm (ev_t3 48 rfl) rfl), (ev_gm (ev_t0 16 rfl) rfl)⟩
theorem okX4_isLetter : ev_OkS mX4_isLetter 1 := ⟨⟨(ev_gm (ev_t3 38 rfl) rfl), (ev_gm (ev_t1 5 rfl) rfl), ⟨by decide, by decide, by decide +kernel⟩, rfl, rfl, by decide⟩, (ev_gm (ev_t3 37 rfl) rfl)⟩
theorem okX4_isDigit : ev_OkS mX4_isDigit 1 := ⟨⟨(ev_gm (ev_t3 45 rfl) rfl), (ev_gm (ev_t1 5 rfl) rfl), ⟨by decide, by decide, by decide +kernel⟩, rfl, rfl, by decide⟩, (ev_gm (ev_t3 44 rfl) rfl)⟩
theorem okX5_wheat : ev_OkV mX5_wheat 2 := ⟨⟨(ev_gm (ev_t1 200 rfl) rfl), (ev_gm (ev_t1 1 rfl) rfl), ⟨by decide, by decide, by decide +kernel⟩, rfl, rfl, by decide⟩, (ev_gm (ev_t1 198 rfl) rfl), (ev_gm (ev_t1 199 rfl) rfl)⟩
theorem okX5_cell : ev_OkV mX5_cell 2 := ⟨⟨(ev_gm (ev_t1 215 rfl) rfl), (ev_gm (ev_t1 1 rfl) rfl), ⟨by decide, by decide, by decide +kernel⟩, rfl, rfl, by decide⟩, (ev_gm (ev_t1 213 rfl) rfl), (ev_gm (ev_t1 214 rfl) rfl)⟩
theorem okX5_crows : ev_OkV mX5_crows 1 := ⟨⟨(ev_gm (ev_t2 36 rfl) rfl), (ev_gm (ev_t1 1 rfl) rfl), ⟨by decide, by decide, by decide +kernel⟩, rfl, rfl, by decide⟩, (ev_gm (ev_t2 34 rfl) rfl), (ev_gm (ev_t2 35 rfl) rfl)⟩
theorem okX5_sitter : ev_OkV mX5_sitter 1 := ⟨⟨(ev_gm (ev_t2 40 rfl) rfl), (ev_gm (ev_t1 1 rfl) rfl), ⟨by decide, by decide, by decide +kernel⟩, rfl, rfl, by decide⟩, (ev_gm (ev_t2 38 rfl) rfl), (ev_gm (ev_t2 39 rfl) rfl)⟩
theorem okX5_of : ev_OkV mX5_of 2 := ⟨⟨(ev_gm (ev_t2 51 rfl) rfl), (ev_gm (ev_t1 1 rfl) rfl), ⟨by decide, by decide, by decide +kernel⟩, rfl, rfl, by decide⟩, (ev_gm (ev_t2 49 rfl) rfl), (ev_gm (ev_t2 50 rfl) rfl)⟩
theorem okX5_set : ev_OkV mX5_set 3 := ⟨⟨(ev_gm (ev_t2 70 rfl) rfl), (ev_gm (ev_t1 1 rfl) rfl), ⟨by decide, by decide, by decide +kernel⟩, rfl, rfl, by decide⟩, (ev_gm (ev_t2 68 rfl) rfl), (ev_gm (ev_t2 69 rfl) rfl)⟩
theorem okX5_turn : ev_OkV mX5_turn 2 := ⟨⟨(ev_gm (ev_t2 77 rfl) rfl), (ev_gm (ev_t1 1 rfl) rfl), ⟨by decide, by decide, by decide +kernel⟩, rfl, rfl, by decide⟩, (ev_gm (ev_t2 75 rfl) rfl), (ev_gm (ev_t2 76 rfl) rfl)⟩
theorem okX5_as : ev_OkV mX5_as 2 := ⟨⟨(ev_gm (ev_t2 81 rfl) rfl), (ev_gm (ev_t1 1 rfl) rfl), ⟨by decide, by decide, by decide +kernel⟩, rfl, rfl, by decide⟩, (ev_gm (ev_t2 79 rfl) rfl), (ev_gm (ev_t2 80 rfl) rfl)⟩
theorem okX5_likeness : ev_OkV mX5_likeness 2 := ⟨⟨(ev_gm (ev_t2 90 rfl) rfl), (ev_gm (ev_t1 1 rfl) rfl), ⟨by decide, by decide, by decide +kernel⟩, rfl, rfl, by decide⟩, (ev_gm (ev_t2 88 rfl) rfl), (ev_gm (ev_t2 89 rfl) rfl)⟩
theorem okX5_told : ev_OkV mX5_told 2 := ⟨⟨(ev_gm (ev_t2 98 rfl) rfl), (ev_gm (ev_t1 1 rfl) rfl), ⟨by decide, by decide, by decide +kernel⟩, rfl, rfl, by decide⟩, (ev_gm (ev_t2 96 rfl) rfl), (ev_gm (ev_t2 97 rfl) rfl)⟩
theorem okX5_place : ev_OkV mX5_place 3 := ⟨⟨(ev_gm (ev_t2 113 rfl) rfl), (ev_gm (ev_t1 1 rfl) rfl), ⟨by decide, by decide, by decide +kernel⟩, rfl, rfl, by decide⟩, (ev_gm (ev_t2 111 rfl) rfl), (ev_gm (ev_t2 112 rfl) rfl)⟩
theorem okX5_scares : ev_OkV mX5_scares 2 := ⟨⟨(ev_gm (ev_t2 117 rfl) rfl), (ev_gm (ev_t1 1 rfl) rfl), ⟨by decide, by decide, by decide +kernel⟩, rfl, rfl, by decide⟩, (ev_gm (ev_t2 115 rfl) rfl), (ev_gm (ev_t2 116 rfl) rfl)⟩
theorem okX5_lands : ev_OkV mX5_lands 0 := ⟨⟨(ev_gm (ev_t2 121 rfl) rfl), (ev_gm (ev_t1 1 rfl) rfl), ⟨by decide, by decide, by decide +kernel⟩, rfl, rfl, by decide⟩, (ev_gm (ev_t2 119 rfl) rfl), (ev_gm (ev_t2 120 rfl) rfl)⟩
theorem okX5_days : ev_OkV mX5_days 1 := ⟨⟨(ev_gm (ev_t2 129 rfl) rfl), (ev_gm (ev_t1 1 rfl) rfl), ⟨by decide, by decide, by decide +kernel⟩, rfl, rfl, by decide⟩, (ev_gm (ev_t2 127 rfl) rfl), (ev_gm (ev_t2 128 rfl) rfl)⟩
theorem okX5_now : ev_OkV mX5_now 1 := ⟨⟨(ev_gm (ev_t2 153 rfl) rfl), (ev_gm (ev_t1 1 rfl) rfl), ⟨by decide, by decide, by decide +kernel⟩, rfl, rfl, by decide⟩, (ev_gm (ev_t2 151 rfl) rfl), (ev_gm (ev_t2 152 rfl) rfl)⟩
theorem okX5_on : ev_OkV mX5_on 2 := ⟨⟨(ev_gm (ev_t2 178 rfl) rfl), (ev_gm (ev_t1 1 rfl) rfl), ⟨by decide, by decide, by decide +kernel⟩, rfl, rfl, by decide⟩, (ev_gm (ev_t2 176 rfl) rfl), (ev_gm (ev_t2 177 rfl) rfl)⟩
theorem okX5_eaten : ev_OkV mX5_eaten 1 := ⟨⟨(ev_gm (ev_t2 193 rfl) rfl), (ev_gm (ev_t1 1 rfl) rfl), ⟨by decide, by decide, by decide +kernel⟩, rfl, rfl, by decide⟩, (ev_gm (ev_t2 191 rfl) rfl), (ev_gm (ev_t2 192 rfl) rfl)⟩
theorem okX5_first : ev_OkV mX5_first 1 := ⟨⟨(ev_gm (ev_t2 197 rfl) rfl), (ev_gm (ev_t1 1 rfl) rfl), ⟨by decide, by decide, by decide +kernel⟩, rfl, rfl, by decide⟩, (ev_gm (ev_t2 195 rfl) rfl), (ev_gm (ev_t2 196 rfl) rfl)⟩
theorem okX5_spot : ev_OkV mX5_spot 2 := ⟨⟨(ev_gm (ev_t2 202 rfl) rfl), (ev_gm (ev_t1 1 rfl) rfl), ⟨by decide, by decide, by decide +kernel⟩, rfl, rfl, by decide⟩, (ev_gm (ev_t2 200 rfl) rfl), (ev_gm (ev_t2 201 rfl) rfl)⟩
theorem okX5_whose : ev_OkV mX5_whose 2 := ⟨⟨(ev_gm (ev_t2 210 rfl) rfl), (ev_gm (ev_t1 1 rfl) rfl), ⟨by decide, by decide, by decide +kernel⟩, rfl, rfl, by decide⟩, (ev_gm (ev_t2 208 rfl) rfl), (ev_gm (ev_t2 209 rfl) rfl)⟩
theorem okX5_kind : ev_OkV mX5_kind 2 := ⟨⟨(ev_gm (ev_t2 214 rfl) rfl), (ev_gm (ev_t1 1 rfl) rfl), ⟨by decide, by decide, by decide +kernel⟩, rfl, rfl, by decide⟩, (ev_gm (ev_t2 212 rfl) rfl), (ev_gm (ev_t2 213 rfl) rfl)⟩
theorem okX5_temper : ev_OkV mX5_temper 2 := ⟨⟨(ev_gm (ev_t2 218 rfl) rfl), (ev_gm (ev_t1 1 rfl) rfl), ⟨by decide, by decide, by decide +kernel⟩, rfl, rfl, by decide⟩, (ev_gm (ev_t2 216 rfl) rfl), (ev_gm (ev_t2 217 rfl) rfl)⟩
theorem okX5_keep : ev_OkV mX5_keep 1 := ⟨⟨(ev_gm (ev_t2 222 rfl) rfl), (ev_gm (ev_t1 1 rfl) rfl), ⟨by decide, by decide, by decide +kernel⟩, rfl, rfl, by decide⟩, (ev_gm (ev_t2 220 rfl) rfl), (ev_gm (ev_t2 221 rfl) rfl)⟩
theorem okX5_worth : ev_OkV mX5_worth 1 := ⟨⟨(ev_gm (ev_t2 238 rfl) rfl), (ev_gm (ev_t1 1 rfl) rfl), ⟨by decide, by decide, by decide +kernel⟩, rfl, rfl, by decide⟩, (ev_gm (ev_t2 236 rfl) rfl), (ev_gm (ev_t2 237 rfl) rfl)⟩
theorem okX5_apart : ev_OkV mX5_apart 1 := ⟨⟨(ev_gm (ev_t3 2 rfl) rfl), (ev_gm (ev_t1 1 rfl) rfl), ⟨by decide, by decide, by decide +kernel⟩, rfl, rfl, by decide⟩, (ev_gm (ev_t3 0 rfl) rfl), (ev_gm (ev_t3 1 rfl) rfl)⟩
theorem okX5_swap : ev_OkV mX5_swap 1 := ⟨⟨(ev_gm (ev_t3 7 rfl) rfl), (ev_gm (ev_t1 1 rfl) rfl), ⟨by decide, by decide, by decide +kernel⟩, rfl, rfl, by decide⟩, (ev_gm (ev_t3 5 rfl) rfl), (ev_gm (ev_t3 6 rfl) rfl)⟩
theorem okX5_feed : ev_OkV mX5_feed 2 := ⟨⟨(ev_gm (ev_t3 15 rfl) rfl), (ev_gm (ev_t1 1 rfl) rfl), ⟨by decide, by decide, by decide +kernel⟩, rfl, rfl, by decide⟩, (ev_gm (ev_t3 13 rfl) rfl), (ev_gm (ev_t3 14 rfl) rfl)⟩
theorem okX5_wipe : ev_OkV mX5_wipe 0 := ⟨⟨(ev_gm (ev_t3 23 rfl) rfl), (ev_gm (ev_t1 1 rfl) rfl), ⟨by decide, by decide, by decide +kernel⟩, rfl, rfl, by decide⟩, (ev_gm (ev_t3 21 rfl) rfl), (ev_gm (ev_t3 22 rfl) rfl)⟩
theorem okX5_plain : ev_OkV mX5_plain 0 := ⟨⟨(ev_gm (ev_t3 27 rfl) rfl), (ev_gm (ev_t1 1 rfl) rfl), ⟨by decide, by decide, by decide +kernel⟩, rfl, rfl, by decide⟩, (ev_gm (ev_t3 25 rfl) rfl), (ev_gm (ev_t3 26 rfl) rfl)⟩
theorem okX5_sheet : ev_OkV mX5_sheet 3 := ⟨⟨(ev_gm (ev_t3 158 rfl) rfl), (ev_gm (ev_t1 1 rfl) rfl), ⟨by decide, by decide, by decide +kernel⟩, rfl, rfl, by decide⟩, (ev_gm (ev_t3 156 rfl) rfl), (ev_gm (ev_t3 157 rfl) rfl)⟩
theorem okX5_write : ev_OkV mX5_write 3 := ⟨⟨(ev_gm (ev_t3 172 rfl) rfl), (ev_gm (ev_t1 1 rfl) rfl), ⟨by decide, by decide, by decide +kernel⟩, rfl, rfl, by decide⟩, (ev_gm (ev_t3 170 rfl) rfl), (ev_gm (ev_t3 171 rfl) rfl)⟩
theorem okX5_copy : ev_OkV mX5_copy 5 := ⟨⟨(ev_gm (ev_t3 188 rfl) rfl), (ev_gm (ev_t1 1 rfl) rfl), ⟨by decide, by decide, by decide +kernel⟩, rfl, rfl, by decide⟩, (ev_gm (ev_t3 186 rfl) rfl), (ev_gm (ev_t3 187 rfl) rfl)⟩
theorem okX5_lays : ev_OkV mX5_lays 1 := ⟨⟨(ev_gm (ev_t3 197 rfl) rfl), (ev_gm (ev_t1 1 rfl) rfl), ⟨by decide, by decide, by decide +kernel⟩, rfl, rfl, by decide⟩, (ev_gm (ev_t3 195 rfl) rfl), (ev_gm (ev_t3 196 rfl) rfl)⟩
theorem okX5_book : ev_OkV mX5_book 1 := ⟨⟨(ev_gm (ev_t3 202 rfl) rfl), (ev_gm (ev_t1 1 rfl) rfl), ⟨by decide, by decide, by decide +kernel⟩, rfl, rfl, by decide⟩, (ev_gm (ev_t3 200 rfl) rfl), (ev_gm (ev_t3 201 rfl) rfl)⟩
theorem okX5_read : ev_OkV mX5_read 2 := ⟨⟨(ev_gm (ev_t3 206 rfl) rfl), (ev_gm (ev_t1 1 rfl) rfl), ⟨by decide, by decide, by decide +kernel⟩, rfl, rfl, by decide⟩, (ev_gm (ev_t3 204 rfl) rfl), (ev_gm (ev_t3 205 rfl) rfl)⟩
theorem okX5_image : ev_OkV mX5_image 0 := ⟨⟨(ev_gm (ev_t3 214 rfl) rfl), (ev_gm (ev_t1 1 rfl) rfl), ⟨by decide, by decide, by decide +kernel⟩, rfl, rfl, by decide⟩, (ev_gm (ev_t3 212 rfl) rfl), (ev_gm (ev_t3 213 rfl) rfl)⟩
theorem okX5_undo : ev_OkV mX5_undo 0 := ⟨⟨(ev_gm (ev_t3 218 rfl) rfl), (ev_gm (ev_t1 1 rfl) rfl), ⟨by decide, by decide, by decide +kernel⟩, rfl, rfl, by decide⟩, (ev_gm (ev_t3 216 rfl) rfl), (ev_gm (ev_t3 217 rfl) rfl)⟩
theorem okX5_tear : ev_OkV mX5_tear 0 := ⟨⟨(ev_gm (ev_t3 222 rfl) rfl), (ev_gm (ev_t1 1 rfl) rfl), ⟨by decide, by decide, by decide +kernel⟩, rfl, rfl, by decide⟩, (ev_gm (ev_t3 220 rfl) rfl), (ev_gm (ev_t3 221 rfl) rfl)⟩
theorem okX5_count : ev_OkV mX5_count 1 := ⟨⟨(ev_gm (ev_t3 226 rfl) rfl), (ev_gm (ev_t1 1 rfl) rfl), ⟨by decide, by decide, by decide +kernel⟩, rfl, rfl, by decide⟩, (ev_gm (ev_t3 224 rfl) rfl), (ev_gm (ev_t3 225 rfl) rfl)⟩
theorem okX5_status : ev_OkV mX5_status 1 := ⟨⟨(ev_gm (ev_t3 234 rfl) rfl), (ev_gm (ev_t1 1 rfl) rfl), ⟨by decide, by decide, by decide +kernel⟩, rfl, rfl, by decide⟩, (ev_gm (ev_t3 232 rfl) rfl), (ev_gm (ev_t3 233 rfl) rfl)⟩
theorem okX5_finding : ev_OkV mX5_finding 1 := ⟨⟨(ev_gm (ev_t1 210 rfl) rfl), (ev_gm (ev_t1 1 rfl) rfl), ⟨by decide, by decide, by decide +kernel⟩, rfl, rfl, by decide⟩, (ev_gm (ev_t1 209 rfl) rfl), (ev_gm (ev_t0 0 rfl) rfl)⟩
theorem okX5_isSitter : ev_OkV mX5_isSitter 1 := ⟨⟨(ev_gm (ev_t2 55 rfl) rfl), (ev_gm (ev_t1 1 rfl) rfl), ⟨by decide, by decide, by decide +kernel⟩, rfl, rfl, by decide⟩, (ev_gm (ev_t2 54 rfl) rfl), (ev_gm (ev_t0 6 rfl) rfl)⟩
theorem okX5_isLikeness : ev_OkV mX5_isLikeness 1 := ⟨⟨(ev_gm (ev_t2 102 rfl) rfl), (ev_gm (ev_t1 1 rfl) rfl), ⟨by decide, by decide, by decide +kernel⟩, rfl, rfl, by decide⟩, (ev_gm (ev_t2 101 rfl) rfl), (ev_gm (ev_t0 7 rfl) rfl)⟩
theorem okX5_eatenAsItIs : ev_OkV mX5_eatenAsItIs 1 := ⟨⟨(ev_gm (ev_t2 182 rfl) rfl), (ev_gm (ev_t1 1 rfl) rfl), ⟨by decide, by decide, by decide +kernel⟩, rfl, rfl, by decide⟩, (ev_gm (ev_t2 181 rfl) rfl), (ev_gm (ev_t0 10 rfl) rfl)⟩
theorem okX5_eatenWith : ev_OkV mX5_eatenWith 3 := ⟨⟨(ev_gm (ev_t2 230 rfl) rfl), (ev_gm (ev_t1 1 rfl) rfl), ⟨by decide, by decide, by decide +kernel⟩, rfl, rfl, by decide⟩, (ev_gm (ev_t2 229 rfl) rfl), (ev_gm (ev_t0 12 rfl) rfl)⟩
theorem okX5_eatenSwapped : ev_OkV mX5_eatenSwapped 4 := ⟨⟨(ev_gm (ev_t3 11 rfl) rfl), (ev_gm (ev_t1 1 rfl) rfl), ⟨by decide, by decide, by decide +kernel⟩, rfl, rfl, by decide⟩, (ev_gm (ev_t3 10 rfl) rfl), (ev_gm (ev_t0 13 rfl) rfl)⟩
theorem okX5_bestChoice : ev_OkV mX5_bestChoice 4 := ⟨⟨(ev_gm (ev_t2 206 rfl) rfl), (ev_gm (ev_t1 1 rfl) rfl), ⟨by decide, by decide, by decide +kernel⟩, rfl, rfl, by decide⟩, (ev_gm (ev_t2 205 rfl) rfl), (ev_gm (ev_t0 11 rfl) rfl)⟩
theorem okX5_trialGoesAs : ev_OkV mX5_trialGoesAs 1 := ⟨⟨(ev_gm (ev_t3 210 rfl) rfl), (ev_gm (ev_t1 1 rfl) rfl), ⟨by decide, by decide, by decide +kernel⟩, rfl, rfl, by decide⟩, (ev_gm (ev_t3 209 rfl) rfl), (ev_gm (ev_t0 27 rfl) rfl)⟩
theorem okX5_isWithin : ev_OkS mX5_isWithin 3 := ⟨⟨(ev_gm (ev_t1 206 rfl) rfl), (ev_gm (ev_t1 1 rfl) rfl), ⟨by decide, by decide, by decide +kernel⟩, rfl, rfl, by decide⟩, (ev_gm (ev_t1 205 rfl) rfl)⟩
theorem okX5_isCell : ev_OkS mX5_isCell 1 := ⟨⟨(ev_gm (ev_t1 203 rfl) rfl), (ev_gm (ev_t1 1 rfl) rfl), ⟨by decide, by decide, by decide +kernel⟩, rfl, rfl, by decide⟩, (ev_gm (ev_t1 202 rfl) rfl)⟩
theorem okX5_isKind : ev_OkS mX5_isKind 1 := ⟨⟨(ev_gm (ev_t2 43 rfl) rfl), (ev_gm (ev_t1 1 rfl) rfl), ⟨by decide, by decide, by decide +kernel⟩, rfl, rfl, by decide⟩, (ev_gm (ev_t2 42 rfl) rfl)⟩
theorem okX5_isSheet : ev_OkS mX5_isSheet 1 := ⟨⟨(ev_gm (ev_t3 161 rfl) rfl), (ev_gm (ev_t1 1 rfl) rfl), ⟨by decide, by decide, by decide +kernel⟩, rfl, rfl, by decide⟩, (ev_gm (ev_t3 160 rfl) rfl)⟩
theorem okX5_exchange : ev_OkS mX5_exchange 3 := ⟨⟨(ev_gm (ev_t2 73 rfl) rfl), (ev_gm (ev_t1 1 rfl) rfl), ⟨by decide, by decide, by decide +kernel⟩, rfl, rfl, by decide⟩, (ev_gm (ev_t2 72 rfl) rfl)⟩
theorem okX5_sumOf : ev_OkS mX5_sumOf 2 := ⟨⟨(ev_gm (ev_t2 160 rfl) rfl), (ev_gm (ev_t1 1 rfl) rfl), ⟨by decide, by decide, by decide +kernel⟩, rfl, rfl, by decide⟩, (ev_gm (ev_t2 159 rfl) rfl)⟩
theorem okX5_distanceOf : ev_OkS mX5_distanceOf 2 := ⟨⟨(ev_gm (ev_t2 20 rfl) rfl), (ev_gm (ev_t1 1 rfl) rfl), ⟨by decide, by decide, by decide +kernel⟩, rfl, rfl, by decide⟩, (ev_gm (ev_t2 19 rfl) rfl)⟩
theorem okX6_in : ev_OkS mX6_in 3 := ⟨⟨(ev_gm (ev_t4 73 rfl) rfl), (ev_gm (ev_t1 7 rfl) rfl), ⟨by decide, by decide, by decide +kernel⟩, rfl, rfl, by decide⟩, (ev_gm (ev_t4 72 rfl) rfl)⟩
theorem okX6_finds : ev_OkV mX6_finds 1 := ⟨⟨(ev_gm (ev_t4 83 rfl) rfl), (ev_gm (ev_t1 7 rfl) rfl), ⟨by decide, by decide, by decide +kernel⟩, rfl, rfl, by decide⟩, (ev_gm (ev_t4 82 rfl) rfl), (ev_gm (ev_t0 29 rfl) rfl)⟩
theorem okX6_saves : ev_OkV mX6_saves 0 := ⟨⟨(ev_gm (ev_t5 112 rfl) rfl), (ev_gm (ev_t1 7 rfl) rfl), ⟨by decide, by decide, by decide +kernel⟩, rfl, rfl, by decide⟩, (ev_gm (ev_t5 111 rfl) rfl), (ev_gm (ev_t0 59 rfl) rfl)⟩
theorem okX6_putsBack : ev_OkV mX6_putsBack 0 := ⟨⟨(ev_gm (ev_t5 181 rfl) rfl), (ev_gm (ev_t1 7 rfl) rfl), ⟨by decide, by decide, by decide +kernel⟩, rfl, rfl, by decide⟩, (ev_gm (ev_t5 180 rfl) rfl), (ev_gm (ev_t0 70 rfl) rfl)⟩
theorem okX6_laysAside : ev_OkV mX6_laysAside 0 := ⟨⟨(ev_gm (ev_t5 29 rfl) rfl), (ev_gm (ev_t1 7 rfl) rfl), ⟨by decide, by decide, by decide +kernel⟩, rfl, rfl, by decide⟩, (ev_gm (ev_t5 28 rfl) rfl), (ev_gm (ev_t0 53 rfl) rfl)⟩
theorem okX6_takesBack : ev_OkV mX6_takesBack 1 := ⟨⟨(ev_gm (ev_t5 33 rfl) rfl), (ev_gm (ev_t1 7 rfl) rfl), ⟨by decide, by decide, by decide +kernel⟩, rfl, rfl, by decide⟩, (ev_gm (ev_t5 32 rfl) rfl), (ev_gm (ev_t0 54 rfl) rfl)⟩
theorem okX6_becomes : ev_OkV mX6_becomes 2 := ⟨⟨(ev_gm (ev_t4 78 rfl) rfl), (ev_gm (ev_t1 7 rfl) rfl), ⟨by decide, by decide, by decide +kernel⟩, rfl, rfl, by decide⟩, (ev_gm (ev_t4 77 rfl) rfl), (ev_gm (ev_t0 28 rfl) rfl)⟩
theorem okX6_isCell : ev_OkS mX6_isCell 1 := ⟨⟨(ev_gm (ev_t4 69 rfl) rfl), (ev_gm (ev_t1 7 rfl) rfl), ⟨by decide, by decide, by decide +kernel⟩, rfl, rfl, by decide⟩, (ev_gm (ev_t4 68 rfl) rfl)⟩
theorem okX6_isSitter : ev_OkV mX6_isSitter 1 := ⟨⟨(ev_gm (ev_t4 154 rfl) rfl), (ev_gm (ev_t1 7 rfl) rfl), ⟨by decide, by decide, by decide +kernel⟩, rfl, rfl, by decide⟩, (ev_gm (ev_t4 153 rfl) rfl), (ev_gm (ev_t0 38 rfl) rfl)⟩
theorem okX6_isLikeness : ev_OkV mX6_isLikeness 1 := ⟨⟨(ev_gm (ev_t4 199 rfl) rfl), (ev_gm (ev_t1 7 rfl) rfl), ⟨by decide, by decide, by decide +kernel⟩, rfl, rfl, by decide⟩, (ev_gm (ev_t4 198 rfl) rfl), (ev_gm (ev_t0 43 rfl) rfl)⟩
theorem okX6_isKind : ev_OkS mX6_isKind 1 := ⟨⟨(ev_gm (ev_t4 140 rfl) rfl), (ev_gm (ev_t1 7 rfl) rfl), ⟨by decide, by decide, by decide +kernel⟩, rfl, rfl, by decide⟩, (ev_gm (ev_t4 139 rfl) rfl)⟩
theorem okX6_spotOf : ev_OkS mX6_spotOf 2 := ⟨⟨(ev_gm (ev_t4 121 rfl) rfl), (ev_gm (ev_t1 7 rfl) rfl), ⟨by decide, by decide, by decide +kernel⟩, rfl, rfl, by decide⟩, (ev_gm (ev_t4 120 rfl) rfl)⟩
theorem okX6_its : ev_OkV mX6_its 2 := ⟨⟨(ev_gm (ev_t4 118 rfl) rfl), (ev_gm (ev_t1 7 rfl) rfl), ⟨by decide, by decide, by decide +kernel⟩, rfl, rfl, by decide⟩, (ev_gm (ev_t4 117 rfl) rfl), (ev_gm (ev_t0 35 rfl) rfl)⟩
theorem okX6_placeOf : ev_OkS mX6_placeOf 2 := ⟨⟨(ev_gm (ev_t4 99 rfl) rfl), (ev_gm (ev_t1 7 rfl) rfl), ⟨by decide, by decide, by decide +kernel⟩, rfl, rfl, by decide⟩, (ev_gm (ev_t4 98 rfl) rfl)⟩
theorem okX6_likes : ev_OkV mX6_likes 2 := ⟨⟨(ev_gm (ev_t4 96 rfl) rfl), (ev_gm (ev_t1 7 rfl) rfl), ⟨by decide, by decide, by decide +kernel⟩, rfl, rfl, by decide⟩, (ev_gm (ev_t4 95 rfl) rfl), (ev_gm (ev_t0 31 rfl) rfl)⟩
theorem okX6_isThere : ev_OkV mX6_isThere 1 := ⟨⟨(ev_gm (ev_t4 103 rfl) rfl), (ev_gm (ev_t1 7 rfl) rfl), ⟨by decide, by decide, by decide +kernel⟩, rfl, rfl, by decide⟩, (ev_gm (ev_t4 102 rfl) rfl), (ev_gm (ev_t0 32 rfl) rfl)⟩
theorem okX6_far : ev_OkS mX6_far 2 := ⟨⟨(ev_gm (ev_t4 106 rfl) rfl), (ev_gm (ev_t1 7 rfl) rfl), ⟨by decide, by decide, by decide +kernel⟩, rfl, rfl, by decide⟩, (ev_gm (ev_t4 105 rfl) rfl)⟩
theorem okX6_counts : ev_OkV mX6_counts 1 := ⟨⟨(ev_gm (ev_t4 114 rfl) rfl), (ev_gm (ev_t1 7 rfl) rfl), ⟨by decide, by decide, by decide +kernel⟩, rfl, rfl, by decide⟩, (ev_gm (ev_t4 113 rfl) rfl), (ev_gm (ev_t0 34 rfl) rfl)⟩
theorem okX6_atLeastNothing : ev_OkS mX6_atLeastNothing 1 := ⟨⟨(ev_gm (ev_t4 124 rfl) rfl), (ev_gm (ev_t1 7 rfl) rfl), ⟨by decide, by decide, by decide +kernel⟩, rfl, rfl, by decide⟩, (ev_gm (ev_t4 123 rfl) rfl)⟩
theorem okX6_scared : ev_OkV mX6_scared 2 := ⟨⟨(ev_gm (ev_t4 110 rfl) rfl), (ev_gm (ev_t1 7 rfl) rfl), ⟨by decide, by decide, by decide +kernel⟩, rfl, rfl, by decide⟩, (ev_gm (ev_t4 109 rfl) rfl), (ev_gm (ev_t0 33 rfl) rfl)⟩
theorem okX6_fear : ev_OkV mX6_fear 1 := ⟨⟨(ev_gm (ev_t4 92 rfl) rfl), (ev_gm (ev_t1 7 rfl) rfl), ⟨by decide, by decide, by decide +kernel⟩, rfl, rfl, by decide⟩, (ev_gm (ev_t4 91 rfl) rfl), (ev_gm (ev_t0 30 rfl) rfl)⟩
theorem okX6_wheat : ev_OkV mX6_wheat 2 := ⟨⟨(ev_gm (ev_t4 66 rfl) rfl), (ev_gm (ev_t1 7 rfl) rfl), ⟨by decide, by decide, by decide +kernel⟩, rfl, rfl, by decide⟩, (ev_gm (ev_t4 64 rfl) rfl), (ev_gm (ev_t4 65 rfl) rfl)⟩
theorem okX6_thoseAt : ev_OkV mX6_thoseAt 1 := ⟨⟨(ev_gm (ev_t4 128 rfl) rfl), (ev_gm (ev_t1 7 rfl) rfl), ⟨by decide, by decide, by decide +kernel⟩, rfl, rfl, by decide⟩, (ev_gm (ev_t4 127 rfl) rfl), (ev_gm (ev_t0 36 rfl) rfl)⟩
theorem okX6_cell : ev_OkV mX6_cell 2 := ⟨⟨(ev_gm (ev_t4 87 rfl) rfl), (ev_gm (ev_t1 7 rfl) rfl), ⟨by decide, by decide, by decide +kernel⟩, rfl, rfl, by decide⟩, (ev_gm (ev_t4 85 rfl) rfl), (ev_gm (ev_t4 86 rfl) rfl)⟩
theorem okX6_crows : ev_OkV mX6_crows 1 := ⟨⟨(ev_gm (ev_t4 132 rfl) rfl), (ev_gm (ev_t1 7 rfl) rfl), ⟨by decide, by decide, by decide +kernel⟩, rfl, rfl, by decide⟩, (ev_gm (ev_t4 130 rfl) rfl), (ev_gm (ev_t4 131 rfl) rfl)⟩
theorem okX6_adds : ev_OkV mX6_adds 1 := ⟨⟨(ev_gm (ev_t4 146 rfl) rfl), (ev_gm (ev_t1 7 rfl) rfl), ⟨by decide, by decide, by decide +kernel⟩, rfl, rfl, by decide⟩, (ev_gm (ev_t4 145 rfl) rfl), (ev_gm (ev_t0 37 rfl) rfl)⟩
theorem okX6_sitter : ev_OkV mX6_sitter 1 := ⟨⟨(ev_gm (ev_t4 137 rfl) rfl), (ev_gm (ev_t1 7 rfl) rfl), ⟨by decide, by decide, by decide +kernel⟩, rfl, rfl, by decide⟩, (ev_gm (ev_t4 135 rfl) rfl), (ev_gm (ev_t4 136 rfl) rfl)⟩
theorem okX6_likenessesOf : ev_OkV mX6_likenessesOf 1 := ⟨⟨(ev_gm (ev_t4 158 rfl) rfl), (ev_gm (ev_t1 7 rfl) rfl), ⟨by decide, by decide, by decide +kernel⟩, rfl, rfl, by decide⟩, (ev_gm (ev_t4 157 rfl) rfl), (ev_gm (ev_t0 39 rfl) rfl)⟩
theorem okX6_areMet : ev_OkV mX6_areMet 2 := ⟨⟨(ev_gm (ev_t4 166 rfl) rfl), (ev_gm (ev_t1 7 rfl) rfl), ⟨by decide, by decide, by decide +kernel⟩, rfl, rfl, by decide⟩, (ev_gm (ev_t4 165 rfl) rfl), (ev_gm (ev_t0 41 rfl) rfl)⟩
theorem okX6_meets : ev_OkV mX6_meets 1 := ⟨⟨(ev_gm (ev_t4 162 rfl) rfl), (ev_gm (ev_t1 7 rfl) rfl), ⟨by decide, by decide, by decide +kernel⟩, rfl, rfl, by decide⟩, (ev_gm (ev_t4 161 rfl) rfl), (ev_gm (ev_t0 40 rfl) rfl)⟩
theorem okX6_of : ev_OkV mX6_of 2 := ⟨⟨(ev_gm (ev_t4 150 rfl) rfl), (ev_gm (ev_t1 7 rfl) rfl), ⟨by decide, by decide, by decide +kernel⟩, rfl, rfl, by decide⟩, (ev_gm (ev_t4 148 rfl) rfl), (ev_gm (ev_t4 149 rfl) rfl)⟩
theorem okX6_set : ev_OkV mX6_set 3 := ⟨⟨(ev_gm (ev_t4 170 rfl) rfl), (ev_gm (ev_t1 7 rfl) rfl), ⟨by decide, by decide, by decide +kernel⟩, rfl, rfl, by decide⟩, (ev_gm (ev_t4 168 rfl) rfl), (ev_gm (ev_t4 169 rfl) rfl)⟩
theorem okX6_turn : ev_OkV mX6_turn 2 := ⟨⟨(ev_gm (ev_t4 175 rfl) rfl), (ev_gm (ev_t1 7 rfl) rfl), ⟨by decide, by decide, by decide +kernel⟩, rfl, rfl, by decide⟩, (ev_gm (ev_t4 173 rfl) rfl), (ev_gm (ev_t4 174 rfl) rfl)⟩
theorem okX6_isUnder : ev_OkS mX6_isUnder 2 := ⟨⟨(ev_gm (ev_t4 182 rfl) rfl), (ev_gm (ev_t1 7 rfl) rfl), ⟨by decide, by decide, by decide +kernel⟩, rfl, rfl, by decide⟩, (ev_gm (ev_t4 181 rfl) rfl)⟩
theorem okX6_as : ev_OkV mX6_as 2 := ⟨⟨(ev_gm (ev_t4 179 rfl) rfl), (ev_gm (ev_t1 7 rfl) rfl), ⟨by decide, by decide, by decide +kernel⟩, rfl, rfl, by decide⟩, (ev_gm (ev_t4 177 rfl) rfl), (ev_gm (ev_t4 178 rfl) rfl)⟩
theorem okX6_puts : ev_OkV mX6_puts 2 := ⟨⟨(ev_gm (ev_t4 191 rfl) rfl), (ev_gm (ev_t1 7 rfl) rfl), ⟨by decide, by decide, by decide +kernel⟩, rfl, rfl, by decide⟩, (ev_gm (ev_t4 190 rfl) rfl), (ev_gm (ev_t0 42 rfl) rfl)⟩
theorem okX6_likeness : ev_OkV mX6_likeness 2 := ⟨⟨(ev_gm (ev_t4 187 rfl) rfl), (ev_gm (ev_t1 7 rfl) rfl), ⟨by decide, by decide, by decide +kernel⟩, rfl, rfl, by decide⟩, (ev_gm (ev_t4 185 rfl) rfl), (ev_gm (ev_t4 186 rfl) rfl)⟩
theorem okX6_told : ev_OkV mX6_told 2 := ⟨⟨(ev_gm (ev_t4 195 rfl) rfl), (ev_gm (ev_t1 7 rfl) rfl), ⟨by decide, by decide, by decide +kernel⟩, rfl, rfl, by decide⟩, (ev_gm (ev_t4 193 rfl) rfl), (ev_gm (ev_t4 194 rfl) rfl)⟩
theorem okX6_place : ev_OkV mX6_place 3 := ⟨⟨(ev_gm (ev_t4 204 rfl) rfl), (ev_gm (ev_t1 7 rfl) rfl), ⟨by decide, by decide, by decide +kernel⟩, rfl, rfl, by decide⟩, (ev_gm (ev_t4 202 rfl) rfl), (ev_gm (ev_t4 203 rfl) rfl)⟩
theorem okX6_scares : ev_OkV mX6_scares 2 := ⟨⟨(ev_gm (ev_t4 209 rfl) rfl), (ev_gm (ev_t1 7 rfl) rfl), ⟨by decide, by decide, by decide +kernel⟩, rfl, rfl, by decide⟩, (ev_gm (ev_t4 207 rfl) rfl), (ev_gm (ev_t4 208 rfl) rfl)⟩
theorem okX6_fearBy : ev_OkV mX6_fearBy 1 := ⟨⟨(ev_gm (ev_t4 222 rfl) rfl), (ev_gm (ev_t1 7 rfl) rfl), ⟨by decide, by decide, by decide +kernel⟩, rfl, rfl, by decide⟩, (ev_gm (ev_t4 221 rfl) rfl), (ev_gm (ev_t0 45 rfl) rfl)⟩
theorem okX6_fearsNow : ev_OkV mX6_fearsNow 0 := ⟨⟨(ev_gm (ev_t4 218 rfl) rfl), (ev_gm (ev_t1 7 rfl) rfl), ⟨by decide, by decide, by decide +kernel⟩, rfl, rfl, by decide⟩, (ev_gm (ev_t4 217 rfl) rfl), (ev_gm (ev_t0 44 rfl) rfl)⟩
theorem okX6_landsAt : ev_OkV mX6_landsAt 0 := ⟨⟨(ev_gm (ev_t4 226 rfl) rfl), (ev_gm (ev_t1 7 rfl) rfl), ⟨by decide, by decide, by decide +kernel⟩, rfl, rfl, by decide⟩, (ev_gm (ev_t4 225 rfl) rfl), (ev_gm (ev_t0 46 rfl) rfl)⟩
theorem okX6_lands : ev_OkV mX6_lands 0 := ⟨⟨(ev_gm (ev_t4 214 rfl) rfl), (ev_gm (ev_t1 7 rfl) rfl), ⟨by decide, by decide, by decide +kernel⟩, rfl, rfl, by decide⟩, (ev_gm (ev_t4 212 rfl) rfl), (ev_gm (ev_t4 213 rfl) rfl)⟩
theorem okX6_day : ev_OkV mX6_day 0 := ⟨⟨(ev_gm (ev_t5 1 rfl) rfl), (ev_gm (ev_t1 7 rfl) rfl), ⟨by decide, by decide, by decide +kernel⟩, rfl, rfl, by decide⟩, (ev_gm (ev_t5 0 rfl) rfl), (ev_gm (ev_t0 48 rfl) rfl)⟩
theorem okX6_daysGo : ev_OkV mX6_daysGo 1 := ⟨⟨(ev_gm (ev_t4 237 rfl) rfl), (ev_gm (ev_t1 7 rfl) rfl), ⟨by decide, by decide, by decide +kernel⟩, rfl, rfl, by decide⟩, (ev_gm (ev_t4 236 rfl) rfl), (ev_gm (ev_t0 47 rfl) rfl)⟩
theorem okX6_days : ev_OkV mX6_days 1 := ⟨⟨(ev_gm (ev_t4 231 rfl) rfl), (ev_gm (ev_t1 7 rfl) rfl), ⟨by decide, by decide, by decide +kernel⟩, rfl, rfl, by decide⟩, (ev_gm (ev_t4 229 rfl) rfl), (ev_gm (ev_t4 230 rfl) rfl)⟩
theorem okX6_wheatAll : ev_OkV mX6_wheatAll 0 := ⟨⟨(ev_gm (ev_t5 9 rfl) rfl), (ev_gm (ev_t1 7 rfl) rfl), ⟨by decide, by decide, by decide +kernel⟩, rfl, rfl, by decide⟩, (ev_gm (ev_t5 8 rfl) rfl), (ev_gm (ev_t0 49 rfl) rfl)⟩
theorem okX6_fees : ev_OkV mX6_fees 0 := ⟨⟨(ev_gm (ev_t5 13 rfl) rfl), (ev_gm (ev_t1 7 rfl) rfl), ⟨by decide, by decide, by decide +kernel⟩, rfl, rfl, by decide⟩, (ev_gm (ev_t5 12 rfl) rfl), (ev_gm (ev_t0 50 rfl) rfl)⟩
theorem okX6_feared : ev_OkV mX6_feared 0 := ⟨⟨(ev_gm (ev_t5 17 rfl) rfl), (ev_gm (ev_t1 7 rfl) rfl), ⟨by decide, by decide, by decide +kernel⟩, rfl, rfl, by decide⟩, (ev_gm (ev_t5 16 rfl) rfl), (ev_gm (ev_t0 51 rfl) rfl)⟩
theorem okX6_meeting : ev_OkV mX6_meeting 0 := ⟨⟨(ev_gm (ev_t5 21 rfl) rfl), (ev_gm (ev_t1 7 rfl) rfl), ⟨by decide, by decide, by decide +kernel⟩, rfl, rfl, by decide⟩, (ev_gm (ev_t5 20 rfl) rfl), (ev_gm (ev_t0 52 rfl) rfl)⟩
theorem okX6_now : ev_OkV mX6_now 1 := ⟨⟨(ev_gm (ev_t5 5 rfl) rfl), (ev_gm (ev_t1 7 rfl) rfl), ⟨by decide, by decide, by decide +kernel⟩, rfl, rfl, by decide⟩, (ev_gm (ev_t5 3 rfl) rfl), (ev_gm (ev_t5 4 rfl) rfl)⟩
theorem okX6_on : ev_OkV mX6_on 2 := ⟨⟨(ev_gm (ev_t5 25 rfl) rfl), (ev_gm (ev_t1 7 rfl) rfl), ⟨by decide, by decide, by decide +kernel⟩, rfl, rfl, by decide⟩, (ev_gm (ev_t5 23 rfl) rfl), (ev_gm (ev_t5 24 rfl) rfl)⟩
theorem okX6_eatenOn : ev_OkV mX6_eatenOn 1 := ⟨⟨(ev_gm (ev_t5 41 rfl) rfl), (ev_gm (ev_t1 7 rfl) rfl), ⟨by decide, by decide, by decide +kernel⟩, rfl, rfl, by decide⟩, (ev_gm (ev_t5 40 rfl) rfl), (ev_gm (ev_t0 55 rfl) rfl)⟩
theorem okX6_eaten : ev_OkV mX6_eaten 1 := ⟨⟨(ev_gm (ev_t5 37 rfl) rfl), (ev_gm (ev_t1 7 rfl) rfl), ⟨by decide, by decide, by decide +kernel⟩, rfl, rfl, by decide⟩, (ev_gm (ev_t5 35 rfl) rfl), (ev_gm (ev_t5 36 rfl) rfl)⟩
theorem okX6_first : ev_OkV mX6_first 1 := ⟨⟨(ev_gm (ev_t5 45 rfl) rfl), (ev_gm (ev_t1 7 rfl) rfl), ⟨by decide, by decide, by decide +kernel⟩, rfl, rfl, by decide⟩, (ev_gm (ev_t5 43 rfl) rfl), (ev_gm (ev_t5 44 rfl) rfl)⟩
theorem okX6_isSoon : ev_OkS mX6_isSoon 1 := ⟨⟨(ev_gm (ev_t5 52 rfl) rfl), (ev_gm (ev_t1 7 rfl) rfl), ⟨by decide, by decide, by decide +kernel⟩, rfl, rfl, by decide⟩, (ev_gm (ev_t5 51 rfl) rfl)⟩
theorem okX6_leastBy : ev_OkV mX6_leastBy 3 := ⟨⟨(ev_gm (ev_t5 56 rfl) rfl), (ev_gm (ev_t1 7 rfl) rfl), ⟨by decide, by decide, by decide +kernel⟩, rfl, rfl, by decide⟩, (ev_gm (ev_t5 55 rfl) rfl), (ev_gm (ev_t0 56 rfl) rfl)⟩
theorem okX6_spot : ev_OkV mX6_spot 2 := ⟨⟨(ev_gm (ev_t5 49 rfl) rfl), (ev_gm (ev_t1 7 rfl) rfl), ⟨by decide, by decide, by decide +kernel⟩, rfl, rfl, by decide⟩, (ev_gm (ev_t5 47 rfl) rfl), (ev_gm (ev_t5 48 rfl) rfl)⟩
theorem okX6_whose : ev_OkV mX6_whose 2 := ⟨⟨(ev_gm (ev_t5 60 rfl) rfl), (ev_gm (ev_t1 7 rfl) rfl), ⟨by decide, by decide, by decide +kernel⟩, rfl, rfl, by decide⟩, (ev_gm (ev_t5 58 rfl) rfl), (ev_gm (ev_t5 59 rfl) rfl)⟩
theorem okX6_kind : ev_OkV mX6_kind 2 := ⟨⟨(ev_gm (ev_t5 64 rfl) rfl), (ev_gm (ev_t1 7 rfl) rfl), ⟨by decide, by decide, by decide +kernel⟩, rfl, rfl, by decide⟩, (ev_gm (ev_t5 62 rfl) rfl), (ev_gm (ev_t5 63 rfl) rfl)⟩
theorem okX6_temper : ev_OkV mX6_temper 2 := ⟨⟨(ev_gm (ev_t5 68 rfl) rfl), (ev_gm (ev_t1 7 rfl) rfl), ⟨by decide, by decide, by decide +kernel⟩, rfl, rfl, by decide⟩, (ev_gm (ev_t5 66 rfl) rfl), (ev_gm (ev_t5 67 rfl) rfl)⟩
theorem okX6_ones : ev_OkS mX6_ones 1 := ⟨⟨(ev_gm (ev_t5 76 rfl) rfl), (ev_gm (ev_t1 7 rfl) rfl), ⟨by decide, by decide, by decide +kernel⟩, rfl, rfl, by decide⟩, (ev_gm (ev_t5 75 rfl) rfl)⟩
theorem okX6_eatenWithout : ev_OkV mX6_eatenWithout 2 := ⟨⟨(ev_gm (ev_t5 80 rfl) rfl), (ev_gm (ev_t1 7 rfl) rfl), ⟨by decide, by decide, by decide +kernel⟩, rfl, rfl, by decide⟩, (ev_gm (ev_t5 79 rfl) rfl), (ev_gm (ev_t0 57 rfl) rfl)⟩
theorem okX6_keep : ev_OkV mX6_keep 1 := ⟨⟨(ev_gm (ev_t5 72 rfl) rfl), (ev_gm (ev_t1 7 rfl) rfl), ⟨by decide, by decide, by decide +kernel⟩, rfl, rfl, by decide⟩, (ev_gm (ev_t5 70 rfl) rfl), (ev_gm (ev_t5 71 rfl) rfl)⟩
theorem okX6_worth : ev_OkV mX6_worth 1 := ⟨⟨(ev_gm (ev_t5 84 rfl) rfl), (ev_gm (ev_t1 7 rfl) rfl), ⟨by decide, by decide, by decide +kernel⟩, rfl, rfl, by decide⟩, (ev_gm (ev_t5 82 rfl) rfl), (ev_gm (ev_t5 83 rfl) rfl)⟩
theorem okX6_apart : ev_OkV mX6_apart 1 := ⟨⟨(ev_gm (ev_t5 88 rfl) rfl), (ev_gm (ev_t1 7 rfl) rfl), ⟨by decide, by decide, by decide +kernel⟩, rfl, rfl, by decide⟩, (ev_gm (ev_t5 86 rfl) rfl), (ev_gm (ev_t5 87 rfl) rfl)⟩
theorem okX6_swapped : ev_OkV mX6_swapped 3 := ⟨⟨(ev_gm (ev_t5 96 rfl) rfl), (ev_gm (ev_t1 7 rfl) rfl), ⟨by decide, by decide, by decide +kernel⟩, rfl, rfl, by decide⟩, (ev_gm (ev_t5 95 rfl) rfl), (ev_gm (ev_t0 58 rfl) rfl)⟩
theorem okX6_swap : ev_OkV mX6_swap 1 := ⟨⟨(ev_gm (ev_t5 92 rfl) rfl), (ev_gm (ev_t1 7 rfl) rfl), ⟨by decide, by decide, by decide +kernel⟩, rfl, rfl, by decide⟩, (ev_gm (ev_t5 90 rfl) rfl), (ev_gm (ev_t5 91 rfl) rfl)⟩
theorem okX6_feed : ev_OkV mX6_feed 2 := ⟨⟨(ev_gm (ev_t5 100 rfl) rfl), (ev_gm (ev_t1 7 rfl) rfl), ⟨by decide, by decide, by decide +kernel⟩, rfl, rfl, by decide⟩, (ev_gm (ev_t5 98 rfl) rfl), (ev_gm (ev_t5 99 rfl) rfl)⟩
theorem okX6_wipe : ev_OkV mX6_wipe 0 := ⟨⟨(ev_gm (ev_t5 104 rfl) rfl), (ev_gm (ev_t1 7 rfl) rfl), ⟨by decide, by decide, by decide +kernel⟩, rfl, rfl, by decide⟩, (ev_gm (ev_t5 102 rfl) rfl), (ev_gm (ev_t5 103 rfl) rfl)⟩
theorem okX6_byteAt : ev_OkV mX6_byteAt 1 := ⟨⟨(ev_gm (ev_t5 120 rfl) rfl), (ev_gm (ev_t1 7 rfl) rfl), ⟨by decide, by decide, by decide +kernel⟩, rfl, rfl, by decide⟩, (ev_gm (ev_t5 119 rfl) rfl), (ev_gm (ev_t0 61 rfl) rfl)⟩
theorem okX6_isLetter : ev_OkS mX6_isLetter 1 := ⟨⟨(ev_gm (ev_t5 123 rfl) rfl), (ev_gm (ev_t1 7 rfl) rfl), ⟨by decide, by decide, by decide +kernel⟩, rfl, rfl, by decide⟩, (ev_gm (ev_t5 122 rfl) rfl)⟩
theorem okX6_isDigit : ev_OkS mX6_isDigit 1 := ⟨⟨(ev_gm (ev_t5 128 rfl) rfl), (ev_gm (ev_t1 7 rfl) rfl), ⟨by decide, by decide, by decide +kernel⟩, rfl, rfl, by decide⟩, (ev_gm (ev_t5 127 rfl) rfl)⟩
theorem okX6_token : ev_OkV mX6_token 0 := ⟨⟨(ev_gm (ev_t5 116 rfl) rfl), (ev_gm (ev_t1 7 rfl) rfl), ⟨by decide, by decide, by decide +kernel⟩, rfl, rfl, by decide⟩, (ev_gm (ev_t5 115 rfl) rfl), (ev_gm (ev_t0 60 rfl) rfl)⟩
theorem okX6_must : ev_OkV mX6_must 1 := ⟨⟨(ev_gm (ev_t5 158 rfl) rfl), (ev_gm (ev_t1 7 rfl) rfl), ⟨by decide, by decide, by decide +kernel⟩, rfl, rfl, by decide⟩, (ev_gm (ev_t5 157 rfl) rfl), (ev_gm (ev_t0 66 rfl) rfl)⟩
theorem okX6_word : ev_OkV mX6_word 0 := ⟨⟨(ev_gm (ev_t5 142 rfl) rfl), (ev_gm (ev_t1 7 rfl) rfl), ⟨by decide, by decide, by decide +kernel⟩, rfl, rfl, by decide⟩, (ev_gm (ev_t5 141 rfl) rfl), (ev_gm (ev_t0 64 rfl) rfl)⟩
theorem okX6_number : ev_OkV mX6_number 2 := ⟨⟨(ev_gm (ev_t5 163 rfl) rfl), (ev_gm (ev_t1 7 rfl) rfl), ⟨by decide, by decide, by decide +kernel⟩, rfl, rfl, by decide⟩, (ev_gm (ev_t5 162 rfl) rfl), (ev_gm (ev_t0 67 rfl) rfl)⟩
theorem okX6_kindHere : ev_OkV mX6_kindHere 0 := ⟨⟨(ev_gm (ev_t5 138 rfl) rfl), (ev_gm (ev_t1 7 rfl) rfl), ⟨by decide, by decide, by decide +kernel⟩, rfl, rfl, by decide⟩, (ev_gm (ev_t5 137 rfl) rfl), (ev_gm (ev_t0 63 rfl) rfl)⟩
theorem okX6_sitterItem : ev_OkV mX6_sitterItem 1 := ⟨⟨(ev_gm (ev_t5 154 rfl) rfl), (ev_gm (ev_t1 7 rfl) rfl), ⟨by decide, by decide, by decide +kernel⟩, rfl, rfl, by decide⟩, (ev_gm (ev_t5 153 rfl) rfl), (ev_gm (ev_t0 65 rfl) rfl)⟩
theorem okX6_likenessItem : ev_OkV mX6_likenessItem 0 := ⟨⟨(ev_gm (ev_t5 169 rfl) rfl), (ev_gm (ev_t1 7 rfl) rfl), ⟨by decide, by decide, by decide +kernel⟩, rfl, rfl, by decide⟩, (ev_gm (ev_t5 168 rfl) rfl), (ev_gm (ev_t0 68 rfl) rfl)⟩
theorem okX6_wheatItem : ev_OkV mX6_wheatItem 0 := ⟨⟨(ev_gm (ev_t5 175 rfl) rfl), (ev_gm (ev_t1 7 rfl) rfl), ⟨by decide, by decide, by decide +kernel⟩, rfl, rfl, by decide⟩, (ev_gm (ev_t5 174 rfl) rfl), (ev_gm (ev_t0 69 rfl) rfl)⟩
theorem okX6_item : ev_OkV mX6_item 0 := ⟨⟨(ev_gm (ev_t5 134 rfl) rfl), (ev_gm (ev_t1 7 rfl) rfl), ⟨by decide, by decide, by decide +kernel⟩, rfl, rfl, by decide⟩, (ev_gm (ev_t5 133 rfl) rfl), (ev_gm (ev_t0 62 rfl) rfl)⟩
theorem okX6_plain : ev_OkV mX6_plain 0 := ⟨⟨(ev_gm (ev_t5 108 rfl) rfl), (ev_gm (ev_t1 7 rfl) rfl), ⟨by decide, by decide, by decide +kernel⟩, rfl, rfl, by decide⟩, (ev_gm (ev_t5 106 rfl) rfl), (ev_gm (ev_t5 107 rfl) rfl)⟩
theorem okX6_isOne : ev_OkS mX6_isOne 1 := ⟨⟨(ev_gm (ev_t5 188 rfl) rfl), (ev_gm (ev_t1 7 rfl) rfl), ⟨by decide, by decide, by decide +kernel⟩, rfl, rfl, by decide⟩, (ev_gm (ev_t5 187 rfl) rfl)⟩
theorem okX6_sheet : ev_OkV mX6_sheet 3 := ⟨⟨(ev_gm (ev_t5 185 rfl) rfl), (ev_gm (ev_t1 7 rfl) rfl), ⟨by decide, by decide, by decide +kernel⟩, rfl, rfl, by decide⟩, (ev_gm (ev_t5 183 rfl) rfl), (ev_gm (ev_t5 184 rfl) rfl)⟩
theorem okX6_narrowed : ev_OkS mX6_narrowed 2 := ⟨⟨(ev_gm (ev_t5 202 rfl) rfl), (ev_gm (ev_t1 7 rfl) rfl), ⟨by decide, by decide, by decide +kernel⟩, rfl, rfl, by decide⟩, (ev_gm (ev_t5 201 rfl) rfl)⟩
theorem okX6_wrongSheet : ev_OkV mX6_wrongSheet 1 := ⟨⟨(ev_gm (ev_t5 198 rfl) rfl), (ev_gm (ev_t1 7 rfl) rfl), ⟨by decide, by decide, by decide +kernel⟩, rfl, rfl, by decide⟩, (ev_gm (ev_t5 197 rfl) rfl), (ev_gm (ev_t0 71 rfl) rfl)⟩
theorem okX6_write : ev_OkV mX6_write 3 := ⟨⟨(ev_gm (ev_t5 194 rfl) rfl), (ev_gm (ev_t1 7 rfl) rfl), ⟨by decide, by decide, by decide +kernel⟩, rfl, rfl, by decide⟩, (ev_gm (ev_t5 192 rfl) rfl), (ev_gm (ev_t5 193 rfl) rfl)⟩
theorem okX6_copy : ev_OkV mX6_copy 5 := ⟨⟨(ev_gm (ev_t5 206 rfl) rfl), (ev_gm (ev_t1 7 rfl) rfl), ⟨by decide, by decide, by decide +kernel⟩, rfl, rfl, by decide⟩, (ev_gm (ev_t5 204 rfl) rfl), (ev_gm (ev_t5 205 rfl) rfl)⟩
theorem okX6_lays : ev_OkV mX6_lays 1 := ⟨⟨(ev_gm (ev_t5 210 rfl) rfl), (ev_gm (ev_t1 7 rfl) rfl), ⟨by decide, by decide, by decide +kernel⟩, rfl, rfl, by decide⟩, (ev_gm (ev_t5 208 rfl) rfl), (ev_gm (ev_t5 209 rfl) rfl)⟩
theorem okX6_book : ev_OkV mX6_book 1 := ⟨⟨(ev_gm (ev_t5 214 rfl) rfl), (ev_gm (ev_t1 7 rfl) rfl), ⟨by decide, by decide, by decide +kernel⟩, rfl, rfl, by decide⟩, (ev_gm (ev_t5 212 rfl) rfl), (ev_gm (ev_t5 213 rfl) rfl)⟩
theorem okX6_isBook : ev_OkV mX6_isBook 1 := ⟨⟨(ev_gm (ev_t5 222 rfl) rfl), (ev_gm (ev_t1 7 rfl) rfl), ⟨by decide, by decide, by decide +kernel⟩, rfl, rfl, by decide⟩, (ev_gm (ev_t5 221 rfl) rfl), (ev_gm (ev_t0 72 rfl) rfl)⟩
theorem okX6_read : ev_OkV mX6_read 2 := ⟨⟨(ev_gm (ev_t5 218 rfl) rfl), (ev_gm (ev_t1 7 rfl) rfl), ⟨by decide, by decide, by decide +kernel⟩, rfl, rfl, by decide⟩, (ev_gm (ev_t5 216 rfl) rfl), (ev_gm (ev_t5 217 rfl) rfl)⟩
theorem okX6_image : ev_OkV mX6_image 0 := ⟨⟨(ev_gm (ev_t5 226 rfl) rfl), (ev_gm (ev_t1 7 rfl) rfl), ⟨by decide, by decide, by decide +kernel⟩, rfl, rfl, by decide⟩, (ev_gm (ev_t5 224 rfl) rfl), (ev_gm (ev_t5 225 rfl) rfl)⟩
theorem okX6_undo : ev_OkV mX6_undo 0 := ⟨⟨(ev_gm (ev_t5 230 rfl) rfl), (ev_gm (ev_t1 7 rfl) rfl), ⟨by decide, by decide, by decide +kernel⟩, rfl, rfl, by decide⟩, (ev_gm (ev_t5 228 rfl) rfl), (ev_gm (ev_t5 229 rfl) rfl)⟩
theorem okX6_tear : ev_OkV mX6_tear 0 := ⟨⟨(ev_gm (ev_t5 234 rfl) rfl), (ev_gm (ev_t1 7 rfl) rfl), ⟨by decide, by decide, by decide +kernel⟩, rfl, rfl, by decide⟩, (ev_gm (ev_t5 232 rfl) rfl), (ev_gm (ev_t5 233 rfl) rfl)⟩
theorem okX6_tempers : ev_OkV mX6_tempers 0 := ⟨⟨(ev_gm (ev_t6 2 rfl) rfl), (ev_gm (ev_t1 7 rfl) rfl), ⟨by decide, by decide, by decide +kernel⟩, rfl, rfl, by decide⟩, (ev_gm (ev_t6 1 rfl) rfl), (ev_gm (ev_t0 73 rfl) rfl)⟩
theorem okX6_count : ev_OkV mX6_count 1 := ⟨⟨(ev_gm (ev_t5 238 rfl) rfl), (ev_gm (ev_t1 7 rfl) rfl), ⟨by decide, by decide, by decide +kernel⟩, rfl, rfl, by decide⟩, (ev_gm (ev_t5 236 rfl) rfl), (ev_gm (ev_t5 237 rfl) rfl)⟩
theorem okX6_status : ev_OkV mX6_status 1 := ⟨⟨(ev_gm (ev_t6 6 rfl) rfl), (ev_gm (ev_t1 7 rfl) rfl), ⟨by decide, by decide, by decide +kernel⟩, rfl, rfl, by decide⟩, (ev_gm (ev_t6 4 rfl) rfl), (ev_gm (ev_t6 5 rfl) rfl)⟩
theorem okJ6_bitCount_0f7a4 : ev_OkS mJ6_bitCount_0f7a4 1 := ⟨⟨(ev_gm (ev_t2 62 rfl) rfl), (ev_gm (ev_t1 10 rfl) rfl), ⟨by decide, by decide, by decide +kernel⟩, rfl, rfl, by decide⟩, (ev_gm (ev_t2 61 rfl) rfl)⟩
theorem okJ0_length_8abf5 : ev_OkV mJ0_length_8abf5 0 := ⟨⟨(ev_gm (ev_t3 75 rfl) rfl), (ev_gm (ev_t1 12 rfl) rfl), ⟨by decide, by decide, by decide +kernel⟩, rfl, rfl, by decide⟩, (ev_gm (ev_t3 73 rfl) rfl), (ev_gm (ev_t3 74 rfl) rfl)⟩
theorem okJ0_charAt_5068e : ev_OkV mJ0_charAt_5068e 1 := ⟨⟨(ev_gm (ev_t3 85 rfl) rfl), (ev_gm (ev_t1 12 rfl) rfl), ⟨by decide, by decide, by decide +kernel⟩, rfl, rfl, by decide⟩, (ev_gm (ev_t3 83 rfl) rfl), (ev_gm (ev_t3 84 rfl) rfl)⟩
theorem okJ0_coder_7d493 : ev_OkV mJ0_coder_7d493 0 := ⟨⟨(ev_gm (ev_t3 79 rfl) rfl), (ev_gm (ev_t1 12 rfl) rfl), ⟨by decide, by decide, by decide +kernel⟩, rfl, rfl, by decide⟩, (ev_gm (ev_t3 77 rfl) rfl), (ev_gm (ev_t3 78 rfl) rfl)⟩
theorem okJ0_isLatin1_aae02 : ev_OkV mJ0_isLatin1_aae02 0 := ⟨⟨(ev_gm (ev_t3 89 rfl) rfl), (ev_gm (ev_t1 12 rfl) rfl), ⟨by decide, by decide, by decide +kernel⟩, rfl, rfl, by decide⟩, (ev_gm (ev_t3 87 rfl) rfl), (ev_gm (ev_t3 88 rfl) rfl)⟩
theorem okJ0_checkIndex_df160 : ev_OkS mJ0_checkIndex_df160 2 := ⟨⟨(ev_gm (ev_t3 95 rfl) rfl), (ev_gm (ev_t1 12 rfl) rfl), ⟨by decide, by decide, by decide +kernel⟩, rfl, rfl, by decide⟩, (ev_gm (ev_t3 94 rfl) rfl)⟩
theorem okJ1_charAt_3b067 : ev_OkS mJ1_charAt_3b067 2 := ⟨⟨(ev_gm (ev_t3 92 rfl) rfl), (ev_gm (ev_t1 13 rfl) rfl), ⟨by decide, by decide, by decide +kernel⟩, rfl, rfl, by decide⟩, (ev_gm (ev_t3 91 rfl) rfl)⟩
theorem okJ7_fill_d0a16 : ev_OkS mJ7_fill_d0a16 2 := ⟨⟨(ev_gm (ev_t3 168 rfl) rfl), (ev_gm (ev_t1 3 rfl) rfl), ⟨by decide, by decide, by decide +kernel⟩, rfl, rfl, by decide⟩, (ev_gm (ev_t3 167 rfl) rfl)⟩
theorem okJ7_fill_53178 : ev_OkS mJ7_fill_53178 2 := ⟨⟨(ev_gm (ev_t1 32 rfl) rfl), (ev_gm (ev_t1 3 rfl) rfl), ⟨by decide, by decide, by decide +kernel⟩, rfl, rfl, by decide⟩, (ev_gm (ev_t1 31 rfl) rfl)⟩
theorem okJ3_checkIndex_8e157 : ev_OkS mJ3_checkIndex_8e157 3 := ⟨⟨(ev_gm (ev_t3 100 rfl) rfl), (ev_gm (ev_t1 14 rfl) rfl), ⟨by decide, by decide, by decide +kernel⟩, rfl, rfl, by decide⟩, (ev_gm (ev_t3 99 rfl) rfl)⟩
theorem flX2_9 : Cond.fieldLink RX2 9 (TX2 0).1 (TX2 0).2.1 (TX2 0).2.2.1 ∈ ev_gw := (ev_gm (ev_t1 33 rfl) rfl)
theorem flX5_59 : Cond.fieldLink RX5 59 (TX2 0).1 (TX2 0).2.1 (TX2 0).2.2.1 ∈ ev_gw := (ev_gm (ev_t1 34 rfl) rfl)
theorem flX0_50 : Cond.fieldLink RX0 50 (TX2 0).1 (TX2 0).2.1 (TX2 0).2.2.1 ∈ ev_gw := (ev_gm (ev_t1 35 rfl) rfl)
theorem flX4_102 : Cond.fieldLink RX4 102 (TX2 0).1 (TX2 0).2.1 (TX2 0).2.2.1 ∈ ev_gw := (ev_gm (ev_t1 36 rfl) rfl)
theorem flX2_15 : Cond.fieldLink RX2 15 (TX2 1).1 (TX2 1).2.1 (TX2 1).2.2.1 ∈ ev_gw := (ev_gm (ev_t1 37 rfl) rfl)
theorem flX5_72 : Cond.fieldLink RX5 72 (TX2 1).1 (TX2 1).2.1 (TX2 1).2.2.1 ∈ ev_gw := (ev_gm (ev_t1 38 rfl) rfl)
theorem flX0_64 : Cond.fieldLink RX0 64 (TX2 1).1 (TX2 1).2.1 (TX2 1).2.2.1 ∈ ev_gw := (ev_gm (ev_t1 39 rfl) rfl)
theorem flX4_105 : Cond.fieldLink RX4 105 (TX2 1).1 (TX2 1).2.1 (TX2 1).2.2.1 ∈ ev_gw := (ev_gm (ev_t1 40 rfl) rfl)
theorem flX2_52 : Cond.fieldLink RX2 52 (TX2 2).1 (TX2 2).2.1 (TX2 2).2.2.1 ∈ ev_gw := (ev_gm (ev_t1 41 rfl) rfl)
theorem flX0_117 : Cond.fieldLink RX0 117 (TX2 2).1 (TX2 2).2.1 (TX2 2).2.2.1 ∈ ev_gw := (ev_gm (ev_t1 42 rfl) rfl)
theorem flX5_150 : Cond.fieldLink RX5 150 (TX2 2).1 (TX2 2).2.1 (TX2 2).2.2.1 ∈ ev_gw := (ev_gm (ev_t1 43 rfl) rfl)
theorem flX0_41 : Cond.fieldLink RX0 41 (TX2 3).1 (TX2 3).2.1 (TX2 3).2.2.1 ∈ ev_gw := (ev_gm (ev_t1 44 rfl) rfl)
theorem flX2_55 : Cond.fieldLink RX2 55 (TX2 3).1 (TX2 3).2.1 (TX2 3).2.2.1 ∈ ev_gw := (ev_gm (ev_t1 45 rfl) rfl)
theorem flX4_62 : Cond.fieldLink RX4 62 (TX2 3).1 (TX2 3).2.1 (TX2 3).2.2.1 ∈ ev_gw := (ev_gm (ev_t1 46 rfl) rfl)
theorem flX5_79 : Cond.fieldLink RX5 79 (TX2 3).1 (TX2 3).2.1 (TX2 3).2.2.1 ∈ ev_gw := (ev_gm (ev_t1 47 rfl) rfl)
theorem flX2_19 : Cond.fieldLink RX2 19 (TX2 4).1 (TX2 4).2.1 (TX2 4).2.2.1 ∈ ev_gw := (ev_gm (ev_t1 48 rfl) rfl)
theorem flX5_88 : Cond.fieldLink RX5 88 (TX2 4).1 (TX2 4).2.1 (TX2 4).2.2.1 ∈ ev_gw := (ev_gm (ev_t1 49 rfl) rfl)
theorem flX0_79 : Cond.fieldLink RX0 79 (TX2 4).1 (TX2 4).2.1 (TX2 4).2.2.1 ∈ ev_gw := (ev_gm (ev_t1 50 rfl) rfl)
theorem flX2_22 : Cond.fieldLink RX2 22 (TX2 5).1 (TX2 5).2.1 (TX2 5).2.2.1 ∈ ev_gw := (ev_gm (ev_t1 51 rfl) rfl)
theorem flX4_80 : Cond.fieldLink RX4 80 (TX2 5).1 (TX2 5).2.1 (TX2 5).2.2.1 ∈ ev_gw := (ev_gm (ev_t1 52 rfl) rfl)
theorem flX5_91 : Cond.fieldLink RX5 91 (TX2 5).1 (TX2 5).2.1 (TX2 5).2.2.1 ∈ ev_gw := (ev_gm (ev_t1 53 rfl) rfl)
theorem flX0_111 : Cond.fieldLink RX0 111 (TX2 5).1 (TX2 5).2.1 (TX2 5).2.2.1 ∈ ev_gw := (ev_gm (ev_t1 54 rfl) rfl)
theorem flX2_25 : Cond.fieldLink RX2 25 (TX2 6).1 (TX2 6).2.1 (TX2 6).2.2.1 ∈ ev_gw := (ev_gm (ev_t1 55 rfl) rfl)
theorem flX4_88 : Cond.fieldLink RX4 88 (TX2 6).1 (TX2 6).2.1 (TX2 6).2.2.1 ∈ ev_gw := (ev_gm (ev_t1 56 rfl) rfl)
theorem flX5_94 : Cond.fieldLink RX5 94 (TX2 6).1 (TX2 6).2.1 (TX2 6).2.2.1 ∈ ev_gw := (ev_gm (ev_t1 57 rfl) rfl)
theorem flX2_28 : Cond.fieldLink RX2 28 (TX2 7).1 (TX2 7).2.1 (TX2 7).2.2.1 ∈ ev_gw := (ev_gm (ev_t1 58 rfl) rfl)
theorem flX5_97 : Cond.fieldLink RX5 97 (TX2 7).1 (TX2 7).2.1 (TX2 7).2.2.1 ∈ ev_gw := (ev_gm (ev_t1 59 rfl) rfl)
theorem flX0_27 : Cond.fieldLink RX0 27 (TX2 8).1 (TX2 8).2.1 (TX2 8).2.2.1 ∈ ev_gw := (ev_gm (ev_t1 60 rfl) rfl)
theorem flX2_58 : Cond.fieldLink RX2 58 (TX2 8).1 (TX2 8).2.1 (TX2 8).2.2.1 ∈ ev_gw := (ev_gm (ev_t1 61 rfl) rfl)
theorem flX4_91 : Cond.fieldLink RX4 91 (TX2 8).1 (TX2 8).2.1 (TX2 8).2.2.1 ∈ ev_gw := (ev_gm (ev_t1 62 rfl) rfl)
theorem flX5_121 : Cond.fieldLink RX5 121 (TX2 8).1 (TX2 8).2.1 (TX2 8).2.2.1 ∈ ev_gw := (ev_gm (ev_t1 63 rfl) rfl)
theorem flX2_31 : Cond.fieldLink RX2 31 (TX2 9).1 (TX2 9).2.1 (TX2 9).2.2.1 ∈ ev_gw := (ev_gm (ev_t1 64 rfl) rfl)
theorem flX0_102 : Cond.fieldLink RX0 102 (TX2 9).1 (TX2 9).2.1 (TX2 9).2.2.1 ∈ ev_gw := (ev_gm (ev_t1 65 rfl) rfl)
theorem flX5_131 : Cond.fieldLink RX5 131 (TX2 9).1 (TX2 9).2.1 (TX2 9).2.2.1 ∈ ev_gw := (ev_gm (ev_t1 66 rfl) rfl)
theorem flX2_34 : Cond.fieldLink RX2 34 (TX2 10).1 (TX2 10).2.1 (TX2 10).2.2.1 ∈ ev_gw := (ev_gm (ev_t1 67 rfl) rfl)
theorem flX0_82 : Cond.fieldLink RX0 82 (TX2 10).1 (TX2 10).2.1 (TX2 10).2.2.1 ∈ ev_gw := (ev_gm (ev_t1 68 rfl) rfl)
theorem flX5_134 : Cond.fieldLink RX5 134 (TX2 10).1 (TX2 10).2.1 (TX2 10).2.2.1 ∈ ev_gw := (ev_gm (ev_t1 69 rfl) rfl)
theorem flX2_37 : Cond.fieldLink RX2 37 (TX2 11).1 (TX2 11).2.1 (TX2 11).2.2.1 ∈ ev_gw := (ev_gm (ev_t1 70 rfl) rfl)
theorem flX0_114 : Cond.fieldLink RX0 114 (TX2 11).1 (TX2 11).2.1 (TX2 11).2.2.1 ∈ ev_gw := (ev_gm (ev_t1 71 rfl) rfl)
theorem flX5_137 : Cond.fieldLink RX5 137 (TX2 11).1 (TX2 11).2.1 (TX2 11).2.2.1 ∈ ev_gw := (ev_gm (ev_t1 72 rfl) rfl)
theorem flX0_9 : Cond.fieldLink RX0 9 (TX0 0).1 (TX0 0).2.1 (TX0 0).2.2.1 ∈ ev_gw := (ev_gm (ev_t1 105 rfl) rfl)
theorem flX5_66 : Cond.fieldLink RX5 66 (TX0 0).1 (TX0 0).2.1 (TX0 0).2.2.1 ∈ ev_gw := (ev_gm (ev_t1 106 rfl) rfl)
theorem flX0_15 : Cond.fieldLink RX0 15 (TX0 1).1 (TX0 1).2.1 (TX0 1).2.2.1 ∈ ev_gw := (ev_gm (ev_t1 107 rfl) rfl)
theorem flX0_18 : Cond.fieldLink RX0 18 (TX0 2).1 (TX0 2).2.1 (TX0 2).2.2.1 ∈ ev_gw := (ev_gm (ev_t1 108 rfl) rfl)
theorem flX0_21 : Cond.fieldLink RX0 21 (TX0 3).1 (TX0 3).2.1 (TX0 3).2.2.1 ∈ ev_gw := (ev_gm (ev_t1 109 rfl) rfl)
theorem flX0_24 : Cond.fieldLink RX0 24 (TX0 4).1 (TX0 4).2.1 (TX0 4).2.2.1 ∈ ev_gw := (ev_gm (ev_t1 110 rfl) rfl)
theorem flX4_11 : Cond.fieldLink RX4 11 (TX4 0).1 (TX4 0).2.1 (TX4 0).2.2.1 ∈ ev_gw := (ev_gm (ev_t1 128 rfl) rfl)
theorem flX4_15 : Cond.fieldLink RX4 15 (TX4 1).1 (TX4 1).2.1 (TX4 1).2.2.1 ∈ ev_gw := (ev_gm (ev_t1 129 rfl) rfl)
theorem flX5_198 : Cond.fieldLink RX5 198 (TX4 1).1 (TX4 1).2.1 (TX4 1).2.2.1 ∈ ev_gw := (ev_gm (ev_t1 130 rfl) rfl)
theorem flX4_32 : Cond.fieldLink RX4 32 (TX4 2).1 (TX4 2).2.1 (TX4 2).2.2.1 ∈ ev_gw := (ev_gm (ev_t1 131 rfl) rfl)
theorem flX4_29 : Cond.fieldLink RX4 29 (TX4 3).1 (TX4 3).2.1 (TX4 3).2.2.1 ∈ ev_gw := (ev_gm (ev_t1 132 rfl) rfl)
theorem flX4_19 : Cond.fieldLink RX4 19 (TX4 4).1 (TX4 4).2.1 (TX4 4).2.2.1 ∈ ev_gw := (ev_gm (ev_t1 133 rfl) rfl)
theorem flX4_108 : Cond.fieldLink RX4 108 (TX4 5).1 (TX4 5).2.1 (TX4 5).2.2.1 ∈ ev_gw := (ev_gm (ev_t1 134 rfl) rfl)
theorem flX4_83 : Cond.fieldLink RX4 83 (TX4 6).1 (TX4 6).2.1 (TX4 6).2.2.1 ∈ ev_gw := (ev_gm (ev_t1 135 rfl) rfl)
theorem flX3_9 : Cond.fieldLink RX3 9 (TX3 0).1 (TX3 0).2.1 (TX3 0).2.2.1 ∈ ev_gw := (ev_gm (ev_t1 158 rfl) rfl)
theorem flX5_222 : Cond.fieldLink RX5 222 (TX3 0).1 (TX3 0).2.1 (TX3 0).2.2.1 ∈ ev_gw := (ev_gm (ev_t1 159 rfl) rfl)
theorem flX3_15 : Cond.fieldLink RX3 15 (TX3 1).1 (TX3 1).2.1 (TX3 1).2.2.1 ∈ ev_gw := (ev_gm (ev_t1 160 rfl) rfl)
theorem flX5_230 : Cond.fieldLink RX5 230 (TX3 1).1 (TX3 1).2.1 (TX3 1).2.2.1 ∈ ev_gw := (ev_gm (ev_t1 161 rfl) rfl)
theorem flX3_19 : Cond.fieldLink RX3 19 (TX3 2).1 (TX3 2).2.1 (TX3 2).2.2.1 ∈ ev_gw := (ev_gm (ev_t1 162 rfl) rfl)
theorem flX5_215 : Cond.fieldLink RX5 215 (TX3 2).1 (TX3 2).2.1 (TX3 2).2.2.1 ∈ ev_gw := (ev_gm (ev_t1 163 rfl) rfl)
theorem flX5_10 : Cond.fieldLink RX5 10 (TX5 0).1 (TX5 0).2.1 (TX5 0).2.2.1 ∈ ev_gw := (ev_gm (ev_t1 172 rfl) rfl)
theorem flX5_16 : Cond.fieldLink RX5 16 (TX5 1).1 (TX5 1).2.1 (TX5 1).2.2.1 ∈ ev_gw := (ev_gm (ev_t1 173 rfl) rfl)
theorem flX5_19 : Cond.fieldLink RX5 19 (TX5 2).1 (TX5 2).2.1 (TX5 2).2.2.1 ∈ ev_gw := (ev_gm (ev_t1 174 rfl) rfl)
theorem flX5_25 : Cond.fieldLink RX5 25 (TX5 3).1 (TX5 3).2.1 (TX5 3).2.2.1 ∈ ev_gw := (ev_gm (ev_t1 175 rfl) rfl)
theorem flX5_32 : Cond.fieldLink RX5 32 (TX5 4).1 (TX5 4).2.1 (TX5 4).2.2.1 ∈ ev_gw := (ev_gm (ev_t1 176 rfl) rfl)
theorem flX5_38 : Cond.fieldLink RX5 38 (TX5 5).1 (TX5 5).2.1 (TX5 5).2.2.1 ∈ ev_gw := (ev_gm (ev_t1 177 rfl) rfl)
theorem flX5_42 : Cond.fieldLink RX5 42 (TX5 6).1 (TX5 6).2.1 (TX5 6).2.2.1 ∈ ev_gw := (ev_gm (ev_t1 178 rfl) rfl)
theorem flX5_248 : Cond.fieldLink RX5 248 (TX5 7).1 (TX5 7).2.1 (TX5 7).2.2.1 ∈ ev_gw := (ev_gm (ev_t1 179 rfl) rfl)
theorem flJ0_38 : Cond.fieldLink RJ0 38 RJ0 "COMPACT_STRINGS" "Z" ∈ ev_gw := (ev_gm (ev_t3 80 rfl) rfl)
theorem flJ0_1053 : Cond.fieldLink RJ0 1053 RJ3 "SIOOBE_FORMATTER" "Ljava/util/function/BiFunction;" ∈ ev_gw := (ev_gm (ev_t3 96 rfl) rfl)
theorem flJ2_44 : Cond.fieldLink RJ2 44 RJ2 "$assertionsDisabled" "Z" ∈ ev_gw := (ev_gm (ev_t3 114 rfl) rfl)
theorem flJ2_59 : Cond.fieldLink RJ2 59 RJ2 "HI_BYTE_SHIFT" "I" ∈ ev_gw := (ev_gm (ev_t3 116 rfl) rfl)
theorem flJ2_63 : Cond.fieldLink RJ2 63 RJ2 "LO_BYTE_SHIFT" "I" ∈ ev_gw := (ev_gm (ev_t3 118 rfl) rfl)
theorem flX6_7 : Cond.fieldLink RX6 7 (TX6 0).1 (TX6 0).2.1 (TX6 0).2.2.1 ∈ ev_gw := (ev_gm (ev_t4 2 rfl) rfl)
theorem flX6_13 : Cond.fieldLink RX6 13 (TX6 1).1 (TX6 1).2.1 (TX6 1).2.2.1 ∈ ev_gw := (ev_gm (ev_t4 3 rfl) rfl)
theorem flX6_16 : Cond.fieldLink RX6 16 (TX6 2).1 (TX6 2).2.1 (TX6 2).2.2.1 ∈ ev_gw := (ev_gm (ev_t4 4 rfl) rfl)
theorem flX6_19 : Cond.fieldLink RX6 19 (TX6 3).1 (TX6 3).2.1 (TX6 3).2.2.1 ∈ ev_gw := (ev_gm (ev_t4 5 rfl) rfl)
theorem flX6_22 : Cond.fieldLink RX6 22 (TX6 4).1 (TX6 4).2.1 (TX6 4).2.2.1 ∈ ev_gw := (ev_gm (ev_t4 6 rfl) rfl)
theorem flX6_328 : Cond.fieldLink RX6 328 (TX6 5).1 (TX6 5).2.1 (TX6 5).2.2.1 ∈ ev_gw := (ev_gm (ev_t4 7 rfl) rfl)
theorem flX6_66 : Cond.fieldLink RX6 66 (TX6 6).1 (TX6 6).2.1 (TX6 6).2.2.1 ∈ ev_gw := (ev_gm (ev_t4 8 rfl) rfl)
theorem flX6_25 : Cond.fieldLink RX6 25 (TX6 7).1 (TX6 7).2.1 (TX6 7).2.2.1 ∈ ev_gw := (ev_gm (ev_t4 9 rfl) rfl)
theorem flX6_28 : Cond.fieldLink RX6 28 (TX6 8).1 (TX6 8).2.1 (TX6 8).2.2.1 ∈ ev_gw := (ev_gm (ev_t4 10 rfl) rfl)
theorem flX6_31 : Cond.fieldLink RX6 31 (TX6 9).1 (TX6 9).2.1 (TX6 9).2.2.1 ∈ ev_gw := (ev_gm (ev_t4 11 rfl) rfl)
theorem flX6_34 : Cond.fieldLink RX6 34 (TX6 10).1 (TX6 10).2.1 (TX6 10).2.2.1 ∈ ev_gw := (ev_gm (ev_t4 12 rfl) rfl)
theorem flX6_211 : Cond.fieldLink RX6 211 (TX6 11).1 (TX6 11).2.1 (TX6 11).2.2.1 ∈ ev_gw := (ev_gm (ev_t4 13 rfl) rfl)
theorem flX6_225 : Cond.fieldLink RX6 225 (TX6 12).1 (TX6 12).2.1 (TX6 12).2.2.1 ∈ ev_gw := (ev_gm (ev_t4 14 rfl) rfl)
theorem flX6_222 : Cond.fieldLink RX6 222 (TX6 13).1 (TX6 13).2.1 (TX6 13).2.2.1 ∈ ev_gw := (ev_gm (ev_t4 15 rfl) rfl)
theorem flX6_248 : Cond.fieldLink RX6 248 (TX6 14).1 (TX6 14).2.1 (TX6 14).2.2.1 ∈ ev_gw := (ev_gm (ev_t4 16 rfl) rfl)
theorem flX6_237 : Cond.fieldLink RX6 237 (TX6 15).1 (TX6 15).2.1 (TX6 15).2.2.1 ∈ ev_gw := (ev_gm (ev_t4 17 rfl) rfl)
theorem flX6_37 : Cond.fieldLink RX6 37 (TX6 16).1 (TX6 16).2.1 (TX6 16).2.2.1 ∈ ev_gw := (ev_gm (ev_t4 18 rfl) rfl)
theorem flX6_40 : Cond.fieldLink RX6 40 (TX6 17).1 (TX6 17).2.1 (TX6 17).2.2.1 ∈ ev_gw := (ev_gm (ev_t4 19 rfl) rfl)
theorem flX6_43 : Cond.fieldLink RX6 43 (TX6 18).1 (TX6 18).2.1 (TX6 18).2.2.1 ∈ ev_gw := (ev_gm (ev_t4 20 rfl) rfl)
theorem flX6_47 : Cond.fieldLink RX6 47 (TX6 19).1 (TX6 19).2.1 (TX6 19).2.2.1 ∈ ev_gw := (ev_gm (ev_t4 21 rfl) rfl)
theorem flJ0_9 : Cond.fieldLink RJ0 9 RJ0 "value" "[B" ∈ ev_gw := (ev_gm (ev_t6 10 rfl) rfl)
theorem flJ0_15 : Cond.fieldLink RJ0 15 RJ0 "coder" "B" ∈ ev_gw := (ev_gm (ev_t6 11 rfl) rfl)
theorem mlL_9 : Cond.methodLink RL 9 yX5_init ∈ ev_gw := (ev_gm (ev_t1 18 rfl) rfl)
theorem mlX5_9 : Cond.methodLink RX5 9 yX2_init ∈ ev_gw := (ev_gm (ev_t1 26 rfl) rfl)
theorem mlX2_40 : Cond.methodLink RX2 40 yJ7_fill_53178 ∈ ev_gw := (ev_gm (ev_t1 30 rfl) rfl)
theorem mlL_13 : Cond.methodLink RL 13 yX5_wheat ∈ ev_gw := (ev_gm (ev_t1 197 rfl) rfl)
theorem mlX5_47 : Cond.methodLink RX5 47 yX5_isCell ∈ ev_gw := (ev_gm (ev_t1 201 rfl) rfl)
theorem mlX5_51 : Cond.methodLink RX5 51 yX5_isWithin ∈ ev_gw := (ev_gm (ev_t1 204 rfl) rfl)
theorem mlX5_55 : Cond.methodLink RX5 55 yX5_finding ∈ ev_gw := (ev_gm (ev_t1 207 rfl) rfl)
theorem mlL_18 : Cond.methodLink RL 18 yX5_cell ∈ ev_gw := (ev_gm (ev_t1 212 rfl) rfl)
theorem mlX5_62 : Cond.methodLink RX5 62 yX0_look ∈ ev_gw := (ev_gm (ev_t1 216 rfl) rfl)
theorem mlX0_33 : Cond.methodLink RX0 33 yX2_countsFor ∈ ev_gw := (ev_gm (ev_t1 220 rfl) rfl)
theorem mlX2_80 : Cond.methodLink RX2 80 yX1_fade ∈ ev_gw := (ev_gm (ev_t1 224 rfl) rfl)
theorem mlX1_13 : Cond.methodLink RX1 13 Lib.Math.max.name ∈ ev_gw := (ev_gm (ev_t1 227 rfl) rfl)
theorem mlX0_37 : Cond.methodLink RX0 37 yX0_takeScares ∈ ev_gw := (ev_gm (ev_t1 230 rfl) rfl)
theorem mlX0_85 : Cond.methodLink RX0 85 yX1_scare ∈ ev_gw := (ev_gm (ev_t1 234 rfl) rfl)
theorem mlX1_21 : Cond.methodLink RX1 21 Lib.Math.min.name ∈ ev_gw := (ev_gm (ev_t1 237 rfl) rfl)
theorem mlX0_44 : Cond.methodLink RX0 44 yX2_meetings ∈ ev_gw := (ev_gm (ev_t2 0 rfl) rfl)
theorem mlX2_65 : Cond.methodLink RX2 65 yX2_isMeeting ∈ ev_gw := (ev_gm (ev_t2 4 rfl) rfl)
theorem mlX0_46 : Cond.methodLink RX0 46 yX0_weighFears ∈ ev_gw := (ev_gm (ev_t2 8 rfl) rfl)
theorem mlX0_91 : Cond.methodLink RX0 91 yX0_fearAt ∈ ev_gw := (ev_gm (ev_t2 12 rfl) rfl)
theorem mlX0_96 : Cond.methodLink RX0 96 yJ7_fill_53178 ∈ ev_gw := (ev_gm (ev_t2 17 rfl) rfl)
theorem mlX5_263 : Cond.methodLink RX5 263 Lib.Math.abs.name ∈ ev_gw := (ev_gm (ev_t2 21 rfl) rfl)
theorem mlX0_108 : Cond.methodLink RX0 108 Lib.Math.max.name ∈ ev_gw := (ev_gm (ev_t2 24 rfl) rfl)
theorem mlX5_69 : Cond.methodLink RX5 69 yX2_likenessesAt ∈ ev_gw := (ev_gm (ev_t2 25 rfl) rfl)
theorem mlX2_61 : Cond.methodLink RX2 61 yX2_placesOf ∈ ev_gw := (ev_gm (ev_t2 29 rfl) rfl)
theorem mlL_22 : Cond.methodLink RL 22 yX5_crows ∈ ev_gw := (ev_gm (ev_t2 33 rfl) rfl)
theorem mlL_27 : Cond.methodLink RL 27 yX5_sitter ∈ ev_gw := (ev_gm (ev_t2 37 rfl) rfl)
theorem mlX5_76 : Cond.methodLink RX5 76 yX5_isKind ∈ ev_gw := (ev_gm (ev_t2 41 rfl) rfl)
theorem mlX5_82 : Cond.methodLink RX5 82 yX2_addSitter ∈ ev_gw := (ev_gm (ev_t2 44 rfl) rfl)
theorem mlL_31 : Cond.methodLink RL 31 yX5_of ∈ ev_gw := (ev_gm (ev_t2 48 rfl) rfl)
theorem mlX5_85 : Cond.methodLink RX5 85 yX5_isSitter ∈ ev_gw := (ev_gm (ev_t2 52 rfl) rfl)
theorem mlX5_100 : Cond.methodLink RX5 100 yX2_likenessesOf ∈ ev_gw := (ev_gm (ev_t2 56 rfl) rfl)
theorem mlX5_103 : Cond.methodLink RX5 103 yJ6_bitCount_0f7a4 ∈ ev_gw := (ev_gm (ev_t2 60 rfl) rfl)
theorem mlX5_108 : Cond.methodLink RX5 108 yX2_meetings ∈ ev_gw := (ev_gm (ev_t2 66 rfl) rfl)
theorem mlL_35 : Cond.methodLink RL 35 yX5_set ∈ ev_gw := (ev_gm (ev_t2 67 rfl) rfl)
theorem mlX5_111 : Cond.methodLink RX5 111 yX5_exchange ∈ ev_gw := (ev_gm (ev_t2 71 rfl) rfl)
theorem mlL_40 : Cond.methodLink RL 40 yX5_turn ∈ ev_gw := (ev_gm (ev_t2 74 rfl) rfl)
theorem mlL_44 : Cond.methodLink RL 44 yX5_as ∈ ev_gw := (ev_gm (ev_t2 78 rfl) rfl)
theorem mlX5_115 : Cond.methodLink RX5 115 yX1_isUnder ∈ ev_gw := (ev_gm (ev_t2 82 rfl) rfl)
theorem mlL_48 : Cond.methodLink RL 48 yX5_likeness ∈ ev_gw := (ev_gm (ev_t2 87 rfl) rfl)
theorem mlX5_124 : Cond.methodLink RX5 124 yX2_addLikeness ∈ ev_gw := (ev_gm (ev_t2 91 rfl) rfl)
theorem mlL_52 : Cond.methodLink RL 52 yX5_told ∈ ev_gw := (ev_gm (ev_t2 95 rfl) rfl)
theorem mlX5_128 : Cond.methodLink RX5 128 yX5_isLikeness ∈ ev_gw := (ev_gm (ev_t2 99 rfl) rfl)
theorem mlX5_140 : Cond.methodLink RX5 140 yX2_countsFor ∈ ev_gw := (ev_gm (ev_t2 103 rfl) rfl)
theorem mlX5_143 : Cond.methodLink RX5 143 yX2_scareOf ∈ ev_gw := (ev_gm (ev_t2 104 rfl) rfl)
theorem mlX2_86 : Cond.methodLink RX2 86 yX2_countsFor ∈ ev_gw := (ev_gm (ev_t2 108 rfl) rfl)
theorem mlX2_89 : Cond.methodLink RX2 89 yX1_scare ∈ ev_gw := (ev_gm (ev_t2 109 rfl) rfl)
theorem mlL_56 : Cond.methodLink RL 56 yX5_place ∈ ev_gw := (ev_gm (ev_t2 110 rfl) rfl)
theorem mlL_60 : Cond.methodLink RL 60 yX5_scares ∈ ev_gw := (ev_gm (ev_t2 114 rfl) rfl)
theorem mlL_64 : Cond.methodLink RL 64 yX5_lands ∈ ev_gw := (ev_gm (ev_t2 118 rfl) rfl)
theorem mlX5_146 : Cond.methodLink RX5 146 yX0_landing ∈ ev_gw := (ev_gm (ev_t2 122 rfl) rfl)
theorem mlL_69 : Cond.methodLink RL 69 yX5_days ∈ ev_gw := (ev_gm (ev_t2 126 rfl) rfl)
theorem mlX5_154 : Cond.methodLink RX5 154 yX0_passDays ∈ ev_gw := (ev_gm (ev_t2 131 rfl) rfl)
theorem mlX0_53 : Cond.methodLink RX0 53 yX0_look ∈ ev_gw := (ev_gm (ev_t2 135 rfl) rfl)
theorem mlX0_56 : Cond.methodLink RX0 56 yX0_passDay ∈ ev_gw := (ev_gm (ev_t2 136 rfl) rfl)
theorem mlX0_60 : Cond.methodLink RX0 60 yX0_renewScares ∈ ev_gw := (ev_gm (ev_t2 140 rfl) rfl)
theorem mlX0_67 : Cond.methodLink RX0 67 yX0_landing ∈ ev_gw := (ev_gm (ev_t2 144 rfl) rfl)
theorem mlX0_70 : Cond.methodLink RX0 70 Lib.Math.min.name ∈ ev_gw := (ev_gm (ev_t2 145 rfl) rfl)
theorem mlX0_76 : Cond.methodLink RX0 76 yX0_growOlder ∈ ev_gw := (ev_gm (ev_t2 146 rfl) rfl)
theorem mlL_73 : Cond.methodLink RL 73 yX5_now ∈ ev_gw := (ev_gm (ev_t2 150 rfl) rfl)
theorem mlX5_158 : Cond.methodLink RX5 158 yX2_wheatOfAll ∈ ev_gw := (ev_gm (ev_t2 154 rfl) rfl)
theorem mlX5_162 : Cond.methodLink RX5 162 yX2_feesDue ∈ ev_gw := (ev_gm (ev_t2 161 rfl) rfl)
theorem mlX2_73 : Cond.methodLink RX2 73 yX2_likenessesOf ∈ ev_gw := (ev_gm (ev_t2 165 rfl) rfl)
theorem mlX5_165 : Cond.methodLink RX5 165 yX0_fearedCells ∈ ev_gw := (ev_gm (ev_t2 166 rfl) rfl)
theorem mlX5_168 : Cond.methodLink RX5 168 yX2_sittersWhoMeet ∈ ev_gw := (ev_gm (ev_t2 170 rfl) rfl)
theorem mlX2_69 : Cond.methodLink RX2 69 yX2_meetings ∈ ev_gw := (ev_gm (ev_t2 174 rfl) rfl)
theorem mlL_77 : Cond.methodLink RL 77 yX5_on ∈ ev_gw := (ev_gm (ev_t2 175 rfl) rfl)
theorem mlX5_171 : Cond.methodLink RX5 171 yX5_eatenAsItIs ∈ ev_gw := (ev_gm (ev_t2 179 rfl) rfl)
theorem mlX5_174 : Cond.methodLink RX5 174 yX2_become ∈ ev_gw := (ev_gm (ev_t2 183 rfl) rfl)
theorem mlX2_46 : Cond.methodLink RX2 46 arraycopyName ∈ ev_gw := (ev_gm (ev_t2 187 rfl) rfl)
theorem mlL_81 : Cond.methodLink RL 81 yX5_eaten ∈ ev_gw := (ev_gm (ev_t2 190 rfl) rfl)
theorem mlL_85 : Cond.methodLink RL 85 yX5_first ∈ ev_gw := (ev_gm (ev_t2 194 rfl) rfl)
theorem mlX5_177 : Cond.methodLink RX5 177 yX0_passDay ∈ ev_gw := (ev_gm (ev_t2 198 rfl) rfl)
theorem mlL_89 : Cond.methodLink RL 89 yX5_spot ∈ ev_gw := (ev_gm (ev_t2 199 rfl) rfl)
theorem mlX5_180 : Cond.methodLink RX5 180 yX5_bestChoice ∈ ev_gw := (ev_gm (ev_t2 203 rfl) rfl)
theorem mlL_93 : Cond.methodLink RL 93 yX5_whose ∈ ev_gw := (ev_gm (ev_t2 207 rfl) rfl)
theorem mlL_97 : Cond.methodLink RL 97 yX5_kind ∈ ev_gw := (ev_gm (ev_t2 211 rfl) rfl)
theorem mlL_101 : Cond.methodLink RL 101 yX5_temper ∈ ev_gw := (ev_gm (ev_t2 215 rfl) rfl)
theorem mlL_105 : Cond.methodLink RL 105 yX5_keep ∈ ev_gw := (ev_gm (ev_t2 219 rfl) rfl)
theorem mlX5_184 : Cond.methodLink RX5 184 yX2_allLikenesses ∈ ev_gw := (ev_gm (ev_t2 223 rfl) rfl)
theorem mlX5_187 : Cond.methodLink RX5 187 yX5_eatenWith ∈ ev_gw := (ev_gm (ev_t2 227 rfl) rfl)
theorem mlX5_260 : Cond.methodLink RX5 260 yX2_keepOnly ∈ ev_gw := (ev_gm (ev_t2 231 rfl) rfl)
theorem mlL_109 : Cond.methodLink RL 109 yX5_worth ∈ ev_gw := (ev_gm (ev_t2 235 rfl) rfl)
theorem mlL_113 : Cond.methodLink RL 113 yX5_apart ∈ ev_gw := (ev_gm (ev_t2 239 rfl) rfl)
theorem mlX5_191 : Cond.methodLink RX5 191 yX5_distanceOf ∈ ev_gw := (ev_gm (ev_t3 3 rfl) rfl)
theorem mlL_117 : Cond.methodLink RL 117 yX5_swap ∈ ev_gw := (ev_gm (ev_t3 4 rfl) rfl)
theorem mlX5_194 : Cond.methodLink RX5 194 yX5_eatenSwapped ∈ ev_gw := (ev_gm (ev_t3 8 rfl) rfl)
theorem mlL_121 : Cond.methodLink RL 121 yX5_feed ∈ ev_gw := (ev_gm (ev_t3 12 rfl) rfl)
theorem mlX5_201 : Cond.methodLink RX5 201 yX4_add ∈ ev_gw := (ev_gm (ev_t3 16 rfl) rfl)
theorem mlL_125 : Cond.methodLink RL 125 yX5_wipe ∈ ev_gw := (ev_gm (ev_t3 20 rfl) rfl)
theorem mlL_129 : Cond.methodLink RL 129 yX5_plain ∈ ev_gw := (ev_gm (ev_t3 24 rfl) rfl)
theorem mlX5_205 : Cond.methodLink RX5 205 yX4_parse ∈ ev_gw := (ev_gm (ev_t3 28 rfl) rfl)
theorem mlX4_22 : Cond.methodLink RX4 22 yX4_advance ∈ ev_gw := (ev_gm (ev_t3 32 rfl) rfl)
theorem mlX4_139 : Cond.methodLink RX4 139 yX4_isLetter ∈ ev_gw := (ev_gm (ev_t3 36 rfl) rfl)
theorem mlX4_143 : Cond.methodLink RX4 143 yX4_passLetters ∈ ev_gw := (ev_gm (ev_t3 39 rfl) rfl)
theorem mlX4_146 : Cond.methodLink RX4 146 yX4_isDigit ∈ ev_gw := (ev_gm (ev_t3 43 rfl) rfl)
theorem mlX4_149 : Cond.methodLink RX4 149 yX4_passDigits ∈ ev_gw := (ev_gm (ev_t3 46 rfl) rfl)
theorem mlX4_152 : Cond.methodLink RX4 152 Lib.Math.min.name ∈ ev_gw := (ev_gm (ev_t3 50 rfl) rfl)
theorem mlX4_25 : Cond.methodLink RX4 25 yX4_takeItem ∈ ev_gw := (ev_gm (ev_t3 51 rfl) rfl)
theorem mlX4_35 : Cond.methodLink RX4 35 yX4_kindNamed ∈ ev_gw := (ev_gm (ev_t3 55 rfl) rfl)
theorem mlX4_115 : Cond.methodLink RX4 115 yX4_nameOf ∈ ev_gw := (ev_gm (ev_t3 59 rfl) rfl)
theorem mlX4_45 : Cond.methodLink RX4 45 yX4_isWord ∈ ev_gw := (ev_gm (ev_t3 68 rfl) rfl)
theorem mlX4_131 : Cond.methodLink RX4 131 yJ0_length_8abf5 ∈ ev_gw := (ev_gm (ev_t3 72 rfl) rfl)
theorem mlJ0_335 : Cond.methodLink RJ0 335 yJ0_coder_7d493 ∈ ev_gw := (ev_gm (ev_t3 76 rfl) rfl)
theorem mlX4_135 : Cond.methodLink RX4 135 yJ0_charAt_5068e ∈ ev_gw := (ev_gm (ev_t3 82 rfl) rfl)
theorem mlJ0_492 : Cond.methodLink RJ0 492 yJ0_isLatin1_aae02 ∈ ev_gw := (ev_gm (ev_t3 86 rfl) rfl)
theorem mlJ0_495 : Cond.methodLink RJ0 495 yJ1_charAt_3b067 ∈ ev_gw := (ev_gm (ev_t3 90 rfl) rfl)
theorem mlJ1_9 : Cond.methodLink RJ1 9 yJ0_checkIndex_df160 ∈ ev_gw := (ev_gm (ev_t3 93 rfl) rfl)
theorem mlJ0_1059 : Cond.methodLink RJ0 1059 yJ3_checkIndex_8e157 ∈ ev_gw := (ev_gm (ev_t3 98 rfl) rfl)
theorem mlJ0_498 : Cond.methodLink RJ0 498 yJ2_charAt_3b067 ∈ ev_gw := (ev_gm (ev_t3 101 rfl) rfl)
theorem mlJ2_67 : Cond.methodLink RJ2 67 yJ2_checkIndex_2214a ∈ ev_gw := (ev_gm (ev_t3 104 rfl) rfl)
theorem mlJ2_48 : Cond.methodLink RJ2 48 yJ2_length_9d52b ∈ ev_gw := (ev_gm (ev_t3 107 rfl) rfl)
theorem mlJ2_414 : Cond.methodLink RJ2 414 yJ0_checkIndex_df160 ∈ ev_gw := (ev_gm (ev_t3 110 rfl) rfl)
theorem mlJ2_71 : Cond.methodLink RJ2 71 yJ2_getChar_3b067 ∈ ev_gw := (ev_gm (ev_t3 111 rfl) rfl)
theorem mlX4_39 : Cond.methodLink RX4 39 yX4_takeSitter ∈ ev_gw := (ev_gm (ev_t3 120 rfl) rfl)
theorem mlX4_67 : Cond.methodLink RX4 67 yX2_addSitter ∈ ev_gw := (ev_gm (ev_t3 124 rfl) rfl)
theorem mlX4_73 : Cond.methodLink RX4 73 yX4_takeWord ∈ ev_gw := (ev_gm (ev_t3 126 rfl) rfl)
theorem mlX4_76 : Cond.methodLink RX4 76 yX4_takeNumber ∈ ev_gw := (ev_gm (ev_t3 130 rfl) rfl)
theorem mlX4_49 : Cond.methodLink RX4 49 yX4_takeLikeness ∈ ev_gw := (ev_gm (ev_t3 137 rfl) rfl)
theorem mlX4_96 : Cond.methodLink RX4 96 yX2_addLikeness ∈ ev_gw := (ev_gm (ev_t3 142 rfl) rfl)
theorem mlX4_54 : Cond.methodLink RX4 54 yX4_takeWheat ∈ ev_gw := (ev_gm (ev_t3 144 rfl) rfl)
theorem mlX4_59 : Cond.methodLink RX4 59 yX4_takeCrows ∈ ev_gw := (ev_gm (ev_t3 150 rfl) rfl)
theorem mlL_133 : Cond.methodLink RL 133 yX5_sheet ∈ ev_gw := (ev_gm (ev_t3 155 rfl) rfl)
theorem mlX5_208 : Cond.methodLink RX5 208 yX5_isSheet ∈ ev_gw := (ev_gm (ev_t3 159 rfl) rfl)
theorem mlX5_211 : Cond.methodLink RX5 211 yX3_begin ∈ ev_gw := (ev_gm (ev_t3 162 rfl) rfl)
theorem mlX3_22 : Cond.methodLink RX3 22 yJ7_fill_d0a16 ∈ ev_gw := (ev_gm (ev_t3 166 rfl) rfl)
theorem mlL_139 : Cond.methodLink RL 139 yX5_write ∈ ev_gw := (ev_gm (ev_t3 169 rfl) rfl)
theorem mlX5_218 : Cond.methodLink RX5 218 yX3_isMissing ∈ ev_gw := (ev_gm (ev_t3 173 rfl) rfl)
theorem mlX5_226 : Cond.methodLink RX5 226 yX3_put ∈ ev_gw := (ev_gm (ev_t3 177 rfl) rfl)
theorem mlX3_28 : Cond.methodLink RX3 28 yX3_cut ∈ ev_gw := (ev_gm (ev_t3 181 rfl) rfl)
theorem mlL_144 : Cond.methodLink RL 144 yX5_copy ∈ ev_gw := (ev_gm (ev_t3 185 rfl) rfl)
theorem mlX5_233 : Cond.methodLink RX5 233 yX3_hasRun ∈ ev_gw := (ev_gm (ev_t3 189 rfl) rfl)
theorem mlX5_236 : Cond.methodLink RX5 236 arraycopyName ∈ ev_gw := (ev_gm (ev_t3 193 rfl) rfl)
theorem mlL_149 : Cond.methodLink RL 149 yX5_lays ∈ ev_gw := (ev_gm (ev_t3 194 rfl) rfl)
theorem mlL_153 : Cond.methodLink RL 153 yX5_book ∈ ev_gw := (ev_gm (ev_t3 199 rfl) rfl)
theorem mlL_157 : Cond.methodLink RL 157 yX5_read ∈ ev_gw := (ev_gm (ev_t3 203 rfl) rfl)
theorem mlX5_244 : Cond.methodLink RX5 244 yX5_trialGoesAs ∈ ev_gw := (ev_gm (ev_t3 207 rfl) rfl)
theorem mlL_161 : Cond.methodLink RL 161 yX5_image ∈ ev_gw := (ev_gm (ev_t3 211 rfl) rfl)
theorem mlL_165 : Cond.methodLink RL 165 yX5_undo ∈ ev_gw := (ev_gm (ev_t3 215 rfl) rfl)
theorem mlL_169 : Cond.methodLink RL 169 yX5_tear ∈ ev_gw := (ev_gm (ev_t3 219 rfl) rfl)
theorem mlL_173 : Cond.methodLink RL 173 yX5_count ∈ ev_gw := (ev_gm (ev_t3 223 rfl) rfl)
theorem mlX5_252 : Cond.methodLink RX5 252 yX2_temperOfAll ∈ ev_gw := (ev_gm (ev_t3 227 rfl) rfl)
theorem mlL_177 : Cond.methodLink RL 177 yX5_status ∈ ev_gw := (ev_gm (ev_t3 231 rfl) rfl)
theorem mlX5_255 : Cond.methodLink RX5 255 yX5_sumOf ∈ ev_gw := (ev_gm (ev_t3 235 rfl) rfl)
theorem mlL_12 : Cond.methodLink RL 12 yX6_init ∈ ev_gw := (ev_gm (ev_t3 238 rfl) rfl)
theorem mlL_17 : Cond.methodLink RL 17 yX6_wheat ∈ ev_gw := (ev_gm (ev_t4 63 rfl) rfl)
theorem mlX6_93 : Cond.methodLink RX6 93 yX6_isCell ∈ ev_gw := (ev_gm (ev_t4 67 rfl) rfl)
theorem mlX6_53 : Cond.methodLink RX6 53 yX6_in ∈ ev_gw := (ev_gm (ev_t4 71 rfl) rfl)
theorem mlX6_98 : Cond.methodLink RX6 98 yX6_becomes ∈ ev_gw := (ev_gm (ev_t4 75 rfl) rfl)
theorem mlX6_101 : Cond.methodLink RX6 101 yX6_finds ∈ ev_gw := (ev_gm (ev_t4 80 rfl) rfl)
theorem mlL_21 : Cond.methodLink RL 21 yX6_cell ∈ ev_gw := (ev_gm (ev_t4 84 rfl) rfl)
theorem mlX6_106 : Cond.methodLink RX6 106 yX6_fear ∈ ev_gw := (ev_gm (ev_t4 89 rfl) rfl)
theorem mlX6_70 : Cond.methodLink RX6 70 yX6_likes ∈ ev_gw := (ev_gm (ev_t4 93 rfl) rfl)
theorem mlX6_63 : Cond.methodLink RX6 63 yX6_placeOf ∈ ev_gw := (ev_gm (ev_t4 97 rfl) rfl)
theorem mlX6_83 : Cond.methodLink RX6 83 yX6_isThere ∈ ev_gw := (ev_gm (ev_t4 100 rfl) rfl)
theorem mlX6_87 : Cond.methodLink RX6 87 yX6_far ∈ ev_gw := (ev_gm (ev_t4 104 rfl) rfl)
theorem mlX6_90 : Cond.methodLink RX6 90 yX6_scared ∈ ev_gw := (ev_gm (ev_t4 107 rfl) rfl)
theorem mlX6_76 : Cond.methodLink RX6 76 yX6_counts ∈ ev_gw := (ev_gm (ev_t4 111 rfl) rfl)
theorem mlX6_73 : Cond.methodLink RX6 73 yX6_its ∈ ev_gw := (ev_gm (ev_t4 115 rfl) rfl)
theorem mlX6_59 : Cond.methodLink RX6 59 yX6_spotOf ∈ ev_gw := (ev_gm (ev_t4 119 rfl) rfl)
theorem mlX6_80 : Cond.methodLink RX6 80 yX6_atLeastNothing ∈ ev_gw := (ev_gm (ev_t4 122 rfl) rfl)
theorem mlX6_109 : Cond.methodLink RX6 109 yX6_thoseAt ∈ ev_gw := (ev_gm (ev_t4 125 rfl) rfl)
theorem mlL_26 : Cond.methodLink RL 26 yX6_crows ∈ ev_gw := (ev_gm (ev_t4 129 rfl) rfl)
theorem mlL_30 : Cond.methodLink RL 30 yX6_sitter ∈ ev_gw := (ev_gm (ev_t4 134 rfl) rfl)
theorem mlX6_114 : Cond.methodLink RX6 114 yX6_isKind ∈ ev_gw := (ev_gm (ev_t4 138 rfl) rfl)
theorem mlX6_118 : Cond.methodLink RX6 118 yX6_adds ∈ ev_gw := (ev_gm (ev_t4 143 rfl) rfl)
theorem mlL_34 : Cond.methodLink RL 34 yX6_of ∈ ev_gw := (ev_gm (ev_t4 147 rfl) rfl)
theorem mlX6_125 : Cond.methodLink RX6 125 yX6_isSitter ∈ ev_gw := (ev_gm (ev_t4 151 rfl) rfl)
theorem mlX6_128 : Cond.methodLink RX6 128 yX6_likenessesOf ∈ ev_gw := (ev_gm (ev_t4 155 rfl) rfl)
theorem mlX6_131 : Cond.methodLink RX6 131 yX6_meets ∈ ev_gw := (ev_gm (ev_t4 159 rfl) rfl)
theorem mlX6_121 : Cond.methodLink RX6 121 yX6_areMet ∈ ev_gw := (ev_gm (ev_t4 163 rfl) rfl)
theorem mlL_39 : Cond.methodLink RL 39 yX6_set ∈ ev_gw := (ev_gm (ev_t4 167 rfl) rfl)
theorem mlL_43 : Cond.methodLink RL 43 yX6_turn ∈ ev_gw := (ev_gm (ev_t4 172 rfl) rfl)
theorem mlL_47 : Cond.methodLink RL 47 yX6_as ∈ ev_gw := (ev_gm (ev_t4 176 rfl) rfl)
theorem mlX6_136 : Cond.methodLink RX6 136 yX6_isUnder ∈ ev_gw := (ev_gm (ev_t4 180 rfl) rfl)
theorem mlL_51 : Cond.methodLink RL 51 yX6_likeness ∈ ev_gw := (ev_gm (ev_t4 184 rfl) rfl)
theorem mlX6_140 : Cond.methodLink RX6 140 yX6_puts ∈ ev_gw := (ev_gm (ev_t4 188 rfl) rfl)
theorem mlL_55 : Cond.methodLink RL 55 yX6_told ∈ ev_gw := (ev_gm (ev_t4 192 rfl) rfl)
theorem mlX6_143 : Cond.methodLink RX6 143 yX6_isLikeness ∈ ev_gw := (ev_gm (ev_t4 196 rfl) rfl)
theorem mlL_59 : Cond.methodLink RL 59 yX6_place ∈ ev_gw := (ev_gm (ev_t4 201 rfl) rfl)
theorem mlL_63 : Cond.methodLink RL 63 yX6_scares ∈ ev_gw := (ev_gm (ev_t4 206 rfl) rfl)
theorem mlL_68 : Cond.methodLink RL 68 yX6_lands ∈ ev_gw := (ev_gm (ev_t4 211 rfl) rfl)
theorem mlX6_155 : Cond.methodLink RX6 155 yX6_fearsNow ∈ ev_gw := (ev_gm (ev_t4 215 rfl) rfl)
theorem mlX6_152 : Cond.methodLink RX6 152 yX6_fearBy ∈ ev_gw := (ev_gm (ev_t4 219 rfl) rfl)
theorem mlX6_158 : Cond.methodLink RX6 158 yX6_landsAt ∈ ev_gw := (ev_gm (ev_t4 223 rfl) rfl)
theorem mlL_72 : Cond.methodLink RL 72 yX6_days ∈ ev_gw := (ev_gm (ev_t4 228 rfl) rfl)
theorem mlX6_169 : Cond.methodLink RX6 169 yX6_daysGo ∈ ev_gw := (ev_gm (ev_t4 234 rfl) rfl)
theorem mlX6_163 : Cond.methodLink RX6 163 yX6_day ∈ ev_gw := (ev_gm (ev_t4 238 rfl) rfl)
theorem mlL_76 : Cond.methodLink RL 76 yX6_now ∈ ev_gw := (ev_gm (ev_t5 2 rfl) rfl)
theorem mlX6_172 : Cond.methodLink RX6 172 yX6_wheatAll ∈ ev_gw := (ev_gm (ev_t5 6 rfl) rfl)
theorem mlX6_175 : Cond.methodLink RX6 175 yX6_fees ∈ ev_gw := (ev_gm (ev_t5 10 rfl) rfl)
theorem mlX6_178 : Cond.methodLink RX6 178 yX6_feared ∈ ev_gw := (ev_gm (ev_t5 14 rfl) rfl)
theorem mlX6_181 : Cond.methodLink RX6 181 yX6_meeting ∈ ev_gw := (ev_gm (ev_t5 18 rfl) rfl)
theorem mlL_80 : Cond.methodLink RL 80 yX6_on ∈ ev_gw := (ev_gm (ev_t5 22 rfl) rfl)
theorem mlX6_184 : Cond.methodLink RX6 184 yX6_laysAside ∈ ev_gw := (ev_gm (ev_t5 26 rfl) rfl)
theorem mlX6_187 : Cond.methodLink RX6 187 yX6_takesBack ∈ ev_gw := (ev_gm (ev_t5 30 rfl) rfl)
theorem mlL_84 : Cond.methodLink RL 84 yX6_eaten ∈ ev_gw := (ev_gm (ev_t5 34 rfl) rfl)
theorem mlX6_190 : Cond.methodLink RX6 190 yX6_eatenOn ∈ ev_gw := (ev_gm (ev_t5 38 rfl) rfl)
theorem mlL_88 : Cond.methodLink RL 88 yX6_first ∈ ev_gw := (ev_gm (ev_t5 42 rfl) rfl)
theorem mlL_92 : Cond.methodLink RL 92 yX6_spot ∈ ev_gw := (ev_gm (ev_t5 46 rfl) rfl)
theorem mlX6_193 : Cond.methodLink RX6 193 yX6_isSoon ∈ ev_gw := (ev_gm (ev_t5 50 rfl) rfl)
theorem mlX6_196 : Cond.methodLink RX6 196 yX6_leastBy ∈ ev_gw := (ev_gm (ev_t5 53 rfl) rfl)
theorem mlL_96 : Cond.methodLink RL 96 yX6_whose ∈ ev_gw := (ev_gm (ev_t5 57 rfl) rfl)
theorem mlL_100 : Cond.methodLink RL 100 yX6_kind ∈ ev_gw := (ev_gm (ev_t5 61 rfl) rfl)
theorem mlL_104 : Cond.methodLink RL 104 yX6_temper ∈ ev_gw := (ev_gm (ev_t5 65 rfl) rfl)
theorem mlL_108 : Cond.methodLink RL 108 yX6_keep ∈ ev_gw := (ev_gm (ev_t5 69 rfl) rfl)
theorem mlX6_202 : Cond.methodLink RX6 202 yX6_ones ∈ ev_gw := (ev_gm (ev_t5 74 rfl) rfl)
theorem mlX6_205 : Cond.methodLink RX6 205 yX6_eatenWithout ∈ ev_gw := (ev_gm (ev_t5 77 rfl) rfl)
theorem mlL_112 : Cond.methodLink RL 112 yX6_worth ∈ ev_gw := (ev_gm (ev_t5 81 rfl) rfl)
theorem mlL_116 : Cond.methodLink RL 116 yX6_apart ∈ ev_gw := (ev_gm (ev_t5 85 rfl) rfl)
theorem mlL_120 : Cond.methodLink RL 120 yX6_swap ∈ ev_gw := (ev_gm (ev_t5 89 rfl) rfl)
theorem mlX6_208 : Cond.methodLink RX6 208 yX6_swapped ∈ ev_gw := (ev_gm (ev_t5 93 rfl) rfl)
theorem mlL_124 : Cond.methodLink RL 124 yX6_feed ∈ ev_gw := (ev_gm (ev_t5 97 rfl) rfl)
theorem mlL_128 : Cond.methodLink RL 128 yX6_wipe ∈ ev_gw := (ev_gm (ev_t5 101 rfl) rfl)
theorem mlL_132 : Cond.methodLink RL 132 yX6_plain ∈ ev_gw := (ev_gm (ev_t5 105 rfl) rfl)
theorem mlX6_302 : Cond.methodLink RX6 302 yX6_saves ∈ ev_gw := (ev_gm (ev_t5 109 rfl) rfl)
theorem mlX6_241 : Cond.methodLink RX6 241 yX6_token ∈ ev_gw := (ev_gm (ev_t5 113 rfl) rfl)
theorem mlX6_228 : Cond.methodLink RX6 228 yX6_byteAt ∈ ev_gw := (ev_gm (ev_t5 117 rfl) rfl)
theorem mlX6_231 : Cond.methodLink RX6 231 yX6_isLetter ∈ ev_gw := (ev_gm (ev_t5 121 rfl) rfl)
theorem mlX6_234 : Cond.methodLink RX6 234 yX6_isDigit ∈ ev_gw := (ev_gm (ev_t5 126 rfl) rfl)
theorem mlX6_305 : Cond.methodLink RX6 305 yX6_item ∈ ev_gw := (ev_gm (ev_t5 131 rfl) rfl)
theorem mlX6_283 : Cond.methodLink RX6 283 yX6_kindHere ∈ ev_gw := (ev_gm (ev_t5 135 rfl) rfl)
theorem mlX6_255 : Cond.methodLink RX6 255 yX6_word ∈ ev_gw := (ev_gm (ev_t5 139 rfl) rfl)
theorem mlX6_286 : Cond.methodLink RX6 286 yX6_sitterItem ∈ ev_gw := (ev_gm (ev_t5 151 rfl) rfl)
theorem mlX6_251 : Cond.methodLink RX6 251 yX6_must ∈ ev_gw := (ev_gm (ev_t5 155 rfl) rfl)
theorem mlX6_273 : Cond.methodLink RX6 273 yX6_number ∈ ev_gw := (ev_gm (ev_t5 160 rfl) rfl)
theorem mlX6_292 : Cond.methodLink RX6 292 yX6_likenessItem ∈ ev_gw := (ev_gm (ev_t5 166 rfl) rfl)
theorem mlX6_297 : Cond.methodLink RX6 297 yX6_wheatItem ∈ ev_gw := (ev_gm (ev_t5 172 rfl) rfl)
theorem mlX6_308 : Cond.methodLink RX6 308 yX6_putsBack ∈ ev_gw := (ev_gm (ev_t5 178 rfl) rfl)
theorem mlL_136 : Cond.methodLink RL 136 yX6_sheet ∈ ev_gw := (ev_gm (ev_t5 182 rfl) rfl)
theorem mlX6_313 : Cond.methodLink RX6 313 yX6_isOne ∈ ev_gw := (ev_gm (ev_t5 186 rfl) rfl)
theorem mlL_143 : Cond.methodLink RL 143 yX6_write ∈ ev_gw := (ev_gm (ev_t5 191 rfl) rfl)
theorem mlX6_318 : Cond.methodLink RX6 318 yX6_wrongSheet ∈ ev_gw := (ev_gm (ev_t5 195 rfl) rfl)
theorem mlX6_321 : Cond.methodLink RX6 321 yX6_narrowed ∈ ev_gw := (ev_gm (ev_t5 200 rfl) rfl)
theorem mlL_148 : Cond.methodLink RL 148 yX6_copy ∈ ev_gw := (ev_gm (ev_t5 203 rfl) rfl)
theorem mlL_152 : Cond.methodLink RL 152 yX6_lays ∈ ev_gw := (ev_gm (ev_t5 207 rfl) rfl)
theorem mlL_156 : Cond.methodLink RL 156 yX6_book ∈ ev_gw := (ev_gm (ev_t5 211 rfl) rfl)
theorem mlL_160 : Cond.methodLink RL 160 yX6_read ∈ ev_gw := (ev_gm (ev_t5 215 rfl) rfl)
theorem mlX6_325 : Cond.methodLink RX6 325 yX6_isBook ∈ ev_gw := (ev_gm (ev_t5 219 rfl) rfl)
theorem mlL_164 : Cond.methodLink RL 164 yX6_image ∈ ev_gw := (ev_gm (ev_t5 223 rfl) rfl)
theorem mlL_168 : Cond.methodLink RL 168 yX6_undo ∈ ev_gw := (ev_gm (ev_t5 227 rfl) rfl)
theorem mlL_172 : Cond.methodLink RL 172 yX6_tear ∈ ev_gw := (ev_gm (ev_t5 231 rfl) rfl)
theorem mlL_176 : Cond.methodLink RL 176 yX6_count ∈ ev_gw := (ev_gm (ev_t5 235 rfl) rfl)
theorem mlX6_331 : Cond.methodLink RX6 331 yX6_tempers ∈ ev_gw := (ev_gm (ev_t5 239 rfl) rfl)
theorem mlL_180 : Cond.methodLink RL 180 yX6_status ∈ ev_gw := (ev_gm (ev_t6 3 rfl) rfl)
theorem kcX5_259 : Cond.constant RX5 259 (-1000000001) ∈ ev_gw := (ev_gm (ev_t1 211 rfl) rfl)
theorem kcX0_95 : Cond.constant RX0 95 (-1000000) ∈ ev_gw := (ev_gm (ev_t2 16 rfl) rfl)
theorem kcJ6_265 : Cond.constant RJ6 265 (1431655765) ∈ ev_gw := (ev_gm (ev_t2 63 rfl) rfl)
theorem kcJ6_266 : Cond.constant RJ6 266 (858993459) ∈ ev_gw := (ev_gm (ev_t2 64 rfl) rfl)
theorem kcJ6_267 : Cond.constant RJ6 267 (252645135) ∈ ev_gw := (ev_gm (ev_t2 65 rfl) rfl)
theorem kcX5_153 : Cond.constant RX5 153 (1000000) ∈ ev_gw := (ev_gm (ev_t2 130 rfl) rfl)
theorem kcX6_50 : Cond.constant RX6 50 (-1000000001) ∈ ev_gw := (ev_gm (ev_t4 79 rfl) rfl)
theorem kcX6_117 : Cond.constant RX6 117 (-1000000002) ∈ ev_gw := (ev_gm (ev_t4 142 rfl) rfl)
theorem kcX6_139 : Cond.constant RX6 139 (-1000000003) ∈ ev_gw := (ev_gm (ev_t4 183 rfl) rfl)
theorem kcX6_162 : Cond.constant RX6 162 (-1000000004) ∈ ev_gw := (ev_gm (ev_t4 227 rfl) rfl)
theorem kcX6_168 : Cond.constant RX6 168 (-1000000005) ∈ ev_gw := (ev_gm (ev_t4 233 rfl) rfl)
theorem kcX6_316 : Cond.constant RX6 316 (-1000000007) ∈ ev_gw := (ev_gm (ev_t5 190 rfl) rfl)
theorem kcX6_317 : Cond.constant RX6 317 (-1000000006) ∈ ev_gw := (ev_gm (ev_t5 199 rfl) rfl)
theorem klX5_242 : Cond.constantLong RX5 242 (99) ∈ ev_gw := (ev_gm (ev_t3 198 rfl) rfl)
theorem klX6_51 : Cond.constantLong RX6 51 (47) ∈ ev_gw := (ev_gm (ev_t4 70 rfl) rfl)
theorem klX6_96 : Cond.constantLong RX6 96 (99) ∈ ev_gw := (ev_gm (ev_t4 74 rfl) rfl)
theorem klX6_104 : Cond.constantLong RX6 104 (2) ∈ ev_gw := (ev_gm (ev_t4 88 rfl) rfl)
theorem klX6_112 : Cond.constantLong RX6 112 (20) ∈ ev_gw := (ev_gm (ev_t4 133 rfl) rfl)
theorem klX6_57 : Cond.constantLong RX6 57 (5) ∈ ev_gw := (ev_gm (ev_t4 141 rfl) rfl)
theorem klX6_134 : Cond.constantLong RX6 134 (30) ∈ ev_gw := (ev_gm (ev_t4 171 rfl) rfl)
theorem klX6_146 : Cond.constantLong RX6 146 (4) ∈ ev_gw := (ev_gm (ev_t4 200 rfl) rfl)
theorem klX6_148 : Cond.constantLong RX6 148 (9999) ∈ ev_gw := (ev_gm (ev_t4 205 rfl) rfl)
theorem klX6_150 : Cond.constantLong RX6 150 (12) ∈ ev_gw := (ev_gm (ev_t4 210 rfl) rfl)
theorem klX6_166 : Cond.constantLong RX6 166 (60) ∈ ev_gw := (ev_gm (ev_t4 232 rfl) rfl)
theorem klX6_200 : Cond.constantLong RX6 200 (10) ∈ ev_gw := (ev_gm (ev_t5 73 rfl) rfl)
theorem klX6_214 : Cond.constantLong RX6 214 (97) ∈ ev_gw := (ev_gm (ev_t5 124 rfl) rfl)
theorem klX6_216 : Cond.constantLong RX6 216 (122) ∈ ev_gw := (ev_gm (ev_t5 125 rfl) rfl)
theorem klX6_218 : Cond.constantLong RX6 218 (48) ∈ ev_gw := (ev_gm (ev_t5 129 rfl) rfl)
theorem klX6_220 : Cond.constantLong RX6 220 (57) ∈ ev_gw := (ev_gm (ev_t5 130 rfl) rfl)
theorem klX6_244 : Cond.constantLong RX6 244 (36028797018963967) ∈ ev_gw := (ev_gm (ev_t5 143 rfl) rfl)
theorem klX6_246 : Cond.constantLong RX6 246 (32) ∈ ev_gw := (ev_gm (ev_t5 144 rfl) rfl)
theorem klX6_259 : Cond.constantLong RX6 259 (647647410) ∈ ev_gw := (ev_gm (ev_t5 145 rfl) rfl)
theorem klX6_261 : Cond.constantLong RX6 261 (2190877894) ∈ ev_gw := (ev_gm (ev_t5 146 rfl) rfl)
theorem klX6_263 : Cond.constantLong RX6 263 (12940714148) ∈ ev_gw := (ev_gm (ev_t5 147 rfl) rfl)
theorem klX6_265 : Cond.constantLong RX6 265 (136228) ∈ ev_gw := (ev_gm (ev_t5 148 rfl) rfl)
theorem klX6_267 : Cond.constantLong RX6 267 (394393) ∈ ev_gw := (ev_gm (ev_t5 149 rfl) rfl)
theorem klX6_269 : Cond.constantLong RX6 269 (674915359922) ∈ ev_gw := (ev_gm (ev_t5 150 rfl) rfl)
theorem klX6_271 : Cond.constantLong RX6 271 (676774066) ∈ ev_gw := (ev_gm (ev_t5 159 rfl) rfl)
theorem klX6_277 : Cond.constantLong RX6 277 (6309) ∈ ev_gw := (ev_gm (ev_t5 164 rfl) rfl)
theorem klX6_290 : Cond.constantLong RX6 290 (422355342963) ∈ ev_gw := (ev_gm (ev_t5 165 rfl) rfl)
theorem klX6_279 : Cond.constantLong RX6 279 (52) ∈ ev_gw := (ev_gm (ev_t5 170 rfl) rfl)
theorem klX6_295 : Cond.constantLong RX6 295 (24384564) ∈ ev_gw := (ev_gm (ev_t5 171 rfl) rfl)
theorem klX6_281 : Cond.constantLong RX6 281 (655) ∈ ev_gw := (ev_gm (ev_t5 176 rfl) rfl)
theorem klX6_300 : Cond.constantLong RX6 300 (3751667) ∈ ev_gw := (ev_gm (ev_t5 177 rfl) rfl)
theorem klX6_311 : Cond.constantLong RX6 311 (3) ∈ ev_gw := (ev_gm (ev_t5 189 rfl) rfl)
theorem klX6_334 : Cond.constantLong RX6 334 (-1) ∈ ev_gw := (ev_gm (ev_t6 7 rfl) rfl)
theorem klX6_336 : Cond.constantLong RX6 336 (6) ∈ ev_gw := (ev_gm (ev_t6 8 rfl) rfl)
theorem klL_137 : Cond.constantLong RL 137 (4294967295) ∈ ev_gw := (ev_gm (ev_t6 9 rfl) rfl)
theorem nlX0_105 : Cond.methodLinkNest RX0 105 yX5_distanceOf RX5 ∈ ev_nw := by simp [ev_nw]
theorem nlX2_76 : Cond.methodLinkNest RX2 76 yX5_sumOf RX5 ∈ ev_nw := by simp [ev_nw]
theorem nlX4_111 : Cond.methodLinkNest RX4 111 yX5_isWithin RX5 ∈ ev_nw := by simp [ev_nw]
theorem ma_max : Cond.static Lib.Math.max.name ∈ ev_gw ∧ Cond.initialized "java/lang/Math" ∈ ev_gw ∧ Cond.code Lib.Math.max.name Lib.Math.max.code 2 (some .int) ∈ ev_gw := ⟨(ev_gm (ev_t1 228 rfl) rfl), (ev_gm (ev_t1 9 rfl) rfl), (ev_gm (ev_t1 229 rfl) rfl)⟩
theorem ma_min : Cond.static Lib.Math.min.name ∈ ev_gw ∧ Cond.initialized "java/lang/Math" ∈ ev_gw ∧ Cond.code Lib.Math.min.name Lib.Math.min.code 2 (some .int) ∈ ev_gw := ⟨(ev_gm (ev_t1 238 rfl) rfl), (ev_gm (ev_t1 9 rfl) rfl), (ev_gm (ev_t1 239 rfl) rfl)⟩
theorem ma_abs : Cond.static Lib.Math.abs.name ∈ ev_gw ∧ Cond.initialized "java/lang/Math" ∈ ev_gw ∧ Cond.code Lib.Math.abs.name Lib.Math.abs.code 1 (some .int) ∈ ev_gw := ⟨(ev_gm (ev_t2 22 rfl) rfl), (ev_gm (ev_t1 9 rfl) rfl), (ev_gm (ev_t2 23 rfl) rfl)⟩
theorem ac_n : Cond.native arraycopyName ∈ lw_tbl ∧ goodWord (Cond.native arraycopyName) = true := ⟨ev_t2 189 rfl, rfl⟩
theorem ac_s : Cond.static arraycopyName ∈ ev_gw := (ev_gm (ev_t2 188 rfl) rfl)
theorem ac_i : Cond.initialized "java/lang/System" ∈ ev_gw := (ev_gm (ev_t1 11 rfl) rfl)
theorem iwX0 : ∀ w ∈ u_ws RX0 TX0 5, w ∈ ev_gw := by
  intro w hw
  refine ev_gm ?_ ?_
  · revert w
    decide +kernel
  · revert w
    decide +kernel
theorem iwX2 : ∀ w ∈ u_ws RX2 TX2 12, w ∈ ev_gw := by
  intro w hw
  refine ev_gm ?_ ?_
  · revert w
    decide +kernel
  · revert w
    decide +kernel
theorem iwX3 : ∀ w ∈ u_ws RX3 TX3 3, w ∈ ev_gw := by
  intro w hw
  refine ev_gm ?_ ?_
  · revert w
    decide +kernel
  · revert w
    decide +kernel
theorem iwX4 : ∀ w ∈ u_ws RX4 TX4 7, w ∈ ev_gw := by
  intro w hw
  refine ev_gm ?_ ?_
  · revert w
    decide +kernel
  · revert w
    decide +kernel
theorem iwX5 : ∀ w ∈ u_ws RX5 TX5 8, w ∈ ev_gw := by
  intro w hw
  refine ev_gm ?_ ?_
  · revert w
    decide +kernel
  · revert w
    decide +kernel
theorem iwX6 : ∀ w ∈ u_ws RX6 TX6 20, w ∈ ev_gw := by
  intro w hw
  refine ev_gm ?_ ?_
  · revert w
    decide +kernel
  · revert w
    decide +kernel
end
section
theorem dX0_init_0 : decode cX0_init 0 = .ok (.aload_n 0, 1) := by decide +kernel
theorem dX0_init_1 : decode cX0_init 1 = .ok (.invokespecial 3, 3) := by decide +kernel
theorem dX0_init_4 : decode cX0_init 4 = .ok (.aload_n 0, 1) := by decide +kernel
theorem dX0_init_5 : decode cX0_init 5 = .ok (.bipush 48, 2) := by decide +kernel
theorem dX0_init_7 : decode cX0_init 7 = .ok (.newarray .int, 2) := by decide +kernel
theorem dX0_init_9 : decode cX0_init 9 = .ok (.putfield 9, 3) := by decide +kernel
theorem dX0_init_12 : decode cX0_init 12 = .ok (.aload_n 0, 1) := by decide +kernel
theorem dX0_init_13 : decode cX0_init 13 = .ok (.bipush 8, 2) := by decide +kernel
theorem dX0_init_15 : decode cX0_init 15 = .ok (.newarray .int, 2) := by decide +kernel
theorem dX0_init_17 : decode cX0_init 17 = .ok (.putfield 15, 3) := by decide +kernel
theorem dX0_init_20 : decode cX0_init 20 = .ok (.aload_n 0, 1) := by decide +kernel
theorem dX0_init_21 : decode cX0_init 21 = .ok (.bipush 104, 2) := by decide +kernel
theorem dX0_init_23 : decode cX0_init 23 = .ok (.newarray .int, 2) := by decide +kernel
theorem dX0_init_25 : decode cX0_init 25 = .ok (.putfield 18, 3) := by decide +kernel
theorem dX0_init_28 : decode cX0_init 28 = .ok (.aload_n 0, 1) := by decide +kernel
theorem dX0_init_29 : decode cX0_init 29 = .ok (.bipush 6, 2) := by decide +kernel
theorem dX0_init_31 : decode cX0_init 31 = .ok (.newarray .int, 2) := by decide +kernel
theorem dX0_init_33 : decode cX0_init 33 = .ok (.putfield 21, 3) := by decide +kernel
theorem dX0_init_36 : decode cX0_init 36 = .ok (.aload_n 0, 1) := by decide +kernel
theorem dX0_init_37 : decode cX0_init 37 = .ok (.bipush 6, 2) := by decide +kernel
theorem dX0_init_39 : decode cX0_init 39 = .ok (.newarray .int, 2) := by decide +kernel
theorem dX0_init_41 : decode cX0_init 41 = .ok (.putfield 24, 3) := by decide +kernel
theorem dX0_init_44 : decode cX0_init 44 = .ok (.return_, 1) := by decide +kernel
theorem dX0_look_0 : decode cX0_look 0 = .ok (.iconst 0, 1) := by decide +kernel
theorem dX0_look_1 : decode cX0_look 1 = .ok (.istore_n 2, 1) := by decide +kernel
theorem dX0_look_2 : decode cX0_look 2 = .ok (.iload_n 2, 1) := by decide +kernel
theorem dX0_look_3 : decode cX0_look 3 = .ok (.aload_n 1, 1) := by decide +kernel
theorem dX0_look_4 : decode cX0_look 4 = .ok (.getfield 27, 3) := by decide +kernel
theorem dX0_look_7 : decode cX0_look 7 = .ok (.if_icmp .ge 20, 3) := by decide +kernel
theorem dX0_look_10 : decode cX0_look 10 = .ok (.aload_n 0, 1) := by decide +kernel
theorem dX0_look_11 : decode cX0_look 11 = .ok (.aload_n 1, 1) := by decide +kernel
theorem dX0_look_12 : decode cX0_look 12 = .ok (.iload_n 2, 1) := by decide +kernel
theorem dX0_look_13 : decode cX0_look 13 = .ok (.aload_n 1, 1) := by decide +kernel
theorem dX0_look_14 : decode cX0_look 14 = .ok (.iload_n 2, 1) := by decide +kernel
theorem dX0_look_15 : decode cX0_look 15 = .ok (.invokevirtual 33, 3) := by decide +kernel
theorem dX0_look_18 : decode cX0_look 18 = .ok (.invokevirtual 37, 3) := by decide +kernel
theorem dX0_look_21 : decode cX0_look 21 = .ok (.iinc 2 1, 3) := by decide +kernel
theorem dX0_look_24 : decode cX0_look 24 = .ok (.goto (-22), 3) := by decide +kernel
theorem dX0_look_27 : decode cX0_look 27 = .ok (.iconst 0, 1) := by decide +kernel
theorem dX0_look_28 : decode cX0_look 28 = .ok (.istore_n 2, 1) := by decide +kernel
theorem dX0_look_29 : decode cX0_look 29 = .ok (.iload_n 2, 1) := by decide +kernel
theorem dX0_look_30 : decode cX0_look 30 = .ok (.aload_n 1, 1) := by decide +kernel
theorem dX0_look_31 : decode cX0_look 31 = .ok (.getfield 41, 3) := by decide +kernel
theorem dX0_look_34 : decode cX0_look 34 = .ok (.if_icmp .ge 20, 3) := by decide +kernel
theorem dX0_look_37 : decode cX0_look 37 = .ok (.aload_n 0, 1) := by decide +kernel
theorem dX0_look_38 : decode cX0_look 38 = .ok (.getfield 24, 3) := by decide +kernel
theorem dX0_look_41 : decode cX0_look 41 = .ok (.iload_n 2, 1) := by decide +kernel
theorem dX0_look_42 : decode cX0_look 42 = .ok (.aload_n 1, 1) := by decide +kernel
theorem dX0_look_43 : decode cX0_look 43 = .ok (.iload_n 2, 1) := by decide +kernel
theorem dX0_look_44 : decode cX0_look 44 = .ok (.invokevirtual 44, 3) := by decide +kernel
theorem dX0_look_47 : decode cX0_look 47 = .ok (.iastore, 1) := by decide +kernel
theorem dX0_look_48 : decode cX0_look 48 = .ok (.iinc 2 1, 3) := by decide +kernel
theorem dX0_look_51 : decode cX0_look 51 = .ok (.goto (-22), 3) := by decide +kernel
theorem dX0_look_54 : decode cX0_look 54 = .ok (.aload_n 0, 1) := by decide +kernel
theorem dX0_look_55 : decode cX0_look 55 = .ok (.aload_n 1, 1) := by decide +kernel
theorem dX0_look_56 : decode cX0_look 56 = .ok (.invokevirtual 46, 3) := by decide +kernel
theorem dX0_look_59 : decode cX0_look 59 = .ok (.return_, 1) := by decide +kernel
theorem dX0_landing_0 : decode cX0_landing 0 = .ok (.iconst (-1), 1) := by decide +kernel
theorem dX0_landing_1 : decode cX0_landing 1 = .ok (.istore_n 2, 1) := by decide +kernel
theorem dX0_landing_2 : decode cX0_landing 2 = .ok (.iconst 0, 1) := by decide +kernel
theorem dX0_landing_3 : decode cX0_landing 3 = .ok (.istore_n 3, 1) := by decide +kernel
theorem dX0_landing_4 : decode cX0_landing 4 = .ok (.iconst 0, 1) := by decide +kernel
theorem dX0_landing_5 : decode cX0_landing 5 = .ok (.istore 4, 2) := by decide +kernel
theorem dX0_landing_7 : decode cX0_landing 7 = .ok (.iload 4, 2) := by decide +kernel
theorem dX0_landing_9 : decode cX0_landing 9 = .ok (.bipush 48, 2) := by decide +kernel
theorem dX0_landing_11 : decode cX0_landing 11 = .ok (.if_icmp .ge 64, 3) := by decide +kernel
theorem dX0_landing_14 : decode cX0_landing 14 = .ok (.aload_n 1, 1) := by decide +kernel
theorem dX0_landing_15 : decode cX0_landing 15 = .ok (.getfield 50, 3) := by decide +kernel
theorem dX0_landing_18 : decode cX0_landing 18 = .ok (.iload 4, 2) := by decide +kernel
theorem dX0_landing_20 : decode cX0_landing 20 = .ok (.iaload, 1) := by decide +kernel
theorem dX0_landing_21 : decode cX0_landing 21 = .ok (.ifCond .le 48, 3) := by decide +kernel
theorem dX0_landing_24 : decode cX0_landing 24 = .ok (.aload_n 0, 1) := by decide +kernel
theorem dX0_landing_25 : decode cX0_landing 25 = .ok (.getfield 9, 3) := by decide +kernel
theorem dX0_landing_28 : decode cX0_landing 28 = .ok (.iload 4, 2) := by decide +kernel
theorem dX0_landing_30 : decode cX0_landing 30 = .ok (.iaload, 1) := by decide +kernel
theorem dX0_landing_31 : decode cX0_landing 31 = .ok (.bipush 20, 2) := by decide +kernel
theorem dX0_landing_33 : decode cX0_landing 33 = .ok (.if_icmp .ge 36, 3) := by decide +kernel
theorem dX0_landing_36 : decode cX0_landing 36 = .ok (.aload_n 1, 1) := by decide +kernel
theorem dX0_landing_37 : decode cX0_landing 37 = .ok (.getfield 50, 3) := by decide +kernel
theorem dX0_landing_40 : decode cX0_landing 40 = .ok (.iload 4, 2) := by decide +kernel
theorem dX0_landing_42 : decode cX0_landing 42 = .ok (.iaload, 1) := by decide +kernel
theorem dX0_landing_43 : decode cX0_landing 43 = .ok (.aload_n 0, 1) := by decide +kernel
theorem dX0_landing_44 : decode cX0_landing 44 = .ok (.getfield 9, 3) := by decide +kernel
theorem dX0_landing_47 : decode cX0_landing 47 = .ok (.iload 4, 2) := by decide +kernel
theorem dX0_landing_49 : decode cX0_landing 49 = .ok (.iaload, 1) := by decide +kernel
theorem dX0_landing_50 : decode cX0_landing 50 = .ok (.isub, 1) := by decide +kernel
theorem dX0_landing_51 : decode cX0_landing 51 = .ok (.istore 5, 2) := by decide +kernel
theorem dX0_landing_53 : decode cX0_landing 53 = .ok (.iload_n 2, 1) := by decide +kernel
theorem dX0_landing_54 : decode cX0_landing 54 = .ok (.ifCond .lt 9, 3) := by decide +kernel
theorem dX0_landing_57 : decode cX0_landing 57 = .ok (.iload 5, 2) := by decide +kernel
theorem dX0_landing_59 : decode cX0_landing 59 = .ok (.iload_n 3, 1) := by decide +kernel
theorem dX0_landing_60 : decode cX0_landing 60 = .ok (.if_icmp .le 9, 3) := by decide +kernel
theorem dX0_landing_63 : decode cX0_landing 63 = .ok (.iload 5, 2) := by decide +kernel
theorem dX0_landing_65 : decode cX0_landing 65 = .ok (.istore_n 3, 1) := by decide +kernel
theorem dX0_landing_66 : decode cX0_landing 66 = .ok (.iload 4, 2) := by decide +kernel
theorem dX0_landing_68 : decode cX0_landing 68 = .ok (.istore_n 2, 1) := by decide +kernel
theorem dX0_landing_69 : decode cX0_landing 69 = .ok (.iinc 4 1, 3) := by decide +kernel
theorem dX0_landing_72 : decode cX0_landing 72 = .ok (.goto (-65), 3) := by decide +kernel
theorem dX0_landing_75 : decode cX0_landing 75 = .ok (.iload_n 2, 1) := by decide +kernel
theorem dX0_landing_76 : decode cX0_landing 76 = .ok (.ireturn, 1) := by decide +kernel
theorem dX0_fearedCells_0 : decode cX0_fearedCells 0 = .ok (.iconst 0, 1) := by decide +kernel
theorem dX0_fearedCells_1 : decode cX0_fearedCells 1 = .ok (.istore_n 1, 1) := by decide +kernel
theorem dX0_fearedCells_2 : decode cX0_fearedCells 2 = .ok (.iconst 0, 1) := by decide +kernel
theorem dX0_fearedCells_3 : decode cX0_fearedCells 3 = .ok (.istore_n 2, 1) := by decide +kernel
theorem dX0_fearedCells_4 : decode cX0_fearedCells 4 = .ok (.iload_n 2, 1) := by decide +kernel
theorem dX0_fearedCells_5 : decode cX0_fearedCells 5 = .ok (.bipush 48, 2) := by decide +kernel
theorem dX0_fearedCells_7 : decode cX0_fearedCells 7 = .ok (.if_icmp .ge 23, 3) := by decide +kernel
theorem dX0_fearedCells_10 : decode cX0_fearedCells 10 = .ok (.aload_n 0, 1) := by decide +kernel
theorem dX0_fearedCells_11 : decode cX0_fearedCells 11 = .ok (.getfield 9, 3) := by decide +kernel
theorem dX0_fearedCells_14 : decode cX0_fearedCells 14 = .ok (.iload_n 2, 1) := by decide +kernel
theorem dX0_fearedCells_15 : decode cX0_fearedCells 15 = .ok (.iaload, 1) := by decide +kernel
theorem dX0_fearedCells_16 : decode cX0_fearedCells 16 = .ok (.bipush 20, 2) := by decide +kernel
theorem dX0_fearedCells_18 : decode cX0_fearedCells 18 = .ok (.if_icmp .lt 6, 3) := by decide +kernel
theorem dX0_fearedCells_21 : decode cX0_fearedCells 21 = .ok (.iinc 1 1, 3) := by decide +kernel
theorem dX0_fearedCells_24 : decode cX0_fearedCells 24 = .ok (.iinc 2 1, 3) := by decide +kernel
theorem dX0_fearedCells_27 : decode cX0_fearedCells 27 = .ok (.goto (-23), 3) := by decide +kernel
theorem dX0_fearedCells_30 : decode cX0_fearedCells 30 = .ok (.iload_n 1, 1) := by decide +kernel
theorem dX0_fearedCells_31 : decode cX0_fearedCells 31 = .ok (.ireturn, 1) := by decide +kernel
theorem dX0_passDays_0 : decode cX0_passDays 0 = .ok (.aload_n 0, 1) := by decide +kernel
theorem dX0_passDays_1 : decode cX0_passDays 1 = .ok (.aload_n 1, 1) := by decide +kernel
theorem dX0_passDays_2 : decode cX0_passDays 2 = .ok (.invokevirtual 53, 3) := by decide +kernel
theorem dX0_passDays_5 : decode cX0_passDays 5 = .ok (.iconst 0, 1) := by decide +kernel
theorem dX0_passDays_6 : decode cX0_passDays 6 = .ok (.istore 4, 2) := by decide +kernel
theorem dX0_passDays_8 : decode cX0_passDays 8 = .ok (.iconst 0, 1) := by decide +kernel
theorem dX0_passDays_9 : decode cX0_passDays 9 = .ok (.istore 5, 2) := by decide +kernel
theorem dX0_passDays_11 : decode cX0_passDays 11 = .ok (.iload 5, 2) := by decide +kernel
theorem dX0_passDays_13 : decode cX0_passDays 13 = .ok (.iload_n 2, 1) := by decide +kernel
theorem dX0_passDays_14 : decode cX0_passDays 14 = .ok (.if_icmp .ge 25, 3) := by decide +kernel
theorem dX0_passDays_17 : decode cX0_passDays 17 = .ok (.iload 4, 2) := by decide +kernel
theorem dX0_passDays_19 : decode cX0_passDays 19 = .ok (.iload_n 3, 1) := by decide +kernel
theorem dX0_passDays_20 : decode cX0_passDays 20 = .ok (.if_icmp .ge 19, 3) := by decide +kernel
theorem dX0_passDays_23 : decode cX0_passDays 23 = .ok (.iload 4, 2) := by decide +kernel
theorem dX0_passDays_25 : decode cX0_passDays 25 = .ok (.aload_n 0, 1) := by decide +kernel
theorem dX0_passDays_26 : decode cX0_passDays 26 = .ok (.aload_n 1, 1) := by decide +kernel
theorem dX0_passDays_27 : decode cX0_passDays 27 = .ok (.invokevirtual 56, 3) := by decide +kernel
theorem dX0_passDays_30 : decode cX0_passDays 30 = .ok (.iadd, 1) := by decide +kernel
theorem dX0_passDays_31 : decode cX0_passDays 31 = .ok (.istore 4, 2) := by decide +kernel
theorem dX0_passDays_33 : decode cX0_passDays 33 = .ok (.iinc 5 1, 3) := by decide +kernel
theorem dX0_passDays_36 : decode cX0_passDays 36 = .ok (.goto (-25), 3) := by decide +kernel
theorem dX0_passDays_39 : decode cX0_passDays 39 = .ok (.iload 4, 2) := by decide +kernel
theorem dX0_passDays_41 : decode cX0_passDays 41 = .ok (.ireturn, 1) := by decide +kernel
theorem dX0_passDay_0 : decode cX0_passDay 0 = .ok (.aload_n 0, 1) := by decide +kernel
theorem dX0_passDay_1 : decode cX0_passDay 1 = .ok (.aload_n 1, 1) := by decide +kernel
theorem dX0_passDay_2 : decode cX0_passDay 2 = .ok (.invokevirtual 60, 3) := by decide +kernel
theorem dX0_passDay_5 : decode cX0_passDay 5 = .ok (.ifCond .eq 8, 3) := by decide +kernel
theorem dX0_passDay_8 : decode cX0_passDay 8 = .ok (.aload_n 0, 1) := by decide +kernel
theorem dX0_passDay_9 : decode cX0_passDay 9 = .ok (.aload_n 1, 1) := by decide +kernel
theorem dX0_passDay_10 : decode cX0_passDay 10 = .ok (.invokevirtual 46, 3) := by decide +kernel
theorem dX0_passDay_13 : decode cX0_passDay 13 = .ok (.iconst 0, 1) := by decide +kernel
theorem dX0_passDay_14 : decode cX0_passDay 14 = .ok (.istore_n 2, 1) := by decide +kernel
theorem dX0_passDay_15 : decode cX0_passDay 15 = .ok (.iconst 0, 1) := by decide +kernel
theorem dX0_passDay_16 : decode cX0_passDay 16 = .ok (.istore_n 3, 1) := by decide +kernel
theorem dX0_passDay_17 : decode cX0_passDay 17 = .ok (.iload_n 3, 1) := by decide +kernel
theorem dX0_passDay_18 : decode cX0_passDay 18 = .ok (.aload_n 1, 1) := by decide +kernel
theorem dX0_passDay_19 : decode cX0_passDay 19 = .ok (.getfield 64, 3) := by decide +kernel
theorem dX0_passDay_22 : decode cX0_passDay 22 = .ok (.if_icmp .ge 54, 3) := by decide +kernel
theorem dX0_passDay_25 : decode cX0_passDay 25 = .ok (.aload_n 0, 1) := by decide +kernel
theorem dX0_passDay_26 : decode cX0_passDay 26 = .ok (.aload_n 1, 1) := by decide +kernel
theorem dX0_passDay_27 : decode cX0_passDay 27 = .ok (.invokevirtual 67, 3) := by decide +kernel
theorem dX0_passDay_30 : decode cX0_passDay 30 = .ok (.istore 4, 2) := by decide +kernel
theorem dX0_passDay_32 : decode cX0_passDay 32 = .ok (.iload 4, 2) := by decide +kernel
theorem dX0_passDay_34 : decode cX0_passDay 34 = .ok (.ifCond .ge 6, 3) := by decide +kernel
theorem dX0_passDay_37 : decode cX0_passDay 37 = .ok (.goto 39, 3) := by decide +kernel
theorem dX0_passDay_40 : decode cX0_passDay 40 = .ok (.iconst 2, 1) := by decide +kernel
theorem dX0_passDay_41 : decode cX0_passDay 41 = .ok (.aload_n 1, 1) := by decide +kernel
theorem dX0_passDay_42 : decode cX0_passDay 42 = .ok (.getfield 50, 3) := by decide +kernel
theorem dX0_passDay_45 : decode cX0_passDay 45 = .ok (.iload 4, 2) := by decide +kernel
theorem dX0_passDay_47 : decode cX0_passDay 47 = .ok (.iaload, 1) := by decide +kernel
theorem dX0_passDay_48 : decode cX0_passDay 48 = .ok (.invokestatic 70, 3) := by decide +kernel
theorem dX0_passDay_51 : decode cX0_passDay 51 = .ok (.istore 5, 2) := by decide +kernel
theorem dX0_passDay_53 : decode cX0_passDay 53 = .ok (.aload_n 1, 1) := by decide +kernel
theorem dX0_passDay_54 : decode cX0_passDay 54 = .ok (.getfield 50, 3) := by decide +kernel
theorem dX0_passDay_57 : decode cX0_passDay 57 = .ok (.iload 4, 2) := by decide +kernel
theorem dX0_passDay_59 : decode cX0_passDay 59 = .ok (.dup2, 1) := by decide +kernel
theorem dX0_passDay_60 : decode cX0_passDay 60 = .ok (.iaload, 1) := by decide +kernel
theorem dX0_passDay_61 : decode cX0_passDay 61 = .ok (.iload 5, 2) := by decide +kernel
theorem dX0_passDay_63 : decode cX0_passDay 63 = .ok (.isub, 1) := by decide +kernel
theorem dX0_passDay_64 : decode cX0_passDay 64 = .ok (.iastore, 1) := by decide +kernel
theorem dX0_passDay_65 : decode cX0_passDay 65 = .ok (.iload_n 2, 1) := by decide +kernel
theorem dX0_passDay_66 : decode cX0_passDay 66 = .ok (.iload 5, 2) := by decide +kernel
theorem dX0_passDay_68 : decode cX0_passDay 68 = .ok (.iadd, 1) := by decide +kernel
theorem dX0_passDay_69 : decode cX0_passDay 69 = .ok (.istore_n 2, 1) := by decide +kernel
theorem dX0_passDay_70 : decode cX0_passDay 70 = .ok (.iinc 3 1, 3) := by decide +kernel
theorem dX0_passDay_73 : decode cX0_passDay 73 = .ok (.goto (-56), 3) := by decide +kernel
theorem dX0_passDay_76 : decode cX0_passDay 76 = .ok (.aload_n 0, 1) := by decide +kernel
theorem dX0_passDay_77 : decode cX0_passDay 77 = .ok (.aload_n 1, 1) := by decide +kernel
theorem dX0_passDay_78 : decode cX0_passDay 78 = .ok (.invokevirtual 76, 3) := by decide +kernel
theorem dX0_passDay_81 : decode cX0_passDay 81 = .ok (.iload_n 2, 1) := by decide +kernel
theorem dX0_passDay_82 : decode cX0_passDay 82 = .ok (.ireturn, 1) := by decide +kernel
theorem dX0_renewScares_0 : decode cX0_renewScares 0 = .ok (.iconst 0, 1) := by decide +kernel
theorem dX0_renewScares_1 : decode cX0_renewScares 1 = .ok (.istore_n 2, 1) := by decide +kernel
theorem dX0_renewScares_2 : decode cX0_renewScares 2 = .ok (.iconst 0, 1) := by decide +kernel
theorem dX0_renewScares_3 : decode cX0_renewScares 3 = .ok (.istore_n 3, 1) := by decide +kernel
theorem dX0_renewScares_4 : decode cX0_renewScares 4 = .ok (.iload_n 3, 1) := by decide +kernel
theorem dX0_renewScares_5 : decode cX0_renewScares 5 = .ok (.aload_n 1, 1) := by decide +kernel
theorem dX0_renewScares_6 : decode cX0_renewScares 6 = .ok (.getfield 27, 3) := by decide +kernel
theorem dX0_renewScares_9 : decode cX0_renewScares 9 = .ok (.if_icmp .ge 37, 3) := by decide +kernel
theorem dX0_renewScares_12 : decode cX0_renewScares 12 = .ok (.aload_n 1, 1) := by decide +kernel
theorem dX0_renewScares_13 : decode cX0_renewScares 13 = .ok (.iload_n 3, 1) := by decide +kernel
theorem dX0_renewScares_14 : decode cX0_renewScares 14 = .ok (.invokevirtual 33, 3) := by decide +kernel
theorem dX0_renewScares_17 : decode cX0_renewScares 17 = .ok (.istore 4, 2) := by decide +kernel
theorem dX0_renewScares_19 : decode cX0_renewScares 19 = .ok (.iload 4, 2) := by decide +kernel
theorem dX0_renewScares_21 : decode cX0_renewScares 21 = .ok (.aload_n 0, 1) := by decide +kernel
theorem dX0_renewScares_22 : decode cX0_renewScares 22 = .ok (.getfield 15, 3) := by decide +kernel
theorem dX0_renewScares_25 : decode cX0_renewScares 25 = .ok (.iload_n 3, 1) := by decide +kernel
theorem dX0_renewScares_26 : decode cX0_renewScares 26 = .ok (.iaload, 1) := by decide +kernel
theorem dX0_renewScares_27 : decode cX0_renewScares 27 = .ok (.if_icmp .eq 13, 3) := by decide +kernel
theorem dX0_renewScares_30 : decode cX0_renewScares 30 = .ok (.aload_n 0, 1) := by decide +kernel
theorem dX0_renewScares_31 : decode cX0_renewScares 31 = .ok (.aload_n 1, 1) := by decide +kernel
theorem dX0_renewScares_32 : decode cX0_renewScares 32 = .ok (.iload_n 3, 1) := by decide +kernel
theorem dX0_renewScares_33 : decode cX0_renewScares 33 = .ok (.iload 4, 2) := by decide +kernel
theorem dX0_renewScares_35 : decode cX0_renewScares 35 = .ok (.invokevirtual 37, 3) := by decide +kernel
theorem dX0_renewScares_38 : decode cX0_renewScares 38 = .ok (.iconst 1, 1) := by decide +kernel
theorem dX0_renewScares_39 : decode cX0_renewScares 39 = .ok (.istore_n 2, 1) := by decide +kernel
theorem dX0_renewScares_40 : decode cX0_renewScares 40 = .ok (.iinc 3 1, 3) := by decide +kernel
theorem dX0_renewScares_43 : decode cX0_renewScares 43 = .ok (.goto (-39), 3) := by decide +kernel
theorem dX0_renewScares_46 : decode cX0_renewScares 46 = .ok (.iload_n 2, 1) := by decide +kernel
theorem dX0_renewScares_47 : decode cX0_renewScares 47 = .ok (.ireturn, 1) := by decide +kernel
theorem dX0_takeScares_0 : decode cX0_takeScares 0 = .ok (.aload_n 0, 1) := by decide +kernel
theorem dX0_takeScares_1 : decode cX0_takeScares 1 = .ok (.getfield 15, 3) := by decide +kernel
theorem dX0_takeScares_4 : decode cX0_takeScares 4 = .ok (.iload_n 2, 1) := by decide +kernel
theorem dX0_takeScares_5 : decode cX0_takeScares 5 = .ok (.iload_n 3, 1) := by decide +kernel
theorem dX0_takeScares_6 : decode cX0_takeScares 6 = .ok (.iastore, 1) := by decide +kernel
theorem dX0_takeScares_7 : decode cX0_takeScares 7 = .ok (.aload_n 1, 1) := by decide +kernel
theorem dX0_takeScares_8 : decode cX0_takeScares 8 = .ok (.getfield 79, 3) := by decide +kernel
theorem dX0_takeScares_11 : decode cX0_takeScares 11 = .ok (.aload_n 1, 1) := by decide +kernel
theorem dX0_takeScares_12 : decode cX0_takeScares 12 = .ok (.getfield 82, 3) := by decide +kernel
theorem dX0_takeScares_15 : decode cX0_takeScares 15 = .ok (.iload_n 2, 1) := by decide +kernel
theorem dX0_takeScares_16 : decode cX0_takeScares 16 = .ok (.iaload, 1) := by decide +kernel
theorem dX0_takeScares_17 : decode cX0_takeScares 17 = .ok (.iaload, 1) := by decide +kernel
theorem dX0_takeScares_18 : decode cX0_takeScares 18 = .ok (.istore 4, 2) := by decide +kernel
theorem dX0_takeScares_20 : decode cX0_takeScares 20 = .ok (.iconst 0, 1) := by decide +kernel
theorem dX0_takeScares_21 : decode cX0_takeScares 21 = .ok (.istore 5, 2) := by decide +kernel
theorem dX0_takeScares_23 : decode cX0_takeScares 23 = .ok (.iload 5, 2) := by decide +kernel
theorem dX0_takeScares_25 : decode cX0_takeScares 25 = .ok (.bipush 13, 2) := by decide +kernel
theorem dX0_takeScares_27 : decode cX0_takeScares 27 = .ok (.if_icmp .ge 29, 3) := by decide +kernel
theorem dX0_takeScares_30 : decode cX0_takeScares 30 = .ok (.aload_n 0, 1) := by decide +kernel
theorem dX0_takeScares_31 : decode cX0_takeScares 31 = .ok (.getfield 18, 3) := by decide +kernel
theorem dX0_takeScares_34 : decode cX0_takeScares 34 = .ok (.iload_n 2, 1) := by decide +kernel
theorem dX0_takeScares_35 : decode cX0_takeScares 35 = .ok (.bipush 13, 2) := by decide +kernel
theorem dX0_takeScares_37 : decode cX0_takeScares 37 = .ok (.imul, 1) := by decide +kernel
theorem dX0_takeScares_38 : decode cX0_takeScares 38 = .ok (.iload 5, 2) := by decide +kernel
theorem dX0_takeScares_40 : decode cX0_takeScares 40 = .ok (.iadd, 1) := by decide +kernel
theorem dX0_takeScares_41 : decode cX0_takeScares 41 = .ok (.iload 4, 2) := by decide +kernel
theorem dX0_takeScares_43 : decode cX0_takeScares 43 = .ok (.iload_n 3, 1) := by decide +kernel
theorem dX0_takeScares_44 : decode cX0_takeScares 44 = .ok (.iload 5, 2) := by decide +kernel
theorem dX0_takeScares_46 : decode cX0_takeScares 46 = .ok (.invokestatic 85, 3) := by decide +kernel
theorem dX0_takeScares_49 : decode cX0_takeScares 49 = .ok (.iastore, 1) := by decide +kernel
theorem dX0_takeScares_50 : decode cX0_takeScares 50 = .ok (.iinc 5 1, 3) := by decide +kernel
theorem dX0_takeScares_53 : decode cX0_takeScares 53 = .ok (.goto (-30), 3) := by decide +kernel
theorem dX0_takeScares_56 : decode cX0_takeScares 56 = .ok (.return_, 1) := by decide +kernel
theorem dX0_weighFears_0 : decode cX0_weighFears 0 = .ok (.iconst 0, 1) := by decide +kernel
theorem dX0_weighFears_1 : decode cX0_weighFears 1 = .ok (.istore_n 2, 1) := by decide +kernel
theorem dX0_weighFears_2 : decode cX0_weighFears 2 = .ok (.iload_n 2, 1) := by decide +kernel
theorem dX0_weighFears_3 : decode cX0_weighFears 3 = .ok (.bipush 48, 2) := by decide +kernel
theorem dX0_weighFears_5 : decode cX0_weighFears 5 = .ok (.if_icmp .ge 21, 3) := by decide +kernel
theorem dX0_weighFears_8 : decode cX0_weighFears 8 = .ok (.aload_n 0, 1) := by decide +kernel
theorem dX0_weighFears_9 : decode cX0_weighFears 9 = .ok (.getfield 9, 3) := by decide +kernel
theorem dX0_weighFears_12 : decode cX0_weighFears 12 = .ok (.iload_n 2, 1) := by decide +kernel
theorem dX0_weighFears_13 : decode cX0_weighFears 13 = .ok (.aload_n 0, 1) := by decide +kernel
theorem dX0_weighFears_14 : decode cX0_weighFears 14 = .ok (.aload_n 1, 1) := by decide +kernel
theorem dX0_weighFears_15 : decode cX0_weighFears 15 = .ok (.iload_n 2, 1) := by decide +kernel
theorem dX0_weighFears_16 : decode cX0_weighFears 16 = .ok (.invokevirtual 91, 3) := by decide +kernel
theorem dX0_weighFears_19 : decode cX0_weighFears 19 = .ok (.iastore, 1) := by decide +kernel
theorem dX0_weighFears_20 : decode cX0_weighFears 20 = .ok (.iinc 2 1, 3) := by decide +kernel
theorem dX0_weighFears_23 : decode cX0_weighFears 23 = .ok (.goto (-21), 3) := by decide +kernel
theorem dX0_weighFears_26 : decode cX0_weighFears 26 = .ok (.return_, 1) := by decide +kernel
theorem dX0_fearAt_0 : decode cX0_fearAt 0 = .ok (.aload_n 0, 1) := by decide +kernel
theorem dX0_fearAt_1 : decode cX0_fearAt 1 = .ok (.getfield 21, 3) := by decide +kernel
theorem dX0_fearAt_4 : decode cX0_fearAt 4 = .ok (.ldc 95, 2) := by decide +kernel
theorem dX0_fearAt_6 : decode cX0_fearAt 6 = .ok (.invokestatic 96, 3) := by decide +kernel
theorem dX0_fearAt_9 : decode cX0_fearAt 9 = .ok (.iconst 0, 1) := by decide +kernel
theorem dX0_fearAt_10 : decode cX0_fearAt 10 = .ok (.istore_n 3, 1) := by decide +kernel
theorem dX0_fearAt_11 : decode cX0_fearAt 11 = .ok (.iload_n 3, 1) := by decide +kernel
theorem dX0_fearAt_12 : decode cX0_fearAt 12 = .ok (.aload_n 1, 1) := by decide +kernel
theorem dX0_fearAt_13 : decode cX0_fearAt 13 = .ok (.getfield 27, 3) := by decide +kernel
theorem dX0_fearAt_16 : decode cX0_fearAt 16 = .ok (.if_icmp .ge 58, 3) := by decide +kernel
theorem dX0_fearAt_19 : decode cX0_fearAt 19 = .ok (.aload_n 1, 1) := by decide +kernel
theorem dX0_fearAt_20 : decode cX0_fearAt 20 = .ok (.getfield 82, 3) := by decide +kernel
theorem dX0_fearAt_23 : decode cX0_fearAt 23 = .ok (.iload_n 3, 1) := by decide +kernel
theorem dX0_fearAt_24 : decode cX0_fearAt 24 = .ok (.iaload, 1) := by decide +kernel
theorem dX0_fearAt_25 : decode cX0_fearAt 25 = .ok (.istore 4, 2) := by decide +kernel
theorem dX0_fearAt_27 : decode cX0_fearAt 27 = .ok (.aload_n 0, 1) := by decide +kernel
theorem dX0_fearAt_28 : decode cX0_fearAt 28 = .ok (.getfield 18, 3) := by decide +kernel
theorem dX0_fearAt_31 : decode cX0_fearAt 31 = .ok (.iload_n 3, 1) := by decide +kernel
theorem dX0_fearAt_32 : decode cX0_fearAt 32 = .ok (.bipush 13, 2) := by decide +kernel
theorem dX0_fearAt_34 : decode cX0_fearAt 34 = .ok (.imul, 1) := by decide +kernel
theorem dX0_fearAt_35 : decode cX0_fearAt 35 = .ok (.aload_n 1, 1) := by decide +kernel
theorem dX0_fearAt_36 : decode cX0_fearAt 36 = .ok (.getfield 102, 3) := by decide +kernel
theorem dX0_fearAt_39 : decode cX0_fearAt 39 = .ok (.iload_n 3, 1) := by decide +kernel
theorem dX0_fearAt_40 : decode cX0_fearAt 40 = .ok (.iaload, 1) := by decide +kernel
theorem dX0_fearAt_41 : decode cX0_fearAt 41 = .ok (.iload_n 2, 1) := by decide +kernel
theorem dX0_fearAt_42 : decode cX0_fearAt 42 = .ok (.invokestatic 105, 3) := by decide +kernel
theorem dX0_fearAt_45 : decode cX0_fearAt 45 = .ok (.iadd, 1) := by decide +kernel
theorem dX0_fearAt_46 : decode cX0_fearAt 46 = .ok (.iaload, 1) := by decide +kernel
theorem dX0_fearAt_47 : decode cX0_fearAt 47 = .ok (.istore 5, 2) := by decide +kernel
theorem dX0_fearAt_49 : decode cX0_fearAt 49 = .ok (.aload_n 0, 1) := by decide +kernel
theorem dX0_fearAt_50 : decode cX0_fearAt 50 = .ok (.getfield 21, 3) := by decide +kernel
theorem dX0_fearAt_53 : decode cX0_fearAt 53 = .ok (.iload 4, 2) := by decide +kernel
theorem dX0_fearAt_55 : decode cX0_fearAt 55 = .ok (.aload_n 0, 1) := by decide +kernel
theorem dX0_fearAt_56 : decode cX0_fearAt 56 = .ok (.getfield 21, 3) := by decide +kernel
theorem dX0_fearAt_59 : decode cX0_fearAt 59 = .ok (.iload 4, 2) := by decide +kernel
theorem dX0_fearAt_61 : decode cX0_fearAt 61 = .ok (.iaload, 1) := by decide +kernel
theorem dX0_fearAt_62 : decode cX0_fearAt 62 = .ok (.iload 5, 2) := by decide +kernel
theorem dX0_fearAt_64 : decode cX0_fearAt 64 = .ok (.invokestatic 108, 3) := by decide +kernel
theorem dX0_fearAt_67 : decode cX0_fearAt 67 = .ok (.iastore, 1) := by decide +kernel
theorem dX0_fearAt_68 : decode cX0_fearAt 68 = .ok (.iinc 3 1, 3) := by decide +kernel
theorem dX0_fearAt_71 : decode cX0_fearAt 71 = .ok (.goto (-60), 3) := by decide +kernel
theorem dX0_fearAt_74 : decode cX0_fearAt 74 = .ok (.iconst 0, 1) := by decide +kernel
theorem dX0_fearAt_75 : decode cX0_fearAt 75 = .ok (.istore_n 3, 1) := by decide +kernel
theorem dX0_fearAt_76 : decode cX0_fearAt 76 = .ok (.iconst 0, 1) := by decide +kernel
theorem dX0_fearAt_77 : decode cX0_fearAt 77 = .ok (.istore 4, 2) := by decide +kernel
theorem dX0_fearAt_79 : decode cX0_fearAt 79 = .ok (.iload 4, 2) := by decide +kernel
theorem dX0_fearAt_81 : decode cX0_fearAt 81 = .ok (.aload_n 1, 1) := by decide +kernel
theorem dX0_fearAt_82 : decode cX0_fearAt 82 = .ok (.getfield 41, 3) := by decide +kernel
theorem dX0_fearAt_85 : decode cX0_fearAt 85 = .ok (.if_icmp .ge 31, 3) := by decide +kernel
theorem dX0_fearAt_88 : decode cX0_fearAt 88 = .ok (.aload_n 0, 1) := by decide +kernel
theorem dX0_fearAt_89 : decode cX0_fearAt 89 = .ok (.getfield 21, 3) := by decide +kernel
theorem dX0_fearAt_92 : decode cX0_fearAt 92 = .ok (.iload 4, 2) := by decide +kernel
theorem dX0_fearAt_94 : decode cX0_fearAt 94 = .ok (.iaload, 1) := by decide +kernel
theorem dX0_fearAt_95 : decode cX0_fearAt 95 = .ok (.ldc 95, 2) := by decide +kernel
theorem dX0_fearAt_97 : decode cX0_fearAt 97 = .ok (.if_icmp .eq 13, 3) := by decide +kernel
theorem dX0_fearAt_100 : decode cX0_fearAt 100 = .ok (.iload_n 3, 1) := by decide +kernel
theorem dX0_fearAt_101 : decode cX0_fearAt 101 = .ok (.aload_n 0, 1) := by decide +kernel
theorem dX0_fearAt_102 : decode cX0_fearAt 102 = .ok (.getfield 21, 3) := by decide +kernel
theorem dX0_fearAt_105 : decode cX0_fearAt 105 = .ok (.iload 4, 2) := by decide +kernel
theorem dX0_fearAt_107 : decode cX0_fearAt 107 = .ok (.iaload, 1) := by decide +kernel
theorem dX0_fearAt_108 : decode cX0_fearAt 108 = .ok (.iadd, 1) := by decide +kernel
theorem dX0_fearAt_109 : decode cX0_fearAt 109 = .ok (.istore_n 3, 1) := by decide +kernel
theorem dX0_fearAt_110 : decode cX0_fearAt 110 = .ok (.iinc 4 1, 3) := by decide +kernel
theorem dX0_fearAt_113 : decode cX0_fearAt 113 = .ok (.goto (-34), 3) := by decide +kernel
theorem dX0_fearAt_116 : decode cX0_fearAt 116 = .ok (.iload_n 3, 1) := by decide +kernel
theorem dX0_fearAt_117 : decode cX0_fearAt 117 = .ok (.ireturn, 1) := by decide +kernel
theorem dX0_growOlder_0 : decode cX0_growOlder 0 = .ok (.iconst 0, 1) := by decide +kernel
theorem dX0_growOlder_1 : decode cX0_growOlder 1 = .ok (.istore_n 2, 1) := by decide +kernel
theorem dX0_growOlder_2 : decode cX0_growOlder 2 = .ok (.iload_n 2, 1) := by decide +kernel
theorem dX0_growOlder_3 : decode cX0_growOlder 3 = .ok (.aload_n 1, 1) := by decide +kernel
theorem dX0_growOlder_4 : decode cX0_growOlder 4 = .ok (.getfield 41, 3) := by decide +kernel
theorem dX0_growOlder_7 : decode cX0_growOlder 7 = .ok (.if_icmp .ge 32, 3) := by decide +kernel
theorem dX0_growOlder_10 : decode cX0_growOlder 10 = .ok (.aload_n 1, 1) := by decide +kernel
theorem dX0_growOlder_11 : decode cX0_growOlder 11 = .ok (.getfield 111, 3) := by decide +kernel
theorem dX0_growOlder_14 : decode cX0_growOlder 14 = .ok (.iload_n 2, 1) := by decide +kernel
theorem dX0_growOlder_15 : decode cX0_growOlder 15 = .ok (.iconst 0, 1) := by decide +kernel
theorem dX0_growOlder_16 : decode cX0_growOlder 16 = .ok (.aload_n 1, 1) := by decide +kernel
theorem dX0_growOlder_17 : decode cX0_growOlder 17 = .ok (.getfield 111, 3) := by decide +kernel
theorem dX0_growOlder_20 : decode cX0_growOlder 20 = .ok (.iload_n 2, 1) := by decide +kernel
theorem dX0_growOlder_21 : decode cX0_growOlder 21 = .ok (.iaload, 1) := by decide +kernel
theorem dX0_growOlder_22 : decode cX0_growOlder 22 = .ok (.aload_n 0, 1) := by decide +kernel
theorem dX0_growOlder_23 : decode cX0_growOlder 23 = .ok (.getfield 24, 3) := by decide +kernel
theorem dX0_growOlder_26 : decode cX0_growOlder 26 = .ok (.iload_n 2, 1) := by decide +kernel
theorem dX0_growOlder_27 : decode cX0_growOlder 27 = .ok (.iaload, 1) := by decide +kernel
theorem dX0_growOlder_28 : decode cX0_growOlder 28 = .ok (.isub, 1) := by decide +kernel
theorem dX0_growOlder_29 : decode cX0_growOlder 29 = .ok (.invokestatic 108, 3) := by decide +kernel
theorem dX0_growOlder_32 : decode cX0_growOlder 32 = .ok (.iastore, 1) := by decide +kernel
theorem dX0_growOlder_33 : decode cX0_growOlder 33 = .ok (.iinc 2 1, 3) := by decide +kernel
theorem dX0_growOlder_36 : decode cX0_growOlder 36 = .ok (.goto (-34), 3) := by decide +kernel
theorem dX0_growOlder_39 : decode cX0_growOlder 39 = .ok (.iconst 0, 1) := by decide +kernel
theorem dX0_growOlder_40 : decode cX0_growOlder 40 = .ok (.istore_n 2, 1) := by decide +kernel
theorem dX0_growOlder_41 : decode cX0_growOlder 41 = .ok (.iload_n 2, 1) := by decide +kernel
theorem dX0_growOlder_42 : decode cX0_growOlder 42 = .ok (.aload_n 1, 1) := by decide +kernel
theorem dX0_growOlder_43 : decode cX0_growOlder 43 = .ok (.getfield 27, 3) := by decide +kernel
theorem dX0_growOlder_46 : decode cX0_growOlder 46 = .ok (.if_icmp .ge 29, 3) := by decide +kernel
theorem dX0_growOlder_49 : decode cX0_growOlder 49 = .ok (.aload_n 1, 1) := by decide +kernel
theorem dX0_growOlder_50 : decode cX0_growOlder 50 = .ok (.getfield 114, 3) := by decide +kernel
theorem dX0_growOlder_53 : decode cX0_growOlder 53 = .ok (.iload_n 2, 1) := by decide +kernel
theorem dX0_growOlder_54 : decode cX0_growOlder 54 = .ok (.sipush 9999, 3) := by decide +kernel
theorem dX0_growOlder_57 : decode cX0_growOlder 57 = .ok (.aload_n 1, 1) := by decide +kernel
theorem dX0_growOlder_58 : decode cX0_growOlder 58 = .ok (.getfield 114, 3) := by decide +kernel
theorem dX0_growOlder_61 : decode cX0_growOlder 61 = .ok (.iload_n 2, 1) := by decide +kernel
theorem dX0_growOlder_62 : decode cX0_growOlder 62 = .ok (.iaload, 1) := by decide +kernel
theorem dX0_growOlder_63 : decode cX0_growOlder 63 = .ok (.iconst 1, 1) := by decide +kernel
theorem dX0_growOlder_64 : decode cX0_growOlder 64 = .ok (.iadd, 1) := by decide +kernel
theorem dX0_growOlder_65 : decode cX0_growOlder 65 = .ok (.invokestatic 70, 3) := by decide +kernel
theorem dX0_growOlder_68 : decode cX0_growOlder 68 = .ok (.iastore, 1) := by decide +kernel
theorem dX0_growOlder_69 : decode cX0_growOlder 69 = .ok (.iinc 2 1, 3) := by decide +kernel
theorem dX0_growOlder_72 : decode cX0_growOlder 72 = .ok (.goto (-31), 3) := by decide +kernel
theorem dX0_growOlder_75 : decode cX0_growOlder 75 = .ok (.aload_n 1, 1) := by decide +kernel
theorem dX0_growOlder_76 : decode cX0_growOlder 76 = .ok (.dup, 1) := by decide +kernel
theorem dX0_growOlder_77 : decode cX0_growOlder 77 = .ok (.getfield 117, 3) := by decide +kernel
theorem dX0_growOlder_80 : decode cX0_growOlder 80 = .ok (.iconst 1, 1) := by decide +kernel
theorem dX0_growOlder_81 : decode cX0_growOlder 81 = .ok (.iadd, 1) := by decide +kernel
theorem dX0_growOlder_82 : decode cX0_growOlder 82 = .ok (.putfield 117, 3) := by decide +kernel
theorem dX0_growOlder_85 : decode cX0_growOlder 85 = .ok (.return_, 1) := by decide +kernel
theorem dX1_isUnder_0 : decode cX1_isUnder 0 = .ok (.iload_n 0, 1) := by decide +kernel
theorem dX1_isUnder_1 : decode cX1_isUnder 1 = .ok (.istore_n 2, 1) := by decide +kernel
theorem dX1_isUnder_2 : decode cX1_isUnder 2 = .ok (.iconst 0, 1) := by decide +kernel
theorem dX1_isUnder_3 : decode cX1_isUnder 3 = .ok (.istore_n 3, 1) := by decide +kernel
theorem dX1_isUnder_4 : decode cX1_isUnder 4 = .ok (.iload_n 3, 1) := by decide +kernel
theorem dX1_isUnder_5 : decode cX1_isUnder 5 = .ok (.bipush 6, 2) := by decide +kernel
theorem dX1_isUnder_7 : decode cX1_isUnder 7 = .ok (.if_icmp .ge 26, 3) := by decide +kernel
theorem dX1_isUnder_10 : decode cX1_isUnder 10 = .ok (.iload_n 2, 1) := by decide +kernel
theorem dX1_isUnder_11 : decode cX1_isUnder 11 = .ok (.ifCond .lt 22, 3) := by decide +kernel
theorem dX1_isUnder_14 : decode cX1_isUnder 14 = .ok (.iload_n 2, 1) := by decide +kernel
theorem dX1_isUnder_15 : decode cX1_isUnder 15 = .ok (.iload_n 1, 1) := by decide +kernel
theorem dX1_isUnder_16 : decode cX1_isUnder 16 = .ok (.if_icmp .ne 5, 3) := by decide +kernel
theorem dX1_isUnder_19 : decode cX1_isUnder 19 = .ok (.iconst 1, 1) := by decide +kernel
theorem dX1_isUnder_20 : decode cX1_isUnder 20 = .ok (.ireturn, 1) := by decide +kernel
theorem dX1_isUnder_21 : decode cX1_isUnder 21 = .ok (.getstatic 9, 3) := by decide +kernel
theorem dX1_isUnder_24 : decode cX1_isUnder 24 = .ok (.iload_n 2, 1) := by decide +kernel
theorem dX1_isUnder_25 : decode cX1_isUnder 25 = .ok (.iaload, 1) := by decide +kernel
theorem dX1_isUnder_26 : decode cX1_isUnder 26 = .ok (.istore_n 2, 1) := by decide +kernel
theorem dX1_isUnder_27 : decode cX1_isUnder 27 = .ok (.iinc 3 1, 3) := by decide +kernel
theorem dX1_isUnder_30 : decode cX1_isUnder 30 = .ok (.goto (-26), 3) := by decide +kernel
theorem dX1_isUnder_33 : decode cX1_isUnder 33 = .ok (.iconst 0, 1) := by decide +kernel
theorem dX1_isUnder_34 : decode cX1_isUnder 34 = .ok (.ireturn, 1) := by decide +kernel
theorem dX1_fade_0 : decode cX1_fade 0 = .ok (.iconst 0, 1) := by decide +kernel
theorem dX1_fade_1 : decode cX1_fade 1 = .ok (.iload_n 1, 1) := by decide +kernel
theorem dX1_fade_2 : decode cX1_fade 2 = .ok (.iload_n 2, 1) := by decide +kernel
theorem dX1_fade_3 : decode cX1_fade 3 = .ok (.iconst 4, 1) := by decide +kernel
theorem dX1_fade_4 : decode cX1_fade 4 = .ok (.idiv, 1) := by decide +kernel
theorem dX1_fade_5 : decode cX1_fade 5 = .ok (.isub, 1) := by decide +kernel
theorem dX1_fade_6 : decode cX1_fade 6 = .ok (.invokestatic 13, 3) := by decide +kernel
theorem dX1_fade_9 : decode cX1_fade 9 = .ok (.istore_n 3, 1) := by decide +kernel
theorem dX1_fade_10 : decode cX1_fade 10 = .ok (.iload_n 2, 1) := by decide +kernel
theorem dX1_fade_11 : decode cX1_fade 11 = .ok (.sipush 365, 3) := by decide +kernel
theorem dX1_fade_14 : decode cX1_fade 14 = .ok (.if_icmp .ge 7, 3) := by decide +kernel
theorem dX1_fade_17 : decode cX1_fade 17 = .ok (.iload_n 1, 1) := by decide +kernel
theorem dX1_fade_18 : decode cX1_fade 18 = .ok (.goto 4, 3) := by decide +kernel
theorem dX1_fade_21 : decode cX1_fade 21 = .ok (.iconst 0, 1) := by decide +kernel
theorem dX1_fade_22 : decode cX1_fade 22 = .ok (.istore 4, 2) := by decide +kernel
theorem dX1_fade_24 : decode cX1_fade 24 = .ok (.iload_n 0, 1) := by decide +kernel
theorem dX1_fade_25 : decode cX1_fade 25 = .ok (.tableswitch 64 1 5 #[35, 39, 43, 46, 51], 35) := by decide +kernel
theorem dX1_fade_60 : decode cX1_fade 60 = .ok (.iload_n 3, 1) := by decide +kernel
theorem dX1_fade_61 : decode cX1_fade 61 = .ok (.iconst 5, 1) := by decide +kernel
theorem dX1_fade_62 : decode cX1_fade 62 = .ok (.iadd, 1) := by decide +kernel
theorem dX1_fade_63 : decode cX1_fade 63 = .ok (.ireturn, 1) := by decide +kernel
theorem dX1_fade_64 : decode cX1_fade 64 = .ok (.iload_n 3, 1) := by decide +kernel
theorem dX1_fade_65 : decode cX1_fade 65 = .ok (.iconst 2, 1) := by decide +kernel
theorem dX1_fade_66 : decode cX1_fade 66 = .ok (.idiv, 1) := by decide +kernel
theorem dX1_fade_67 : decode cX1_fade 67 = .ok (.ireturn, 1) := by decide +kernel
theorem dX1_fade_68 : decode cX1_fade 68 = .ok (.iload 4, 2) := by decide +kernel
theorem dX1_fade_70 : decode cX1_fade 70 = .ok (.ireturn, 1) := by decide +kernel
theorem dX1_fade_71 : decode cX1_fade 71 = .ok (.iload_n 3, 1) := by decide +kernel
theorem dX1_fade_72 : decode cX1_fade 72 = .ok (.iconst 2, 1) := by decide +kernel
theorem dX1_fade_73 : decode cX1_fade 73 = .ok (.idiv, 1) := by decide +kernel
theorem dX1_fade_74 : decode cX1_fade 74 = .ok (.ineg, 1) := by decide +kernel
theorem dX1_fade_75 : decode cX1_fade 75 = .ok (.ireturn, 1) := by decide +kernel
theorem dX1_fade_76 : decode cX1_fade 76 = .ok (.iload_n 2, 1) := by decide +kernel
theorem dX1_fade_77 : decode cX1_fade 77 = .ok (.bipush 7, 2) := by decide +kernel
theorem dX1_fade_79 : decode cX1_fade 79 = .ok (.if_icmp .ge 8, 3) := by decide +kernel
theorem dX1_fade_82 : decode cX1_fade 82 = .ok (.iload 4, 2) := by decide +kernel
theorem dX1_fade_84 : decode cX1_fade 84 = .ok (.goto 4, 3) := by decide +kernel
theorem dX1_fade_87 : decode cX1_fade 87 = .ok (.iconst 0, 1) := by decide +kernel
theorem dX1_fade_88 : decode cX1_fade 88 = .ok (.ireturn, 1) := by decide +kernel
theorem dX1_fade_89 : decode cX1_fade 89 = .ok (.iload_n 3, 1) := by decide +kernel
theorem dX1_fade_90 : decode cX1_fade 90 = .ok (.ireturn, 1) := by decide +kernel
theorem dX1_scare_0 : decode cX1_scare 0 = .ok (.iconst 0, 1) := by decide +kernel
theorem dX1_scare_1 : decode cX1_scare 1 = .ok (.iload_n 1, 1) := by decide +kernel
theorem dX1_scare_2 : decode cX1_scare 2 = .ok (.iconst 3, 1) := by decide +kernel
theorem dX1_scare_3 : decode cX1_scare 3 = .ok (.iload_n 2, 1) := by decide +kernel
theorem dX1_scare_4 : decode cX1_scare 4 = .ok (.imul, 1) := by decide +kernel
theorem dX1_scare_5 : decode cX1_scare 5 = .ok (.isub, 1) := by decide +kernel
theorem dX1_scare_6 : decode cX1_scare 6 = .ok (.invokestatic 13, 3) := by decide +kernel
theorem dX1_scare_9 : decode cX1_scare 9 = .ok (.istore_n 3, 1) := by decide +kernel
theorem dX1_scare_10 : decode cX1_scare 10 = .ok (.iload_n 0, 1) := by decide +kernel
theorem dX1_scare_11 : decode cX1_scare 11 = .ok (.tableswitch 72 1 5 #[33, 41, 72, 49, 59], 33) := by decide +kernel
theorem dX1_scare_44 : decode cX1_scare 44 = .ok (.iconst 0, 1) := by decide +kernel
theorem dX1_scare_45 : decode cX1_scare 45 = .ok (.iload_n 1, 1) := by decide +kernel
theorem dX1_scare_46 : decode cX1_scare 46 = .ok (.iload_n 2, 1) := by decide +kernel
theorem dX1_scare_47 : decode cX1_scare 47 = .ok (.isub, 1) := by decide +kernel
theorem dX1_scare_48 : decode cX1_scare 48 = .ok (.invokestatic 13, 3) := by decide +kernel
theorem dX1_scare_51 : decode cX1_scare 51 = .ok (.ireturn, 1) := by decide +kernel
theorem dX1_scare_52 : decode cX1_scare 52 = .ok (.iconst 0, 1) := by decide +kernel
theorem dX1_scare_53 : decode cX1_scare 53 = .ok (.iload_n 3, 1) := by decide +kernel
theorem dX1_scare_54 : decode cX1_scare 54 = .ok (.iconst 1, 1) := by decide +kernel
theorem dX1_scare_55 : decode cX1_scare 55 = .ok (.isub, 1) := by decide +kernel
theorem dX1_scare_56 : decode cX1_scare 56 = .ok (.invokestatic 13, 3) := by decide +kernel
theorem dX1_scare_59 : decode cX1_scare 59 = .ok (.ireturn, 1) := by decide +kernel
theorem dX1_scare_60 : decode cX1_scare 60 = .ok (.iconst 0, 1) := by decide +kernel
theorem dX1_scare_61 : decode cX1_scare 61 = .ok (.iload_n 1, 1) := by decide +kernel
theorem dX1_scare_62 : decode cX1_scare 62 = .ok (.iconst 2, 1) := by decide +kernel
theorem dX1_scare_63 : decode cX1_scare 63 = .ok (.iload_n 2, 1) := by decide +kernel
theorem dX1_scare_64 : decode cX1_scare 64 = .ok (.imul, 1) := by decide +kernel
theorem dX1_scare_65 : decode cX1_scare 65 = .ok (.iadd, 1) := by decide +kernel
theorem dX1_scare_66 : decode cX1_scare 66 = .ok (.invokestatic 21, 3) := by decide +kernel
theorem dX1_scare_69 : decode cX1_scare 69 = .ok (.ireturn, 1) := by decide +kernel
theorem dX1_scare_70 : decode cX1_scare 70 = .ok (.iload_n 2, 1) := by decide +kernel
theorem dX1_scare_71 : decode cX1_scare 71 = .ok (.iconst 1, 1) := by decide +kernel
theorem dX1_scare_72 : decode cX1_scare 72 = .ok (.if_icmp .gt 9, 3) := by decide +kernel
theorem dX1_scare_75 : decode cX1_scare 75 = .ok (.iconst 2, 1) := by decide +kernel
theorem dX1_scare_76 : decode cX1_scare 76 = .ok (.iload_n 3, 1) := by decide +kernel
theorem dX1_scare_77 : decode cX1_scare 77 = .ok (.imul, 1) := by decide +kernel
theorem dX1_scare_78 : decode cX1_scare 78 = .ok (.goto 4, 3) := by decide +kernel
theorem dX1_scare_81 : decode cX1_scare 81 = .ok (.iload_n 3, 1) := by decide +kernel
theorem dX1_scare_82 : decode cX1_scare 82 = .ok (.ireturn, 1) := by decide +kernel
theorem dX1_scare_83 : decode cX1_scare 83 = .ok (.iload_n 3, 1) := by decide +kernel
theorem dX1_scare_84 : decode cX1_scare 84 = .ok (.ireturn, 1) := by decide +kernel
theorem dX2_init_0 : decode cX2_init 0 = .ok (.aload_n 0, 1) := by decide +kernel
theorem dX2_init_1 : decode cX2_init 1 = .ok (.invokespecial 3, 3) := by decide +kernel
theorem dX2_init_4 : decode cX2_init 4 = .ok (.aload_n 0, 1) := by decide +kernel
theorem dX2_init_5 : decode cX2_init 5 = .ok (.bipush 48, 2) := by decide +kernel
theorem dX2_init_7 : decode cX2_init 7 = .ok (.newarray .int, 2) := by decide +kernel
theorem dX2_init_9 : decode cX2_init 9 = .ok (.putfield 9, 3) := by decide +kernel
theorem dX2_init_12 : decode cX2_init 12 = .ok (.aload_n 0, 1) := by decide +kernel
theorem dX2_init_13 : decode cX2_init 13 = .ok (.iconst 3, 1) := by decide +kernel
theorem dX2_init_14 : decode cX2_init 14 = .ok (.putfield 15, 3) := by decide +kernel
theorem dX2_init_17 : decode cX2_init 17 = .ok (.aload_n 0, 1) := by decide +kernel
theorem dX2_init_18 : decode cX2_init 18 = .ok (.bipush 6, 2) := by decide +kernel
theorem dX2_init_20 : decode cX2_init 20 = .ok (.newarray .int, 2) := by decide +kernel
theorem dX2_init_22 : decode cX2_init 22 = .ok (.putfield 19, 3) := by decide +kernel
theorem dX2_init_25 : decode cX2_init 25 = .ok (.aload_n 0, 1) := by decide +kernel
theorem dX2_init_26 : decode cX2_init 26 = .ok (.bipush 6, 2) := by decide +kernel
theorem dX2_init_28 : decode cX2_init 28 = .ok (.newarray .int, 2) := by decide +kernel
theorem dX2_init_30 : decode cX2_init 30 = .ok (.putfield 22, 3) := by decide +kernel
theorem dX2_init_33 : decode cX2_init 33 = .ok (.aload_n 0, 1) := by decide +kernel
theorem dX2_init_34 : decode cX2_init 34 = .ok (.bipush 6, 2) := by decide +kernel
theorem dX2_init_36 : decode cX2_init 36 = .ok (.newarray .int, 2) := by decide +kernel
theorem dX2_init_38 : decode cX2_init 38 = .ok (.putfield 25, 3) := by decide +kernel
theorem dX2_init_41 : decode cX2_init 41 = .ok (.aload_n 0, 1) := by decide +kernel
theorem dX2_init_42 : decode cX2_init 42 = .ok (.bipush 6, 2) := by decide +kernel
theorem dX2_init_44 : decode cX2_init 44 = .ok (.newarray .int, 2) := by decide +kernel
theorem dX2_init_46 : decode cX2_init 46 = .ok (.putfield 28, 3) := by decide +kernel
theorem dX2_init_49 : decode cX2_init 49 = .ok (.aload_n 0, 1) := by decide +kernel
theorem dX2_init_50 : decode cX2_init 50 = .ok (.bipush 8, 2) := by decide +kernel
theorem dX2_init_52 : decode cX2_init 52 = .ok (.newarray .int, 2) := by decide +kernel
theorem dX2_init_54 : decode cX2_init 54 = .ok (.putfield 31, 3) := by decide +kernel
theorem dX2_init_57 : decode cX2_init 57 = .ok (.aload_n 0, 1) := by decide +kernel
theorem dX2_init_58 : decode cX2_init 58 = .ok (.bipush 8, 2) := by decide +kernel
theorem dX2_init_60 : decode cX2_init 60 = .ok (.newarray .int, 2) := by decide +kernel
theorem dX2_init_62 : decode cX2_init 62 = .ok (.putfield 34, 3) := by decide +kernel
theorem dX2_init_65 : decode cX2_init 65 = .ok (.aload_n 0, 1) := by decide +kernel
theorem dX2_init_66 : decode cX2_init 66 = .ok (.bipush 8, 2) := by decide +kernel
theorem dX2_init_68 : decode cX2_init 68 = .ok (.newarray .int, 2) := by decide +kernel
theorem dX2_init_70 : decode cX2_init 70 = .ok (.putfield 37, 3) := by decide +kernel
theorem dX2_init_73 : decode cX2_init 73 = .ok (.aload_n 0, 1) := by decide +kernel
theorem dX2_init_74 : decode cX2_init 74 = .ok (.getfield 9, 3) := by decide +kernel
theorem dX2_init_77 : decode cX2_init 77 = .ok (.bipush 10, 2) := by decide +kernel
theorem dX2_init_79 : decode cX2_init 79 = .ok (.invokestatic 40, 3) := by decide +kernel
theorem dX2_init_82 : decode cX2_init 82 = .ok (.return_, 1) := by decide +kernel
theorem dX2_become_0 : decode cX2_become 0 = .ok (.aload_n 1, 1) := by decide +kernel
theorem dX2_become_1 : decode cX2_become 1 = .ok (.getfield 9, 3) := by decide +kernel
theorem dX2_become_4 : decode cX2_become 4 = .ok (.iconst 0, 1) := by decide +kernel
theorem dX2_become_5 : decode cX2_become 5 = .ok (.aload_n 0, 1) := by decide +kernel
theorem dX2_become_6 : decode cX2_become 6 = .ok (.getfield 9, 3) := by decide +kernel
theorem dX2_become_9 : decode cX2_become 9 = .ok (.iconst 0, 1) := by decide +kernel
theorem dX2_become_10 : decode cX2_become 10 = .ok (.bipush 48, 2) := by decide +kernel
theorem dX2_become_12 : decode cX2_become 12 = .ok (.invokestatic 46, 3) := by decide +kernel
theorem dX2_become_15 : decode cX2_become 15 = .ok (.aload_n 0, 1) := by decide +kernel
theorem dX2_become_16 : decode cX2_become 16 = .ok (.aload_n 1, 1) := by decide +kernel
theorem dX2_become_17 : decode cX2_become 17 = .ok (.getfield 15, 3) := by decide +kernel
theorem dX2_become_20 : decode cX2_become 20 = .ok (.putfield 15, 3) := by decide +kernel
theorem dX2_become_23 : decode cX2_become 23 = .ok (.aload_n 0, 1) := by decide +kernel
theorem dX2_become_24 : decode cX2_become 24 = .ok (.aload_n 1, 1) := by decide +kernel
theorem dX2_become_25 : decode cX2_become 25 = .ok (.getfield 52, 3) := by decide +kernel
theorem dX2_become_28 : decode cX2_become 28 = .ok (.putfield 52, 3) := by decide +kernel
theorem dX2_become_31 : decode cX2_become 31 = .ok (.aload_n 0, 1) := by decide +kernel
theorem dX2_become_32 : decode cX2_become 32 = .ok (.aload_n 1, 1) := by decide +kernel
theorem dX2_become_33 : decode cX2_become 33 = .ok (.getfield 55, 3) := by decide +kernel
theorem dX2_become_36 : decode cX2_become 36 = .ok (.putfield 55, 3) := by decide +kernel
theorem dX2_become_39 : decode cX2_become 39 = .ok (.aload_n 1, 1) := by decide +kernel
theorem dX2_become_40 : decode cX2_become 40 = .ok (.getfield 19, 3) := by decide +kernel
theorem dX2_become_43 : decode cX2_become 43 = .ok (.iconst 0, 1) := by decide +kernel
theorem dX2_become_44 : decode cX2_become 44 = .ok (.aload_n 0, 1) := by decide +kernel
theorem dX2_become_45 : decode cX2_become 45 = .ok (.getfield 19, 3) := by decide +kernel
theorem dX2_become_48 : decode cX2_become 48 = .ok (.iconst 0, 1) := by decide +kernel
theorem dX2_become_49 : decode cX2_become 49 = .ok (.aload_n 0, 1) := by decide +kernel
theorem dX2_become_50 : decode cX2_become 50 = .ok (.getfield 55, 3) := by decide +kernel
theorem dX2_become_53 : decode cX2_become 53 = .ok (.invokestatic 46, 3) := by decide +kernel
theorem dX2_become_56 : decode cX2_become 56 = .ok (.aload_n 1, 1) := by decide +kernel
theorem dX2_become_57 : decode cX2_become 57 = .ok (.getfield 22, 3) := by decide +kernel
theorem dX2_become_60 : decode cX2_become 60 = .ok (.iconst 0, 1) := by decide +kernel
theorem dX2_become_61 : decode cX2_become 61 = .ok (.aload_n 0, 1) := by decide +kernel
theorem dX2_become_62 : decode cX2_become 62 = .ok (.getfield 22, 3) := by decide +kernel
theorem dX2_become_65 : decode cX2_become 65 = .ok (.iconst 0, 1) := by decide +kernel
theorem dX2_become_66 : decode cX2_become 66 = .ok (.aload_n 0, 1) := by decide +kernel
theorem dX2_become_67 : decode cX2_become 67 = .ok (.getfield 55, 3) := by decide +kernel
theorem dX2_become_70 : decode cX2_become 70 = .ok (.invokestatic 46, 3) := by decide +kernel
theorem dX2_become_73 : decode cX2_become 73 = .ok (.aload_n 1, 1) := by decide +kernel
theorem dX2_become_74 : decode cX2_become 74 = .ok (.getfield 25, 3) := by decide +kernel
theorem dX2_become_77 : decode cX2_become 77 = .ok (.iconst 0, 1) := by decide +kernel
theorem dX2_become_78 : decode cX2_become 78 = .ok (.aload_n 0, 1) := by decide +kernel
theorem dX2_become_79 : decode cX2_become 79 = .ok (.getfield 25, 3) := by decide +kernel
theorem dX2_become_82 : decode cX2_become 82 = .ok (.iconst 0, 1) := by decide +kernel
theorem dX2_become_83 : decode cX2_become 83 = .ok (.aload_n 0, 1) := by decide +kernel
theorem dX2_become_84 : decode cX2_become 84 = .ok (.getfield 55, 3) := by decide +kernel
theorem dX2_become_87 : decode cX2_become 87 = .ok (.invokestatic 46, 3) := by decide +kernel
theorem dX2_become_90 : decode cX2_become 90 = .ok (.aload_n 1, 1) := by decide +kernel
theorem dX2_become_91 : decode cX2_become 91 = .ok (.getfield 28, 3) := by decide +kernel
theorem dX2_become_94 : decode cX2_become 94 = .ok (.iconst 0, 1) := by decide +kernel
theorem dX2_become_95 : decode cX2_become 95 = .ok (.aload_n 0, 1) := by decide +kernel
theorem dX2_become_96 : decode cX2_become 96 = .ok (.getfield 28, 3) := by decide +kernel
theorem dX2_become_99 : decode cX2_become 99 = .ok (.iconst 0, 1) := by decide +kernel
theorem dX2_become_100 : decode cX2_become 100 = .ok (.aload_n 0, 1) := by decide +kernel
theorem dX2_become_101 : decode cX2_become 101 = .ok (.getfield 55, 3) := by decide +kernel
theorem dX2_become_104 : decode cX2_become 104 = .ok (.invokestatic 46, 3) := by decide +kernel
theorem dX2_become_107 : decode cX2_become 107 = .ok (.aload_n 0, 1) := by decide +kernel
theorem dX2_become_108 : decode cX2_become 108 = .ok (.aload_n 1, 1) := by decide +kernel
theorem dX2_become_109 : decode cX2_become 109 = .ok (.getfield 58, 3) := by decide +kernel
theorem dX2_become_112 : decode cX2_become 112 = .ok (.putfield 58, 3) := by decide +kernel
theorem dX2_become_115 : decode cX2_become 115 = .ok (.aload_n 1, 1) := by decide +kernel
theorem dX2_become_116 : decode cX2_become 116 = .ok (.getfield 31, 3) := by decide +kernel
theorem dX2_become_119 : decode cX2_become 119 = .ok (.iconst 0, 1) := by decide +kernel
theorem dX2_become_120 : decode cX2_become 120 = .ok (.aload_n 0, 1) := by decide +kernel
theorem dX2_become_121 : decode cX2_become 121 = .ok (.getfield 31, 3) := by decide +kernel
theorem dX2_become_124 : decode cX2_become 124 = .ok (.iconst 0, 1) := by decide +kernel
theorem dX2_become_125 : decode cX2_become 125 = .ok (.aload_n 0, 1) := by decide +kernel
theorem dX2_become_126 : decode cX2_become 126 = .ok (.getfield 58, 3) := by decide +kernel
theorem dX2_become_129 : decode cX2_become 129 = .ok (.invokestatic 46, 3) := by decide +kernel
theorem dX2_become_132 : decode cX2_become 132 = .ok (.aload_n 1, 1) := by decide +kernel
theorem dX2_become_133 : decode cX2_become 133 = .ok (.getfield 34, 3) := by decide +kernel
theorem dX2_become_136 : decode cX2_become 136 = .ok (.iconst 0, 1) := by decide +kernel
theorem dX2_become_137 : decode cX2_become 137 = .ok (.aload_n 0, 1) := by decide +kernel
theorem dX2_become_138 : decode cX2_become 138 = .ok (.getfield 34, 3) := by decide +kernel
theorem dX2_become_141 : decode cX2_become 141 = .ok (.iconst 0, 1) := by decide +kernel
theorem dX2_become_142 : decode cX2_become 142 = .ok (.aload_n 0, 1) := by decide +kernel
theorem dX2_become_143 : decode cX2_become 143 = .ok (.getfield 58, 3) := by decide +kernel
theorem dX2_become_146 : decode cX2_become 146 = .ok (.invokestatic 46, 3) := by decide +kernel
theorem dX2_become_149 : decode cX2_become 149 = .ok (.aload_n 1, 1) := by decide +kernel
theorem dX2_become_150 : decode cX2_become 150 = .ok (.getfield 37, 3) := by decide +kernel
theorem dX2_become_153 : decode cX2_become 153 = .ok (.iconst 0, 1) := by decide +kernel
theorem dX2_become_154 : decode cX2_become 154 = .ok (.aload_n 0, 1) := by decide +kernel
theorem dX2_become_155 : decode cX2_become 155 = .ok (.getfield 37, 3) := by decide +kernel
theorem dX2_become_158 : decode cX2_become 158 = .ok (.iconst 0, 1) := by decide +kernel
theorem dX2_become_159 : decode cX2_become 159 = .ok (.aload_n 0, 1) := by decide +kernel
theorem dX2_become_160 : decode cX2_become 160 = .ok (.getfield 58, 3) := by decide +kernel
theorem dX2_become_163 : decode cX2_become 163 = .ok (.invokestatic 46, 3) := by decide +kernel
theorem dX2_become_166 : decode cX2_become 166 = .ok (.return_, 1) := by decide +kernel
theorem dX2_addSitter_0 : decode cX2_addSitter 0 = .ok (.aload_n 0, 1) := by decide +kernel
theorem dX2_addSitter_1 : decode cX2_addSitter 1 = .ok (.getfield 19, 3) := by decide +kernel
theorem dX2_addSitter_4 : decode cX2_addSitter 4 = .ok (.aload_n 0, 1) := by decide +kernel
theorem dX2_addSitter_5 : decode cX2_addSitter 5 = .ok (.getfield 55, 3) := by decide +kernel
theorem dX2_addSitter_8 : decode cX2_addSitter 8 = .ok (.iload_n 1, 1) := by decide +kernel
theorem dX2_addSitter_9 : decode cX2_addSitter 9 = .ok (.iastore, 1) := by decide +kernel
theorem dX2_addSitter_10 : decode cX2_addSitter 10 = .ok (.aload_n 0, 1) := by decide +kernel
theorem dX2_addSitter_11 : decode cX2_addSitter 11 = .ok (.getfield 22, 3) := by decide +kernel
theorem dX2_addSitter_14 : decode cX2_addSitter 14 = .ok (.aload_n 0, 1) := by decide +kernel
theorem dX2_addSitter_15 : decode cX2_addSitter 15 = .ok (.getfield 55, 3) := by decide +kernel
theorem dX2_addSitter_18 : decode cX2_addSitter 18 = .ok (.bipush 10, 2) := by decide +kernel
theorem dX2_addSitter_20 : decode cX2_addSitter 20 = .ok (.iastore, 1) := by decide +kernel
theorem dX2_addSitter_21 : decode cX2_addSitter 21 = .ok (.aload_n 0, 1) := by decide +kernel
theorem dX2_addSitter_22 : decode cX2_addSitter 22 = .ok (.getfield 25, 3) := by decide +kernel
theorem dX2_addSitter_25 : decode cX2_addSitter 25 = .ok (.aload_n 0, 1) := by decide +kernel
theorem dX2_addSitter_26 : decode cX2_addSitter 26 = .ok (.getfield 55, 3) := by decide +kernel
theorem dX2_addSitter_29 : decode cX2_addSitter 29 = .ok (.iconst 5, 1) := by decide +kernel
theorem dX2_addSitter_30 : decode cX2_addSitter 30 = .ok (.iastore, 1) := by decide +kernel
theorem dX2_addSitter_31 : decode cX2_addSitter 31 = .ok (.aload_n 0, 1) := by decide +kernel
theorem dX2_addSitter_32 : decode cX2_addSitter 32 = .ok (.getfield 28, 3) := by decide +kernel
theorem dX2_addSitter_35 : decode cX2_addSitter 35 = .ok (.aload_n 0, 1) := by decide +kernel
theorem dX2_addSitter_36 : decode cX2_addSitter 36 = .ok (.getfield 55, 3) := by decide +kernel
theorem dX2_addSitter_39 : decode cX2_addSitter 39 = .ok (.aload_n 0, 1) := by decide +kernel
theorem dX2_addSitter_40 : decode cX2_addSitter 40 = .ok (.getfield 52, 3) := by decide +kernel
theorem dX2_addSitter_43 : decode cX2_addSitter 43 = .ok (.iastore, 1) := by decide +kernel
theorem dX2_addSitter_44 : decode cX2_addSitter 44 = .ok (.aload_n 0, 1) := by decide +kernel
theorem dX2_addSitter_45 : decode cX2_addSitter 45 = .ok (.dup, 1) := by decide +kernel
theorem dX2_addSitter_46 : decode cX2_addSitter 46 = .ok (.getfield 55, 3) := by decide +kernel
theorem dX2_addSitter_49 : decode cX2_addSitter 49 = .ok (.iconst 1, 1) := by decide +kernel
theorem dX2_addSitter_50 : decode cX2_addSitter 50 = .ok (.iadd, 1) := by decide +kernel
theorem dX2_addSitter_51 : decode cX2_addSitter 51 = .ok (.putfield 55, 3) := by decide +kernel
theorem dX2_addSitter_54 : decode cX2_addSitter 54 = .ok (.aload_n 0, 1) := by decide +kernel
theorem dX2_addSitter_55 : decode cX2_addSitter 55 = .ok (.getfield 55, 3) := by decide +kernel
theorem dX2_addSitter_58 : decode cX2_addSitter 58 = .ok (.iconst 1, 1) := by decide +kernel
theorem dX2_addSitter_59 : decode cX2_addSitter 59 = .ok (.isub, 1) := by decide +kernel
theorem dX2_addSitter_60 : decode cX2_addSitter 60 = .ok (.ireturn, 1) := by decide +kernel
theorem dX2_addLikeness_0 : decode cX2_addLikeness 0 = .ok (.aload_n 0, 1) := by decide +kernel
theorem dX2_addLikeness_1 : decode cX2_addLikeness 1 = .ok (.getfield 31, 3) := by decide +kernel
theorem dX2_addLikeness_4 : decode cX2_addLikeness 4 = .ok (.aload_n 0, 1) := by decide +kernel
theorem dX2_addLikeness_5 : decode cX2_addLikeness 5 = .ok (.getfield 58, 3) := by decide +kernel
theorem dX2_addLikeness_8 : decode cX2_addLikeness 8 = .ok (.iload_n 2, 1) := by decide +kernel
theorem dX2_addLikeness_9 : decode cX2_addLikeness 9 = .ok (.iastore, 1) := by decide +kernel
theorem dX2_addLikeness_10 : decode cX2_addLikeness 10 = .ok (.aload_n 0, 1) := by decide +kernel
theorem dX2_addLikeness_11 : decode cX2_addLikeness 11 = .ok (.getfield 34, 3) := by decide +kernel
theorem dX2_addLikeness_14 : decode cX2_addLikeness 14 = .ok (.aload_n 0, 1) := by decide +kernel
theorem dX2_addLikeness_15 : decode cX2_addLikeness 15 = .ok (.getfield 58, 3) := by decide +kernel
theorem dX2_addLikeness_18 : decode cX2_addLikeness 18 = .ok (.iload_n 1, 1) := by decide +kernel
theorem dX2_addLikeness_19 : decode cX2_addLikeness 19 = .ok (.iastore, 1) := by decide +kernel
theorem dX2_addLikeness_20 : decode cX2_addLikeness 20 = .ok (.aload_n 0, 1) := by decide +kernel
theorem dX2_addLikeness_21 : decode cX2_addLikeness 21 = .ok (.getfield 37, 3) := by decide +kernel
theorem dX2_addLikeness_24 : decode cX2_addLikeness 24 = .ok (.aload_n 0, 1) := by decide +kernel
theorem dX2_addLikeness_25 : decode cX2_addLikeness 25 = .ok (.getfield 58, 3) := by decide +kernel
theorem dX2_addLikeness_28 : decode cX2_addLikeness 28 = .ok (.iconst 0, 1) := by decide +kernel
theorem dX2_addLikeness_29 : decode cX2_addLikeness 29 = .ok (.iastore, 1) := by decide +kernel
theorem dX2_addLikeness_30 : decode cX2_addLikeness 30 = .ok (.aload_n 0, 1) := by decide +kernel
theorem dX2_addLikeness_31 : decode cX2_addLikeness 31 = .ok (.dup, 1) := by decide +kernel
theorem dX2_addLikeness_32 : decode cX2_addLikeness 32 = .ok (.getfield 58, 3) := by decide +kernel
theorem dX2_addLikeness_35 : decode cX2_addLikeness 35 = .ok (.iconst 1, 1) := by decide +kernel
theorem dX2_addLikeness_36 : decode cX2_addLikeness 36 = .ok (.iadd, 1) := by decide +kernel
theorem dX2_addLikeness_37 : decode cX2_addLikeness 37 = .ok (.putfield 58, 3) := by decide +kernel
theorem dX2_addLikeness_40 : decode cX2_addLikeness 40 = .ok (.aload_n 0, 1) := by decide +kernel
theorem dX2_addLikeness_41 : decode cX2_addLikeness 41 = .ok (.getfield 58, 3) := by decide +kernel
theorem dX2_addLikeness_44 : decode cX2_addLikeness 44 = .ok (.iconst 1, 1) := by decide +kernel
theorem dX2_addLikeness_45 : decode cX2_addLikeness 45 = .ok (.isub, 1) := by decide +kernel
theorem dX2_addLikeness_46 : decode cX2_addLikeness 46 = .ok (.ireturn, 1) := by decide +kernel
theorem dX2_keepOnly_0 : decode cX2_keepOnly 0 = .ok (.iconst 0, 1) := by decide +kernel
theorem dX2_keepOnly_1 : decode cX2_keepOnly 1 = .ok (.istore_n 2, 1) := by decide +kernel
theorem dX2_keepOnly_2 : decode cX2_keepOnly 2 = .ok (.iconst 0, 1) := by decide +kernel
theorem dX2_keepOnly_3 : decode cX2_keepOnly 3 = .ok (.istore_n 3, 1) := by decide +kernel
theorem dX2_keepOnly_4 : decode cX2_keepOnly 4 = .ok (.iload_n 3, 1) := by decide +kernel
theorem dX2_keepOnly_5 : decode cX2_keepOnly 5 = .ok (.aload_n 0, 1) := by decide +kernel
theorem dX2_keepOnly_6 : decode cX2_keepOnly 6 = .ok (.getfield 58, 3) := by decide +kernel
theorem dX2_keepOnly_9 : decode cX2_keepOnly 9 = .ok (.if_icmp .ge 57, 3) := by decide +kernel
theorem dX2_keepOnly_12 : decode cX2_keepOnly 12 = .ok (.iload_n 1, 1) := by decide +kernel
theorem dX2_keepOnly_13 : decode cX2_keepOnly 13 = .ok (.iload_n 3, 1) := by decide +kernel
theorem dX2_keepOnly_14 : decode cX2_keepOnly 14 = .ok (.ishr, 1) := by decide +kernel
theorem dX2_keepOnly_15 : decode cX2_keepOnly 15 = .ok (.iconst 1, 1) := by decide +kernel
theorem dX2_keepOnly_16 : decode cX2_keepOnly 16 = .ok (.iand, 1) := by decide +kernel
theorem dX2_keepOnly_17 : decode cX2_keepOnly 17 = .ok (.iconst 1, 1) := by decide +kernel
theorem dX2_keepOnly_18 : decode cX2_keepOnly 18 = .ok (.if_icmp .ne 42, 3) := by decide +kernel
theorem dX2_keepOnly_21 : decode cX2_keepOnly 21 = .ok (.aload_n 0, 1) := by decide +kernel
theorem dX2_keepOnly_22 : decode cX2_keepOnly 22 = .ok (.getfield 31, 3) := by decide +kernel
theorem dX2_keepOnly_25 : decode cX2_keepOnly 25 = .ok (.iload_n 2, 1) := by decide +kernel
theorem dX2_keepOnly_26 : decode cX2_keepOnly 26 = .ok (.aload_n 0, 1) := by decide +kernel
theorem dX2_keepOnly_27 : decode cX2_keepOnly 27 = .ok (.getfield 31, 3) := by decide +kernel
theorem dX2_keepOnly_30 : decode cX2_keepOnly 30 = .ok (.iload_n 3, 1) := by decide +kernel
theorem dX2_keepOnly_31 : decode cX2_keepOnly 31 = .ok (.iaload, 1) := by decide +kernel
theorem dX2_keepOnly_32 : decode cX2_keepOnly 32 = .ok (.iastore, 1) := by decide +kernel
theorem dX2_keepOnly_33 : decode cX2_keepOnly 33 = .ok (.aload_n 0, 1) := by decide +kernel
theorem dX2_keepOnly_34 : decode cX2_keepOnly 34 = .ok (.getfield 34, 3) := by decide +kernel
theorem dX2_keepOnly_37 : decode cX2_keepOnly 37 = .ok (.iload_n 2, 1) := by decide +kernel
theorem dX2_keepOnly_38 : decode cX2_keepOnly 38 = .ok (.aload_n 0, 1) := by decide +kernel
theorem dX2_keepOnly_39 : decode cX2_keepOnly 39 = .ok (.getfield 34, 3) := by decide +kernel
theorem dX2_keepOnly_42 : decode cX2_keepOnly 42 = .ok (.iload_n 3, 1) := by decide +kernel
theorem dX2_keepOnly_43 : decode cX2_keepOnly 43 = .ok (.iaload, 1) := by decide +kernel
theorem dX2_keepOnly_44 : decode cX2_keepOnly 44 = .ok (.iastore, 1) := by decide +kernel
theorem dX2_keepOnly_45 : decode cX2_keepOnly 45 = .ok (.aload_n 0, 1) := by decide +kernel
theorem dX2_keepOnly_46 : decode cX2_keepOnly 46 = .ok (.getfield 37, 3) := by decide +kernel
theorem dX2_keepOnly_49 : decode cX2_keepOnly 49 = .ok (.iload_n 2, 1) := by decide +kernel
theorem dX2_keepOnly_50 : decode cX2_keepOnly 50 = .ok (.aload_n 0, 1) := by decide +kernel
theorem dX2_keepOnly_51 : decode cX2_keepOnly 51 = .ok (.getfield 37, 3) := by decide +kernel
theorem dX2_keepOnly_54 : decode cX2_keepOnly 54 = .ok (.iload_n 3, 1) := by decide +kernel
theorem dX2_keepOnly_55 : decode cX2_keepOnly 55 = .ok (.iaload, 1) := by decide +kernel
theorem dX2_keepOnly_56 : decode cX2_keepOnly 56 = .ok (.iastore, 1) := by decide +kernel
theorem dX2_keepOnly_57 : decode cX2_keepOnly 57 = .ok (.iinc 2 1, 3) := by decide +kernel
theorem dX2_keepOnly_60 : decode cX2_keepOnly 60 = .ok (.iinc 3 1, 3) := by decide +kernel
theorem dX2_keepOnly_63 : decode cX2_keepOnly 63 = .ok (.goto (-59), 3) := by decide +kernel
theorem dX2_keepOnly_66 : decode cX2_keepOnly 66 = .ok (.aload_n 0, 1) := by decide +kernel
theorem dX2_keepOnly_67 : decode cX2_keepOnly 67 = .ok (.iload_n 2, 1) := by decide +kernel
theorem dX2_keepOnly_68 : decode cX2_keepOnly 68 = .ok (.putfield 58, 3) := by decide +kernel
theorem dX2_keepOnly_71 : decode cX2_keepOnly 71 = .ok (.return_, 1) := by decide +kernel
theorem dX2_allLikenesses_0 : decode cX2_allLikenesses 0 = .ok (.iconst 1, 1) := by decide +kernel
theorem dX2_allLikenesses_1 : decode cX2_allLikenesses 1 = .ok (.aload_n 0, 1) := by decide +kernel
theorem dX2_allLikenesses_2 : decode cX2_allLikenesses 2 = .ok (.getfield 58, 3) := by decide +kernel
theorem dX2_allLikenesses_5 : decode cX2_allLikenesses 5 = .ok (.ishl, 1) := by decide +kernel
theorem dX2_allLikenesses_6 : decode cX2_allLikenesses 6 = .ok (.iconst 1, 1) := by decide +kernel
theorem dX2_allLikenesses_7 : decode cX2_allLikenesses 7 = .ok (.isub, 1) := by decide +kernel
theorem dX2_allLikenesses_8 : decode cX2_allLikenesses 8 = .ok (.ireturn, 1) := by decide +kernel
theorem dX2_likenessesAt_0 : decode cX2_likenessesAt 0 = .ok (.aload_n 0, 1) := by decide +kernel
theorem dX2_likenessesAt_1 : decode cX2_likenessesAt 1 = .ok (.iload_n 1, 1) := by decide +kernel
theorem dX2_likenessesAt_2 : decode cX2_likenessesAt 2 = .ok (.aload_n 0, 1) := by decide +kernel
theorem dX2_likenessesAt_3 : decode cX2_likenessesAt 3 = .ok (.getfield 31, 3) := by decide +kernel
theorem dX2_likenessesAt_6 : decode cX2_likenessesAt 6 = .ok (.invokevirtual 61, 3) := by decide +kernel
theorem dX2_likenessesAt_9 : decode cX2_likenessesAt 9 = .ok (.ireturn, 1) := by decide +kernel
theorem dX2_likenessesOf_0 : decode cX2_likenessesOf 0 = .ok (.aload_n 0, 1) := by decide +kernel
theorem dX2_likenessesOf_1 : decode cX2_likenessesOf 1 = .ok (.iload_n 1, 1) := by decide +kernel
theorem dX2_likenessesOf_2 : decode cX2_likenessesOf 2 = .ok (.aload_n 0, 1) := by decide +kernel
theorem dX2_likenessesOf_3 : decode cX2_likenessesOf 3 = .ok (.getfield 34, 3) := by decide +kernel
theorem dX2_likenessesOf_6 : decode cX2_likenessesOf 6 = .ok (.invokevirtual 61, 3) := by decide +kernel
theorem dX2_likenessesOf_9 : decode cX2_likenessesOf 9 = .ok (.ireturn, 1) := by decide +kernel
theorem dX2_placesOf_0 : decode cX2_placesOf 0 = .ok (.iconst 0, 1) := by decide +kernel
theorem dX2_placesOf_1 : decode cX2_placesOf 1 = .ok (.istore_n 3, 1) := by decide +kernel
theorem dX2_placesOf_2 : decode cX2_placesOf 2 = .ok (.iconst 0, 1) := by decide +kernel
theorem dX2_placesOf_3 : decode cX2_placesOf 3 = .ok (.istore 4, 2) := by decide +kernel
theorem dX2_placesOf_5 : decode cX2_placesOf 5 = .ok (.iload 4, 2) := by decide +kernel
theorem dX2_placesOf_7 : decode cX2_placesOf 7 = .ok (.aload_n 0, 1) := by decide +kernel
theorem dX2_placesOf_8 : decode cX2_placesOf 8 = .ok (.getfield 58, 3) := by decide +kernel
theorem dX2_placesOf_11 : decode cX2_placesOf 11 = .ok (.if_icmp .ge 24, 3) := by decide +kernel
theorem dX2_placesOf_14 : decode cX2_placesOf 14 = .ok (.aload_n 2, 1) := by decide +kernel
theorem dX2_placesOf_15 : decode cX2_placesOf 15 = .ok (.iload 4, 2) := by decide +kernel
theorem dX2_placesOf_17 : decode cX2_placesOf 17 = .ok (.iaload, 1) := by decide +kernel
theorem dX2_placesOf_18 : decode cX2_placesOf 18 = .ok (.iload_n 1, 1) := by decide +kernel
theorem dX2_placesOf_19 : decode cX2_placesOf 19 = .ok (.if_icmp .ne 10, 3) := by decide +kernel
theorem dX2_placesOf_22 : decode cX2_placesOf 22 = .ok (.iload_n 3, 1) := by decide +kernel
theorem dX2_placesOf_23 : decode cX2_placesOf 23 = .ok (.iconst 1, 1) := by decide +kernel
theorem dX2_placesOf_24 : decode cX2_placesOf 24 = .ok (.iload 4, 2) := by decide +kernel
theorem dX2_placesOf_26 : decode cX2_placesOf 26 = .ok (.ishl, 1) := by decide +kernel
theorem dX2_placesOf_27 : decode cX2_placesOf 27 = .ok (.ior, 1) := by decide +kernel
theorem dX2_placesOf_28 : decode cX2_placesOf 28 = .ok (.istore_n 3, 1) := by decide +kernel
theorem dX2_placesOf_29 : decode cX2_placesOf 29 = .ok (.iinc 4 1, 3) := by decide +kernel
theorem dX2_placesOf_32 : decode cX2_placesOf 32 = .ok (.goto (-27), 3) := by decide +kernel
theorem dX2_placesOf_35 : decode cX2_placesOf 35 = .ok (.iload_n 3, 1) := by decide +kernel
theorem dX2_placesOf_36 : decode cX2_placesOf 36 = .ok (.ireturn, 1) := by decide +kernel
theorem dX2_meetings_0 : decode cX2_meetings 0 = .ok (.iconst 0, 1) := by decide +kernel
theorem dX2_meetings_1 : decode cX2_meetings 1 = .ok (.istore_n 2, 1) := by decide +kernel
theorem dX2_meetings_2 : decode cX2_meetings 2 = .ok (.iconst 0, 1) := by decide +kernel
theorem dX2_meetings_3 : decode cX2_meetings 3 = .ok (.istore_n 3, 1) := by decide +kernel
theorem dX2_meetings_4 : decode cX2_meetings 4 = .ok (.iload_n 3, 1) := by decide +kernel
theorem dX2_meetings_5 : decode cX2_meetings 5 = .ok (.aload_n 0, 1) := by decide +kernel
theorem dX2_meetings_6 : decode cX2_meetings 6 = .ok (.getfield 58, 3) := by decide +kernel
theorem dX2_meetings_9 : decode cX2_meetings 9 = .ok (.if_icmp .ge 63, 3) := by decide +kernel
theorem dX2_meetings_12 : decode cX2_meetings 12 = .ok (.iload_n 3, 1) := by decide +kernel
theorem dX2_meetings_13 : decode cX2_meetings 13 = .ok (.iconst 1, 1) := by decide +kernel
theorem dX2_meetings_14 : decode cX2_meetings 14 = .ok (.iadd, 1) := by decide +kernel
theorem dX2_meetings_15 : decode cX2_meetings 15 = .ok (.istore 4, 2) := by decide +kernel
theorem dX2_meetings_17 : decode cX2_meetings 17 = .ok (.iload 4, 2) := by decide +kernel
theorem dX2_meetings_19 : decode cX2_meetings 19 = .ok (.aload_n 0, 1) := by decide +kernel
theorem dX2_meetings_20 : decode cX2_meetings 20 = .ok (.getfield 58, 3) := by decide +kernel
theorem dX2_meetings_23 : decode cX2_meetings 23 = .ok (.if_icmp .ge 43, 3) := by decide +kernel
theorem dX2_meetings_26 : decode cX2_meetings 26 = .ok (.aload_n 0, 1) := by decide +kernel
theorem dX2_meetings_27 : decode cX2_meetings 27 = .ok (.getfield 34, 3) := by decide +kernel
theorem dX2_meetings_30 : decode cX2_meetings 30 = .ok (.iload_n 3, 1) := by decide +kernel
theorem dX2_meetings_31 : decode cX2_meetings 31 = .ok (.iaload, 1) := by decide +kernel
theorem dX2_meetings_32 : decode cX2_meetings 32 = .ok (.iload_n 1, 1) := by decide +kernel
theorem dX2_meetings_33 : decode cX2_meetings 33 = .ok (.if_icmp .ne 27, 3) := by decide +kernel
theorem dX2_meetings_36 : decode cX2_meetings 36 = .ok (.aload_n 0, 1) := by decide +kernel
theorem dX2_meetings_37 : decode cX2_meetings 37 = .ok (.getfield 34, 3) := by decide +kernel
theorem dX2_meetings_40 : decode cX2_meetings 40 = .ok (.iload 4, 2) := by decide +kernel
theorem dX2_meetings_42 : decode cX2_meetings 42 = .ok (.iaload, 1) := by decide +kernel
theorem dX2_meetings_43 : decode cX2_meetings 43 = .ok (.iload_n 1, 1) := by decide +kernel
theorem dX2_meetings_44 : decode cX2_meetings 44 = .ok (.if_icmp .ne 16, 3) := by decide +kernel
theorem dX2_meetings_47 : decode cX2_meetings 47 = .ok (.aload_n 0, 1) := by decide +kernel
theorem dX2_meetings_48 : decode cX2_meetings 48 = .ok (.iload_n 3, 1) := by decide +kernel
theorem dX2_meetings_49 : decode cX2_meetings 49 = .ok (.iload 4, 2) := by decide +kernel
theorem dX2_meetings_51 : decode cX2_meetings 51 = .ok (.invokevirtual 65, 3) := by decide +kernel
theorem dX2_meetings_54 : decode cX2_meetings 54 = .ok (.ifCond .eq 6, 3) := by decide +kernel
theorem dX2_meetings_57 : decode cX2_meetings 57 = .ok (.iinc 2 1, 3) := by decide +kernel
theorem dX2_meetings_60 : decode cX2_meetings 60 = .ok (.iinc 4 1, 3) := by decide +kernel
theorem dX2_meetings_63 : decode cX2_meetings 63 = .ok (.goto (-46), 3) := by decide +kernel
theorem dX2_meetings_66 : decode cX2_meetings 66 = .ok (.iinc 3 1, 3) := by decide +kernel
theorem dX2_meetings_69 : decode cX2_meetings 69 = .ok (.goto (-65), 3) := by decide +kernel
theorem dX2_meetings_72 : decode cX2_meetings 72 = .ok (.iload_n 2, 1) := by decide +kernel
theorem dX2_meetings_73 : decode cX2_meetings 73 = .ok (.ireturn, 1) := by decide +kernel
theorem dX2_isMeeting_0 : decode cX2_isMeeting 0 = .ok (.aload_n 0, 1) := by decide +kernel
theorem dX2_isMeeting_1 : decode cX2_isMeeting 1 = .ok (.getfield 31, 3) := by decide +kernel
theorem dX2_isMeeting_4 : decode cX2_isMeeting 4 = .ok (.iload_n 1, 1) := by decide +kernel
theorem dX2_isMeeting_5 : decode cX2_isMeeting 5 = .ok (.iaload, 1) := by decide +kernel
theorem dX2_isMeeting_6 : decode cX2_isMeeting 6 = .ok (.bipush 8, 2) := by decide +kernel
theorem dX2_isMeeting_8 : decode cX2_isMeeting 8 = .ok (.idiv, 1) := by decide +kernel
theorem dX2_isMeeting_9 : decode cX2_isMeeting 9 = .ok (.aload_n 0, 1) := by decide +kernel
theorem dX2_isMeeting_10 : decode cX2_isMeeting 10 = .ok (.getfield 31, 3) := by decide +kernel
theorem dX2_isMeeting_13 : decode cX2_isMeeting 13 = .ok (.iload_n 2, 1) := by decide +kernel
theorem dX2_isMeeting_14 : decode cX2_isMeeting 14 = .ok (.iaload, 1) := by decide +kernel
theorem dX2_isMeeting_15 : decode cX2_isMeeting 15 = .ok (.bipush 8, 2) := by decide +kernel
theorem dX2_isMeeting_17 : decode cX2_isMeeting 17 = .ok (.idiv, 1) := by decide +kernel
theorem dX2_isMeeting_18 : decode cX2_isMeeting 18 = .ok (.if_icmp .eq 24, 3) := by decide +kernel
theorem dX2_isMeeting_21 : decode cX2_isMeeting 21 = .ok (.aload_n 0, 1) := by decide +kernel
theorem dX2_isMeeting_22 : decode cX2_isMeeting 22 = .ok (.getfield 31, 3) := by decide +kernel
theorem dX2_isMeeting_25 : decode cX2_isMeeting 25 = .ok (.iload_n 1, 1) := by decide +kernel
theorem dX2_isMeeting_26 : decode cX2_isMeeting 26 = .ok (.iaload, 1) := by decide +kernel
theorem dX2_isMeeting_27 : decode cX2_isMeeting 27 = .ok (.bipush 8, 2) := by decide +kernel
theorem dX2_isMeeting_29 : decode cX2_isMeeting 29 = .ok (.irem, 1) := by decide +kernel
theorem dX2_isMeeting_30 : decode cX2_isMeeting 30 = .ok (.aload_n 0, 1) := by decide +kernel
theorem dX2_isMeeting_31 : decode cX2_isMeeting 31 = .ok (.getfield 31, 3) := by decide +kernel
theorem dX2_isMeeting_34 : decode cX2_isMeeting 34 = .ok (.iload_n 2, 1) := by decide +kernel
theorem dX2_isMeeting_35 : decode cX2_isMeeting 35 = .ok (.iaload, 1) := by decide +kernel
theorem dX2_isMeeting_36 : decode cX2_isMeeting 36 = .ok (.bipush 8, 2) := by decide +kernel
theorem dX2_isMeeting_38 : decode cX2_isMeeting 38 = .ok (.irem, 1) := by decide +kernel
theorem dX2_isMeeting_39 : decode cX2_isMeeting 39 = .ok (.if_icmp .ne 7, 3) := by decide +kernel
theorem dX2_isMeeting_42 : decode cX2_isMeeting 42 = .ok (.iconst 1, 1) := by decide +kernel
theorem dX2_isMeeting_43 : decode cX2_isMeeting 43 = .ok (.goto 4, 3) := by decide +kernel
theorem dX2_isMeeting_46 : decode cX2_isMeeting 46 = .ok (.iconst 0, 1) := by decide +kernel
theorem dX2_isMeeting_47 : decode cX2_isMeeting 47 = .ok (.ireturn, 1) := by decide +kernel
theorem dX2_sittersWhoMeet_0 : decode cX2_sittersWhoMeet 0 = .ok (.iconst 0, 1) := by decide +kernel
theorem dX2_sittersWhoMeet_1 : decode cX2_sittersWhoMeet 1 = .ok (.istore_n 1, 1) := by decide +kernel
theorem dX2_sittersWhoMeet_2 : decode cX2_sittersWhoMeet 2 = .ok (.iconst 0, 1) := by decide +kernel
theorem dX2_sittersWhoMeet_3 : decode cX2_sittersWhoMeet 3 = .ok (.istore_n 2, 1) := by decide +kernel
theorem dX2_sittersWhoMeet_4 : decode cX2_sittersWhoMeet 4 = .ok (.iload_n 2, 1) := by decide +kernel
theorem dX2_sittersWhoMeet_5 : decode cX2_sittersWhoMeet 5 = .ok (.aload_n 0, 1) := by decide +kernel
theorem dX2_sittersWhoMeet_6 : decode cX2_sittersWhoMeet 6 = .ok (.getfield 55, 3) := by decide +kernel
theorem dX2_sittersWhoMeet_9 : decode cX2_sittersWhoMeet 9 = .ok (.if_icmp .ge 23, 3) := by decide +kernel
theorem dX2_sittersWhoMeet_12 : decode cX2_sittersWhoMeet 12 = .ok (.aload_n 0, 1) := by decide +kernel
theorem dX2_sittersWhoMeet_13 : decode cX2_sittersWhoMeet 13 = .ok (.iload_n 2, 1) := by decide +kernel
theorem dX2_sittersWhoMeet_14 : decode cX2_sittersWhoMeet 14 = .ok (.invokevirtual 69, 3) := by decide +kernel
theorem dX2_sittersWhoMeet_17 : decode cX2_sittersWhoMeet 17 = .ok (.ifCond .le 9, 3) := by decide +kernel
theorem dX2_sittersWhoMeet_20 : decode cX2_sittersWhoMeet 20 = .ok (.iload_n 1, 1) := by decide +kernel
theorem dX2_sittersWhoMeet_21 : decode cX2_sittersWhoMeet 21 = .ok (.iconst 1, 1) := by decide +kernel
theorem dX2_sittersWhoMeet_22 : decode cX2_sittersWhoMeet 22 = .ok (.iload_n 2, 1) := by decide +kernel
theorem dX2_sittersWhoMeet_23 : decode cX2_sittersWhoMeet 23 = .ok (.ishl, 1) := by decide +kernel
theorem dX2_sittersWhoMeet_24 : decode cX2_sittersWhoMeet 24 = .ok (.ior, 1) := by decide +kernel
theorem dX2_sittersWhoMeet_25 : decode cX2_sittersWhoMeet 25 = .ok (.istore_n 1, 1) := by decide +kernel
theorem dX2_sittersWhoMeet_26 : decode cX2_sittersWhoMeet 26 = .ok (.iinc 2 1, 3) := by decide +kernel
theorem dX2_sittersWhoMeet_29 : decode cX2_sittersWhoMeet 29 = .ok (.goto (-25), 3) := by decide +kernel
theorem dX2_sittersWhoMeet_32 : decode cX2_sittersWhoMeet 32 = .ok (.iload_n 1, 1) := by decide +kernel
theorem dX2_sittersWhoMeet_33 : decode cX2_sittersWhoMeet 33 = .ok (.ireturn, 1) := by decide +kernel
theorem dX2_feesDue_0 : decode cX2_feesDue 0 = .ok (.iconst 0, 1) := by decide +kernel
theorem dX2_feesDue_1 : decode cX2_feesDue 1 = .ok (.istore_n 1, 1) := by decide +kernel
theorem dX2_feesDue_2 : decode cX2_feesDue 2 = .ok (.iconst 0, 1) := by decide +kernel
theorem dX2_feesDue_3 : decode cX2_feesDue 3 = .ok (.istore_n 2, 1) := by decide +kernel
theorem dX2_feesDue_4 : decode cX2_feesDue 4 = .ok (.iload_n 2, 1) := by decide +kernel
theorem dX2_feesDue_5 : decode cX2_feesDue 5 = .ok (.aload_n 0, 1) := by decide +kernel
theorem dX2_feesDue_6 : decode cX2_feesDue 6 = .ok (.getfield 55, 3) := by decide +kernel
theorem dX2_feesDue_9 : decode cX2_feesDue 9 = .ok (.if_icmp .ge 26, 3) := by decide +kernel
theorem dX2_feesDue_12 : decode cX2_feesDue 12 = .ok (.aload_n 0, 1) := by decide +kernel
theorem dX2_feesDue_13 : decode cX2_feesDue 13 = .ok (.iload_n 2, 1) := by decide +kernel
theorem dX2_feesDue_14 : decode cX2_feesDue 14 = .ok (.invokevirtual 73, 3) := by decide +kernel
theorem dX2_feesDue_17 : decode cX2_feesDue 17 = .ok (.ifCond .eq 12, 3) := by decide +kernel
theorem dX2_feesDue_20 : decode cX2_feesDue 20 = .ok (.iload_n 1, 1) := by decide +kernel
theorem dX2_feesDue_21 : decode cX2_feesDue 21 = .ok (.aload_n 0, 1) := by decide +kernel
theorem dX2_feesDue_22 : decode cX2_feesDue 22 = .ok (.getfield 25, 3) := by decide +kernel
theorem dX2_feesDue_25 : decode cX2_feesDue 25 = .ok (.iload_n 2, 1) := by decide +kernel
theorem dX2_feesDue_26 : decode cX2_feesDue 26 = .ok (.iaload, 1) := by decide +kernel
theorem dX2_feesDue_27 : decode cX2_feesDue 27 = .ok (.iadd, 1) := by decide +kernel
theorem dX2_feesDue_28 : decode cX2_feesDue 28 = .ok (.istore_n 1, 1) := by decide +kernel
theorem dX2_feesDue_29 : decode cX2_feesDue 29 = .ok (.iinc 2 1, 3) := by decide +kernel
theorem dX2_feesDue_32 : decode cX2_feesDue 32 = .ok (.goto (-28), 3) := by decide +kernel
theorem dX2_feesDue_35 : decode cX2_feesDue 35 = .ok (.iload_n 1, 1) := by decide +kernel
theorem dX2_feesDue_36 : decode cX2_feesDue 36 = .ok (.ireturn, 1) := by decide +kernel
theorem dX2_wheatOfAll_0 : decode cX2_wheatOfAll 0 = .ok (.aload_n 0, 1) := by decide +kernel
theorem dX2_wheatOfAll_1 : decode cX2_wheatOfAll 1 = .ok (.getfield 9, 3) := by decide +kernel
theorem dX2_wheatOfAll_4 : decode cX2_wheatOfAll 4 = .ok (.bipush 48, 2) := by decide +kernel
theorem dX2_wheatOfAll_6 : decode cX2_wheatOfAll 6 = .ok (.invokestatic 76, 3) := by decide +kernel
theorem dX2_wheatOfAll_9 : decode cX2_wheatOfAll 9 = .ok (.ireturn, 1) := by decide +kernel
theorem dX2_temperOfAll_0 : decode cX2_temperOfAll 0 = .ok (.aload_n 0, 1) := by decide +kernel
theorem dX2_temperOfAll_1 : decode cX2_temperOfAll 1 = .ok (.getfield 22, 3) := by decide +kernel
theorem dX2_temperOfAll_4 : decode cX2_temperOfAll 4 = .ok (.aload_n 0, 1) := by decide +kernel
theorem dX2_temperOfAll_5 : decode cX2_temperOfAll 5 = .ok (.getfield 55, 3) := by decide +kernel
theorem dX2_temperOfAll_8 : decode cX2_temperOfAll 8 = .ok (.invokestatic 76, 3) := by decide +kernel
theorem dX2_temperOfAll_11 : decode cX2_temperOfAll 11 = .ok (.ireturn, 1) := by decide +kernel
theorem dX2_countsFor_0 : decode cX2_countsFor 0 = .ok (.aload_n 0, 1) := by decide +kernel
theorem dX2_countsFor_1 : decode cX2_countsFor 1 = .ok (.getfield 34, 3) := by decide +kernel
theorem dX2_countsFor_4 : decode cX2_countsFor 4 = .ok (.iload_n 1, 1) := by decide +kernel
theorem dX2_countsFor_5 : decode cX2_countsFor 5 = .ok (.iaload, 1) := by decide +kernel
theorem dX2_countsFor_6 : decode cX2_countsFor 6 = .ok (.istore_n 2, 1) := by decide +kernel
theorem dX2_countsFor_7 : decode cX2_countsFor 7 = .ok (.aload_n 0, 1) := by decide +kernel
theorem dX2_countsFor_8 : decode cX2_countsFor 8 = .ok (.getfield 19, 3) := by decide +kernel
theorem dX2_countsFor_11 : decode cX2_countsFor 11 = .ok (.iload_n 2, 1) := by decide +kernel
theorem dX2_countsFor_12 : decode cX2_countsFor 12 = .ok (.iaload, 1) := by decide +kernel
theorem dX2_countsFor_13 : decode cX2_countsFor 13 = .ok (.aload_n 0, 1) := by decide +kernel
theorem dX2_countsFor_14 : decode cX2_countsFor 14 = .ok (.getfield 22, 3) := by decide +kernel
theorem dX2_countsFor_17 : decode cX2_countsFor 17 = .ok (.iload_n 2, 1) := by decide +kernel
theorem dX2_countsFor_18 : decode cX2_countsFor 18 = .ok (.iaload, 1) := by decide +kernel
theorem dX2_countsFor_19 : decode cX2_countsFor 19 = .ok (.aload_n 0, 1) := by decide +kernel
theorem dX2_countsFor_20 : decode cX2_countsFor 20 = .ok (.getfield 37, 3) := by decide +kernel
theorem dX2_countsFor_23 : decode cX2_countsFor 23 = .ok (.iload_n 1, 1) := by decide +kernel
theorem dX2_countsFor_24 : decode cX2_countsFor 24 = .ok (.iaload, 1) := by decide +kernel
theorem dX2_countsFor_25 : decode cX2_countsFor 25 = .ok (.invokestatic 80, 3) := by decide +kernel
theorem dX2_countsFor_28 : decode cX2_countsFor 28 = .ok (.ireturn, 1) := by decide +kernel
theorem dX2_scareOf_0 : decode cX2_scareOf 0 = .ok (.aload_n 0, 1) := by decide +kernel
theorem dX2_scareOf_1 : decode cX2_scareOf 1 = .ok (.getfield 34, 3) := by decide +kernel
theorem dX2_scareOf_4 : decode cX2_scareOf 4 = .ok (.iload_n 1, 1) := by decide +kernel
theorem dX2_scareOf_5 : decode cX2_scareOf 5 = .ok (.iaload, 1) := by decide +kernel
theorem dX2_scareOf_6 : decode cX2_scareOf 6 = .ok (.istore_n 3, 1) := by decide +kernel
theorem dX2_scareOf_7 : decode cX2_scareOf 7 = .ok (.aload_n 0, 1) := by decide +kernel
theorem dX2_scareOf_8 : decode cX2_scareOf 8 = .ok (.getfield 19, 3) := by decide +kernel
theorem dX2_scareOf_11 : decode cX2_scareOf 11 = .ok (.iload_n 3, 1) := by decide +kernel
theorem dX2_scareOf_12 : decode cX2_scareOf 12 = .ok (.iaload, 1) := by decide +kernel
theorem dX2_scareOf_13 : decode cX2_scareOf 13 = .ok (.aload_n 0, 1) := by decide +kernel
theorem dX2_scareOf_14 : decode cX2_scareOf 14 = .ok (.iload_n 1, 1) := by decide +kernel
theorem dX2_scareOf_15 : decode cX2_scareOf 15 = .ok (.invokevirtual 86, 3) := by decide +kernel
theorem dX2_scareOf_18 : decode cX2_scareOf 18 = .ok (.iload_n 2, 1) := by decide +kernel
theorem dX2_scareOf_19 : decode cX2_scareOf 19 = .ok (.invokestatic 89, 3) := by decide +kernel
theorem dX2_scareOf_22 : decode cX2_scareOf 22 = .ok (.ireturn, 1) := by decide +kernel
theorem dX3_init_0 : decode cX3_init 0 = .ok (.aload_n 0, 1) := by decide +kernel
theorem dX3_init_1 : decode cX3_init 1 = .ok (.invokespecial 3, 3) := by decide +kernel
theorem dX3_init_4 : decode cX3_init 4 = .ok (.aload_n 0, 1) := by decide +kernel
theorem dX3_init_5 : decode cX3_init 5 = .ok (.bipush 40, 2) := by decide +kernel
theorem dX3_init_7 : decode cX3_init 7 = .ok (.newarray .long, 2) := by decide +kernel
theorem dX3_init_9 : decode cX3_init 9 = .ok (.putfield 9, 3) := by decide +kernel
theorem dX3_init_12 : decode cX3_init 12 = .ok (.return_, 1) := by decide +kernel
theorem dX3_begin_0 : decode cX3_begin 0 = .ok (.aload_n 0, 1) := by decide +kernel
theorem dX3_begin_1 : decode cX3_begin 1 = .ok (.iload_n 1, 1) := by decide +kernel
theorem dX3_begin_2 : decode cX3_begin 2 = .ok (.putfield 15, 3) := by decide +kernel
theorem dX3_begin_5 : decode cX3_begin 5 = .ok (.aload_n 0, 1) := by decide +kernel
theorem dX3_begin_6 : decode cX3_begin 6 = .ok (.iload_n 1, 1) := by decide +kernel
theorem dX3_begin_7 : decode cX3_begin 7 = .ok (.ifCond .ne 7, 3) := by decide +kernel
theorem dX3_begin_10 : decode cX3_begin 10 = .ok (.iconst 0, 1) := by decide +kernel
theorem dX3_begin_11 : decode cX3_begin 11 = .ok (.goto 4, 3) := by decide +kernel
theorem dX3_begin_14 : decode cX3_begin 14 = .ok (.iload_n 2, 1) := by decide +kernel
theorem dX3_begin_15 : decode cX3_begin 15 = .ok (.putfield 19, 3) := by decide +kernel
theorem dX3_begin_18 : decode cX3_begin 18 = .ok (.aload_n 0, 1) := by decide +kernel
theorem dX3_begin_19 : decode cX3_begin 19 = .ok (.getfield 9, 3) := by decide +kernel
theorem dX3_begin_22 : decode cX3_begin 22 = .ok (.lconst 0, 1) := by decide +kernel
theorem dX3_begin_23 : decode cX3_begin 23 = .ok (.invokestatic 22, 3) := by decide +kernel
theorem dX3_begin_26 : decode cX3_begin 26 = .ok (.return_, 1) := by decide +kernel
theorem dX3_isMissing_0 : decode cX3_isMissing 0 = .ok (.aload_n 0, 1) := by decide +kernel
theorem dX3_isMissing_1 : decode cX3_isMissing 1 = .ok (.getfield 15, 3) := by decide +kernel
theorem dX3_isMissing_4 : decode cX3_isMissing 4 = .ok (.ifCond .ne 7, 3) := by decide +kernel
theorem dX3_isMissing_7 : decode cX3_isMissing 7 = .ok (.iconst 1, 1) := by decide +kernel
theorem dX3_isMissing_8 : decode cX3_isMissing 8 = .ok (.goto 4, 3) := by decide +kernel
theorem dX3_isMissing_11 : decode cX3_isMissing 11 = .ok (.iconst 0, 1) := by decide +kernel
theorem dX3_isMissing_12 : decode cX3_isMissing 12 = .ok (.ireturn, 1) := by decide +kernel
theorem dX3_hasRun_0 : decode cX3_hasRun 0 = .ok (.iload_n 1, 1) := by decide +kernel
theorem dX3_hasRun_1 : decode cX3_hasRun 1 = .ok (.ifCond .lt 29, 3) := by decide +kernel
theorem dX3_hasRun_4 : decode cX3_hasRun 4 = .ok (.iload_n 2, 1) := by decide +kernel
theorem dX3_hasRun_5 : decode cX3_hasRun 5 = .ok (.ifCond .lt 25, 3) := by decide +kernel
theorem dX3_hasRun_8 : decode cX3_hasRun 8 = .ok (.iload_n 1, 1) := by decide +kernel
theorem dX3_hasRun_9 : decode cX3_hasRun 9 = .ok (.aload_n 0, 1) := by decide +kernel
theorem dX3_hasRun_10 : decode cX3_hasRun 10 = .ok (.getfield 19, 3) := by decide +kernel
theorem dX3_hasRun_13 : decode cX3_hasRun 13 = .ok (.if_icmp .gt 17, 3) := by decide +kernel
theorem dX3_hasRun_16 : decode cX3_hasRun 16 = .ok (.iload_n 2, 1) := by decide +kernel
theorem dX3_hasRun_17 : decode cX3_hasRun 17 = .ok (.aload_n 0, 1) := by decide +kernel
theorem dX3_hasRun_18 : decode cX3_hasRun 18 = .ok (.getfield 19, 3) := by decide +kernel
theorem dX3_hasRun_21 : decode cX3_hasRun 21 = .ok (.iload_n 1, 1) := by decide +kernel
theorem dX3_hasRun_22 : decode cX3_hasRun 22 = .ok (.isub, 1) := by decide +kernel
theorem dX3_hasRun_23 : decode cX3_hasRun 23 = .ok (.if_icmp .gt 7, 3) := by decide +kernel
theorem dX3_hasRun_26 : decode cX3_hasRun 26 = .ok (.iconst 1, 1) := by decide +kernel
theorem dX3_hasRun_27 : decode cX3_hasRun 27 = .ok (.goto 4, 3) := by decide +kernel
theorem dX3_hasRun_30 : decode cX3_hasRun 30 = .ok (.iconst 0, 1) := by decide +kernel
theorem dX3_hasRun_31 : decode cX3_hasRun 31 = .ok (.ireturn, 1) := by decide +kernel
theorem dX3_put_0 : decode cX3_put 0 = .ok (.aload_n 0, 1) := by decide +kernel
theorem dX3_put_1 : decode cX3_put 1 = .ok (.getfield 9, 3) := by decide +kernel
theorem dX3_put_4 : decode cX3_put 4 = .ok (.iload_n 1, 1) := by decide +kernel
theorem dX3_put_5 : decode cX3_put 5 = .ok (.aload_n 0, 1) := by decide +kernel
theorem dX3_put_6 : decode cX3_put 6 = .ok (.lload_n 2, 1) := by decide +kernel
theorem dX3_put_7 : decode cX3_put 7 = .ok (.invokevirtual 28, 3) := by decide +kernel
theorem dX3_put_10 : decode cX3_put 10 = .ok (.lastore, 1) := by decide +kernel
theorem dX3_put_11 : decode cX3_put 11 = .ok (.return_, 1) := by decide +kernel
theorem dX3_cut_0 : decode cX3_cut 0 = .ok (.aload_n 0, 1) := by decide +kernel
theorem dX3_cut_1 : decode cX3_cut 1 = .ok (.getfield 15, 3) := by decide +kernel
theorem dX3_cut_4 : decode cX3_cut 4 = .ok (.lookupswitch 38 #[(8, 28), (16, 33)], 28) := by decide +kernel
theorem dX3_cut_32 : decode cX3_cut 32 = .ok (.lload_n 1, 1) := by decide +kernel
theorem dX3_cut_33 : decode cX3_cut 33 = .ok (.l2i, 1) := by decide +kernel
theorem dX3_cut_34 : decode cX3_cut 34 = .ok (.i2b, 1) := by decide +kernel
theorem dX3_cut_35 : decode cX3_cut 35 = .ok (.i2l, 1) := by decide +kernel
theorem dX3_cut_36 : decode cX3_cut 36 = .ok (.lreturn, 1) := by decide +kernel
theorem dX3_cut_37 : decode cX3_cut 37 = .ok (.lload_n 1, 1) := by decide +kernel
theorem dX3_cut_38 : decode cX3_cut 38 = .ok (.l2i, 1) := by decide +kernel
theorem dX3_cut_39 : decode cX3_cut 39 = .ok (.i2s, 1) := by decide +kernel
theorem dX3_cut_40 : decode cX3_cut 40 = .ok (.i2l, 1) := by decide +kernel
theorem dX3_cut_41 : decode cX3_cut 41 = .ok (.lreturn, 1) := by decide +kernel
theorem dX3_cut_42 : decode cX3_cut 42 = .ok (.lload_n 1, 1) := by decide +kernel
theorem dX3_cut_43 : decode cX3_cut 43 = .ok (.lreturn, 1) := by decide +kernel
theorem dJ0_length_8abf5_0 : decode cJ0_length_8abf5 0 = .ok (.aload_n 0, 1) := by decide +kernel
theorem dJ0_length_8abf5_1 : decode cJ0_length_8abf5 1 = .ok (.getfield 9, 3) := by decide +kernel
theorem dJ0_length_8abf5_4 : decode cJ0_length_8abf5 4 = .ok (.arraylength, 1) := by decide +kernel
theorem dJ0_length_8abf5_5 : decode cJ0_length_8abf5 5 = .ok (.aload_n 0, 1) := by decide +kernel
theorem dJ0_length_8abf5_6 : decode cJ0_length_8abf5 6 = .ok (.invokevirtual 335, 3) := by decide +kernel
theorem dJ0_length_8abf5_9 : decode cJ0_length_8abf5 9 = .ok (.ishr, 1) := by decide +kernel
theorem dJ0_length_8abf5_10 : decode cJ0_length_8abf5 10 = .ok (.ireturn, 1) := by decide +kernel
theorem dJ0_charAt_5068e_0 : decode cJ0_charAt_5068e 0 = .ok (.aload_n 0, 1) := by decide +kernel
theorem dJ0_charAt_5068e_1 : decode cJ0_charAt_5068e 1 = .ok (.invokevirtual 492, 3) := by decide +kernel
theorem dJ0_charAt_5068e_4 : decode cJ0_charAt_5068e 4 = .ok (.ifCond .eq 12, 3) := by decide +kernel
theorem dJ0_charAt_5068e_7 : decode cJ0_charAt_5068e 7 = .ok (.aload_n 0, 1) := by decide +kernel
theorem dJ0_charAt_5068e_8 : decode cJ0_charAt_5068e 8 = .ok (.getfield 9, 3) := by decide +kernel
theorem dJ0_charAt_5068e_11 : decode cJ0_charAt_5068e 11 = .ok (.iload_n 1, 1) := by decide +kernel
theorem dJ0_charAt_5068e_12 : decode cJ0_charAt_5068e 12 = .ok (.invokestatic 495, 3) := by decide +kernel
theorem dJ0_charAt_5068e_15 : decode cJ0_charAt_5068e 15 = .ok (.ireturn, 1) := by decide +kernel
theorem dJ0_charAt_5068e_16 : decode cJ0_charAt_5068e 16 = .ok (.aload_n 0, 1) := by decide +kernel
theorem dJ0_charAt_5068e_17 : decode cJ0_charAt_5068e 17 = .ok (.getfield 9, 3) := by decide +kernel
theorem dJ0_charAt_5068e_20 : decode cJ0_charAt_5068e 20 = .ok (.iload_n 1, 1) := by decide +kernel
theorem dJ0_charAt_5068e_21 : decode cJ0_charAt_5068e 21 = .ok (.invokestatic 498, 3) := by decide +kernel
theorem dJ0_charAt_5068e_24 : decode cJ0_charAt_5068e 24 = .ok (.ireturn, 1) := by decide +kernel
theorem dJ0_coder_7d493_0 : decode cJ0_coder_7d493 0 = .ok (.getstatic 38, 3) := by decide +kernel
theorem dJ0_coder_7d493_3 : decode cJ0_coder_7d493 3 = .ok (.ifCond .eq 10, 3) := by decide +kernel
theorem dJ0_coder_7d493_6 : decode cJ0_coder_7d493 6 = .ok (.aload_n 0, 1) := by decide +kernel
theorem dJ0_coder_7d493_7 : decode cJ0_coder_7d493 7 = .ok (.getfield 15, 3) := by decide +kernel
theorem dJ0_coder_7d493_10 : decode cJ0_coder_7d493 10 = .ok (.goto 4, 3) := by decide +kernel
theorem dJ0_coder_7d493_13 : decode cJ0_coder_7d493 13 = .ok (.iconst 1, 1) := by decide +kernel
theorem dJ0_coder_7d493_14 : decode cJ0_coder_7d493 14 = .ok (.ireturn, 1) := by decide +kernel
theorem dJ0_isLatin1_aae02_0 : decode cJ0_isLatin1_aae02 0 = .ok (.getstatic 38, 3) := by decide +kernel
theorem dJ0_isLatin1_aae02_3 : decode cJ0_isLatin1_aae02 3 = .ok (.ifCond .eq 14, 3) := by decide +kernel
theorem dJ0_isLatin1_aae02_6 : decode cJ0_isLatin1_aae02 6 = .ok (.aload_n 0, 1) := by decide +kernel
theorem dJ0_isLatin1_aae02_7 : decode cJ0_isLatin1_aae02 7 = .ok (.getfield 15, 3) := by decide +kernel
theorem dJ0_isLatin1_aae02_10 : decode cJ0_isLatin1_aae02 10 = .ok (.ifCond .ne 7, 3) := by decide +kernel
theorem dJ0_isLatin1_aae02_13 : decode cJ0_isLatin1_aae02 13 = .ok (.iconst 1, 1) := by decide +kernel
theorem dJ0_isLatin1_aae02_14 : decode cJ0_isLatin1_aae02 14 = .ok (.goto 4, 3) := by decide +kernel
theorem dJ0_isLatin1_aae02_17 : decode cJ0_isLatin1_aae02 17 = .ok (.iconst 0, 1) := by decide +kernel
theorem dJ0_isLatin1_aae02_18 : decode cJ0_isLatin1_aae02 18 = .ok (.ireturn, 1) := by decide +kernel
theorem dJ0_checkIndex_df160_0 : decode cJ0_checkIndex_df160 0 = .ok (.iload_n 0, 1) := by decide +kernel
theorem dJ0_checkIndex_df160_1 : decode cJ0_checkIndex_df160 1 = .ok (.iload_n 1, 1) := by decide +kernel
theorem dJ0_checkIndex_df160_2 : decode cJ0_checkIndex_df160 2 = .ok (.getstatic 1053, 3) := by decide +kernel
theorem dJ0_checkIndex_df160_5 : decode cJ0_checkIndex_df160 5 = .ok (.invokestatic 1059, 3) := by decide +kernel
theorem dJ0_checkIndex_df160_8 : decode cJ0_checkIndex_df160 8 = .ok (.pop, 1) := by decide +kernel
theorem dJ0_checkIndex_df160_9 : decode cJ0_checkIndex_df160 9 = .ok (.return_, 1) := by decide +kernel
theorem dJ1_charAt_3b067_0 : decode cJ1_charAt_3b067 0 = .ok (.iload_n 1, 1) := by decide +kernel
theorem dJ1_charAt_3b067_1 : decode cJ1_charAt_3b067 1 = .ok (.aload_n 0, 1) := by decide +kernel
theorem dJ1_charAt_3b067_2 : decode cJ1_charAt_3b067 2 = .ok (.arraylength, 1) := by decide +kernel
theorem dJ1_charAt_3b067_3 : decode cJ1_charAt_3b067 3 = .ok (.invokestatic 9, 3) := by decide +kernel
theorem dJ1_charAt_3b067_6 : decode cJ1_charAt_3b067 6 = .ok (.aload_n 0, 1) := by decide +kernel
theorem dJ1_charAt_3b067_7 : decode cJ1_charAt_3b067 7 = .ok (.iload_n 1, 1) := by decide +kernel
theorem dJ1_charAt_3b067_8 : decode cJ1_charAt_3b067 8 = .ok (.baload, 1) := by decide +kernel
theorem dJ1_charAt_3b067_9 : decode cJ1_charAt_3b067 9 = .ok (.sipush 255, 3) := by decide +kernel
theorem dJ1_charAt_3b067_12 : decode cJ1_charAt_3b067 12 = .ok (.iand, 1) := by decide +kernel
theorem dJ1_charAt_3b067_13 : decode cJ1_charAt_3b067 13 = .ok (.i2c, 1) := by decide +kernel
theorem dJ1_charAt_3b067_14 : decode cJ1_charAt_3b067 14 = .ok (.ireturn, 1) := by decide +kernel
theorem dJ3_checkIndex_8e157_0 : decode cJ3_checkIndex_8e157 0 = .ok (.iload_n 0, 1) := by decide +kernel
theorem dJ3_checkIndex_8e157_1 : decode cJ3_checkIndex_8e157 1 = .ok (.ifCond .lt 8, 3) := by decide +kernel
theorem dJ3_checkIndex_8e157_4 : decode cJ3_checkIndex_8e157 4 = .ok (.iload_n 0, 1) := by decide +kernel
theorem dJ3_checkIndex_8e157_5 : decode cJ3_checkIndex_8e157 5 = .ok (.iload_n 1, 1) := by decide +kernel
theorem dJ3_checkIndex_8e157_6 : decode cJ3_checkIndex_8e157 6 = .ok (.if_icmp .lt 10, 3) := by decide +kernel
theorem dJ3_checkIndex_8e157_9 : decode cJ3_checkIndex_8e157 9 = .ok (.aload_n 2, 1) := by decide +kernel
theorem dJ3_checkIndex_8e157_10 : decode cJ3_checkIndex_8e157 10 = .ok (.iload_n 0, 1) := by decide +kernel
theorem dJ3_checkIndex_8e157_11 : decode cJ3_checkIndex_8e157 11 = .ok (.iload_n 1, 1) := by decide +kernel
theorem dJ3_checkIndex_8e157_12 : decode cJ3_checkIndex_8e157 12 = .ok (.invokestatic 95, 3) := by decide +kernel
theorem dJ3_checkIndex_8e157_15 : decode cJ3_checkIndex_8e157 15 = .ok (.athrow, 1) := by decide +kernel
theorem dJ3_checkIndex_8e157_16 : decode cJ3_checkIndex_8e157 16 = .ok (.iload_n 0, 1) := by decide +kernel
theorem dJ3_checkIndex_8e157_17 : decode cJ3_checkIndex_8e157 17 = .ok (.ireturn, 1) := by decide +kernel
theorem dJ6_bitCount_0f7a4_0 : decode cJ6_bitCount_0f7a4 0 = .ok (.iload_n 0, 1) := by decide +kernel
theorem dJ6_bitCount_0f7a4_1 : decode cJ6_bitCount_0f7a4 1 = .ok (.iload_n 0, 1) := by decide +kernel
theorem dJ6_bitCount_0f7a4_2 : decode cJ6_bitCount_0f7a4 2 = .ok (.iconst 1, 1) := by decide +kernel
theorem dJ6_bitCount_0f7a4_3 : decode cJ6_bitCount_0f7a4 3 = .ok (.iushr, 1) := by decide +kernel
theorem dJ6_bitCount_0f7a4_4 : decode cJ6_bitCount_0f7a4 4 = .ok (.ldc_w 265, 3) := by decide +kernel
theorem dJ6_bitCount_0f7a4_7 : decode cJ6_bitCount_0f7a4 7 = .ok (.iand, 1) := by decide +kernel
theorem dJ6_bitCount_0f7a4_8 : decode cJ6_bitCount_0f7a4 8 = .ok (.isub, 1) := by decide +kernel
theorem dJ6_bitCount_0f7a4_9 : decode cJ6_bitCount_0f7a4 9 = .ok (.istore_n 0, 1) := by decide +kernel
theorem dJ6_bitCount_0f7a4_10 : decode cJ6_bitCount_0f7a4 10 = .ok (.iload_n 0, 1) := by decide +kernel
theorem dJ6_bitCount_0f7a4_11 : decode cJ6_bitCount_0f7a4 11 = .ok (.ldc_w 266, 3) := by decide +kernel
theorem dJ6_bitCount_0f7a4_14 : decode cJ6_bitCount_0f7a4 14 = .ok (.iand, 1) := by decide +kernel
theorem dJ6_bitCount_0f7a4_15 : decode cJ6_bitCount_0f7a4 15 = .ok (.iload_n 0, 1) := by decide +kernel
theorem dJ6_bitCount_0f7a4_16 : decode cJ6_bitCount_0f7a4 16 = .ok (.iconst 2, 1) := by decide +kernel
theorem dJ6_bitCount_0f7a4_17 : decode cJ6_bitCount_0f7a4 17 = .ok (.iushr, 1) := by decide +kernel
theorem dJ6_bitCount_0f7a4_18 : decode cJ6_bitCount_0f7a4 18 = .ok (.ldc_w 266, 3) := by decide +kernel
theorem dJ6_bitCount_0f7a4_21 : decode cJ6_bitCount_0f7a4 21 = .ok (.iand, 1) := by decide +kernel
theorem dJ6_bitCount_0f7a4_22 : decode cJ6_bitCount_0f7a4 22 = .ok (.iadd, 1) := by decide +kernel
theorem dJ6_bitCount_0f7a4_23 : decode cJ6_bitCount_0f7a4 23 = .ok (.istore_n 0, 1) := by decide +kernel
theorem dJ6_bitCount_0f7a4_24 : decode cJ6_bitCount_0f7a4 24 = .ok (.iload_n 0, 1) := by decide +kernel
theorem dJ6_bitCount_0f7a4_25 : decode cJ6_bitCount_0f7a4 25 = .ok (.iload_n 0, 1) := by decide +kernel
theorem dJ6_bitCount_0f7a4_26 : decode cJ6_bitCount_0f7a4 26 = .ok (.iconst 4, 1) := by decide +kernel
theorem dJ6_bitCount_0f7a4_27 : decode cJ6_bitCount_0f7a4 27 = .ok (.iushr, 1) := by decide +kernel
theorem dJ6_bitCount_0f7a4_28 : decode cJ6_bitCount_0f7a4 28 = .ok (.iadd, 1) := by decide +kernel
theorem dJ6_bitCount_0f7a4_29 : decode cJ6_bitCount_0f7a4 29 = .ok (.ldc_w 267, 3) := by decide +kernel
theorem dJ6_bitCount_0f7a4_32 : decode cJ6_bitCount_0f7a4 32 = .ok (.iand, 1) := by decide +kernel
theorem dJ6_bitCount_0f7a4_33 : decode cJ6_bitCount_0f7a4 33 = .ok (.istore_n 0, 1) := by decide +kernel
theorem dJ6_bitCount_0f7a4_34 : decode cJ6_bitCount_0f7a4 34 = .ok (.iload_n 0, 1) := by decide +kernel
theorem dJ6_bitCount_0f7a4_35 : decode cJ6_bitCount_0f7a4 35 = .ok (.iload_n 0, 1) := by decide +kernel
theorem dJ6_bitCount_0f7a4_36 : decode cJ6_bitCount_0f7a4 36 = .ok (.bipush 8, 2) := by decide +kernel
theorem dJ6_bitCount_0f7a4_38 : decode cJ6_bitCount_0f7a4 38 = .ok (.iushr, 1) := by decide +kernel
theorem dJ6_bitCount_0f7a4_39 : decode cJ6_bitCount_0f7a4 39 = .ok (.iadd, 1) := by decide +kernel
theorem dJ6_bitCount_0f7a4_40 : decode cJ6_bitCount_0f7a4 40 = .ok (.istore_n 0, 1) := by decide +kernel
theorem dJ6_bitCount_0f7a4_41 : decode cJ6_bitCount_0f7a4 41 = .ok (.iload_n 0, 1) := by decide +kernel
theorem dJ6_bitCount_0f7a4_42 : decode cJ6_bitCount_0f7a4 42 = .ok (.iload_n 0, 1) := by decide +kernel
theorem dJ6_bitCount_0f7a4_43 : decode cJ6_bitCount_0f7a4 43 = .ok (.bipush 16, 2) := by decide +kernel
theorem dJ6_bitCount_0f7a4_45 : decode cJ6_bitCount_0f7a4 45 = .ok (.iushr, 1) := by decide +kernel
theorem dJ6_bitCount_0f7a4_46 : decode cJ6_bitCount_0f7a4 46 = .ok (.iadd, 1) := by decide +kernel
theorem dJ6_bitCount_0f7a4_47 : decode cJ6_bitCount_0f7a4 47 = .ok (.istore_n 0, 1) := by decide +kernel
theorem dJ6_bitCount_0f7a4_48 : decode cJ6_bitCount_0f7a4 48 = .ok (.iload_n 0, 1) := by decide +kernel
theorem dJ6_bitCount_0f7a4_49 : decode cJ6_bitCount_0f7a4 49 = .ok (.bipush 63, 2) := by decide +kernel
theorem dJ6_bitCount_0f7a4_51 : decode cJ6_bitCount_0f7a4 51 = .ok (.iand, 1) := by decide +kernel
theorem dJ6_bitCount_0f7a4_52 : decode cJ6_bitCount_0f7a4 52 = .ok (.ireturn, 1) := by decide +kernel
theorem dJ7_fill_d0a16_0 : decode cJ7_fill_d0a16 0 = .ok (.iconst 0, 1) := by decide +kernel
theorem dJ7_fill_d0a16_1 : decode cJ7_fill_d0a16 1 = .ok (.istore_n 3, 1) := by decide +kernel
theorem dJ7_fill_d0a16_2 : decode cJ7_fill_d0a16 2 = .ok (.aload_n 0, 1) := by decide +kernel
theorem dJ7_fill_d0a16_3 : decode cJ7_fill_d0a16 3 = .ok (.arraylength, 1) := by decide +kernel
theorem dJ7_fill_d0a16_4 : decode cJ7_fill_d0a16 4 = .ok (.istore 4, 2) := by decide +kernel
theorem dJ7_fill_d0a16_6 : decode cJ7_fill_d0a16 6 = .ok (.iload_n 3, 1) := by decide +kernel
theorem dJ7_fill_d0a16_7 : decode cJ7_fill_d0a16 7 = .ok (.iload 4, 2) := by decide +kernel
theorem dJ7_fill_d0a16_9 : decode cJ7_fill_d0a16 9 = .ok (.if_icmp .ge 13, 3) := by decide +kernel
theorem dJ7_fill_d0a16_12 : decode cJ7_fill_d0a16 12 = .ok (.aload_n 0, 1) := by decide +kernel
theorem dJ7_fill_d0a16_13 : decode cJ7_fill_d0a16 13 = .ok (.iload_n 3, 1) := by decide +kernel
theorem dJ7_fill_d0a16_14 : decode cJ7_fill_d0a16 14 = .ok (.lload_n 1, 1) := by decide +kernel
theorem dJ7_fill_d0a16_15 : decode cJ7_fill_d0a16 15 = .ok (.lastore, 1) := by decide +kernel
theorem dJ7_fill_d0a16_16 : decode cJ7_fill_d0a16 16 = .ok (.iinc 3 1, 3) := by decide +kernel
theorem dJ7_fill_d0a16_19 : decode cJ7_fill_d0a16 19 = .ok (.goto (-13), 3) := by decide +kernel
theorem dJ7_fill_d0a16_22 : decode cJ7_fill_d0a16 22 = .ok (.return_, 1) := by decide +kernel
theorem dJ7_fill_53178_0 : decode cJ7_fill_53178 0 = .ok (.iconst 0, 1) := by decide +kernel
theorem dJ7_fill_53178_1 : decode cJ7_fill_53178 1 = .ok (.istore_n 2, 1) := by decide +kernel
theorem dJ7_fill_53178_2 : decode cJ7_fill_53178 2 = .ok (.aload_n 0, 1) := by decide +kernel
theorem dJ7_fill_53178_3 : decode cJ7_fill_53178 3 = .ok (.arraylength, 1) := by decide +kernel
theorem dJ7_fill_53178_4 : decode cJ7_fill_53178 4 = .ok (.istore_n 3, 1) := by decide +kernel
theorem dJ7_fill_53178_5 : decode cJ7_fill_53178 5 = .ok (.iload_n 2, 1) := by decide +kernel
theorem dJ7_fill_53178_6 : decode cJ7_fill_53178 6 = .ok (.iload_n 3, 1) := by decide +kernel
theorem dJ7_fill_53178_7 : decode cJ7_fill_53178 7 = .ok (.if_icmp .ge 13, 3) := by decide +kernel
theorem dJ7_fill_53178_10 : decode cJ7_fill_53178 10 = .ok (.aload_n 0, 1) := by decide +kernel
theorem dJ7_fill_53178_11 : decode cJ7_fill_53178 11 = .ok (.iload_n 2, 1) := by decide +kernel
theorem dJ7_fill_53178_12 : decode cJ7_fill_53178 12 = .ok (.iload_n 1, 1) := by decide +kernel
theorem dJ7_fill_53178_13 : decode cJ7_fill_53178 13 = .ok (.iastore, 1) := by decide +kernel
theorem dJ7_fill_53178_14 : decode cJ7_fill_53178 14 = .ok (.iinc 2 1, 3) := by decide +kernel
theorem dJ7_fill_53178_17 : decode cJ7_fill_53178 17 = .ok (.goto (-12), 3) := by decide +kernel
theorem dJ7_fill_53178_20 : decode cJ7_fill_53178 20 = .ok (.return_, 1) := by decide +kernel
end
section
theorem dX4_init_0 : decode cX4_init 0 = .ok (.aload_n 0, 1) := by decide +kernel
theorem dX4_init_1 : decode cX4_init 1 = .ok (.invokespecial 3, 3) := by decide +kernel
theorem dX4_init_4 : decode cX4_init 4 = .ok (.aload_n 0, 1) := by decide +kernel
theorem dX4_init_5 : decode cX4_init 5 = .ok (.bipush 120, 2) := by decide +kernel
theorem dX4_init_7 : decode cX4_init 7 = .ok (.newarray .int, 2) := by decide +kernel
theorem dX4_init_9 : decode cX4_init 9 = .ok (.putfield 11, 3) := by decide +kernel
theorem dX4_init_12 : decode cX4_init 12 = .ok (.return_, 1) := by decide +kernel
theorem dX4_add_0 : decode cX4_add 0 = .ok (.aload_n 0, 1) := by decide +kernel
theorem dX4_add_1 : decode cX4_add 1 = .ok (.getfield 11, 3) := by decide +kernel
theorem dX4_add_4 : decode cX4_add 4 = .ok (.aload_n 0, 1) := by decide +kernel
theorem dX4_add_5 : decode cX4_add 5 = .ok (.getfield 15, 3) := by decide +kernel
theorem dX4_add_8 : decode cX4_add 8 = .ok (.iload_n 1, 1) := by decide +kernel
theorem dX4_add_9 : decode cX4_add 9 = .ok (.iastore, 1) := by decide +kernel
theorem dX4_add_10 : decode cX4_add 10 = .ok (.aload_n 0, 1) := by decide +kernel
theorem dX4_add_11 : decode cX4_add 11 = .ok (.dup, 1) := by decide +kernel
theorem dX4_add_12 : decode cX4_add 12 = .ok (.getfield 15, 3) := by decide +kernel
theorem dX4_add_15 : decode cX4_add 15 = .ok (.iconst 1, 1) := by decide +kernel
theorem dX4_add_16 : decode cX4_add 16 = .ok (.iadd, 1) := by decide +kernel
theorem dX4_add_17 : decode cX4_add 17 = .ok (.putfield 15, 3) := by decide +kernel
theorem dX4_add_20 : decode cX4_add 20 = .ok (.return_, 1) := by decide +kernel
theorem dX4_parse_0 : decode cX4_parse 0 = .ok (.aload_n 0, 1) := by decide +kernel
theorem dX4_parse_1 : decode cX4_parse 1 = .ok (.iconst 0, 1) := by decide +kernel
theorem dX4_parse_2 : decode cX4_parse 2 = .ok (.putfield 19, 3) := by decide +kernel
theorem dX4_parse_5 : decode cX4_parse 5 = .ok (.aload_n 0, 1) := by decide +kernel
theorem dX4_parse_6 : decode cX4_parse 6 = .ok (.invokevirtual 22, 3) := by decide +kernel
theorem dX4_parse_9 : decode cX4_parse 9 = .ok (.iconst 1, 1) := by decide +kernel
theorem dX4_parse_10 : decode cX4_parse 10 = .ok (.istore_n 2, 1) := by decide +kernel
theorem dX4_parse_11 : decode cX4_parse 11 = .ok (.iload_n 2, 1) := by decide +kernel
theorem dX4_parse_12 : decode cX4_parse 12 = .ok (.bipush 120, 2) := by decide +kernel
theorem dX4_parse_14 : decode cX4_parse 14 = .ok (.if_icmp .gt 52, 3) := by decide +kernel
theorem dX4_parse_17 : decode cX4_parse 17 = .ok (.aload_n 0, 1) := by decide +kernel
theorem dX4_parse_18 : decode cX4_parse 18 = .ok (.aload_n 1, 1) := by decide +kernel
theorem dX4_parse_19 : decode cX4_parse 19 = .ok (.invokevirtual 25, 3) := by decide +kernel
theorem dX4_parse_22 : decode cX4_parse 22 = .ok (.ifCond .ne 10, 3) := by decide +kernel
theorem dX4_parse_25 : decode cX4_parse 25 = .ok (.iconst (-1), 1) := by decide +kernel
theorem dX4_parse_26 : decode cX4_parse 26 = .ok (.aload_n 0, 1) := by decide +kernel
theorem dX4_parse_27 : decode cX4_parse 27 = .ok (.getfield 29, 3) := by decide +kernel
theorem dX4_parse_30 : decode cX4_parse 30 = .ok (.isub, 1) := by decide +kernel
theorem dX4_parse_31 : decode cX4_parse 31 = .ok (.ireturn, 1) := by decide +kernel
theorem dX4_parse_32 : decode cX4_parse 32 = .ok (.aload_n 0, 1) := by decide +kernel
theorem dX4_parse_33 : decode cX4_parse 33 = .ok (.getfield 32, 3) := by decide +kernel
theorem dX4_parse_36 : decode cX4_parse 36 = .ok (.ifCond .ne 5, 3) := by decide +kernel
theorem dX4_parse_39 : decode cX4_parse 39 = .ok (.iload_n 2, 1) := by decide +kernel
theorem dX4_parse_40 : decode cX4_parse 40 = .ok (.ireturn, 1) := by decide +kernel
theorem dX4_parse_41 : decode cX4_parse 41 = .ok (.aload_n 0, 1) := by decide +kernel
theorem dX4_parse_42 : decode cX4_parse 42 = .ok (.getfield 32, 3) := by decide +kernel
theorem dX4_parse_45 : decode cX4_parse 45 = .ok (.iconst 3, 1) := by decide +kernel
theorem dX4_parse_46 : decode cX4_parse 46 = .ok (.if_icmp .eq 10, 3) := by decide +kernel
theorem dX4_parse_49 : decode cX4_parse 49 = .ok (.iconst (-1), 1) := by decide +kernel
theorem dX4_parse_50 : decode cX4_parse 50 = .ok (.aload_n 0, 1) := by decide +kernel
theorem dX4_parse_51 : decode cX4_parse 51 = .ok (.getfield 29, 3) := by decide +kernel
theorem dX4_parse_54 : decode cX4_parse 54 = .ok (.isub, 1) := by decide +kernel
theorem dX4_parse_55 : decode cX4_parse 55 = .ok (.ireturn, 1) := by decide +kernel
theorem dX4_parse_56 : decode cX4_parse 56 = .ok (.aload_n 0, 1) := by decide +kernel
theorem dX4_parse_57 : decode cX4_parse 57 = .ok (.invokevirtual 22, 3) := by decide +kernel
theorem dX4_parse_60 : decode cX4_parse 60 = .ok (.iinc 2 1, 3) := by decide +kernel
theorem dX4_parse_63 : decode cX4_parse 63 = .ok (.goto (-52), 3) := by decide +kernel
theorem dX4_parse_66 : decode cX4_parse 66 = .ok (.iconst (-1), 1) := by decide +kernel
theorem dX4_parse_67 : decode cX4_parse 67 = .ok (.aload_n 0, 1) := by decide +kernel
theorem dX4_parse_68 : decode cX4_parse 68 = .ok (.getfield 29, 3) := by decide +kernel
theorem dX4_parse_71 : decode cX4_parse 71 = .ok (.isub, 1) := by decide +kernel
theorem dX4_parse_72 : decode cX4_parse 72 = .ok (.ireturn, 1) := by decide +kernel
theorem dX4_takeItem_0 : decode cX4_takeItem 0 = .ok (.aload_n 0, 1) := by decide +kernel
theorem dX4_takeItem_1 : decode cX4_takeItem 1 = .ok (.invokevirtual 35, 3) := by decide +kernel
theorem dX4_takeItem_4 : decode cX4_takeItem 4 = .ok (.istore_n 2, 1) := by decide +kernel
theorem dX4_takeItem_5 : decode cX4_takeItem 5 = .ok (.iload_n 2, 1) := by decide +kernel
theorem dX4_takeItem_6 : decode cX4_takeItem 6 = .ok (.ifCond .lt 10, 3) := by decide +kernel
theorem dX4_takeItem_9 : decode cX4_takeItem 9 = .ok (.aload_n 0, 1) := by decide +kernel
theorem dX4_takeItem_10 : decode cX4_takeItem 10 = .ok (.aload_n 1, 1) := by decide +kernel
theorem dX4_takeItem_11 : decode cX4_takeItem 11 = .ok (.iload_n 2, 1) := by decide +kernel
theorem dX4_takeItem_12 : decode cX4_takeItem 12 = .ok (.invokevirtual 39, 3) := by decide +kernel
theorem dX4_takeItem_15 : decode cX4_takeItem 15 = .ok (.ireturn, 1) := by decide +kernel
theorem dX4_takeItem_16 : decode cX4_takeItem 16 = .ok (.aload_n 0, 1) := by decide +kernel
theorem dX4_takeItem_17 : decode cX4_takeItem 17 = .ok (.ldc 43, 2) := by decide +kernel
theorem dX4_takeItem_19 : decode cX4_takeItem 19 = .ok (.invokevirtual 45, 3) := by decide +kernel
theorem dX4_takeItem_22 : decode cX4_takeItem 22 = .ok (.ifCond .eq 9, 3) := by decide +kernel
theorem dX4_takeItem_25 : decode cX4_takeItem 25 = .ok (.aload_n 0, 1) := by decide +kernel
theorem dX4_takeItem_26 : decode cX4_takeItem 26 = .ok (.aload_n 1, 1) := by decide +kernel
theorem dX4_takeItem_27 : decode cX4_takeItem 27 = .ok (.invokevirtual 49, 3) := by decide +kernel
theorem dX4_takeItem_30 : decode cX4_takeItem 30 = .ok (.ireturn, 1) := by decide +kernel
theorem dX4_takeItem_31 : decode cX4_takeItem 31 = .ok (.aload_n 0, 1) := by decide +kernel
theorem dX4_takeItem_32 : decode cX4_takeItem 32 = .ok (.ldc 52, 2) := by decide +kernel
theorem dX4_takeItem_34 : decode cX4_takeItem 34 = .ok (.invokevirtual 45, 3) := by decide +kernel
theorem dX4_takeItem_37 : decode cX4_takeItem 37 = .ok (.ifCond .eq 9, 3) := by decide +kernel
theorem dX4_takeItem_40 : decode cX4_takeItem 40 = .ok (.aload_n 0, 1) := by decide +kernel
theorem dX4_takeItem_41 : decode cX4_takeItem 41 = .ok (.aload_n 1, 1) := by decide +kernel
theorem dX4_takeItem_42 : decode cX4_takeItem 42 = .ok (.invokevirtual 54, 3) := by decide +kernel
theorem dX4_takeItem_45 : decode cX4_takeItem 45 = .ok (.ireturn, 1) := by decide +kernel
theorem dX4_takeItem_46 : decode cX4_takeItem 46 = .ok (.aload_n 0, 1) := by decide +kernel
theorem dX4_takeItem_47 : decode cX4_takeItem 47 = .ok (.ldc 57, 2) := by decide +kernel
theorem dX4_takeItem_49 : decode cX4_takeItem 49 = .ok (.invokevirtual 45, 3) := by decide +kernel
theorem dX4_takeItem_52 : decode cX4_takeItem 52 = .ok (.ifCond .eq 15, 3) := by decide +kernel
theorem dX4_takeItem_55 : decode cX4_takeItem 55 = .ok (.aload_n 0, 1) := by decide +kernel
theorem dX4_takeItem_56 : decode cX4_takeItem 56 = .ok (.aload_n 1, 1) := by decide +kernel
theorem dX4_takeItem_57 : decode cX4_takeItem 57 = .ok (.invokevirtual 59, 3) := by decide +kernel
theorem dX4_takeItem_60 : decode cX4_takeItem 60 = .ok (.ifCond .eq 7, 3) := by decide +kernel
theorem dX4_takeItem_63 : decode cX4_takeItem 63 = .ok (.iconst 1, 1) := by decide +kernel
theorem dX4_takeItem_64 : decode cX4_takeItem 64 = .ok (.goto 4, 3) := by decide +kernel
theorem dX4_takeItem_67 : decode cX4_takeItem 67 = .ok (.iconst 0, 1) := by decide +kernel
theorem dX4_takeItem_68 : decode cX4_takeItem 68 = .ok (.ireturn, 1) := by decide +kernel
theorem dX4_takeSitter_0 : decode cX4_takeSitter 0 = .ok (.aload_n 1, 1) := by decide +kernel
theorem dX4_takeSitter_1 : decode cX4_takeSitter 1 = .ok (.getfield 62, 3) := by decide +kernel
theorem dX4_takeSitter_4 : decode cX4_takeSitter 4 = .ok (.bipush 6, 2) := by decide +kernel
theorem dX4_takeSitter_6 : decode cX4_takeSitter 6 = .ok (.if_icmp .lt 5, 3) := by decide +kernel
theorem dX4_takeSitter_9 : decode cX4_takeSitter 9 = .ok (.iconst 0, 1) := by decide +kernel
theorem dX4_takeSitter_10 : decode cX4_takeSitter 10 = .ok (.ireturn, 1) := by decide +kernel
theorem dX4_takeSitter_11 : decode cX4_takeSitter 11 = .ok (.aload_n 1, 1) := by decide +kernel
theorem dX4_takeSitter_12 : decode cX4_takeSitter 12 = .ok (.iload_n 2, 1) := by decide +kernel
theorem dX4_takeSitter_13 : decode cX4_takeSitter 13 = .ok (.invokevirtual 67, 3) := by decide +kernel
theorem dX4_takeSitter_16 : decode cX4_takeSitter 16 = .ok (.istore_n 3, 1) := by decide +kernel
theorem dX4_takeSitter_17 : decode cX4_takeSitter 17 = .ok (.aload_n 0, 1) := by decide +kernel
theorem dX4_takeSitter_18 : decode cX4_takeSitter 18 = .ok (.invokevirtual 22, 3) := by decide +kernel
theorem dX4_takeSitter_21 : decode cX4_takeSitter 21 = .ok (.aload_n 0, 1) := by decide +kernel
theorem dX4_takeSitter_22 : decode cX4_takeSitter 22 = .ok (.ldc 71, 2) := by decide +kernel
theorem dX4_takeSitter_24 : decode cX4_takeSitter 24 = .ok (.invokevirtual 73, 3) := by decide +kernel
theorem dX4_takeSitter_27 : decode cX4_takeSitter 27 = .ok (.ifCond .eq 25, 3) := by decide +kernel
theorem dX4_takeSitter_30 : decode cX4_takeSitter 30 = .ok (.aload_n 0, 1) := by decide +kernel
theorem dX4_takeSitter_31 : decode cX4_takeSitter 31 = .ok (.iconst 0, 1) := by decide +kernel
theorem dX4_takeSitter_32 : decode cX4_takeSitter 32 = .ok (.bipush 30, 2) := by decide +kernel
theorem dX4_takeSitter_34 : decode cX4_takeSitter 34 = .ok (.invokevirtual 76, 3) := by decide +kernel
theorem dX4_takeSitter_37 : decode cX4_takeSitter 37 = .ok (.ifCond .ne 5, 3) := by decide +kernel
theorem dX4_takeSitter_40 : decode cX4_takeSitter 40 = .ok (.iconst 0, 1) := by decide +kernel
theorem dX4_takeSitter_41 : decode cX4_takeSitter 41 = .ok (.ireturn, 1) := by decide +kernel
theorem dX4_takeSitter_42 : decode cX4_takeSitter 42 = .ok (.aload_n 1, 1) := by decide +kernel
theorem dX4_takeSitter_43 : decode cX4_takeSitter 43 = .ok (.getfield 80, 3) := by decide +kernel
theorem dX4_takeSitter_46 : decode cX4_takeSitter 46 = .ok (.iload_n 3, 1) := by decide +kernel
theorem dX4_takeSitter_47 : decode cX4_takeSitter 47 = .ok (.aload_n 0, 1) := by decide +kernel
theorem dX4_takeSitter_48 : decode cX4_takeSitter 48 = .ok (.getfield 83, 3) := by decide +kernel
theorem dX4_takeSitter_51 : decode cX4_takeSitter 51 = .ok (.iastore, 1) := by decide +kernel
theorem dX4_takeSitter_52 : decode cX4_takeSitter 52 = .ok (.aload_n 0, 1) := by decide +kernel
theorem dX4_takeSitter_53 : decode cX4_takeSitter 53 = .ok (.ldc 86, 2) := by decide +kernel
theorem dX4_takeSitter_55 : decode cX4_takeSitter 55 = .ok (.invokevirtual 73, 3) := by decide +kernel
theorem dX4_takeSitter_58 : decode cX4_takeSitter 58 = .ok (.ifCond .eq 25, 3) := by decide +kernel
theorem dX4_takeSitter_61 : decode cX4_takeSitter 61 = .ok (.aload_n 0, 1) := by decide +kernel
theorem dX4_takeSitter_62 : decode cX4_takeSitter 62 = .ok (.iconst 0, 1) := by decide +kernel
theorem dX4_takeSitter_63 : decode cX4_takeSitter 63 = .ok (.bipush 99, 2) := by decide +kernel
theorem dX4_takeSitter_65 : decode cX4_takeSitter 65 = .ok (.invokevirtual 76, 3) := by decide +kernel
theorem dX4_takeSitter_68 : decode cX4_takeSitter 68 = .ok (.ifCond .ne 5, 3) := by decide +kernel
theorem dX4_takeSitter_71 : decode cX4_takeSitter 71 = .ok (.iconst 0, 1) := by decide +kernel
theorem dX4_takeSitter_72 : decode cX4_takeSitter 72 = .ok (.ireturn, 1) := by decide +kernel
theorem dX4_takeSitter_73 : decode cX4_takeSitter 73 = .ok (.aload_n 1, 1) := by decide +kernel
theorem dX4_takeSitter_74 : decode cX4_takeSitter 74 = .ok (.getfield 88, 3) := by decide +kernel
theorem dX4_takeSitter_77 : decode cX4_takeSitter 77 = .ok (.iload_n 3, 1) := by decide +kernel
theorem dX4_takeSitter_78 : decode cX4_takeSitter 78 = .ok (.aload_n 0, 1) := by decide +kernel
theorem dX4_takeSitter_79 : decode cX4_takeSitter 79 = .ok (.getfield 83, 3) := by decide +kernel
theorem dX4_takeSitter_82 : decode cX4_takeSitter 82 = .ok (.iastore, 1) := by decide +kernel
theorem dX4_takeSitter_83 : decode cX4_takeSitter 83 = .ok (.iconst 1, 1) := by decide +kernel
theorem dX4_takeSitter_84 : decode cX4_takeSitter 84 = .ok (.ireturn, 1) := by decide +kernel
theorem dX4_takeLikeness_0 : decode cX4_takeLikeness 0 = .ok (.aload_n 1, 1) := by decide +kernel
theorem dX4_takeLikeness_1 : decode cX4_takeLikeness 1 = .ok (.getfield 91, 3) := by decide +kernel
theorem dX4_takeLikeness_4 : decode cX4_takeLikeness 4 = .ok (.bipush 8, 2) := by decide +kernel
theorem dX4_takeLikeness_6 : decode cX4_takeLikeness 6 = .ok (.if_icmp .lt 5, 3) := by decide +kernel
theorem dX4_takeLikeness_9 : decode cX4_takeLikeness 9 = .ok (.iconst 0, 1) := by decide +kernel
theorem dX4_takeLikeness_10 : decode cX4_takeLikeness 10 = .ok (.ireturn, 1) := by decide +kernel
theorem dX4_takeLikeness_11 : decode cX4_takeLikeness 11 = .ok (.aload_n 0, 1) := by decide +kernel
theorem dX4_takeLikeness_12 : decode cX4_takeLikeness 12 = .ok (.invokevirtual 22, 3) := by decide +kernel
theorem dX4_takeLikeness_15 : decode cX4_takeLikeness 15 = .ok (.aload_n 0, 1) := by decide +kernel
theorem dX4_takeLikeness_16 : decode cX4_takeLikeness 16 = .ok (.iconst 0, 1) := by decide +kernel
theorem dX4_takeLikeness_17 : decode cX4_takeLikeness 17 = .ok (.aload_n 1, 1) := by decide +kernel
theorem dX4_takeLikeness_18 : decode cX4_takeLikeness 18 = .ok (.getfield 62, 3) := by decide +kernel
theorem dX4_takeLikeness_21 : decode cX4_takeLikeness 21 = .ok (.iconst 1, 1) := by decide +kernel
theorem dX4_takeLikeness_22 : decode cX4_takeLikeness 22 = .ok (.isub, 1) := by decide +kernel
theorem dX4_takeLikeness_23 : decode cX4_takeLikeness 23 = .ok (.invokevirtual 76, 3) := by decide +kernel
theorem dX4_takeLikeness_26 : decode cX4_takeLikeness 26 = .ok (.ifCond .ne 5, 3) := by decide +kernel
theorem dX4_takeLikeness_29 : decode cX4_takeLikeness 29 = .ok (.iconst 0, 1) := by decide +kernel
theorem dX4_takeLikeness_30 : decode cX4_takeLikeness 30 = .ok (.ireturn, 1) := by decide +kernel
theorem dX4_takeLikeness_31 : decode cX4_takeLikeness 31 = .ok (.aload_n 0, 1) := by decide +kernel
theorem dX4_takeLikeness_32 : decode cX4_takeLikeness 32 = .ok (.getfield 83, 3) := by decide +kernel
theorem dX4_takeLikeness_35 : decode cX4_takeLikeness 35 = .ok (.istore_n 2, 1) := by decide +kernel
theorem dX4_takeLikeness_36 : decode cX4_takeLikeness 36 = .ok (.aload_n 0, 1) := by decide +kernel
theorem dX4_takeLikeness_37 : decode cX4_takeLikeness 37 = .ok (.ldc 94, 2) := by decide +kernel
theorem dX4_takeLikeness_39 : decode cX4_takeLikeness 39 = .ok (.invokevirtual 73, 3) := by decide +kernel
theorem dX4_takeLikeness_42 : decode cX4_takeLikeness 42 = .ok (.ifCond .eq 13, 3) := by decide +kernel
theorem dX4_takeLikeness_45 : decode cX4_takeLikeness 45 = .ok (.aload_n 0, 1) := by decide +kernel
theorem dX4_takeLikeness_46 : decode cX4_takeLikeness 46 = .ok (.iconst 0, 1) := by decide +kernel
theorem dX4_takeLikeness_47 : decode cX4_takeLikeness 47 = .ok (.bipush 47, 2) := by decide +kernel
theorem dX4_takeLikeness_49 : decode cX4_takeLikeness 49 = .ok (.invokevirtual 76, 3) := by decide +kernel
theorem dX4_takeLikeness_52 : decode cX4_takeLikeness 52 = .ok (.ifCond .ne 5, 3) := by decide +kernel
theorem dX4_takeLikeness_55 : decode cX4_takeLikeness 55 = .ok (.iconst 0, 1) := by decide +kernel
theorem dX4_takeLikeness_56 : decode cX4_takeLikeness 56 = .ok (.ireturn, 1) := by decide +kernel
theorem dX4_takeLikeness_57 : decode cX4_takeLikeness 57 = .ok (.aload_n 1, 1) := by decide +kernel
theorem dX4_takeLikeness_58 : decode cX4_takeLikeness 58 = .ok (.iload_n 2, 1) := by decide +kernel
theorem dX4_takeLikeness_59 : decode cX4_takeLikeness 59 = .ok (.aload_n 0, 1) := by decide +kernel
theorem dX4_takeLikeness_60 : decode cX4_takeLikeness 60 = .ok (.getfield 83, 3) := by decide +kernel
theorem dX4_takeLikeness_63 : decode cX4_takeLikeness 63 = .ok (.invokevirtual 96, 3) := by decide +kernel
theorem dX4_takeLikeness_66 : decode cX4_takeLikeness 66 = .ok (.pop, 1) := by decide +kernel
theorem dX4_takeLikeness_67 : decode cX4_takeLikeness 67 = .ok (.iconst 1, 1) := by decide +kernel
theorem dX4_takeLikeness_68 : decode cX4_takeLikeness 68 = .ok (.ireturn, 1) := by decide +kernel
theorem dX4_takeWheat_0 : decode cX4_takeWheat 0 = .ok (.aload_n 0, 1) := by decide +kernel
theorem dX4_takeWheat_1 : decode cX4_takeWheat 1 = .ok (.invokevirtual 22, 3) := by decide +kernel
theorem dX4_takeWheat_4 : decode cX4_takeWheat 4 = .ok (.aload_n 0, 1) := by decide +kernel
theorem dX4_takeWheat_5 : decode cX4_takeWheat 5 = .ok (.iconst 0, 1) := by decide +kernel
theorem dX4_takeWheat_6 : decode cX4_takeWheat 6 = .ok (.bipush 47, 2) := by decide +kernel
theorem dX4_takeWheat_8 : decode cX4_takeWheat 8 = .ok (.invokevirtual 76, 3) := by decide +kernel
theorem dX4_takeWheat_11 : decode cX4_takeWheat 11 = .ok (.ifCond .ne 5, 3) := by decide +kernel
theorem dX4_takeWheat_14 : decode cX4_takeWheat 14 = .ok (.iconst 0, 1) := by decide +kernel
theorem dX4_takeWheat_15 : decode cX4_takeWheat 15 = .ok (.ireturn, 1) := by decide +kernel
theorem dX4_takeWheat_16 : decode cX4_takeWheat 16 = .ok (.aload_n 0, 1) := by decide +kernel
theorem dX4_takeWheat_17 : decode cX4_takeWheat 17 = .ok (.getfield 83, 3) := by decide +kernel
theorem dX4_takeWheat_20 : decode cX4_takeWheat 20 = .ok (.istore_n 2, 1) := by decide +kernel
theorem dX4_takeWheat_21 : decode cX4_takeWheat 21 = .ok (.aload_n 0, 1) := by decide +kernel
theorem dX4_takeWheat_22 : decode cX4_takeWheat 22 = .ok (.iconst 0, 1) := by decide +kernel
theorem dX4_takeWheat_23 : decode cX4_takeWheat 23 = .ok (.bipush 99, 2) := by decide +kernel
theorem dX4_takeWheat_25 : decode cX4_takeWheat 25 = .ok (.invokevirtual 76, 3) := by decide +kernel
theorem dX4_takeWheat_28 : decode cX4_takeWheat 28 = .ok (.ifCond .ne 5, 3) := by decide +kernel
theorem dX4_takeWheat_31 : decode cX4_takeWheat 31 = .ok (.iconst 0, 1) := by decide +kernel
theorem dX4_takeWheat_32 : decode cX4_takeWheat 32 = .ok (.ireturn, 1) := by decide +kernel
theorem dX4_takeWheat_33 : decode cX4_takeWheat 33 = .ok (.aload_n 0, 1) := by decide +kernel
theorem dX4_takeWheat_34 : decode cX4_takeWheat 34 = .ok (.getfield 83, 3) := by decide +kernel
theorem dX4_takeWheat_37 : decode cX4_takeWheat 37 = .ok (.istore_n 3, 1) := by decide +kernel
theorem dX4_takeWheat_38 : decode cX4_takeWheat 38 = .ok (.iload_n 2, 1) := by decide +kernel
theorem dX4_takeWheat_39 : decode cX4_takeWheat 39 = .ok (.istore 4, 2) := by decide +kernel
theorem dX4_takeWheat_41 : decode cX4_takeWheat 41 = .ok (.aload_n 0, 1) := by decide +kernel
theorem dX4_takeWheat_42 : decode cX4_takeWheat 42 = .ok (.ldc 100, 2) := by decide +kernel
theorem dX4_takeWheat_44 : decode cX4_takeWheat 44 = .ok (.invokevirtual 73, 3) := by decide +kernel
theorem dX4_takeWheat_47 : decode cX4_takeWheat 47 = .ok (.ifCond .eq 21, 3) := by decide +kernel
theorem dX4_takeWheat_50 : decode cX4_takeWheat 50 = .ok (.aload_n 0, 1) := by decide +kernel
theorem dX4_takeWheat_51 : decode cX4_takeWheat 51 = .ok (.iload_n 2, 1) := by decide +kernel
theorem dX4_takeWheat_52 : decode cX4_takeWheat 52 = .ok (.bipush 47, 2) := by decide +kernel
theorem dX4_takeWheat_54 : decode cX4_takeWheat 54 = .ok (.invokevirtual 76, 3) := by decide +kernel
theorem dX4_takeWheat_57 : decode cX4_takeWheat 57 = .ok (.ifCond .ne 5, 3) := by decide +kernel
theorem dX4_takeWheat_60 : decode cX4_takeWheat 60 = .ok (.iconst 0, 1) := by decide +kernel
theorem dX4_takeWheat_61 : decode cX4_takeWheat 61 = .ok (.ireturn, 1) := by decide +kernel
theorem dX4_takeWheat_62 : decode cX4_takeWheat 62 = .ok (.aload_n 0, 1) := by decide +kernel
theorem dX4_takeWheat_63 : decode cX4_takeWheat 63 = .ok (.getfield 83, 3) := by decide +kernel
theorem dX4_takeWheat_66 : decode cX4_takeWheat 66 = .ok (.istore 4, 2) := by decide +kernel
theorem dX4_takeWheat_68 : decode cX4_takeWheat 68 = .ok (.iload_n 2, 1) := by decide +kernel
theorem dX4_takeWheat_69 : decode cX4_takeWheat 69 = .ok (.istore 5, 2) := by decide +kernel
theorem dX4_takeWheat_71 : decode cX4_takeWheat 71 = .ok (.iload 5, 2) := by decide +kernel
theorem dX4_takeWheat_73 : decode cX4_takeWheat 73 = .ok (.iload 4, 2) := by decide +kernel
theorem dX4_takeWheat_75 : decode cX4_takeWheat 75 = .ok (.if_icmp .gt 17, 3) := by decide +kernel
theorem dX4_takeWheat_78 : decode cX4_takeWheat 78 = .ok (.aload_n 1, 1) := by decide +kernel
theorem dX4_takeWheat_79 : decode cX4_takeWheat 79 = .ok (.getfield 102, 3) := by decide +kernel
theorem dX4_takeWheat_82 : decode cX4_takeWheat 82 = .ok (.iload 5, 2) := by decide +kernel
theorem dX4_takeWheat_84 : decode cX4_takeWheat 84 = .ok (.iload_n 3, 1) := by decide +kernel
theorem dX4_takeWheat_85 : decode cX4_takeWheat 85 = .ok (.iastore, 1) := by decide +kernel
theorem dX4_takeWheat_86 : decode cX4_takeWheat 86 = .ok (.iinc 5 1, 3) := by decide +kernel
theorem dX4_takeWheat_89 : decode cX4_takeWheat 89 = .ok (.goto (-18), 3) := by decide +kernel
theorem dX4_takeWheat_92 : decode cX4_takeWheat 92 = .ok (.iconst 1, 1) := by decide +kernel
theorem dX4_takeWheat_93 : decode cX4_takeWheat 93 = .ok (.ireturn, 1) := by decide +kernel
theorem dX4_takeCrows_0 : decode cX4_takeCrows 0 = .ok (.aload_n 0, 1) := by decide +kernel
theorem dX4_takeCrows_1 : decode cX4_takeCrows 1 = .ok (.invokevirtual 22, 3) := by decide +kernel
theorem dX4_takeCrows_4 : decode cX4_takeCrows 4 = .ok (.aload_n 0, 1) := by decide +kernel
theorem dX4_takeCrows_5 : decode cX4_takeCrows 5 = .ok (.iconst 0, 1) := by decide +kernel
theorem dX4_takeCrows_6 : decode cX4_takeCrows 6 = .ok (.bipush 20, 2) := by decide +kernel
theorem dX4_takeCrows_8 : decode cX4_takeCrows 8 = .ok (.invokevirtual 76, 3) := by decide +kernel
theorem dX4_takeCrows_11 : decode cX4_takeCrows 11 = .ok (.ifCond .ne 5, 3) := by decide +kernel
theorem dX4_takeCrows_14 : decode cX4_takeCrows 14 = .ok (.iconst 0, 1) := by decide +kernel
theorem dX4_takeCrows_15 : decode cX4_takeCrows 15 = .ok (.ireturn, 1) := by decide +kernel
theorem dX4_takeCrows_16 : decode cX4_takeCrows 16 = .ok (.aload_n 1, 1) := by decide +kernel
theorem dX4_takeCrows_17 : decode cX4_takeCrows 17 = .ok (.aload_n 0, 1) := by decide +kernel
theorem dX4_takeCrows_18 : decode cX4_takeCrows 18 = .ok (.getfield 83, 3) := by decide +kernel
theorem dX4_takeCrows_21 : decode cX4_takeCrows 21 = .ok (.putfield 105, 3) := by decide +kernel
theorem dX4_takeCrows_24 : decode cX4_takeCrows 24 = .ok (.iconst 1, 1) := by decide +kernel
theorem dX4_takeCrows_25 : decode cX4_takeCrows 25 = .ok (.ireturn, 1) := by decide +kernel
theorem dX4_takeWord_0 : decode cX4_takeWord 0 = .ok (.aload_n 0, 1) := by decide +kernel
theorem dX4_takeWord_1 : decode cX4_takeWord 1 = .ok (.aload_n 1, 1) := by decide +kernel
theorem dX4_takeWord_2 : decode cX4_takeWord 2 = .ok (.invokevirtual 45, 3) := by decide +kernel
theorem dX4_takeWord_5 : decode cX4_takeWord 5 = .ok (.ifCond .ne 5, 3) := by decide +kernel
theorem dX4_takeWord_8 : decode cX4_takeWord 8 = .ok (.iconst 0, 1) := by decide +kernel
theorem dX4_takeWord_9 : decode cX4_takeWord 9 = .ok (.ireturn, 1) := by decide +kernel
theorem dX4_takeWord_10 : decode cX4_takeWord 10 = .ok (.aload_n 0, 1) := by decide +kernel
theorem dX4_takeWord_11 : decode cX4_takeWord 11 = .ok (.invokevirtual 22, 3) := by decide +kernel
theorem dX4_takeWord_14 : decode cX4_takeWord 14 = .ok (.iconst 1, 1) := by decide +kernel
theorem dX4_takeWord_15 : decode cX4_takeWord 15 = .ok (.ireturn, 1) := by decide +kernel
theorem dX4_takeNumber_0 : decode cX4_takeNumber 0 = .ok (.aload_n 0, 1) := by decide +kernel
theorem dX4_takeNumber_1 : decode cX4_takeNumber 1 = .ok (.getfield 32, 3) := by decide +kernel
theorem dX4_takeNumber_4 : decode cX4_takeNumber 4 = .ok (.iconst 2, 1) := by decide +kernel
theorem dX4_takeNumber_5 : decode cX4_takeNumber 5 = .ok (.if_icmp .ne 15, 3) := by decide +kernel
theorem dX4_takeNumber_8 : decode cX4_takeNumber 8 = .ok (.aload_n 0, 1) := by decide +kernel
theorem dX4_takeNumber_9 : decode cX4_takeNumber 9 = .ok (.getfield 108, 3) := by decide +kernel
theorem dX4_takeNumber_12 : decode cX4_takeNumber 12 = .ok (.iload_n 1, 1) := by decide +kernel
theorem dX4_takeNumber_13 : decode cX4_takeNumber 13 = .ok (.iload_n 2, 1) := by decide +kernel
theorem dX4_takeNumber_14 : decode cX4_takeNumber 14 = .ok (.invokestatic 111, 3) := by decide +kernel
theorem dX4_takeNumber_17 : decode cX4_takeNumber 17 = .ok (.ifCond .ne 5, 3) := by decide +kernel
theorem dX4_takeNumber_20 : decode cX4_takeNumber 20 = .ok (.iconst 0, 1) := by decide +kernel
theorem dX4_takeNumber_21 : decode cX4_takeNumber 21 = .ok (.ireturn, 1) := by decide +kernel
theorem dX4_takeNumber_22 : decode cX4_takeNumber 22 = .ok (.aload_n 0, 1) := by decide +kernel
theorem dX4_takeNumber_23 : decode cX4_takeNumber 23 = .ok (.aload_n 0, 1) := by decide +kernel
theorem dX4_takeNumber_24 : decode cX4_takeNumber 24 = .ok (.getfield 108, 3) := by decide +kernel
theorem dX4_takeNumber_27 : decode cX4_takeNumber 27 = .ok (.putfield 83, 3) := by decide +kernel
theorem dX4_takeNumber_30 : decode cX4_takeNumber 30 = .ok (.aload_n 0, 1) := by decide +kernel
theorem dX4_takeNumber_31 : decode cX4_takeNumber 31 = .ok (.invokevirtual 22, 3) := by decide +kernel
theorem dX4_takeNumber_34 : decode cX4_takeNumber 34 = .ok (.iconst 1, 1) := by decide +kernel
theorem dX4_takeNumber_35 : decode cX4_takeNumber 35 = .ok (.ireturn, 1) := by decide +kernel
theorem dX4_kindNamed_0 : decode cX4_kindNamed 0 = .ok (.iconst 0, 1) := by decide +kernel
theorem dX4_kindNamed_1 : decode cX4_kindNamed 1 = .ok (.istore_n 1, 1) := by decide +kernel
theorem dX4_kindNamed_2 : decode cX4_kindNamed 2 = .ok (.iload_n 1, 1) := by decide +kernel
theorem dX4_kindNamed_3 : decode cX4_kindNamed 3 = .ok (.bipush 6, 2) := by decide +kernel
theorem dX4_kindNamed_5 : decode cX4_kindNamed 5 = .ok (.if_icmp .ge 22, 3) := by decide +kernel
theorem dX4_kindNamed_8 : decode cX4_kindNamed 8 = .ok (.aload_n 0, 1) := by decide +kernel
theorem dX4_kindNamed_9 : decode cX4_kindNamed 9 = .ok (.iload_n 1, 1) := by decide +kernel
theorem dX4_kindNamed_10 : decode cX4_kindNamed 10 = .ok (.invokestatic 115, 3) := by decide +kernel
theorem dX4_kindNamed_13 : decode cX4_kindNamed 13 = .ok (.invokevirtual 45, 3) := by decide +kernel
theorem dX4_kindNamed_16 : decode cX4_kindNamed 16 = .ok (.ifCond .eq 5, 3) := by decide +kernel
theorem dX4_kindNamed_19 : decode cX4_kindNamed 19 = .ok (.iload_n 1, 1) := by decide +kernel
theorem dX4_kindNamed_20 : decode cX4_kindNamed 20 = .ok (.ireturn, 1) := by decide +kernel
theorem dX4_kindNamed_21 : decode cX4_kindNamed 21 = .ok (.iinc 1 1, 3) := by decide +kernel
theorem dX4_kindNamed_24 : decode cX4_kindNamed 24 = .ok (.goto (-22), 3) := by decide +kernel
theorem dX4_kindNamed_27 : decode cX4_kindNamed 27 = .ok (.iconst (-1), 1) := by decide +kernel
theorem dX4_kindNamed_28 : decode cX4_kindNamed 28 = .ok (.ireturn, 1) := by decide +kernel
theorem dX4_nameOf_0 : decode cX4_nameOf 0 = .ok (.iload_n 0, 1) := by decide +kernel
theorem dX4_nameOf_1 : decode cX4_nameOf 1 = .ok (.tableswitch 50 1 5 #[35, 38, 41, 44, 47], 35) := by decide +kernel
theorem dX4_nameOf_36 : decode cX4_nameOf 36 = .ok (.ldc 119, 2) := by decide +kernel
theorem dX4_nameOf_38 : decode cX4_nameOf 38 = .ok (.areturn, 1) := by decide +kernel
theorem dX4_nameOf_39 : decode cX4_nameOf 39 = .ok (.ldc 121, 2) := by decide +kernel
theorem dX4_nameOf_41 : decode cX4_nameOf 41 = .ok (.areturn, 1) := by decide +kernel
theorem dX4_nameOf_42 : decode cX4_nameOf 42 = .ok (.ldc 123, 2) := by decide +kernel
theorem dX4_nameOf_44 : decode cX4_nameOf 44 = .ok (.areturn, 1) := by decide +kernel
theorem dX4_nameOf_45 : decode cX4_nameOf 45 = .ok (.ldc 125, 2) := by decide +kernel
theorem dX4_nameOf_47 : decode cX4_nameOf 47 = .ok (.areturn, 1) := by decide +kernel
theorem dX4_nameOf_48 : decode cX4_nameOf 48 = .ok (.ldc 127, 2) := by decide +kernel
theorem dX4_nameOf_50 : decode cX4_nameOf 50 = .ok (.areturn, 1) := by decide +kernel
theorem dX4_nameOf_51 : decode cX4_nameOf 51 = .ok (.ldc 129, 2) := by decide +kernel
theorem dX4_nameOf_53 : decode cX4_nameOf 53 = .ok (.areturn, 1) := by decide +kernel
theorem dX4_isWord_0 : decode cX4_isWord 0 = .ok (.aload_n 0, 1) := by decide +kernel
theorem dX4_isWord_1 : decode cX4_isWord 1 = .ok (.getfield 32, 3) := by decide +kernel
theorem dX4_isWord_4 : decode cX4_isWord 4 = .ok (.iconst 1, 1) := by decide +kernel
theorem dX4_isWord_5 : decode cX4_isWord 5 = .ok (.if_icmp .ne 19, 3) := by decide +kernel
theorem dX4_isWord_8 : decode cX4_isWord 8 = .ok (.aload_n 0, 1) := by decide +kernel
theorem dX4_isWord_9 : decode cX4_isWord 9 = .ok (.getfield 19, 3) := by decide +kernel
theorem dX4_isWord_12 : decode cX4_isWord 12 = .ok (.aload_n 0, 1) := by decide +kernel
theorem dX4_isWord_13 : decode cX4_isWord 13 = .ok (.getfield 29, 3) := by decide +kernel
theorem dX4_isWord_16 : decode cX4_isWord 16 = .ok (.isub, 1) := by decide +kernel
theorem dX4_isWord_17 : decode cX4_isWord 17 = .ok (.aload_n 1, 1) := by decide +kernel
theorem dX4_isWord_18 : decode cX4_isWord 18 = .ok (.invokevirtual 131, 3) := by decide +kernel
theorem dX4_isWord_21 : decode cX4_isWord 21 = .ok (.if_icmp .eq 5, 3) := by decide +kernel
theorem dX4_isWord_24 : decode cX4_isWord 24 = .ok (.iconst 0, 1) := by decide +kernel
theorem dX4_isWord_25 : decode cX4_isWord 25 = .ok (.ireturn, 1) := by decide +kernel
theorem dX4_isWord_26 : decode cX4_isWord 26 = .ok (.iconst 0, 1) := by decide +kernel
theorem dX4_isWord_27 : decode cX4_isWord 27 = .ok (.istore_n 2, 1) := by decide +kernel
theorem dX4_isWord_28 : decode cX4_isWord 28 = .ok (.iload_n 2, 1) := by decide +kernel
theorem dX4_isWord_29 : decode cX4_isWord 29 = .ok (.aload_n 1, 1) := by decide +kernel
theorem dX4_isWord_30 : decode cX4_isWord 30 = .ok (.invokevirtual 131, 3) := by decide +kernel
theorem dX4_isWord_33 : decode cX4_isWord 33 = .ok (.if_icmp .ge 30, 3) := by decide +kernel
theorem dX4_isWord_36 : decode cX4_isWord 36 = .ok (.aload_n 0, 1) := by decide +kernel
theorem dX4_isWord_37 : decode cX4_isWord 37 = .ok (.getfield 11, 3) := by decide +kernel
theorem dX4_isWord_40 : decode cX4_isWord 40 = .ok (.aload_n 0, 1) := by decide +kernel
theorem dX4_isWord_41 : decode cX4_isWord 41 = .ok (.getfield 29, 3) := by decide +kernel
theorem dX4_isWord_44 : decode cX4_isWord 44 = .ok (.iload_n 2, 1) := by decide +kernel
theorem dX4_isWord_45 : decode cX4_isWord 45 = .ok (.iadd, 1) := by decide +kernel
theorem dX4_isWord_46 : decode cX4_isWord 46 = .ok (.iaload, 1) := by decide +kernel
theorem dX4_isWord_47 : decode cX4_isWord 47 = .ok (.aload_n 1, 1) := by decide +kernel
theorem dX4_isWord_48 : decode cX4_isWord 48 = .ok (.iload_n 2, 1) := by decide +kernel
theorem dX4_isWord_49 : decode cX4_isWord 49 = .ok (.invokevirtual 135, 3) := by decide +kernel
theorem dX4_isWord_52 : decode cX4_isWord 52 = .ok (.if_icmp .eq 5, 3) := by decide +kernel
theorem dX4_isWord_55 : decode cX4_isWord 55 = .ok (.iconst 0, 1) := by decide +kernel
theorem dX4_isWord_56 : decode cX4_isWord 56 = .ok (.ireturn, 1) := by decide +kernel
theorem dX4_isWord_57 : decode cX4_isWord 57 = .ok (.iinc 2 1, 3) := by decide +kernel
theorem dX4_isWord_60 : decode cX4_isWord 60 = .ok (.goto (-32), 3) := by decide +kernel
theorem dX4_isWord_63 : decode cX4_isWord 63 = .ok (.iconst 1, 1) := by decide +kernel
theorem dX4_isWord_64 : decode cX4_isWord 64 = .ok (.ireturn, 1) := by decide +kernel
theorem dX4_advance_0 : decode cX4_advance 0 = .ok (.aload_n 0, 1) := by decide +kernel
theorem dX4_advance_1 : decode cX4_advance 1 = .ok (.getfield 19, 3) := by decide +kernel
theorem dX4_advance_4 : decode cX4_advance 4 = .ok (.aload_n 0, 1) := by decide +kernel
theorem dX4_advance_5 : decode cX4_advance 5 = .ok (.getfield 15, 3) := by decide +kernel
theorem dX4_advance_8 : decode cX4_advance 8 = .ok (.if_icmp .ge 30, 3) := by decide +kernel
theorem dX4_advance_11 : decode cX4_advance 11 = .ok (.aload_n 0, 1) := by decide +kernel
theorem dX4_advance_12 : decode cX4_advance 12 = .ok (.getfield 11, 3) := by decide +kernel
theorem dX4_advance_15 : decode cX4_advance 15 = .ok (.aload_n 0, 1) := by decide +kernel
theorem dX4_advance_16 : decode cX4_advance 16 = .ok (.getfield 19, 3) := by decide +kernel
theorem dX4_advance_19 : decode cX4_advance 19 = .ok (.iaload, 1) := by decide +kernel
theorem dX4_advance_20 : decode cX4_advance 20 = .ok (.bipush 32, 2) := by decide +kernel
theorem dX4_advance_22 : decode cX4_advance 22 = .ok (.if_icmp .ne 16, 3) := by decide +kernel
theorem dX4_advance_25 : decode cX4_advance 25 = .ok (.aload_n 0, 1) := by decide +kernel
theorem dX4_advance_26 : decode cX4_advance 26 = .ok (.dup, 1) := by decide +kernel
theorem dX4_advance_27 : decode cX4_advance 27 = .ok (.getfield 19, 3) := by decide +kernel
theorem dX4_advance_30 : decode cX4_advance 30 = .ok (.iconst 1, 1) := by decide +kernel
theorem dX4_advance_31 : decode cX4_advance 31 = .ok (.iadd, 1) := by decide +kernel
theorem dX4_advance_32 : decode cX4_advance 32 = .ok (.putfield 19, 3) := by decide +kernel
theorem dX4_advance_35 : decode cX4_advance 35 = .ok (.goto (-35), 3) := by decide +kernel
theorem dX4_advance_38 : decode cX4_advance 38 = .ok (.aload_n 0, 1) := by decide +kernel
theorem dX4_advance_39 : decode cX4_advance 39 = .ok (.aload_n 0, 1) := by decide +kernel
theorem dX4_advance_40 : decode cX4_advance 40 = .ok (.getfield 19, 3) := by decide +kernel
theorem dX4_advance_43 : decode cX4_advance 43 = .ok (.putfield 29, 3) := by decide +kernel
theorem dX4_advance_46 : decode cX4_advance 46 = .ok (.aload_n 0, 1) := by decide +kernel
theorem dX4_advance_47 : decode cX4_advance 47 = .ok (.getfield 19, 3) := by decide +kernel
theorem dX4_advance_50 : decode cX4_advance 50 = .ok (.aload_n 0, 1) := by decide +kernel
theorem dX4_advance_51 : decode cX4_advance 51 = .ok (.getfield 15, 3) := by decide +kernel
theorem dX4_advance_54 : decode cX4_advance 54 = .ok (.if_icmp .lt 11, 3) := by decide +kernel
theorem dX4_advance_57 : decode cX4_advance 57 = .ok (.aload_n 0, 1) := by decide +kernel
theorem dX4_advance_58 : decode cX4_advance 58 = .ok (.iconst 0, 1) := by decide +kernel
theorem dX4_advance_59 : decode cX4_advance 59 = .ok (.putfield 32, 3) := by decide +kernel
theorem dX4_advance_62 : decode cX4_advance 62 = .ok (.goto 90, 3) := by decide +kernel
theorem dX4_advance_65 : decode cX4_advance 65 = .ok (.aload_n 0, 1) := by decide +kernel
theorem dX4_advance_66 : decode cX4_advance 66 = .ok (.getfield 11, 3) := by decide +kernel
theorem dX4_advance_69 : decode cX4_advance 69 = .ok (.aload_n 0, 1) := by decide +kernel
theorem dX4_advance_70 : decode cX4_advance 70 = .ok (.getfield 19, 3) := by decide +kernel
theorem dX4_advance_73 : decode cX4_advance 73 = .ok (.iaload, 1) := by decide +kernel
theorem dX4_advance_74 : decode cX4_advance 74 = .ok (.invokestatic 139, 3) := by decide +kernel
theorem dX4_advance_77 : decode cX4_advance 77 = .ok (.ifCond .eq 15, 3) := by decide +kernel
theorem dX4_advance_80 : decode cX4_advance 80 = .ok (.aload_n 0, 1) := by decide +kernel
theorem dX4_advance_81 : decode cX4_advance 81 = .ok (.iconst 1, 1) := by decide +kernel
theorem dX4_advance_82 : decode cX4_advance 82 = .ok (.putfield 32, 3) := by decide +kernel
theorem dX4_advance_85 : decode cX4_advance 85 = .ok (.aload_n 0, 1) := by decide +kernel
theorem dX4_advance_86 : decode cX4_advance 86 = .ok (.invokevirtual 143, 3) := by decide +kernel
theorem dX4_advance_89 : decode cX4_advance 89 = .ok (.goto 63, 3) := by decide +kernel
theorem dX4_advance_92 : decode cX4_advance 92 = .ok (.aload_n 0, 1) := by decide +kernel
theorem dX4_advance_93 : decode cX4_advance 93 = .ok (.getfield 11, 3) := by decide +kernel
theorem dX4_advance_96 : decode cX4_advance 96 = .ok (.aload_n 0, 1) := by decide +kernel
theorem dX4_advance_97 : decode cX4_advance 97 = .ok (.getfield 19, 3) := by decide +kernel
theorem dX4_advance_100 : decode cX4_advance 100 = .ok (.iaload, 1) := by decide +kernel
theorem dX4_advance_101 : decode cX4_advance 101 = .ok (.invokestatic 146, 3) := by decide +kernel
theorem dX4_advance_104 : decode cX4_advance 104 = .ok (.ifCond .eq 15, 3) := by decide +kernel
theorem dX4_advance_107 : decode cX4_advance 107 = .ok (.aload_n 0, 1) := by decide +kernel
theorem dX4_advance_108 : decode cX4_advance 108 = .ok (.iconst 2, 1) := by decide +kernel
theorem dX4_advance_109 : decode cX4_advance 109 = .ok (.putfield 32, 3) := by decide +kernel
theorem dX4_advance_112 : decode cX4_advance 112 = .ok (.aload_n 0, 1) := by decide +kernel
theorem dX4_advance_113 : decode cX4_advance 113 = .ok (.invokevirtual 149, 3) := by decide +kernel
theorem dX4_advance_116 : decode cX4_advance 116 = .ok (.goto 36, 3) := by decide +kernel
theorem dX4_advance_119 : decode cX4_advance 119 = .ok (.aload_n 0, 1) := by decide +kernel
theorem dX4_advance_120 : decode cX4_advance 120 = .ok (.aload_n 0, 1) := by decide +kernel
theorem dX4_advance_121 : decode cX4_advance 121 = .ok (.getfield 11, 3) := by decide +kernel
theorem dX4_advance_124 : decode cX4_advance 124 = .ok (.aload_n 0, 1) := by decide +kernel
theorem dX4_advance_125 : decode cX4_advance 125 = .ok (.getfield 19, 3) := by decide +kernel
theorem dX4_advance_128 : decode cX4_advance 128 = .ok (.iaload, 1) := by decide +kernel
theorem dX4_advance_129 : decode cX4_advance 129 = .ok (.bipush 59, 2) := by decide +kernel
theorem dX4_advance_131 : decode cX4_advance 131 = .ok (.if_icmp .ne 7, 3) := by decide +kernel
theorem dX4_advance_134 : decode cX4_advance 134 = .ok (.iconst 3, 1) := by decide +kernel
theorem dX4_advance_135 : decode cX4_advance 135 = .ok (.goto 4, 3) := by decide +kernel
theorem dX4_advance_138 : decode cX4_advance 138 = .ok (.iconst 4, 1) := by decide +kernel
theorem dX4_advance_139 : decode cX4_advance 139 = .ok (.putfield 32, 3) := by decide +kernel
theorem dX4_advance_142 : decode cX4_advance 142 = .ok (.aload_n 0, 1) := by decide +kernel
theorem dX4_advance_143 : decode cX4_advance 143 = .ok (.dup, 1) := by decide +kernel
theorem dX4_advance_144 : decode cX4_advance 144 = .ok (.getfield 19, 3) := by decide +kernel
theorem dX4_advance_147 : decode cX4_advance 147 = .ok (.iconst 1, 1) := by decide +kernel
theorem dX4_advance_148 : decode cX4_advance 148 = .ok (.iadd, 1) := by decide +kernel
theorem dX4_advance_149 : decode cX4_advance 149 = .ok (.putfield 19, 3) := by decide +kernel
theorem dX4_advance_152 : decode cX4_advance 152 = .ok (.return_, 1) := by decide +kernel
theorem dX4_passLetters_0 : decode cX4_passLetters 0 = .ok (.aload_n 0, 1) := by decide +kernel
theorem dX4_passLetters_1 : decode cX4_passLetters 1 = .ok (.getfield 19, 3) := by decide +kernel
theorem dX4_passLetters_4 : decode cX4_passLetters 4 = .ok (.aload_n 0, 1) := by decide +kernel
theorem dX4_passLetters_5 : decode cX4_passLetters 5 = .ok (.getfield 15, 3) := by decide +kernel
theorem dX4_passLetters_8 : decode cX4_passLetters 8 = .ok (.if_icmp .ge 31, 3) := by decide +kernel
theorem dX4_passLetters_11 : decode cX4_passLetters 11 = .ok (.aload_n 0, 1) := by decide +kernel
theorem dX4_passLetters_12 : decode cX4_passLetters 12 = .ok (.getfield 11, 3) := by decide +kernel
theorem dX4_passLetters_15 : decode cX4_passLetters 15 = .ok (.aload_n 0, 1) := by decide +kernel
theorem dX4_passLetters_16 : decode cX4_passLetters 16 = .ok (.getfield 19, 3) := by decide +kernel
theorem dX4_passLetters_19 : decode cX4_passLetters 19 = .ok (.iaload, 1) := by decide +kernel
theorem dX4_passLetters_20 : decode cX4_passLetters 20 = .ok (.invokestatic 139, 3) := by decide +kernel
theorem dX4_passLetters_23 : decode cX4_passLetters 23 = .ok (.ifCond .eq 16, 3) := by decide +kernel
theorem dX4_passLetters_26 : decode cX4_passLetters 26 = .ok (.aload_n 0, 1) := by decide +kernel
theorem dX4_passLetters_27 : decode cX4_passLetters 27 = .ok (.dup, 1) := by decide +kernel
theorem dX4_passLetters_28 : decode cX4_passLetters 28 = .ok (.getfield 19, 3) := by decide +kernel
theorem dX4_passLetters_31 : decode cX4_passLetters 31 = .ok (.iconst 1, 1) := by decide +kernel
theorem dX4_passLetters_32 : decode cX4_passLetters 32 = .ok (.iadd, 1) := by decide +kernel
theorem dX4_passLetters_33 : decode cX4_passLetters 33 = .ok (.putfield 19, 3) := by decide +kernel
theorem dX4_passLetters_36 : decode cX4_passLetters 36 = .ok (.goto (-36), 3) := by decide +kernel
theorem dX4_passLetters_39 : decode cX4_passLetters 39 = .ok (.return_, 1) := by decide +kernel
theorem dX4_passDigits_0 : decode cX4_passDigits 0 = .ok (.aload_n 0, 1) := by decide +kernel
theorem dX4_passDigits_1 : decode cX4_passDigits 1 = .ok (.iconst 0, 1) := by decide +kernel
theorem dX4_passDigits_2 : decode cX4_passDigits 2 = .ok (.putfield 108, 3) := by decide +kernel
theorem dX4_passDigits_5 : decode cX4_passDigits 5 = .ok (.aload_n 0, 1) := by decide +kernel
theorem dX4_passDigits_6 : decode cX4_passDigits 6 = .ok (.getfield 19, 3) := by decide +kernel
theorem dX4_passDigits_9 : decode cX4_passDigits 9 = .ok (.aload_n 0, 1) := by decide +kernel
theorem dX4_passDigits_10 : decode cX4_passDigits 10 = .ok (.getfield 15, 3) := by decide +kernel
theorem dX4_passDigits_13 : decode cX4_passDigits 13 = .ok (.if_icmp .ge 61, 3) := by decide +kernel
theorem dX4_passDigits_16 : decode cX4_passDigits 16 = .ok (.aload_n 0, 1) := by decide +kernel
theorem dX4_passDigits_17 : decode cX4_passDigits 17 = .ok (.getfield 11, 3) := by decide +kernel
theorem dX4_passDigits_20 : decode cX4_passDigits 20 = .ok (.aload_n 0, 1) := by decide +kernel
theorem dX4_passDigits_21 : decode cX4_passDigits 21 = .ok (.getfield 19, 3) := by decide +kernel
theorem dX4_passDigits_24 : decode cX4_passDigits 24 = .ok (.iaload, 1) := by decide +kernel
theorem dX4_passDigits_25 : decode cX4_passDigits 25 = .ok (.invokestatic 146, 3) := by decide +kernel
theorem dX4_passDigits_28 : decode cX4_passDigits 28 = .ok (.ifCond .eq 46, 3) := by decide +kernel
theorem dX4_passDigits_31 : decode cX4_passDigits 31 = .ok (.aload_n 0, 1) := by decide +kernel
theorem dX4_passDigits_32 : decode cX4_passDigits 32 = .ok (.sipush 1000, 3) := by decide +kernel
theorem dX4_passDigits_35 : decode cX4_passDigits 35 = .ok (.aload_n 0, 1) := by decide +kernel
theorem dX4_passDigits_36 : decode cX4_passDigits 36 = .ok (.getfield 108, 3) := by decide +kernel
theorem dX4_passDigits_39 : decode cX4_passDigits 39 = .ok (.bipush 10, 2) := by decide +kernel
theorem dX4_passDigits_41 : decode cX4_passDigits 41 = .ok (.imul, 1) := by decide +kernel
theorem dX4_passDigits_42 : decode cX4_passDigits 42 = .ok (.aload_n 0, 1) := by decide +kernel
theorem dX4_passDigits_43 : decode cX4_passDigits 43 = .ok (.getfield 11, 3) := by decide +kernel
theorem dX4_passDigits_46 : decode cX4_passDigits 46 = .ok (.aload_n 0, 1) := by decide +kernel
theorem dX4_passDigits_47 : decode cX4_passDigits 47 = .ok (.getfield 19, 3) := by decide +kernel
theorem dX4_passDigits_50 : decode cX4_passDigits 50 = .ok (.iaload, 1) := by decide +kernel
theorem dX4_passDigits_51 : decode cX4_passDigits 51 = .ok (.iadd, 1) := by decide +kernel
theorem dX4_passDigits_52 : decode cX4_passDigits 52 = .ok (.bipush 48, 2) := by decide +kernel
theorem dX4_passDigits_54 : decode cX4_passDigits 54 = .ok (.isub, 1) := by decide +kernel
theorem dX4_passDigits_55 : decode cX4_passDigits 55 = .ok (.invokestatic 152, 3) := by decide +kernel
theorem dX4_passDigits_58 : decode cX4_passDigits 58 = .ok (.putfield 108, 3) := by decide +kernel
theorem dX4_passDigits_61 : decode cX4_passDigits 61 = .ok (.aload_n 0, 1) := by decide +kernel
theorem dX4_passDigits_62 : decode cX4_passDigits 62 = .ok (.dup, 1) := by decide +kernel
theorem dX4_passDigits_63 : decode cX4_passDigits 63 = .ok (.getfield 19, 3) := by decide +kernel
theorem dX4_passDigits_66 : decode cX4_passDigits 66 = .ok (.iconst 1, 1) := by decide +kernel
theorem dX4_passDigits_67 : decode cX4_passDigits 67 = .ok (.iadd, 1) := by decide +kernel
theorem dX4_passDigits_68 : decode cX4_passDigits 68 = .ok (.putfield 19, 3) := by decide +kernel
theorem dX4_passDigits_71 : decode cX4_passDigits 71 = .ok (.goto (-66), 3) := by decide +kernel
theorem dX4_passDigits_74 : decode cX4_passDigits 74 = .ok (.return_, 1) := by decide +kernel
theorem dX4_isLetter_0 : decode cX4_isLetter 0 = .ok (.iload_n 0, 1) := by decide +kernel
theorem dX4_isLetter_1 : decode cX4_isLetter 1 = .ok (.bipush 97, 2) := by decide +kernel
theorem dX4_isLetter_3 : decode cX4_isLetter 3 = .ok (.if_icmp .lt 13, 3) := by decide +kernel
theorem dX4_isLetter_6 : decode cX4_isLetter 6 = .ok (.iload_n 0, 1) := by decide +kernel
theorem dX4_isLetter_7 : decode cX4_isLetter 7 = .ok (.bipush 122, 2) := by decide +kernel
theorem dX4_isLetter_9 : decode cX4_isLetter 9 = .ok (.if_icmp .gt 7, 3) := by decide +kernel
theorem dX4_isLetter_12 : decode cX4_isLetter 12 = .ok (.iconst 1, 1) := by decide +kernel
theorem dX4_isLetter_13 : decode cX4_isLetter 13 = .ok (.goto 4, 3) := by decide +kernel
theorem dX4_isLetter_16 : decode cX4_isLetter 16 = .ok (.iconst 0, 1) := by decide +kernel
theorem dX4_isLetter_17 : decode cX4_isLetter 17 = .ok (.ireturn, 1) := by decide +kernel
theorem dX4_isDigit_0 : decode cX4_isDigit 0 = .ok (.iload_n 0, 1) := by decide +kernel
theorem dX4_isDigit_1 : decode cX4_isDigit 1 = .ok (.bipush 48, 2) := by decide +kernel
theorem dX4_isDigit_3 : decode cX4_isDigit 3 = .ok (.if_icmp .lt 13, 3) := by decide +kernel
theorem dX4_isDigit_6 : decode cX4_isDigit 6 = .ok (.iload_n 0, 1) := by decide +kernel
theorem dX4_isDigit_7 : decode cX4_isDigit 7 = .ok (.bipush 57, 2) := by decide +kernel
theorem dX4_isDigit_9 : decode cX4_isDigit 9 = .ok (.if_icmp .gt 7, 3) := by decide +kernel
theorem dX4_isDigit_12 : decode cX4_isDigit 12 = .ok (.iconst 1, 1) := by decide +kernel
theorem dX4_isDigit_13 : decode cX4_isDigit 13 = .ok (.goto 4, 3) := by decide +kernel
theorem dX4_isDigit_16 : decode cX4_isDigit 16 = .ok (.iconst 0, 1) := by decide +kernel
theorem dX4_isDigit_17 : decode cX4_isDigit 17 = .ok (.ireturn, 1) := by decide +kernel
theorem dX5_init_0 : decode cX5_init 0 = .ok (.aload_n 0, 1) := by decide +kernel
theorem dX5_init_1 : decode cX5_init 1 = .ok (.invokespecial 1, 3) := by decide +kernel
theorem dX5_init_4 : decode cX5_init 4 = .ok (.aload_n 0, 1) := by decide +kernel
theorem dX5_init_5 : decode cX5_init 5 = .ok (.new 7, 3) := by decide +kernel
theorem dX5_init_8 : decode cX5_init 8 = .ok (.dup, 1) := by decide +kernel
theorem dX5_init_9 : decode cX5_init 9 = .ok (.invokespecial 9, 3) := by decide +kernel
theorem dX5_init_12 : decode cX5_init 12 = .ok (.putfield 10, 3) := by decide +kernel
theorem dX5_init_15 : decode cX5_init 15 = .ok (.aload_n 0, 1) := by decide +kernel
theorem dX5_init_16 : decode cX5_init 16 = .ok (.new 7, 3) := by decide +kernel
theorem dX5_init_19 : decode cX5_init 19 = .ok (.dup, 1) := by decide +kernel
theorem dX5_init_20 : decode cX5_init 20 = .ok (.invokespecial 9, 3) := by decide +kernel
theorem dX5_init_23 : decode cX5_init 23 = .ok (.putfield 16, 3) := by decide +kernel
theorem dX5_init_26 : decode cX5_init 26 = .ok (.aload_n 0, 1) := by decide +kernel
theorem dX5_init_27 : decode cX5_init 27 = .ok (.new 7, 3) := by decide +kernel
theorem dX5_init_30 : decode cX5_init 30 = .ok (.dup, 1) := by decide +kernel
theorem dX5_init_31 : decode cX5_init 31 = .ok (.invokespecial 9, 3) := by decide +kernel
theorem dX5_init_34 : decode cX5_init 34 = .ok (.putfield 19, 3) := by decide +kernel
theorem dX5_init_37 : decode cX5_init 37 = .ok (.aload_n 0, 1) := by decide +kernel
theorem dX5_init_38 : decode cX5_init 38 = .ok (.new 22, 3) := by decide +kernel
theorem dX5_init_41 : decode cX5_init 41 = .ok (.dup, 1) := by decide +kernel
theorem dX5_init_42 : decode cX5_init 42 = .ok (.invokespecial 24, 3) := by decide +kernel
theorem dX5_init_45 : decode cX5_init 45 = .ok (.putfield 25, 3) := by decide +kernel
theorem dX5_init_48 : decode cX5_init 48 = .ok (.aload_n 0, 1) := by decide +kernel
theorem dX5_init_49 : decode cX5_init 49 = .ok (.new 29, 3) := by decide +kernel
theorem dX5_init_52 : decode cX5_init 52 = .ok (.dup, 1) := by decide +kernel
theorem dX5_init_53 : decode cX5_init 53 = .ok (.invokespecial 31, 3) := by decide +kernel
theorem dX5_init_56 : decode cX5_init 56 = .ok (.putfield 32, 3) := by decide +kernel
theorem dX5_init_59 : decode cX5_init 59 = .ok (.aload_n 0, 1) := by decide +kernel
theorem dX5_init_60 : decode cX5_init 60 = .ok (.iconst 4, 1) := by decide +kernel
theorem dX5_init_61 : decode cX5_init 61 = .ok (.anewarray 36, 3) := by decide +kernel
theorem dX5_init_64 : decode cX5_init 64 = .ok (.putfield 38, 3) := by decide +kernel
theorem dX5_init_67 : decode cX5_init 67 = .ok (.aload_n 0, 1) := by decide +kernel
theorem dX5_init_68 : decode cX5_init 68 = .ok (.bipush 7, 2) := by decide +kernel
theorem dX5_init_70 : decode cX5_init 70 = .ok (.newarray .int, 2) := by decide +kernel
theorem dX5_init_72 : decode cX5_init 72 = .ok (.putfield 42, 3) := by decide +kernel
theorem dX5_init_75 : decode cX5_init 75 = .ok (.iconst 0, 1) := by decide +kernel
theorem dX5_init_76 : decode cX5_init 76 = .ok (.istore_n 1, 1) := by decide +kernel
theorem dX5_init_77 : decode cX5_init 77 = .ok (.iload_n 1, 1) := by decide +kernel
theorem dX5_init_78 : decode cX5_init 78 = .ok (.iconst 4, 1) := by decide +kernel
theorem dX5_init_79 : decode cX5_init 79 = .ok (.if_icmp .ge 22, 3) := by decide +kernel
theorem dX5_init_82 : decode cX5_init 82 = .ok (.aload_n 0, 1) := by decide +kernel
theorem dX5_init_83 : decode cX5_init 83 = .ok (.getfield 38, 3) := by decide +kernel
theorem dX5_init_86 : decode cX5_init 86 = .ok (.iload_n 1, 1) := by decide +kernel
theorem dX5_init_87 : decode cX5_init 87 = .ok (.new 36, 3) := by decide +kernel
theorem dX5_init_90 : decode cX5_init 90 = .ok (.dup, 1) := by decide +kernel
theorem dX5_init_91 : decode cX5_init 91 = .ok (.invokespecial 46, 3) := by decide +kernel
theorem dX5_init_94 : decode cX5_init 94 = .ok (.aastore, 1) := by decide +kernel
theorem dX5_init_95 : decode cX5_init 95 = .ok (.iinc 1 1, 3) := by decide +kernel
theorem dX5_init_98 : decode cX5_init 98 = .ok (.goto (-21), 3) := by decide +kernel
theorem dX5_init_101 : decode cX5_init 101 = .ok (.return_, 1) := by decide +kernel
theorem dX5_wheat_0 : decode cX5_wheat 0 = .ok (.iload_n 1, 1) := by decide +kernel
theorem dX5_wheat_1 : decode cX5_wheat 1 = .ok (.invokestatic 47, 3) := by decide +kernel
theorem dX5_wheat_4 : decode cX5_wheat 4 = .ok (.ifCond .eq 13, 3) := by decide +kernel
theorem dX5_wheat_7 : decode cX5_wheat 7 = .ok (.iload_n 2, 1) := by decide +kernel
theorem dX5_wheat_8 : decode cX5_wheat 8 = .ok (.iconst 0, 1) := by decide +kernel
theorem dX5_wheat_9 : decode cX5_wheat 9 = .ok (.bipush 99, 2) := by decide +kernel
theorem dX5_wheat_11 : decode cX5_wheat 11 = .ok (.invokestatic 51, 3) := by decide +kernel
theorem dX5_wheat_14 : decode cX5_wheat 14 = .ok (.ifCond .ne 9, 3) := by decide +kernel
theorem dX5_wheat_17 : decode cX5_wheat 17 = .ok (.aload_n 0, 1) := by decide +kernel
theorem dX5_wheat_18 : decode cX5_wheat 18 = .ok (.iconst 0, 1) := by decide +kernel
theorem dX5_wheat_19 : decode cX5_wheat 19 = .ok (.invokevirtual 55, 3) := by decide +kernel
theorem dX5_wheat_22 : decode cX5_wheat 22 = .ok (.ireturn, 1) := by decide +kernel
theorem dX5_wheat_23 : decode cX5_wheat 23 = .ok (.aload_n 0, 1) := by decide +kernel
theorem dX5_wheat_24 : decode cX5_wheat 24 = .ok (.getfield 10, 3) := by decide +kernel
theorem dX5_wheat_27 : decode cX5_wheat 27 = .ok (.getfield 59, 3) := by decide +kernel
theorem dX5_wheat_30 : decode cX5_wheat 30 = .ok (.iload_n 1, 1) := by decide +kernel
theorem dX5_wheat_31 : decode cX5_wheat 31 = .ok (.iaload, 1) := by decide +kernel
theorem dX5_wheat_32 : decode cX5_wheat 32 = .ok (.istore_n 3, 1) := by decide +kernel
theorem dX5_wheat_33 : decode cX5_wheat 33 = .ok (.aload_n 0, 1) := by decide +kernel
theorem dX5_wheat_34 : decode cX5_wheat 34 = .ok (.getfield 10, 3) := by decide +kernel
theorem dX5_wheat_37 : decode cX5_wheat 37 = .ok (.getfield 59, 3) := by decide +kernel
theorem dX5_wheat_40 : decode cX5_wheat 40 = .ok (.iload_n 1, 1) := by decide +kernel
theorem dX5_wheat_41 : decode cX5_wheat 41 = .ok (.iload_n 2, 1) := by decide +kernel
theorem dX5_wheat_42 : decode cX5_wheat 42 = .ok (.iastore, 1) := by decide +kernel
theorem dX5_wheat_43 : decode cX5_wheat 43 = .ok (.iload_n 3, 1) := by decide +kernel
theorem dX5_wheat_44 : decode cX5_wheat 44 = .ok (.ireturn, 1) := by decide +kernel
theorem dX5_cell_0 : decode cX5_cell 0 = .ok (.iload_n 1, 1) := by decide +kernel
theorem dX5_cell_1 : decode cX5_cell 1 = .ok (.invokestatic 47, 3) := by decide +kernel
theorem dX5_cell_4 : decode cX5_cell 4 = .ok (.ifCond .ne 9, 3) := by decide +kernel
theorem dX5_cell_7 : decode cX5_cell 7 = .ok (.aload_n 0, 1) := by decide +kernel
theorem dX5_cell_8 : decode cX5_cell 8 = .ok (.iconst 0, 1) := by decide +kernel
theorem dX5_cell_9 : decode cX5_cell 9 = .ok (.invokevirtual 55, 3) := by decide +kernel
theorem dX5_cell_12 : decode cX5_cell 12 = .ok (.ireturn, 1) := by decide +kernel
theorem dX5_cell_13 : decode cX5_cell 13 = .ok (.iload_n 2, 1) := by decide +kernel
theorem dX5_cell_14 : decode cX5_cell 14 = .ok (.tableswitch 70 0 2 #[26, 36, 61], 26) := by decide +kernel
theorem dX5_cell_40 : decode cX5_cell 40 = .ok (.aload_n 0, 1) := by decide +kernel
theorem dX5_cell_41 : decode cX5_cell 41 = .ok (.getfield 10, 3) := by decide +kernel
theorem dX5_cell_44 : decode cX5_cell 44 = .ok (.getfield 59, 3) := by decide +kernel
theorem dX5_cell_47 : decode cX5_cell 47 = .ok (.iload_n 1, 1) := by decide +kernel
theorem dX5_cell_48 : decode cX5_cell 48 = .ok (.iaload, 1) := by decide +kernel
theorem dX5_cell_49 : decode cX5_cell 49 = .ok (.ireturn, 1) := by decide +kernel
theorem dX5_cell_50 : decode cX5_cell 50 = .ok (.aload_n 0, 1) := by decide +kernel
theorem dX5_cell_51 : decode cX5_cell 51 = .ok (.getfield 25, 3) := by decide +kernel
theorem dX5_cell_54 : decode cX5_cell 54 = .ok (.aload_n 0, 1) := by decide +kernel
theorem dX5_cell_55 : decode cX5_cell 55 = .ok (.getfield 10, 3) := by decide +kernel
theorem dX5_cell_58 : decode cX5_cell 58 = .ok (.invokevirtual 62, 3) := by decide +kernel
theorem dX5_cell_61 : decode cX5_cell 61 = .ok (.sipush 1000, 3) := by decide +kernel
theorem dX5_cell_64 : decode cX5_cell 64 = .ok (.aload_n 0, 1) := by decide +kernel
theorem dX5_cell_65 : decode cX5_cell 65 = .ok (.getfield 25, 3) := by decide +kernel
theorem dX5_cell_68 : decode cX5_cell 68 = .ok (.getfield 66, 3) := by decide +kernel
theorem dX5_cell_71 : decode cX5_cell 71 = .ok (.iload_n 1, 1) := by decide +kernel
theorem dX5_cell_72 : decode cX5_cell 72 = .ok (.iaload, 1) := by decide +kernel
theorem dX5_cell_73 : decode cX5_cell 73 = .ok (.iadd, 1) := by decide +kernel
theorem dX5_cell_74 : decode cX5_cell 74 = .ok (.ireturn, 1) := by decide +kernel
theorem dX5_cell_75 : decode cX5_cell 75 = .ok (.aload_n 0, 1) := by decide +kernel
theorem dX5_cell_76 : decode cX5_cell 76 = .ok (.getfield 10, 3) := by decide +kernel
theorem dX5_cell_79 : decode cX5_cell 79 = .ok (.iload_n 1, 1) := by decide +kernel
theorem dX5_cell_80 : decode cX5_cell 80 = .ok (.invokevirtual 69, 3) := by decide +kernel
theorem dX5_cell_83 : decode cX5_cell 83 = .ok (.ireturn, 1) := by decide +kernel
theorem dX5_cell_84 : decode cX5_cell 84 = .ok (.aload_n 0, 1) := by decide +kernel
theorem dX5_cell_85 : decode cX5_cell 85 = .ok (.iconst 0, 1) := by decide +kernel
theorem dX5_cell_86 : decode cX5_cell 86 = .ok (.invokevirtual 55, 3) := by decide +kernel
theorem dX5_cell_89 : decode cX5_cell 89 = .ok (.ireturn, 1) := by decide +kernel
theorem dX5_crows_0 : decode cX5_crows 0 = .ok (.iload_n 1, 1) := by decide +kernel
theorem dX5_crows_1 : decode cX5_crows 1 = .ok (.iconst 0, 1) := by decide +kernel
theorem dX5_crows_2 : decode cX5_crows 2 = .ok (.bipush 20, 2) := by decide +kernel
theorem dX5_crows_4 : decode cX5_crows 4 = .ok (.invokestatic 51, 3) := by decide +kernel
theorem dX5_crows_7 : decode cX5_crows 7 = .ok (.ifCond .ne 9, 3) := by decide +kernel
theorem dX5_crows_10 : decode cX5_crows 10 = .ok (.aload_n 0, 1) := by decide +kernel
theorem dX5_crows_11 : decode cX5_crows 11 = .ok (.iconst 0, 1) := by decide +kernel
theorem dX5_crows_12 : decode cX5_crows 12 = .ok (.invokevirtual 55, 3) := by decide +kernel
theorem dX5_crows_15 : decode cX5_crows 15 = .ok (.ireturn, 1) := by decide +kernel
theorem dX5_crows_16 : decode cX5_crows 16 = .ok (.aload_n 0, 1) := by decide +kernel
theorem dX5_crows_17 : decode cX5_crows 17 = .ok (.getfield 10, 3) := by decide +kernel
theorem dX5_crows_20 : decode cX5_crows 20 = .ok (.getfield 72, 3) := by decide +kernel
theorem dX5_crows_23 : decode cX5_crows 23 = .ok (.istore_n 2, 1) := by decide +kernel
theorem dX5_crows_24 : decode cX5_crows 24 = .ok (.aload_n 0, 1) := by decide +kernel
theorem dX5_crows_25 : decode cX5_crows 25 = .ok (.getfield 10, 3) := by decide +kernel
theorem dX5_crows_28 : decode cX5_crows 28 = .ok (.iload_n 1, 1) := by decide +kernel
theorem dX5_crows_29 : decode cX5_crows 29 = .ok (.putfield 72, 3) := by decide +kernel
theorem dX5_crows_32 : decode cX5_crows 32 = .ok (.iload_n 2, 1) := by decide +kernel
theorem dX5_crows_33 : decode cX5_crows 33 = .ok (.ireturn, 1) := by decide +kernel
theorem dX5_sitter_0 : decode cX5_sitter 0 = .ok (.iload_n 1, 1) := by decide +kernel
theorem dX5_sitter_1 : decode cX5_sitter 1 = .ok (.invokestatic 76, 3) := by decide +kernel
theorem dX5_sitter_4 : decode cX5_sitter 4 = .ok (.ifCond .ne 9, 3) := by decide +kernel
theorem dX5_sitter_7 : decode cX5_sitter 7 = .ok (.aload_n 0, 1) := by decide +kernel
theorem dX5_sitter_8 : decode cX5_sitter 8 = .ok (.iconst 0, 1) := by decide +kernel
theorem dX5_sitter_9 : decode cX5_sitter 9 = .ok (.invokevirtual 55, 3) := by decide +kernel
theorem dX5_sitter_12 : decode cX5_sitter 12 = .ok (.ireturn, 1) := by decide +kernel
theorem dX5_sitter_13 : decode cX5_sitter 13 = .ok (.aload_n 0, 1) := by decide +kernel
theorem dX5_sitter_14 : decode cX5_sitter 14 = .ok (.getfield 10, 3) := by decide +kernel
theorem dX5_sitter_17 : decode cX5_sitter 17 = .ok (.getfield 79, 3) := by decide +kernel
theorem dX5_sitter_20 : decode cX5_sitter 20 = .ok (.bipush 6, 2) := by decide +kernel
theorem dX5_sitter_22 : decode cX5_sitter 22 = .ok (.if_icmp .lt 9, 3) := by decide +kernel
theorem dX5_sitter_25 : decode cX5_sitter 25 = .ok (.aload_n 0, 1) := by decide +kernel
theorem dX5_sitter_26 : decode cX5_sitter 26 = .ok (.iconst 1, 1) := by decide +kernel
theorem dX5_sitter_27 : decode cX5_sitter 27 = .ok (.invokevirtual 55, 3) := by decide +kernel
theorem dX5_sitter_30 : decode cX5_sitter 30 = .ok (.ireturn, 1) := by decide +kernel
theorem dX5_sitter_31 : decode cX5_sitter 31 = .ok (.aload_n 0, 1) := by decide +kernel
theorem dX5_sitter_32 : decode cX5_sitter 32 = .ok (.getfield 10, 3) := by decide +kernel
theorem dX5_sitter_35 : decode cX5_sitter 35 = .ok (.iload_n 1, 1) := by decide +kernel
theorem dX5_sitter_36 : decode cX5_sitter 36 = .ok (.invokevirtual 82, 3) := by decide +kernel
theorem dX5_sitter_39 : decode cX5_sitter 39 = .ok (.ireturn, 1) := by decide +kernel
theorem dX5_of_0 : decode cX5_of 0 = .ok (.aload_n 0, 1) := by decide +kernel
theorem dX5_of_1 : decode cX5_of 1 = .ok (.iload_n 1, 1) := by decide +kernel
theorem dX5_of_2 : decode cX5_of 2 = .ok (.invokevirtual 85, 3) := by decide +kernel
theorem dX5_of_5 : decode cX5_of 5 = .ok (.ifCond .ne 9, 3) := by decide +kernel
theorem dX5_of_8 : decode cX5_of 8 = .ok (.aload_n 0, 1) := by decide +kernel
theorem dX5_of_9 : decode cX5_of 9 = .ok (.iconst 0, 1) := by decide +kernel
theorem dX5_of_10 : decode cX5_of 10 = .ok (.invokevirtual 55, 3) := by decide +kernel
theorem dX5_of_13 : decode cX5_of 13 = .ok (.ireturn, 1) := by decide +kernel
theorem dX5_of_14 : decode cX5_of 14 = .ok (.iload_n 2, 1) := by decide +kernel
theorem dX5_of_15 : decode cX5_of 15 = .ok (.tableswitch 98 0 5 #[37, 47, 57, 67, 77, 89], 37) := by decide +kernel
theorem dX5_of_52 : decode cX5_of 52 = .ok (.aload_n 0, 1) := by decide +kernel
theorem dX5_of_53 : decode cX5_of 53 = .ok (.getfield 10, 3) := by decide +kernel
theorem dX5_of_56 : decode cX5_of 56 = .ok (.getfield 88, 3) := by decide +kernel
theorem dX5_of_59 : decode cX5_of 59 = .ok (.iload_n 1, 1) := by decide +kernel
theorem dX5_of_60 : decode cX5_of 60 = .ok (.iaload, 1) := by decide +kernel
theorem dX5_of_61 : decode cX5_of 61 = .ok (.ireturn, 1) := by decide +kernel
theorem dX5_of_62 : decode cX5_of 62 = .ok (.aload_n 0, 1) := by decide +kernel
theorem dX5_of_63 : decode cX5_of 63 = .ok (.getfield 10, 3) := by decide +kernel
theorem dX5_of_66 : decode cX5_of 66 = .ok (.getfield 91, 3) := by decide +kernel
theorem dX5_of_69 : decode cX5_of 69 = .ok (.iload_n 1, 1) := by decide +kernel
theorem dX5_of_70 : decode cX5_of 70 = .ok (.iaload, 1) := by decide +kernel
theorem dX5_of_71 : decode cX5_of 71 = .ok (.ireturn, 1) := by decide +kernel
theorem dX5_of_72 : decode cX5_of 72 = .ok (.aload_n 0, 1) := by decide +kernel
theorem dX5_of_73 : decode cX5_of 73 = .ok (.getfield 10, 3) := by decide +kernel
theorem dX5_of_76 : decode cX5_of 76 = .ok (.getfield 94, 3) := by decide +kernel
theorem dX5_of_79 : decode cX5_of 79 = .ok (.iload_n 1, 1) := by decide +kernel
theorem dX5_of_80 : decode cX5_of 80 = .ok (.iaload, 1) := by decide +kernel
theorem dX5_of_81 : decode cX5_of 81 = .ok (.ireturn, 1) := by decide +kernel
theorem dX5_of_82 : decode cX5_of 82 = .ok (.aload_n 0, 1) := by decide +kernel
theorem dX5_of_83 : decode cX5_of 83 = .ok (.getfield 10, 3) := by decide +kernel
theorem dX5_of_86 : decode cX5_of 86 = .ok (.getfield 97, 3) := by decide +kernel
theorem dX5_of_89 : decode cX5_of 89 = .ok (.iload_n 1, 1) := by decide +kernel
theorem dX5_of_90 : decode cX5_of 90 = .ok (.iaload, 1) := by decide +kernel
theorem dX5_of_91 : decode cX5_of 91 = .ok (.ireturn, 1) := by decide +kernel
theorem dX5_of_92 : decode cX5_of 92 = .ok (.aload_n 0, 1) := by decide +kernel
theorem dX5_of_93 : decode cX5_of 93 = .ok (.getfield 10, 3) := by decide +kernel
theorem dX5_of_96 : decode cX5_of 96 = .ok (.iload_n 1, 1) := by decide +kernel
theorem dX5_of_97 : decode cX5_of 97 = .ok (.invokevirtual 100, 3) := by decide +kernel
theorem dX5_of_100 : decode cX5_of 100 = .ok (.invokestatic 103, 3) := by decide +kernel
theorem dX5_of_103 : decode cX5_of 103 = .ok (.ireturn, 1) := by decide +kernel
theorem dX5_of_104 : decode cX5_of 104 = .ok (.aload_n 0, 1) := by decide +kernel
theorem dX5_of_105 : decode cX5_of 105 = .ok (.getfield 10, 3) := by decide +kernel
theorem dX5_of_108 : decode cX5_of 108 = .ok (.iload_n 1, 1) := by decide +kernel
theorem dX5_of_109 : decode cX5_of 109 = .ok (.invokevirtual 108, 3) := by decide +kernel
theorem dX5_of_112 : decode cX5_of 112 = .ok (.ireturn, 1) := by decide +kernel
theorem dX5_of_113 : decode cX5_of 113 = .ok (.aload_n 0, 1) := by decide +kernel
theorem dX5_of_114 : decode cX5_of 114 = .ok (.iconst 0, 1) := by decide +kernel
theorem dX5_of_115 : decode cX5_of 115 = .ok (.invokevirtual 55, 3) := by decide +kernel
theorem dX5_of_118 : decode cX5_of 118 = .ok (.ireturn, 1) := by decide +kernel
theorem dX5_set_0 : decode cX5_set 0 = .ok (.aload_n 0, 1) := by decide +kernel
theorem dX5_set_1 : decode cX5_set 1 = .ok (.iload_n 1, 1) := by decide +kernel
theorem dX5_set_2 : decode cX5_set 2 = .ok (.invokevirtual 85, 3) := by decide +kernel
theorem dX5_set_5 : decode cX5_set 5 = .ok (.ifCond .ne 9, 3) := by decide +kernel
theorem dX5_set_8 : decode cX5_set 8 = .ok (.aload_n 0, 1) := by decide +kernel
theorem dX5_set_9 : decode cX5_set 9 = .ok (.iconst 0, 1) := by decide +kernel
theorem dX5_set_10 : decode cX5_set 10 = .ok (.invokevirtual 55, 3) := by decide +kernel
theorem dX5_set_13 : decode cX5_set 13 = .ok (.ireturn, 1) := by decide +kernel
theorem dX5_set_14 : decode cX5_set 14 = .ok (.iload_n 2, 1) := by decide +kernel
theorem dX5_set_15 : decode cX5_set 15 = .ok (.iconst 1, 1) := by decide +kernel
theorem dX5_set_16 : decode cX5_set 16 = .ok (.if_icmp .ne 26, 3) := by decide +kernel
theorem dX5_set_19 : decode cX5_set 19 = .ok (.iload_n 3, 1) := by decide +kernel
theorem dX5_set_20 : decode cX5_set 20 = .ok (.iconst 0, 1) := by decide +kernel
theorem dX5_set_21 : decode cX5_set 21 = .ok (.bipush 30, 2) := by decide +kernel
theorem dX5_set_23 : decode cX5_set 23 = .ok (.invokestatic 51, 3) := by decide +kernel
theorem dX5_set_26 : decode cX5_set 26 = .ok (.ifCond .eq 16, 3) := by decide +kernel
theorem dX5_set_29 : decode cX5_set 29 = .ok (.aload_n 0, 1) := by decide +kernel
theorem dX5_set_30 : decode cX5_set 30 = .ok (.getfield 10, 3) := by decide +kernel
theorem dX5_set_33 : decode cX5_set 33 = .ok (.getfield 91, 3) := by decide +kernel
theorem dX5_set_36 : decode cX5_set 36 = .ok (.iload_n 1, 1) := by decide +kernel
theorem dX5_set_37 : decode cX5_set 37 = .ok (.iload_n 3, 1) := by decide +kernel
theorem dX5_set_38 : decode cX5_set 38 = .ok (.invokestatic 111, 3) := by decide +kernel
theorem dX5_set_41 : decode cX5_set 41 = .ok (.ireturn, 1) := by decide +kernel
theorem dX5_set_42 : decode cX5_set 42 = .ok (.iload_n 2, 1) := by decide +kernel
theorem dX5_set_43 : decode cX5_set 43 = .ok (.iconst 2, 1) := by decide +kernel
theorem dX5_set_44 : decode cX5_set 44 = .ok (.if_icmp .ne 26, 3) := by decide +kernel
theorem dX5_set_47 : decode cX5_set 47 = .ok (.iload_n 3, 1) := by decide +kernel
theorem dX5_set_48 : decode cX5_set 48 = .ok (.iconst 0, 1) := by decide +kernel
theorem dX5_set_49 : decode cX5_set 49 = .ok (.bipush 99, 2) := by decide +kernel
theorem dX5_set_51 : decode cX5_set 51 = .ok (.invokestatic 51, 3) := by decide +kernel
theorem dX5_set_54 : decode cX5_set 54 = .ok (.ifCond .eq 16, 3) := by decide +kernel
theorem dX5_set_57 : decode cX5_set 57 = .ok (.aload_n 0, 1) := by decide +kernel
theorem dX5_set_58 : decode cX5_set 58 = .ok (.getfield 10, 3) := by decide +kernel
theorem dX5_set_61 : decode cX5_set 61 = .ok (.getfield 94, 3) := by decide +kernel
theorem dX5_set_64 : decode cX5_set 64 = .ok (.iload_n 1, 1) := by decide +kernel
theorem dX5_set_65 : decode cX5_set 65 = .ok (.iload_n 3, 1) := by decide +kernel
theorem dX5_set_66 : decode cX5_set 66 = .ok (.invokestatic 111, 3) := by decide +kernel
theorem dX5_set_69 : decode cX5_set 69 = .ok (.ireturn, 1) := by decide +kernel
theorem dX5_set_70 : decode cX5_set 70 = .ok (.aload_n 0, 1) := by decide +kernel
theorem dX5_set_71 : decode cX5_set 71 = .ok (.iconst 0, 1) := by decide +kernel
theorem dX5_set_72 : decode cX5_set 72 = .ok (.invokevirtual 55, 3) := by decide +kernel
theorem dX5_set_75 : decode cX5_set 75 = .ok (.ireturn, 1) := by decide +kernel
theorem dX5_turn_0 : decode cX5_turn 0 = .ok (.aload_n 0, 1) := by decide +kernel
theorem dX5_turn_1 : decode cX5_turn 1 = .ok (.iload_n 1, 1) := by decide +kernel
theorem dX5_turn_2 : decode cX5_turn 2 = .ok (.invokevirtual 85, 3) := by decide +kernel
theorem dX5_turn_5 : decode cX5_turn 5 = .ok (.ifCond .eq 10, 3) := by decide +kernel
theorem dX5_turn_8 : decode cX5_turn 8 = .ok (.iload_n 2, 1) := by decide +kernel
theorem dX5_turn_9 : decode cX5_turn 9 = .ok (.invokestatic 76, 3) := by decide +kernel
theorem dX5_turn_12 : decode cX5_turn 12 = .ok (.ifCond .ne 9, 3) := by decide +kernel
theorem dX5_turn_15 : decode cX5_turn 15 = .ok (.aload_n 0, 1) := by decide +kernel
theorem dX5_turn_16 : decode cX5_turn 16 = .ok (.iconst 0, 1) := by decide +kernel
theorem dX5_turn_17 : decode cX5_turn 17 = .ok (.invokevirtual 55, 3) := by decide +kernel
theorem dX5_turn_20 : decode cX5_turn 20 = .ok (.ireturn, 1) := by decide +kernel
theorem dX5_turn_21 : decode cX5_turn 21 = .ok (.aload_n 0, 1) := by decide +kernel
theorem dX5_turn_22 : decode cX5_turn 22 = .ok (.getfield 10, 3) := by decide +kernel
theorem dX5_turn_25 : decode cX5_turn 25 = .ok (.getfield 88, 3) := by decide +kernel
theorem dX5_turn_28 : decode cX5_turn 28 = .ok (.iload_n 1, 1) := by decide +kernel
theorem dX5_turn_29 : decode cX5_turn 29 = .ok (.iload_n 2, 1) := by decide +kernel
theorem dX5_turn_30 : decode cX5_turn 30 = .ok (.invokestatic 111, 3) := by decide +kernel
theorem dX5_turn_33 : decode cX5_turn 33 = .ok (.ireturn, 1) := by decide +kernel
theorem dX5_as_0 : decode cX5_as 0 = .ok (.aload_n 0, 1) := by decide +kernel
theorem dX5_as_1 : decode cX5_as 1 = .ok (.iload_n 1, 1) := by decide +kernel
theorem dX5_as_2 : decode cX5_as 2 = .ok (.invokevirtual 85, 3) := by decide +kernel
theorem dX5_as_5 : decode cX5_as 5 = .ok (.ifCond .eq 10, 3) := by decide +kernel
theorem dX5_as_8 : decode cX5_as 8 = .ok (.iload_n 2, 1) := by decide +kernel
theorem dX5_as_9 : decode cX5_as 9 = .ok (.invokestatic 76, 3) := by decide +kernel
theorem dX5_as_12 : decode cX5_as 12 = .ok (.ifCond .ne 9, 3) := by decide +kernel
theorem dX5_as_15 : decode cX5_as 15 = .ok (.aload_n 0, 1) := by decide +kernel
theorem dX5_as_16 : decode cX5_as 16 = .ok (.iconst 0, 1) := by decide +kernel
theorem dX5_as_17 : decode cX5_as 17 = .ok (.invokevirtual 55, 3) := by decide +kernel
theorem dX5_as_20 : decode cX5_as 20 = .ok (.ireturn, 1) := by decide +kernel
theorem dX5_as_21 : decode cX5_as 21 = .ok (.aload_n 0, 1) := by decide +kernel
theorem dX5_as_22 : decode cX5_as 22 = .ok (.getfield 10, 3) := by decide +kernel
theorem dX5_as_25 : decode cX5_as 25 = .ok (.getfield 88, 3) := by decide +kernel
theorem dX5_as_28 : decode cX5_as 28 = .ok (.iload_n 1, 1) := by decide +kernel
theorem dX5_as_29 : decode cX5_as 29 = .ok (.iaload, 1) := by decide +kernel
theorem dX5_as_30 : decode cX5_as 30 = .ok (.iload_n 2, 1) := by decide +kernel
theorem dX5_as_31 : decode cX5_as 31 = .ok (.invokestatic 115, 3) := by decide +kernel
theorem dX5_as_34 : decode cX5_as 34 = .ok (.ifCond .ne 9, 3) := by decide +kernel
theorem dX5_as_37 : decode cX5_as 37 = .ok (.aload_n 0, 1) := by decide +kernel
theorem dX5_as_38 : decode cX5_as 38 = .ok (.iconst 2, 1) := by decide +kernel
theorem dX5_as_39 : decode cX5_as 39 = .ok (.invokevirtual 55, 3) := by decide +kernel
theorem dX5_as_42 : decode cX5_as 42 = .ok (.ireturn, 1) := by decide +kernel
theorem dX5_as_43 : decode cX5_as 43 = .ok (.aload_n 0, 1) := by decide +kernel
theorem dX5_as_44 : decode cX5_as 44 = .ok (.getfield 10, 3) := by decide +kernel
theorem dX5_as_47 : decode cX5_as 47 = .ok (.getfield 91, 3) := by decide +kernel
theorem dX5_as_50 : decode cX5_as 50 = .ok (.iload_n 1, 1) := by decide +kernel
theorem dX5_as_51 : decode cX5_as 51 = .ok (.iaload, 1) := by decide +kernel
theorem dX5_as_52 : decode cX5_as 52 = .ok (.ireturn, 1) := by decide +kernel
theorem dX5_likeness_0 : decode cX5_likeness 0 = .ok (.aload_n 0, 1) := by decide +kernel
theorem dX5_likeness_1 : decode cX5_likeness 1 = .ok (.iload_n 1, 1) := by decide +kernel
theorem dX5_likeness_2 : decode cX5_likeness 2 = .ok (.invokevirtual 85, 3) := by decide +kernel
theorem dX5_likeness_5 : decode cX5_likeness 5 = .ok (.ifCond .eq 10, 3) := by decide +kernel
theorem dX5_likeness_8 : decode cX5_likeness 8 = .ok (.iload_n 2, 1) := by decide +kernel
theorem dX5_likeness_9 : decode cX5_likeness 9 = .ok (.invokestatic 47, 3) := by decide +kernel
theorem dX5_likeness_12 : decode cX5_likeness 12 = .ok (.ifCond .ne 9, 3) := by decide +kernel
theorem dX5_likeness_15 : decode cX5_likeness 15 = .ok (.aload_n 0, 1) := by decide +kernel
theorem dX5_likeness_16 : decode cX5_likeness 16 = .ok (.iconst 0, 1) := by decide +kernel
theorem dX5_likeness_17 : decode cX5_likeness 17 = .ok (.invokevirtual 55, 3) := by decide +kernel
theorem dX5_likeness_20 : decode cX5_likeness 20 = .ok (.ireturn, 1) := by decide +kernel
theorem dX5_likeness_21 : decode cX5_likeness 21 = .ok (.aload_n 0, 1) := by decide +kernel
theorem dX5_likeness_22 : decode cX5_likeness 22 = .ok (.getfield 10, 3) := by decide +kernel
theorem dX5_likeness_25 : decode cX5_likeness 25 = .ok (.getfield 121, 3) := by decide +kernel
theorem dX5_likeness_28 : decode cX5_likeness 28 = .ok (.bipush 8, 2) := by decide +kernel
theorem dX5_likeness_30 : decode cX5_likeness 30 = .ok (.if_icmp .lt 9, 3) := by decide +kernel
theorem dX5_likeness_33 : decode cX5_likeness 33 = .ok (.aload_n 0, 1) := by decide +kernel
theorem dX5_likeness_34 : decode cX5_likeness 34 = .ok (.iconst 1, 1) := by decide +kernel
theorem dX5_likeness_35 : decode cX5_likeness 35 = .ok (.invokevirtual 55, 3) := by decide +kernel
theorem dX5_likeness_38 : decode cX5_likeness 38 = .ok (.ireturn, 1) := by decide +kernel
theorem dX5_likeness_39 : decode cX5_likeness 39 = .ok (.aload_n 0, 1) := by decide +kernel
theorem dX5_likeness_40 : decode cX5_likeness 40 = .ok (.getfield 10, 3) := by decide +kernel
theorem dX5_likeness_43 : decode cX5_likeness 43 = .ok (.iload_n 1, 1) := by decide +kernel
theorem dX5_likeness_44 : decode cX5_likeness 44 = .ok (.iload_n 2, 1) := by decide +kernel
theorem dX5_likeness_45 : decode cX5_likeness 45 = .ok (.invokevirtual 124, 3) := by decide +kernel
theorem dX5_likeness_48 : decode cX5_likeness 48 = .ok (.ireturn, 1) := by decide +kernel
theorem dX5_told_0 : decode cX5_told 0 = .ok (.aload_n 0, 1) := by decide +kernel
theorem dX5_told_1 : decode cX5_told 1 = .ok (.iload_n 1, 1) := by decide +kernel
theorem dX5_told_2 : decode cX5_told 2 = .ok (.invokevirtual 128, 3) := by decide +kernel
theorem dX5_told_5 : decode cX5_told 5 = .ok (.ifCond .ne 9, 3) := by decide +kernel
theorem dX5_told_8 : decode cX5_told 8 = .ok (.aload_n 0, 1) := by decide +kernel
theorem dX5_told_9 : decode cX5_told 9 = .ok (.iconst 0, 1) := by decide +kernel
theorem dX5_told_10 : decode cX5_told 10 = .ok (.invokevirtual 55, 3) := by decide +kernel
theorem dX5_told_13 : decode cX5_told 13 = .ok (.ireturn, 1) := by decide +kernel
theorem dX5_told_14 : decode cX5_told 14 = .ok (.iload_n 2, 1) := by decide +kernel
theorem dX5_told_15 : decode cX5_told 15 = .ok (.tableswitch 90 0 4 #[33, 43, 53, 63, 76], 33) := by decide +kernel
theorem dX5_told_48 : decode cX5_told 48 = .ok (.aload_n 0, 1) := by decide +kernel
theorem dX5_told_49 : decode cX5_told 49 = .ok (.getfield 10, 3) := by decide +kernel
theorem dX5_told_52 : decode cX5_told 52 = .ok (.getfield 131, 3) := by decide +kernel
theorem dX5_told_55 : decode cX5_told 55 = .ok (.iload_n 1, 1) := by decide +kernel
theorem dX5_told_56 : decode cX5_told 56 = .ok (.iaload, 1) := by decide +kernel
theorem dX5_told_57 : decode cX5_told 57 = .ok (.ireturn, 1) := by decide +kernel
theorem dX5_told_58 : decode cX5_told 58 = .ok (.aload_n 0, 1) := by decide +kernel
theorem dX5_told_59 : decode cX5_told 59 = .ok (.getfield 10, 3) := by decide +kernel
theorem dX5_told_62 : decode cX5_told 62 = .ok (.getfield 134, 3) := by decide +kernel
theorem dX5_told_65 : decode cX5_told 65 = .ok (.iload_n 1, 1) := by decide +kernel
theorem dX5_told_66 : decode cX5_told 66 = .ok (.iaload, 1) := by decide +kernel
theorem dX5_told_67 : decode cX5_told 67 = .ok (.ireturn, 1) := by decide +kernel
theorem dX5_told_68 : decode cX5_told 68 = .ok (.aload_n 0, 1) := by decide +kernel
theorem dX5_told_69 : decode cX5_told 69 = .ok (.getfield 10, 3) := by decide +kernel
theorem dX5_told_72 : decode cX5_told 72 = .ok (.getfield 137, 3) := by decide +kernel
theorem dX5_told_75 : decode cX5_told 75 = .ok (.iload_n 1, 1) := by decide +kernel
theorem dX5_told_76 : decode cX5_told 76 = .ok (.iaload, 1) := by decide +kernel
theorem dX5_told_77 : decode cX5_told 77 = .ok (.ireturn, 1) := by decide +kernel
theorem dX5_told_78 : decode cX5_told 78 = .ok (.sipush 1000, 3) := by decide +kernel
theorem dX5_told_81 : decode cX5_told 81 = .ok (.aload_n 0, 1) := by decide +kernel
theorem dX5_told_82 : decode cX5_told 82 = .ok (.getfield 10, 3) := by decide +kernel
theorem dX5_told_85 : decode cX5_told 85 = .ok (.iload_n 1, 1) := by decide +kernel
theorem dX5_told_86 : decode cX5_told 86 = .ok (.invokevirtual 140, 3) := by decide +kernel
theorem dX5_told_89 : decode cX5_told 89 = .ok (.iadd, 1) := by decide +kernel
theorem dX5_told_90 : decode cX5_told 90 = .ok (.ireturn, 1) := by decide +kernel
theorem dX5_told_91 : decode cX5_told 91 = .ok (.sipush 1000, 3) := by decide +kernel
theorem dX5_told_94 : decode cX5_told 94 = .ok (.aload_n 0, 1) := by decide +kernel
theorem dX5_told_95 : decode cX5_told 95 = .ok (.getfield 10, 3) := by decide +kernel
theorem dX5_told_98 : decode cX5_told 98 = .ok (.iload_n 1, 1) := by decide +kernel
theorem dX5_told_99 : decode cX5_told 99 = .ok (.iconst 0, 1) := by decide +kernel
theorem dX5_told_100 : decode cX5_told 100 = .ok (.invokevirtual 143, 3) := by decide +kernel
theorem dX5_told_103 : decode cX5_told 103 = .ok (.iadd, 1) := by decide +kernel
theorem dX5_told_104 : decode cX5_told 104 = .ok (.ireturn, 1) := by decide +kernel
theorem dX5_told_105 : decode cX5_told 105 = .ok (.aload_n 0, 1) := by decide +kernel
theorem dX5_told_106 : decode cX5_told 106 = .ok (.iconst 0, 1) := by decide +kernel
theorem dX5_told_107 : decode cX5_told 107 = .ok (.invokevirtual 55, 3) := by decide +kernel
theorem dX5_told_110 : decode cX5_told 110 = .ok (.ireturn, 1) := by decide +kernel
theorem dX5_place_0 : decode cX5_place 0 = .ok (.aload_n 0, 1) := by decide +kernel
theorem dX5_place_1 : decode cX5_place 1 = .ok (.iload_n 1, 1) := by decide +kernel
theorem dX5_place_2 : decode cX5_place 2 = .ok (.invokevirtual 128, 3) := by decide +kernel
theorem dX5_place_5 : decode cX5_place 5 = .ok (.ifCond .ne 9, 3) := by decide +kernel
theorem dX5_place_8 : decode cX5_place 8 = .ok (.aload_n 0, 1) := by decide +kernel
theorem dX5_place_9 : decode cX5_place 9 = .ok (.iconst 0, 1) := by decide +kernel
theorem dX5_place_10 : decode cX5_place 10 = .ok (.invokevirtual 55, 3) := by decide +kernel
theorem dX5_place_13 : decode cX5_place 13 = .ok (.ireturn, 1) := by decide +kernel
theorem dX5_place_14 : decode cX5_place 14 = .ok (.iload_n 2, 1) := by decide +kernel
theorem dX5_place_15 : decode cX5_place 15 = .ok (.ifCond .ne 23, 3) := by decide +kernel
theorem dX5_place_18 : decode cX5_place 18 = .ok (.iload_n 3, 1) := by decide +kernel
theorem dX5_place_19 : decode cX5_place 19 = .ok (.invokestatic 47, 3) := by decide +kernel
theorem dX5_place_22 : decode cX5_place 22 = .ok (.ifCond .eq 16, 3) := by decide +kernel
theorem dX5_place_25 : decode cX5_place 25 = .ok (.aload_n 0, 1) := by decide +kernel
theorem dX5_place_26 : decode cX5_place 26 = .ok (.getfield 10, 3) := by decide +kernel
theorem dX5_place_29 : decode cX5_place 29 = .ok (.getfield 131, 3) := by decide +kernel
theorem dX5_place_32 : decode cX5_place 32 = .ok (.iload_n 1, 1) := by decide +kernel
theorem dX5_place_33 : decode cX5_place 33 = .ok (.iload_n 3, 1) := by decide +kernel
theorem dX5_place_34 : decode cX5_place 34 = .ok (.invokestatic 111, 3) := by decide +kernel
theorem dX5_place_37 : decode cX5_place 37 = .ok (.ireturn, 1) := by decide +kernel
theorem dX5_place_38 : decode cX5_place 38 = .ok (.iload_n 2, 1) := by decide +kernel
theorem dX5_place_39 : decode cX5_place 39 = .ok (.iconst 1, 1) := by decide +kernel
theorem dX5_place_40 : decode cX5_place 40 = .ok (.if_icmp .ne 24, 3) := by decide +kernel
theorem dX5_place_43 : decode cX5_place 43 = .ok (.aload_n 0, 1) := by decide +kernel
theorem dX5_place_44 : decode cX5_place 44 = .ok (.iload_n 3, 1) := by decide +kernel
theorem dX5_place_45 : decode cX5_place 45 = .ok (.invokevirtual 85, 3) := by decide +kernel
theorem dX5_place_48 : decode cX5_place 48 = .ok (.ifCond .eq 16, 3) := by decide +kernel
theorem dX5_place_51 : decode cX5_place 51 = .ok (.aload_n 0, 1) := by decide +kernel
theorem dX5_place_52 : decode cX5_place 52 = .ok (.getfield 10, 3) := by decide +kernel
theorem dX5_place_55 : decode cX5_place 55 = .ok (.getfield 134, 3) := by decide +kernel
theorem dX5_place_58 : decode cX5_place 58 = .ok (.iload_n 1, 1) := by decide +kernel
theorem dX5_place_59 : decode cX5_place 59 = .ok (.iload_n 3, 1) := by decide +kernel
theorem dX5_place_60 : decode cX5_place 60 = .ok (.invokestatic 111, 3) := by decide +kernel
theorem dX5_place_63 : decode cX5_place 63 = .ok (.ireturn, 1) := by decide +kernel
theorem dX5_place_64 : decode cX5_place 64 = .ok (.iload_n 2, 1) := by decide +kernel
theorem dX5_place_65 : decode cX5_place 65 = .ok (.iconst 2, 1) := by decide +kernel
theorem dX5_place_66 : decode cX5_place 66 = .ok (.if_icmp .ne 27, 3) := by decide +kernel
theorem dX5_place_69 : decode cX5_place 69 = .ok (.iload_n 3, 1) := by decide +kernel
theorem dX5_place_70 : decode cX5_place 70 = .ok (.iconst 0, 1) := by decide +kernel
theorem dX5_place_71 : decode cX5_place 71 = .ok (.sipush 9999, 3) := by decide +kernel
theorem dX5_place_74 : decode cX5_place 74 = .ok (.invokestatic 51, 3) := by decide +kernel
theorem dX5_place_77 : decode cX5_place 77 = .ok (.ifCond .eq 16, 3) := by decide +kernel
theorem dX5_place_80 : decode cX5_place 80 = .ok (.aload_n 0, 1) := by decide +kernel
theorem dX5_place_81 : decode cX5_place 81 = .ok (.getfield 10, 3) := by decide +kernel
theorem dX5_place_84 : decode cX5_place 84 = .ok (.getfield 137, 3) := by decide +kernel
theorem dX5_place_87 : decode cX5_place 87 = .ok (.iload_n 1, 1) := by decide +kernel
theorem dX5_place_88 : decode cX5_place 88 = .ok (.iload_n 3, 1) := by decide +kernel
theorem dX5_place_89 : decode cX5_place 89 = .ok (.invokestatic 111, 3) := by decide +kernel
theorem dX5_place_92 : decode cX5_place 92 = .ok (.ireturn, 1) := by decide +kernel
theorem dX5_place_93 : decode cX5_place 93 = .ok (.aload_n 0, 1) := by decide +kernel
theorem dX5_place_94 : decode cX5_place 94 = .ok (.iconst 0, 1) := by decide +kernel
theorem dX5_place_95 : decode cX5_place 95 = .ok (.invokevirtual 55, 3) := by decide +kernel
theorem dX5_place_98 : decode cX5_place 98 = .ok (.ireturn, 1) := by decide +kernel
theorem dX5_scares_0 : decode cX5_scares 0 = .ok (.aload_n 0, 1) := by decide +kernel
theorem dX5_scares_1 : decode cX5_scares 1 = .ok (.iload_n 1, 1) := by decide +kernel
theorem dX5_scares_2 : decode cX5_scares 2 = .ok (.invokevirtual 128, 3) := by decide +kernel
theorem dX5_scares_5 : decode cX5_scares 5 = .ok (.ifCond .eq 13, 3) := by decide +kernel
theorem dX5_scares_8 : decode cX5_scares 8 = .ok (.iload_n 2, 1) := by decide +kernel
theorem dX5_scares_9 : decode cX5_scares 9 = .ok (.iconst 0, 1) := by decide +kernel
theorem dX5_scares_10 : decode cX5_scares 10 = .ok (.bipush 12, 2) := by decide +kernel
theorem dX5_scares_12 : decode cX5_scares 12 = .ok (.invokestatic 51, 3) := by decide +kernel
theorem dX5_scares_15 : decode cX5_scares 15 = .ok (.ifCond .ne 9, 3) := by decide +kernel
theorem dX5_scares_18 : decode cX5_scares 18 = .ok (.aload_n 0, 1) := by decide +kernel
theorem dX5_scares_19 : decode cX5_scares 19 = .ok (.iconst 0, 1) := by decide +kernel
theorem dX5_scares_20 : decode cX5_scares 20 = .ok (.invokevirtual 55, 3) := by decide +kernel
theorem dX5_scares_23 : decode cX5_scares 23 = .ok (.ireturn, 1) := by decide +kernel
theorem dX5_scares_24 : decode cX5_scares 24 = .ok (.sipush 1000, 3) := by decide +kernel
theorem dX5_scares_27 : decode cX5_scares 27 = .ok (.aload_n 0, 1) := by decide +kernel
theorem dX5_scares_28 : decode cX5_scares 28 = .ok (.getfield 10, 3) := by decide +kernel
theorem dX5_scares_31 : decode cX5_scares 31 = .ok (.iload_n 1, 1) := by decide +kernel
theorem dX5_scares_32 : decode cX5_scares 32 = .ok (.iload_n 2, 1) := by decide +kernel
theorem dX5_scares_33 : decode cX5_scares 33 = .ok (.invokevirtual 143, 3) := by decide +kernel
theorem dX5_scares_36 : decode cX5_scares 36 = .ok (.iadd, 1) := by decide +kernel
theorem dX5_scares_37 : decode cX5_scares 37 = .ok (.ireturn, 1) := by decide +kernel
theorem dX5_lands_0 : decode cX5_lands 0 = .ok (.aload_n 0, 1) := by decide +kernel
theorem dX5_lands_1 : decode cX5_lands 1 = .ok (.getfield 25, 3) := by decide +kernel
theorem dX5_lands_4 : decode cX5_lands 4 = .ok (.aload_n 0, 1) := by decide +kernel
theorem dX5_lands_5 : decode cX5_lands 5 = .ok (.getfield 10, 3) := by decide +kernel
theorem dX5_lands_8 : decode cX5_lands 8 = .ok (.invokevirtual 62, 3) := by decide +kernel
theorem dX5_lands_11 : decode cX5_lands 11 = .ok (.aload_n 0, 1) := by decide +kernel
theorem dX5_lands_12 : decode cX5_lands 12 = .ok (.getfield 25, 3) := by decide +kernel
theorem dX5_lands_15 : decode cX5_lands 15 = .ok (.aload_n 0, 1) := by decide +kernel
theorem dX5_lands_16 : decode cX5_lands 16 = .ok (.getfield 10, 3) := by decide +kernel
theorem dX5_lands_19 : decode cX5_lands 19 = .ok (.invokevirtual 146, 3) := by decide +kernel
theorem dX5_lands_22 : decode cX5_lands 22 = .ok (.istore_n 1, 1) := by decide +kernel
theorem dX5_lands_23 : decode cX5_lands 23 = .ok (.iload_n 1, 1) := by decide +kernel
theorem dX5_lands_24 : decode cX5_lands 24 = .ok (.ifCond .ge 11, 3) := by decide +kernel
theorem dX5_lands_27 : decode cX5_lands 27 = .ok (.aload_n 0, 1) := by decide +kernel
theorem dX5_lands_28 : decode cX5_lands 28 = .ok (.iconst 3, 1) := by decide +kernel
theorem dX5_lands_29 : decode cX5_lands 29 = .ok (.invokevirtual 55, 3) := by decide +kernel
theorem dX5_lands_32 : decode cX5_lands 32 = .ok (.goto 4, 3) := by decide +kernel
theorem dX5_lands_35 : decode cX5_lands 35 = .ok (.iload_n 1, 1) := by decide +kernel
theorem dX5_lands_36 : decode cX5_lands 36 = .ok (.ireturn, 1) := by decide +kernel
theorem dX5_days_0 : decode cX5_days 0 = .ok (.iload_n 1, 1) := by decide +kernel
theorem dX5_days_1 : decode cX5_days 1 = .ok (.iconst 1, 1) := by decide +kernel
theorem dX5_days_2 : decode cX5_days 2 = .ok (.bipush 60, 2) := by decide +kernel
theorem dX5_days_4 : decode cX5_days 4 = .ok (.invokestatic 51, 3) := by decide +kernel
theorem dX5_days_7 : decode cX5_days 7 = .ok (.ifCond .ne 9, 3) := by decide +kernel
theorem dX5_days_10 : decode cX5_days 10 = .ok (.aload_n 0, 1) := by decide +kernel
theorem dX5_days_11 : decode cX5_days 11 = .ok (.iconst 0, 1) := by decide +kernel
theorem dX5_days_12 : decode cX5_days 12 = .ok (.invokevirtual 55, 3) := by decide +kernel
theorem dX5_days_15 : decode cX5_days 15 = .ok (.ireturn, 1) := by decide +kernel
theorem dX5_days_16 : decode cX5_days 16 = .ok (.aload_n 0, 1) := by decide +kernel
theorem dX5_days_17 : decode cX5_days 17 = .ok (.getfield 10, 3) := by decide +kernel
theorem dX5_days_20 : decode cX5_days 20 = .ok (.getfield 150, 3) := by decide +kernel
theorem dX5_days_23 : decode cX5_days 23 = .ok (.iload_n 1, 1) := by decide +kernel
theorem dX5_days_24 : decode cX5_days 24 = .ok (.iadd, 1) := by decide +kernel
theorem dX5_days_25 : decode cX5_days 25 = .ok (.sipush 9999, 3) := by decide +kernel
theorem dX5_days_28 : decode cX5_days 28 = .ok (.if_icmp .le 9, 3) := by decide +kernel
theorem dX5_days_31 : decode cX5_days 31 = .ok (.aload_n 0, 1) := by decide +kernel
theorem dX5_days_32 : decode cX5_days 32 = .ok (.iconst 4, 1) := by decide +kernel
theorem dX5_days_33 : decode cX5_days 33 = .ok (.invokevirtual 55, 3) := by decide +kernel
theorem dX5_days_36 : decode cX5_days 36 = .ok (.ireturn, 1) := by decide +kernel
theorem dX5_days_37 : decode cX5_days 37 = .ok (.aload_n 0, 1) := by decide +kernel
theorem dX5_days_38 : decode cX5_days 38 = .ok (.getfield 25, 3) := by decide +kernel
theorem dX5_days_41 : decode cX5_days 41 = .ok (.aload_n 0, 1) := by decide +kernel
theorem dX5_days_42 : decode cX5_days 42 = .ok (.getfield 10, 3) := by decide +kernel
theorem dX5_days_45 : decode cX5_days 45 = .ok (.iload_n 1, 1) := by decide +kernel
theorem dX5_days_46 : decode cX5_days 46 = .ok (.ldc 153, 2) := by decide +kernel
theorem dX5_days_48 : decode cX5_days 48 = .ok (.invokevirtual 154, 3) := by decide +kernel
theorem dX5_days_51 : decode cX5_days 51 = .ok (.ireturn, 1) := by decide +kernel
theorem dX5_now_0 : decode cX5_now 0 = .ok (.iload_n 1, 1) := by decide +kernel
theorem dX5_now_1 : decode cX5_now 1 = .ok (.tableswitch 98 0 5 #[39, 47, 55, 63, 71, 90], 39) := by decide +kernel
theorem dX5_now_40 : decode cX5_now 40 = .ok (.aload_n 0, 1) := by decide +kernel
theorem dX5_now_41 : decode cX5_now 41 = .ok (.getfield 10, 3) := by decide +kernel
theorem dX5_now_44 : decode cX5_now 44 = .ok (.getfield 150, 3) := by decide +kernel
theorem dX5_now_47 : decode cX5_now 47 = .ok (.ireturn, 1) := by decide +kernel
theorem dX5_now_48 : decode cX5_now 48 = .ok (.aload_n 0, 1) := by decide +kernel
theorem dX5_now_49 : decode cX5_now 49 = .ok (.getfield 10, 3) := by decide +kernel
theorem dX5_now_52 : decode cX5_now 52 = .ok (.getfield 72, 3) := by decide +kernel
theorem dX5_now_55 : decode cX5_now 55 = .ok (.ireturn, 1) := by decide +kernel
theorem dX5_now_56 : decode cX5_now 56 = .ok (.aload_n 0, 1) := by decide +kernel
theorem dX5_now_57 : decode cX5_now 57 = .ok (.getfield 10, 3) := by decide +kernel
theorem dX5_now_60 : decode cX5_now 60 = .ok (.invokevirtual 158, 3) := by decide +kernel
theorem dX5_now_63 : decode cX5_now 63 = .ok (.ireturn, 1) := by decide +kernel
theorem dX5_now_64 : decode cX5_now 64 = .ok (.aload_n 0, 1) := by decide +kernel
theorem dX5_now_65 : decode cX5_now 65 = .ok (.getfield 10, 3) := by decide +kernel
theorem dX5_now_68 : decode cX5_now 68 = .ok (.invokevirtual 162, 3) := by decide +kernel
theorem dX5_now_71 : decode cX5_now 71 = .ok (.ireturn, 1) := by decide +kernel
theorem dX5_now_72 : decode cX5_now 72 = .ok (.aload_n 0, 1) := by decide +kernel
theorem dX5_now_73 : decode cX5_now 73 = .ok (.getfield 25, 3) := by decide +kernel
theorem dX5_now_76 : decode cX5_now 76 = .ok (.aload_n 0, 1) := by decide +kernel
theorem dX5_now_77 : decode cX5_now 77 = .ok (.getfield 10, 3) := by decide +kernel
theorem dX5_now_80 : decode cX5_now 80 = .ok (.invokevirtual 62, 3) := by decide +kernel
theorem dX5_now_83 : decode cX5_now 83 = .ok (.aload_n 0, 1) := by decide +kernel
theorem dX5_now_84 : decode cX5_now 84 = .ok (.getfield 25, 3) := by decide +kernel
theorem dX5_now_87 : decode cX5_now 87 = .ok (.invokevirtual 165, 3) := by decide +kernel
theorem dX5_now_90 : decode cX5_now 90 = .ok (.ireturn, 1) := by decide +kernel
theorem dX5_now_91 : decode cX5_now 91 = .ok (.aload_n 0, 1) := by decide +kernel
theorem dX5_now_92 : decode cX5_now 92 = .ok (.getfield 10, 3) := by decide +kernel
theorem dX5_now_95 : decode cX5_now 95 = .ok (.invokevirtual 168, 3) := by decide +kernel
theorem dX5_now_98 : decode cX5_now 98 = .ok (.ireturn, 1) := by decide +kernel
theorem dX5_now_99 : decode cX5_now 99 = .ok (.aload_n 0, 1) := by decide +kernel
theorem dX5_now_100 : decode cX5_now 100 = .ok (.iconst 0, 1) := by decide +kernel
theorem dX5_now_101 : decode cX5_now 101 = .ok (.invokevirtual 55, 3) := by decide +kernel
theorem dX5_now_104 : decode cX5_now 104 = .ok (.ireturn, 1) := by decide +kernel
theorem dX5_on_0 : decode cX5_on 0 = .ok (.iload_n 1, 1) := by decide +kernel
theorem dX5_on_1 : decode cX5_on 1 = .ok (.invokestatic 47, 3) := by decide +kernel
theorem dX5_on_4 : decode cX5_on 4 = .ok (.ifCond .eq 13, 3) := by decide +kernel
theorem dX5_on_7 : decode cX5_on 7 = .ok (.iload_n 2, 1) := by decide +kernel
theorem dX5_on_8 : decode cX5_on 8 = .ok (.iconst 0, 1) := by decide +kernel
theorem dX5_on_9 : decode cX5_on 9 = .ok (.bipush 60, 2) := by decide +kernel
theorem dX5_on_11 : decode cX5_on 11 = .ok (.invokestatic 51, 3) := by decide +kernel
theorem dX5_on_14 : decode cX5_on 14 = .ok (.ifCond .ne 9, 3) := by decide +kernel
theorem dX5_on_17 : decode cX5_on 17 = .ok (.aload_n 0, 1) := by decide +kernel
theorem dX5_on_18 : decode cX5_on 18 = .ok (.iconst 0, 1) := by decide +kernel
theorem dX5_on_19 : decode cX5_on 19 = .ok (.invokevirtual 55, 3) := by decide +kernel
theorem dX5_on_22 : decode cX5_on 22 = .ok (.ireturn, 1) := by decide +kernel
theorem dX5_on_23 : decode cX5_on 23 = .ok (.aload_n 0, 1) := by decide +kernel
theorem dX5_on_24 : decode cX5_on 24 = .ok (.iload_n 2, 1) := by decide +kernel
theorem dX5_on_25 : decode cX5_on 25 = .ok (.invokevirtual 171, 3) := by decide +kernel
theorem dX5_on_28 : decode cX5_on 28 = .ok (.pop, 1) := by decide +kernel
theorem dX5_on_29 : decode cX5_on 29 = .ok (.aload_n 0, 1) := by decide +kernel
theorem dX5_on_30 : decode cX5_on 30 = .ok (.getfield 19, 3) := by decide +kernel
theorem dX5_on_33 : decode cX5_on 33 = .ok (.getfield 59, 3) := by decide +kernel
theorem dX5_on_36 : decode cX5_on 36 = .ok (.iload_n 1, 1) := by decide +kernel
theorem dX5_on_37 : decode cX5_on 37 = .ok (.iaload, 1) := by decide +kernel
theorem dX5_on_38 : decode cX5_on 38 = .ok (.ireturn, 1) := by decide +kernel
theorem dX5_eaten_0 : decode cX5_eaten 0 = .ok (.iload_n 1, 1) := by decide +kernel
theorem dX5_eaten_1 : decode cX5_eaten 1 = .ok (.iconst 0, 1) := by decide +kernel
theorem dX5_eaten_2 : decode cX5_eaten 2 = .ok (.bipush 60, 2) := by decide +kernel
theorem dX5_eaten_4 : decode cX5_eaten 4 = .ok (.invokestatic 51, 3) := by decide +kernel
theorem dX5_eaten_7 : decode cX5_eaten 7 = .ok (.ifCond .ne 9, 3) := by decide +kernel
theorem dX5_eaten_10 : decode cX5_eaten 10 = .ok (.aload_n 0, 1) := by decide +kernel
theorem dX5_eaten_11 : decode cX5_eaten 11 = .ok (.iconst 0, 1) := by decide +kernel
theorem dX5_eaten_12 : decode cX5_eaten 12 = .ok (.invokevirtual 55, 3) := by decide +kernel
theorem dX5_eaten_15 : decode cX5_eaten 15 = .ok (.ireturn, 1) := by decide +kernel
theorem dX5_eaten_16 : decode cX5_eaten 16 = .ok (.aload_n 0, 1) := by decide +kernel
theorem dX5_eaten_17 : decode cX5_eaten 17 = .ok (.iload_n 1, 1) := by decide +kernel
theorem dX5_eaten_18 : decode cX5_eaten 18 = .ok (.invokevirtual 171, 3) := by decide +kernel
theorem dX5_eaten_21 : decode cX5_eaten 21 = .ok (.ireturn, 1) := by decide +kernel
theorem dX5_first_0 : decode cX5_first 0 = .ok (.iload_n 1, 1) := by decide +kernel
theorem dX5_first_1 : decode cX5_first 1 = .ok (.invokestatic 47, 3) := by decide +kernel
theorem dX5_first_4 : decode cX5_first 4 = .ok (.ifCond .ne 9, 3) := by decide +kernel
theorem dX5_first_7 : decode cX5_first 7 = .ok (.aload_n 0, 1) := by decide +kernel
theorem dX5_first_8 : decode cX5_first 8 = .ok (.iconst 0, 1) := by decide +kernel
theorem dX5_first_9 : decode cX5_first 9 = .ok (.invokevirtual 55, 3) := by decide +kernel
theorem dX5_first_12 : decode cX5_first 12 = .ok (.ireturn, 1) := by decide +kernel
theorem dX5_first_13 : decode cX5_first 13 = .ok (.aload_n 0, 1) := by decide +kernel
theorem dX5_first_14 : decode cX5_first 14 = .ok (.getfield 19, 3) := by decide +kernel
theorem dX5_first_17 : decode cX5_first 17 = .ok (.aload_n 0, 1) := by decide +kernel
theorem dX5_first_18 : decode cX5_first 18 = .ok (.getfield 10, 3) := by decide +kernel
theorem dX5_first_21 : decode cX5_first 21 = .ok (.invokevirtual 174, 3) := by decide +kernel
theorem dX5_first_24 : decode cX5_first 24 = .ok (.aload_n 0, 1) := by decide +kernel
theorem dX5_first_25 : decode cX5_first 25 = .ok (.getfield 25, 3) := by decide +kernel
theorem dX5_first_28 : decode cX5_first 28 = .ok (.aload_n 0, 1) := by decide +kernel
theorem dX5_first_29 : decode cX5_first 29 = .ok (.getfield 19, 3) := by decide +kernel
theorem dX5_first_32 : decode cX5_first 32 = .ok (.invokevirtual 62, 3) := by decide +kernel
theorem dX5_first_35 : decode cX5_first 35 = .ok (.iconst 1, 1) := by decide +kernel
theorem dX5_first_36 : decode cX5_first 36 = .ok (.istore_n 2, 1) := by decide +kernel
theorem dX5_first_37 : decode cX5_first 37 = .ok (.iload_n 2, 1) := by decide +kernel
theorem dX5_first_38 : decode cX5_first 38 = .ok (.bipush 60, 2) := by decide +kernel
theorem dX5_first_40 : decode cX5_first 40 = .ok (.if_icmp .gt 44, 3) := by decide +kernel
theorem dX5_first_43 : decode cX5_first 43 = .ok (.aload_n 0, 1) := by decide +kernel
theorem dX5_first_44 : decode cX5_first 44 = .ok (.getfield 25, 3) := by decide +kernel
theorem dX5_first_47 : decode cX5_first 47 = .ok (.aload_n 0, 1) := by decide +kernel
theorem dX5_first_48 : decode cX5_first 48 = .ok (.getfield 19, 3) := by decide +kernel
theorem dX5_first_51 : decode cX5_first 51 = .ok (.invokevirtual 177, 3) := by decide +kernel
theorem dX5_first_54 : decode cX5_first 54 = .ok (.pop, 1) := by decide +kernel
theorem dX5_first_55 : decode cX5_first 55 = .ok (.aload_n 0, 1) := by decide +kernel
theorem dX5_first_56 : decode cX5_first 56 = .ok (.getfield 19, 3) := by decide +kernel
theorem dX5_first_59 : decode cX5_first 59 = .ok (.getfield 59, 3) := by decide +kernel
theorem dX5_first_62 : decode cX5_first 62 = .ok (.iload_n 1, 1) := by decide +kernel
theorem dX5_first_63 : decode cX5_first 63 = .ok (.iaload, 1) := by decide +kernel
theorem dX5_first_64 : decode cX5_first 64 = .ok (.aload_n 0, 1) := by decide +kernel
theorem dX5_first_65 : decode cX5_first 65 = .ok (.getfield 10, 3) := by decide +kernel
theorem dX5_first_68 : decode cX5_first 68 = .ok (.getfield 59, 3) := by decide +kernel
theorem dX5_first_71 : decode cX5_first 71 = .ok (.iload_n 1, 1) := by decide +kernel
theorem dX5_first_72 : decode cX5_first 72 = .ok (.iaload, 1) := by decide +kernel
theorem dX5_first_73 : decode cX5_first 73 = .ok (.if_icmp .ge 5, 3) := by decide +kernel
theorem dX5_first_76 : decode cX5_first 76 = .ok (.iload_n 2, 1) := by decide +kernel
theorem dX5_first_77 : decode cX5_first 77 = .ok (.ireturn, 1) := by decide +kernel
theorem dX5_first_78 : decode cX5_first 78 = .ok (.iinc 2 1, 3) := by decide +kernel
theorem dX5_first_81 : decode cX5_first 81 = .ok (.goto (-44), 3) := by decide +kernel
theorem dX5_first_84 : decode cX5_first 84 = .ok (.aload_n 0, 1) := by decide +kernel
theorem dX5_first_85 : decode cX5_first 85 = .ok (.iconst 3, 1) := by decide +kernel
theorem dX5_first_86 : decode cX5_first 86 = .ok (.invokevirtual 55, 3) := by decide +kernel
theorem dX5_first_89 : decode cX5_first 89 = .ok (.ireturn, 1) := by decide +kernel
theorem dX5_spot_0 : decode cX5_spot 0 = .ok (.aload_n 0, 1) := by decide +kernel
theorem dX5_spot_1 : decode cX5_spot 1 = .ok (.iload_n 1, 1) := by decide +kernel
theorem dX5_spot_2 : decode cX5_spot 2 = .ok (.invokevirtual 128, 3) := by decide +kernel
theorem dX5_spot_5 : decode cX5_spot 5 = .ok (.ifCond .eq 13, 3) := by decide +kernel
theorem dX5_spot_8 : decode cX5_spot 8 = .ok (.iload_n 2, 1) := by decide +kernel
theorem dX5_spot_9 : decode cX5_spot 9 = .ok (.iconst 1, 1) := by decide +kernel
theorem dX5_spot_10 : decode cX5_spot 10 = .ok (.bipush 20, 2) := by decide +kernel
theorem dX5_spot_12 : decode cX5_spot 12 = .ok (.invokestatic 51, 3) := by decide +kernel
theorem dX5_spot_15 : decode cX5_spot 15 = .ok (.ifCond .ne 9, 3) := by decide +kernel
theorem dX5_spot_18 : decode cX5_spot 18 = .ok (.aload_n 0, 1) := by decide +kernel
theorem dX5_spot_19 : decode cX5_spot 19 = .ok (.iconst 0, 1) := by decide +kernel
theorem dX5_spot_20 : decode cX5_spot 20 = .ok (.invokevirtual 55, 3) := by decide +kernel
theorem dX5_spot_23 : decode cX5_spot 23 = .ok (.ireturn, 1) := by decide +kernel
theorem dX5_spot_24 : decode cX5_spot 24 = .ok (.aload_n 0, 1) := by decide +kernel
theorem dX5_spot_25 : decode cX5_spot 25 = .ok (.aload_n 0, 1) := by decide +kernel
theorem dX5_spot_26 : decode cX5_spot 26 = .ok (.getfield 19, 3) := by decide +kernel
theorem dX5_spot_29 : decode cX5_spot 29 = .ok (.getfield 131, 3) := by decide +kernel
theorem dX5_spot_32 : decode cX5_spot 32 = .ok (.iload_n 1, 1) := by decide +kernel
theorem dX5_spot_33 : decode cX5_spot 33 = .ok (.bipush 48, 2) := by decide +kernel
theorem dX5_spot_35 : decode cX5_spot 35 = .ok (.iload_n 2, 1) := by decide +kernel
theorem dX5_spot_36 : decode cX5_spot 36 = .ok (.invokevirtual 180, 3) := by decide +kernel
theorem dX5_spot_39 : decode cX5_spot 39 = .ok (.ireturn, 1) := by decide +kernel
theorem dX5_whose_0 : decode cX5_whose 0 = .ok (.aload_n 0, 1) := by decide +kernel
theorem dX5_whose_1 : decode cX5_whose 1 = .ok (.iload_n 1, 1) := by decide +kernel
theorem dX5_whose_2 : decode cX5_whose 2 = .ok (.invokevirtual 128, 3) := by decide +kernel
theorem dX5_whose_5 : decode cX5_whose 5 = .ok (.ifCond .eq 13, 3) := by decide +kernel
theorem dX5_whose_8 : decode cX5_whose 8 = .ok (.iload_n 2, 1) := by decide +kernel
theorem dX5_whose_9 : decode cX5_whose 9 = .ok (.iconst 1, 1) := by decide +kernel
theorem dX5_whose_10 : decode cX5_whose 10 = .ok (.bipush 20, 2) := by decide +kernel
theorem dX5_whose_12 : decode cX5_whose 12 = .ok (.invokestatic 51, 3) := by decide +kernel
theorem dX5_whose_15 : decode cX5_whose 15 = .ok (.ifCond .ne 9, 3) := by decide +kernel
theorem dX5_whose_18 : decode cX5_whose 18 = .ok (.aload_n 0, 1) := by decide +kernel
theorem dX5_whose_19 : decode cX5_whose 19 = .ok (.iconst 0, 1) := by decide +kernel
theorem dX5_whose_20 : decode cX5_whose 20 = .ok (.invokevirtual 55, 3) := by decide +kernel
theorem dX5_whose_23 : decode cX5_whose 23 = .ok (.ireturn, 1) := by decide +kernel
theorem dX5_whose_24 : decode cX5_whose 24 = .ok (.aload_n 0, 1) := by decide +kernel
theorem dX5_whose_25 : decode cX5_whose 25 = .ok (.aload_n 0, 1) := by decide +kernel
theorem dX5_whose_26 : decode cX5_whose 26 = .ok (.getfield 19, 3) := by decide +kernel
theorem dX5_whose_29 : decode cX5_whose 29 = .ok (.getfield 134, 3) := by decide +kernel
theorem dX5_whose_32 : decode cX5_whose 32 = .ok (.iload_n 1, 1) := by decide +kernel
theorem dX5_whose_33 : decode cX5_whose 33 = .ok (.aload_n 0, 1) := by decide +kernel
theorem dX5_whose_34 : decode cX5_whose 34 = .ok (.getfield 10, 3) := by decide +kernel
theorem dX5_whose_37 : decode cX5_whose 37 = .ok (.getfield 79, 3) := by decide +kernel
theorem dX5_whose_40 : decode cX5_whose 40 = .ok (.iload_n 2, 1) := by decide +kernel
theorem dX5_whose_41 : decode cX5_whose 41 = .ok (.invokevirtual 180, 3) := by decide +kernel
theorem dX5_whose_44 : decode cX5_whose 44 = .ok (.ireturn, 1) := by decide +kernel
theorem dX5_kind_0 : decode cX5_kind 0 = .ok (.aload_n 0, 1) := by decide +kernel
theorem dX5_kind_1 : decode cX5_kind 1 = .ok (.iload_n 1, 1) := by decide +kernel
theorem dX5_kind_2 : decode cX5_kind 2 = .ok (.invokevirtual 85, 3) := by decide +kernel
theorem dX5_kind_5 : decode cX5_kind 5 = .ok (.ifCond .eq 13, 3) := by decide +kernel
theorem dX5_kind_8 : decode cX5_kind 8 = .ok (.iload_n 2, 1) := by decide +kernel
theorem dX5_kind_9 : decode cX5_kind 9 = .ok (.iconst 1, 1) := by decide +kernel
theorem dX5_kind_10 : decode cX5_kind 10 = .ok (.bipush 20, 2) := by decide +kernel
theorem dX5_kind_12 : decode cX5_kind 12 = .ok (.invokestatic 51, 3) := by decide +kernel
theorem dX5_kind_15 : decode cX5_kind 15 = .ok (.ifCond .ne 9, 3) := by decide +kernel
theorem dX5_kind_18 : decode cX5_kind 18 = .ok (.aload_n 0, 1) := by decide +kernel
theorem dX5_kind_19 : decode cX5_kind 19 = .ok (.iconst 0, 1) := by decide +kernel
theorem dX5_kind_20 : decode cX5_kind 20 = .ok (.invokevirtual 55, 3) := by decide +kernel
theorem dX5_kind_23 : decode cX5_kind 23 = .ok (.ireturn, 1) := by decide +kernel
theorem dX5_kind_24 : decode cX5_kind 24 = .ok (.aload_n 0, 1) := by decide +kernel
theorem dX5_kind_25 : decode cX5_kind 25 = .ok (.aload_n 0, 1) := by decide +kernel
theorem dX5_kind_26 : decode cX5_kind 26 = .ok (.getfield 19, 3) := by decide +kernel
theorem dX5_kind_29 : decode cX5_kind 29 = .ok (.getfield 88, 3) := by decide +kernel
theorem dX5_kind_32 : decode cX5_kind 32 = .ok (.iload_n 1, 1) := by decide +kernel
theorem dX5_kind_33 : decode cX5_kind 33 = .ok (.bipush 6, 2) := by decide +kernel
theorem dX5_kind_35 : decode cX5_kind 35 = .ok (.iload_n 2, 1) := by decide +kernel
theorem dX5_kind_36 : decode cX5_kind 36 = .ok (.invokevirtual 180, 3) := by decide +kernel
theorem dX5_kind_39 : decode cX5_kind 39 = .ok (.ireturn, 1) := by decide +kernel
theorem dX5_temper_0 : decode cX5_temper 0 = .ok (.aload_n 0, 1) := by decide +kernel
theorem dX5_temper_1 : decode cX5_temper 1 = .ok (.iload_n 1, 1) := by decide +kernel
theorem dX5_temper_2 : decode cX5_temper 2 = .ok (.invokevirtual 85, 3) := by decide +kernel
theorem dX5_temper_5 : decode cX5_temper 5 = .ok (.ifCond .eq 13, 3) := by decide +kernel
theorem dX5_temper_8 : decode cX5_temper 8 = .ok (.iload_n 2, 1) := by decide +kernel
theorem dX5_temper_9 : decode cX5_temper 9 = .ok (.iconst 1, 1) := by decide +kernel
theorem dX5_temper_10 : decode cX5_temper 10 = .ok (.bipush 20, 2) := by decide +kernel
theorem dX5_temper_12 : decode cX5_temper 12 = .ok (.invokestatic 51, 3) := by decide +kernel
theorem dX5_temper_15 : decode cX5_temper 15 = .ok (.ifCond .ne 9, 3) := by decide +kernel
theorem dX5_temper_18 : decode cX5_temper 18 = .ok (.aload_n 0, 1) := by decide +kernel
theorem dX5_temper_19 : decode cX5_temper 19 = .ok (.iconst 0, 1) := by decide +kernel
theorem dX5_temper_20 : decode cX5_temper 20 = .ok (.invokevirtual 55, 3) := by decide +kernel
theorem dX5_temper_23 : decode cX5_temper 23 = .ok (.ireturn, 1) := by decide +kernel
theorem dX5_temper_24 : decode cX5_temper 24 = .ok (.aload_n 0, 1) := by decide +kernel
theorem dX5_temper_25 : decode cX5_temper 25 = .ok (.aload_n 0, 1) := by decide +kernel
theorem dX5_temper_26 : decode cX5_temper 26 = .ok (.getfield 19, 3) := by decide +kernel
theorem dX5_temper_29 : decode cX5_temper 29 = .ok (.getfield 91, 3) := by decide +kernel
theorem dX5_temper_32 : decode cX5_temper 32 = .ok (.iload_n 1, 1) := by decide +kernel
theorem dX5_temper_33 : decode cX5_temper 33 = .ok (.bipush 31, 2) := by decide +kernel
theorem dX5_temper_35 : decode cX5_temper 35 = .ok (.iload_n 2, 1) := by decide +kernel
theorem dX5_temper_36 : decode cX5_temper 36 = .ok (.invokevirtual 180, 3) := by decide +kernel
theorem dX5_temper_39 : decode cX5_temper 39 = .ok (.ireturn, 1) := by decide +kernel
theorem dX5_keep_0 : decode cX5_keep 0 = .ok (.iload_n 1, 1) := by decide +kernel
theorem dX5_keep_1 : decode cX5_keep 1 = .ok (.iconst 1, 1) := by decide +kernel
theorem dX5_keep_2 : decode cX5_keep 2 = .ok (.bipush 10, 2) := by decide +kernel
theorem dX5_keep_4 : decode cX5_keep 4 = .ok (.invokestatic 51, 3) := by decide +kernel
theorem dX5_keep_7 : decode cX5_keep 7 = .ok (.ifCond .ne 9, 3) := by decide +kernel
theorem dX5_keep_10 : decode cX5_keep 10 = .ok (.aload_n 0, 1) := by decide +kernel
theorem dX5_keep_11 : decode cX5_keep 11 = .ok (.iconst 0, 1) := by decide +kernel
theorem dX5_keep_12 : decode cX5_keep 12 = .ok (.invokevirtual 55, 3) := by decide +kernel
theorem dX5_keep_15 : decode cX5_keep 15 = .ok (.ireturn, 1) := by decide +kernel
theorem dX5_keep_16 : decode cX5_keep 16 = .ok (.aload_n 0, 1) := by decide +kernel
theorem dX5_keep_17 : decode cX5_keep 17 = .ok (.getfield 10, 3) := by decide +kernel
theorem dX5_keep_20 : decode cX5_keep 20 = .ok (.invokevirtual 184, 3) := by decide +kernel
theorem dX5_keep_23 : decode cX5_keep 23 = .ok (.istore_n 2, 1) := by decide +kernel
theorem dX5_keep_24 : decode cX5_keep 24 = .ok (.aload_n 0, 1) := by decide +kernel
theorem dX5_keep_25 : decode cX5_keep 25 = .ok (.iload_n 1, 1) := by decide +kernel
theorem dX5_keep_26 : decode cX5_keep 26 = .ok (.invokevirtual 171, 3) := by decide +kernel
theorem dX5_keep_29 : decode cX5_keep 29 = .ok (.istore_n 3, 1) := by decide +kernel
theorem dX5_keep_30 : decode cX5_keep 30 = .ok (.iconst 0, 1) := by decide +kernel
theorem dX5_keep_31 : decode cX5_keep 31 = .ok (.istore 4, 2) := by decide +kernel
theorem dX5_keep_33 : decode cX5_keep 33 = .ok (.iload 4, 2) := by decide +kernel
theorem dX5_keep_35 : decode cX5_keep 35 = .ok (.aload_n 0, 1) := by decide +kernel
theorem dX5_keep_36 : decode cX5_keep 36 = .ok (.getfield 10, 3) := by decide +kernel
theorem dX5_keep_39 : decode cX5_keep 39 = .ok (.getfield 121, 3) := by decide +kernel
theorem dX5_keep_42 : decode cX5_keep 42 = .ok (.if_icmp .ge 51, 3) := by decide +kernel
theorem dX5_keep_45 : decode cX5_keep 45 = .ok (.iconst 0, 1) := by decide +kernel
theorem dX5_keep_46 : decode cX5_keep 46 = .ok (.istore 5, 2) := by decide +kernel
theorem dX5_keep_48 : decode cX5_keep 48 = .ok (.iload 5, 2) := by decide +kernel
theorem dX5_keep_50 : decode cX5_keep 50 = .ok (.iload_n 2, 1) := by decide +kernel
theorem dX5_keep_51 : decode cX5_keep 51 = .ok (.if_icmp .ge 36, 3) := by decide +kernel
theorem dX5_keep_54 : decode cX5_keep 54 = .ok (.iload 5, 2) := by decide +kernel
theorem dX5_keep_56 : decode cX5_keep 56 = .ok (.invokestatic 103, 3) := by decide +kernel
theorem dX5_keep_59 : decode cX5_keep 59 = .ok (.iload 4, 2) := by decide +kernel
theorem dX5_keep_61 : decode cX5_keep 61 = .ok (.if_icmp .ne 20, 3) := by decide +kernel
theorem dX5_keep_64 : decode cX5_keep 64 = .ok (.aload_n 0, 1) := by decide +kernel
theorem dX5_keep_65 : decode cX5_keep 65 = .ok (.iload 5, 2) := by decide +kernel
theorem dX5_keep_67 : decode cX5_keep 67 = .ok (.iload_n 1, 1) := by decide +kernel
theorem dX5_keep_68 : decode cX5_keep 68 = .ok (.iload_n 3, 1) := by decide +kernel
theorem dX5_keep_69 : decode cX5_keep 69 = .ok (.iconst 1, 1) := by decide +kernel
theorem dX5_keep_70 : decode cX5_keep 70 = .ok (.iadd, 1) := by decide +kernel
theorem dX5_keep_71 : decode cX5_keep 71 = .ok (.invokevirtual 187, 3) := by decide +kernel
theorem dX5_keep_74 : decode cX5_keep 74 = .ok (.iload_n 3, 1) := by decide +kernel
theorem dX5_keep_75 : decode cX5_keep 75 = .ok (.if_icmp .gt 6, 3) := by decide +kernel
theorem dX5_keep_78 : decode cX5_keep 78 = .ok (.iload 5, 2) := by decide +kernel
theorem dX5_keep_80 : decode cX5_keep 80 = .ok (.ireturn, 1) := by decide +kernel
theorem dX5_keep_81 : decode cX5_keep 81 = .ok (.iinc 5 1, 3) := by decide +kernel
theorem dX5_keep_84 : decode cX5_keep 84 = .ok (.goto (-36), 3) := by decide +kernel
theorem dX5_keep_87 : decode cX5_keep 87 = .ok (.iinc 4 1, 3) := by decide +kernel
theorem dX5_keep_90 : decode cX5_keep 90 = .ok (.goto (-57), 3) := by decide +kernel
theorem dX5_keep_93 : decode cX5_keep 93 = .ok (.iload_n 2, 1) := by decide +kernel
theorem dX5_keep_94 : decode cX5_keep 94 = .ok (.ireturn, 1) := by decide +kernel
theorem dX5_worth_0 : decode cX5_worth 0 = .ok (.iload_n 1, 1) := by decide +kernel
theorem dX5_worth_1 : decode cX5_worth 1 = .ok (.iconst 1, 1) := by decide +kernel
theorem dX5_worth_2 : decode cX5_worth 2 = .ok (.bipush 20, 2) := by decide +kernel
theorem dX5_worth_4 : decode cX5_worth 4 = .ok (.invokestatic 51, 3) := by decide +kernel
theorem dX5_worth_7 : decode cX5_worth 7 = .ok (.ifCond .ne 9, 3) := by decide +kernel
theorem dX5_worth_10 : decode cX5_worth 10 = .ok (.aload_n 0, 1) := by decide +kernel
theorem dX5_worth_11 : decode cX5_worth 11 = .ok (.iconst 0, 1) := by decide +kernel
theorem dX5_worth_12 : decode cX5_worth 12 = .ok (.invokevirtual 55, 3) := by decide +kernel
theorem dX5_worth_15 : decode cX5_worth 15 = .ok (.ireturn, 1) := by decide +kernel
theorem dX5_worth_16 : decode cX5_worth 16 = .ok (.iconst (-1), 1) := by decide +kernel
theorem dX5_worth_17 : decode cX5_worth 17 = .ok (.istore_n 2, 1) := by decide +kernel
theorem dX5_worth_18 : decode cX5_worth 18 = .ok (.aload_n 0, 1) := by decide +kernel
theorem dX5_worth_19 : decode cX5_worth 19 = .ok (.iload_n 1, 1) := by decide +kernel
theorem dX5_worth_20 : decode cX5_worth 20 = .ok (.invokevirtual 171, 3) := by decide +kernel
theorem dX5_worth_23 : decode cX5_worth 23 = .ok (.istore_n 3, 1) := by decide +kernel
theorem dX5_worth_24 : decode cX5_worth 24 = .ok (.iconst 0, 1) := by decide +kernel
theorem dX5_worth_25 : decode cX5_worth 25 = .ok (.istore 4, 2) := by decide +kernel
theorem dX5_worth_27 : decode cX5_worth 27 = .ok (.iload 4, 2) := by decide +kernel
theorem dX5_worth_29 : decode cX5_worth 29 = .ok (.aload_n 0, 1) := by decide +kernel
theorem dX5_worth_30 : decode cX5_worth 30 = .ok (.getfield 10, 3) := by decide +kernel
theorem dX5_worth_33 : decode cX5_worth 33 = .ok (.getfield 79, 3) := by decide +kernel
theorem dX5_worth_36 : decode cX5_worth 36 = .ok (.if_icmp .ge 53, 3) := by decide +kernel
theorem dX5_worth_39 : decode cX5_worth 39 = .ok (.aload_n 0, 1) := by decide +kernel
theorem dX5_worth_40 : decode cX5_worth 40 = .ok (.getfield 10, 3) := by decide +kernel
theorem dX5_worth_43 : decode cX5_worth 43 = .ok (.invokevirtual 184, 3) := by decide +kernel
theorem dX5_worth_46 : decode cX5_worth 46 = .ok (.aload_n 0, 1) := by decide +kernel
theorem dX5_worth_47 : decode cX5_worth 47 = .ok (.getfield 10, 3) := by decide +kernel
theorem dX5_worth_50 : decode cX5_worth 50 = .ok (.iload 4, 2) := by decide +kernel
theorem dX5_worth_52 : decode cX5_worth 52 = .ok (.invokevirtual 100, 3) := by decide +kernel
theorem dX5_worth_55 : decode cX5_worth 55 = .ok (.iconst (-1), 1) := by decide +kernel
theorem dX5_worth_56 : decode cX5_worth 56 = .ok (.ixor, 1) := by decide +kernel
theorem dX5_worth_57 : decode cX5_worth 57 = .ok (.iand, 1) := by decide +kernel
theorem dX5_worth_58 : decode cX5_worth 58 = .ok (.istore 5, 2) := by decide +kernel
theorem dX5_worth_60 : decode cX5_worth 60 = .ok (.aload_n 0, 1) := by decide +kernel
theorem dX5_worth_61 : decode cX5_worth 61 = .ok (.iload 5, 2) := by decide +kernel
theorem dX5_worth_63 : decode cX5_worth 63 = .ok (.iload_n 1, 1) := by decide +kernel
theorem dX5_worth_64 : decode cX5_worth 64 = .ok (.ldc 153, 2) := by decide +kernel
theorem dX5_worth_66 : decode cX5_worth 66 = .ok (.invokevirtual 187, 3) := by decide +kernel
theorem dX5_worth_69 : decode cX5_worth 69 = .ok (.istore 6, 2) := by decide +kernel
theorem dX5_worth_71 : decode cX5_worth 71 = .ok (.iload 6, 2) := by decide +kernel
theorem dX5_worth_73 : decode cX5_worth 73 = .ok (.iload_n 3, 1) := by decide +kernel
theorem dX5_worth_74 : decode cX5_worth 74 = .ok (.if_icmp .le 9, 3) := by decide +kernel
theorem dX5_worth_77 : decode cX5_worth 77 = .ok (.iload 6, 2) := by decide +kernel
theorem dX5_worth_79 : decode cX5_worth 79 = .ok (.istore_n 3, 1) := by decide +kernel
theorem dX5_worth_80 : decode cX5_worth 80 = .ok (.iload 4, 2) := by decide +kernel
theorem dX5_worth_82 : decode cX5_worth 82 = .ok (.istore_n 2, 1) := by decide +kernel
theorem dX5_worth_83 : decode cX5_worth 83 = .ok (.iinc 4 1, 3) := by decide +kernel
theorem dX5_worth_86 : decode cX5_worth 86 = .ok (.goto (-59), 3) := by decide +kernel
theorem dX5_worth_89 : decode cX5_worth 89 = .ok (.iload_n 2, 1) := by decide +kernel
theorem dX5_worth_90 : decode cX5_worth 90 = .ok (.ifCond .ge 11, 3) := by decide +kernel
theorem dX5_worth_93 : decode cX5_worth 93 = .ok (.aload_n 0, 1) := by decide +kernel
theorem dX5_worth_94 : decode cX5_worth 94 = .ok (.iconst 3, 1) := by decide +kernel
theorem dX5_worth_95 : decode cX5_worth 95 = .ok (.invokevirtual 55, 3) := by decide +kernel
theorem dX5_worth_98 : decode cX5_worth 98 = .ok (.goto 4, 3) := by decide +kernel
theorem dX5_worth_101 : decode cX5_worth 101 = .ok (.iload_n 2, 1) := by decide +kernel
theorem dX5_worth_102 : decode cX5_worth 102 = .ok (.ireturn, 1) := by decide +kernel
theorem dX5_apart_0 : decode cX5_apart 0 = .ok (.aload_n 0, 1) := by decide +kernel
theorem dX5_apart_1 : decode cX5_apart 1 = .ok (.iload_n 1, 1) := by decide +kernel
theorem dX5_apart_2 : decode cX5_apart 2 = .ok (.invokevirtual 128, 3) := by decide +kernel
theorem dX5_apart_5 : decode cX5_apart 5 = .ok (.ifCond .ne 9, 3) := by decide +kernel
theorem dX5_apart_8 : decode cX5_apart 8 = .ok (.aload_n 0, 1) := by decide +kernel
theorem dX5_apart_9 : decode cX5_apart 9 = .ok (.iconst 0, 1) := by decide +kernel
theorem dX5_apart_10 : decode cX5_apart 10 = .ok (.invokevirtual 55, 3) := by decide +kernel
theorem dX5_apart_13 : decode cX5_apart 13 = .ok (.ireturn, 1) := by decide +kernel
theorem dX5_apart_14 : decode cX5_apart 14 = .ok (.aload_n 0, 1) := by decide +kernel
theorem dX5_apart_15 : decode cX5_apart 15 = .ok (.getfield 10, 3) := by decide +kernel
theorem dX5_apart_18 : decode cX5_apart 18 = .ok (.getfield 134, 3) := by decide +kernel
theorem dX5_apart_21 : decode cX5_apart 21 = .ok (.iload_n 1, 1) := by decide +kernel
theorem dX5_apart_22 : decode cX5_apart 22 = .ok (.iaload, 1) := by decide +kernel
theorem dX5_apart_23 : decode cX5_apart 23 = .ok (.istore_n 2, 1) := by decide +kernel
theorem dX5_apart_24 : decode cX5_apart 24 = .ok (.aload_n 0, 1) := by decide +kernel
theorem dX5_apart_25 : decode cX5_apart 25 = .ok (.getfield 10, 3) := by decide +kernel
theorem dX5_apart_28 : decode cX5_apart 28 = .ok (.getfield 131, 3) := by decide +kernel
theorem dX5_apart_31 : decode cX5_apart 31 = .ok (.iload_n 1, 1) := by decide +kernel
theorem dX5_apart_32 : decode cX5_apart 32 = .ok (.iaload, 1) := by decide +kernel
theorem dX5_apart_33 : decode cX5_apart 33 = .ok (.istore_n 3, 1) := by decide +kernel
theorem dX5_apart_34 : decode cX5_apart 34 = .ok (.iload_n 3, 1) := by decide +kernel
theorem dX5_apart_35 : decode cX5_apart 35 = .ok (.istore 4, 2) := by decide +kernel
theorem dX5_apart_37 : decode cX5_apart 37 = .ok (.aload_n 0, 1) := by decide +kernel
theorem dX5_apart_38 : decode cX5_apart 38 = .ok (.getfield 10, 3) := by decide +kernel
theorem dX5_apart_41 : decode cX5_apart 41 = .ok (.iload_n 2, 1) := by decide +kernel
theorem dX5_apart_42 : decode cX5_apart 42 = .ok (.invokevirtual 108, 3) := by decide +kernel
theorem dX5_apart_45 : decode cX5_apart 45 = .ok (.istore 5, 2) := by decide +kernel
theorem dX5_apart_47 : decode cX5_apart 47 = .ok (.iconst 0, 1) := by decide +kernel
theorem dX5_apart_48 : decode cX5_apart 48 = .ok (.istore 6, 2) := by decide +kernel
theorem dX5_apart_50 : decode cX5_apart 50 = .ok (.aload_n 0, 1) := by decide +kernel
theorem dX5_apart_51 : decode cX5_apart 51 = .ok (.getfield 19, 3) := by decide +kernel
theorem dX5_apart_54 : decode cX5_apart 54 = .ok (.aload_n 0, 1) := by decide +kernel
theorem dX5_apart_55 : decode cX5_apart 55 = .ok (.getfield 10, 3) := by decide +kernel
theorem dX5_apart_58 : decode cX5_apart 58 = .ok (.invokevirtual 174, 3) := by decide +kernel
theorem dX5_apart_61 : decode cX5_apart 61 = .ok (.iconst 0, 1) := by decide +kernel
theorem dX5_apart_62 : decode cX5_apart 62 = .ok (.istore 7, 2) := by decide +kernel
theorem dX5_apart_64 : decode cX5_apart 64 = .ok (.iload 7, 2) := by decide +kernel
theorem dX5_apart_66 : decode cX5_apart 66 = .ok (.bipush 48, 2) := by decide +kernel
theorem dX5_apart_68 : decode cX5_apart 68 = .ok (.if_icmp .ge 71, 3) := by decide +kernel
theorem dX5_apart_71 : decode cX5_apart 71 = .ok (.aload_n 0, 1) := by decide +kernel
theorem dX5_apart_72 : decode cX5_apart 72 = .ok (.getfield 19, 3) := by decide +kernel
theorem dX5_apart_75 : decode cX5_apart 75 = .ok (.getfield 131, 3) := by decide +kernel
theorem dX5_apart_78 : decode cX5_apart 78 = .ok (.iload_n 1, 1) := by decide +kernel
theorem dX5_apart_79 : decode cX5_apart 79 = .ok (.iload 7, 2) := by decide +kernel
theorem dX5_apart_81 : decode cX5_apart 81 = .ok (.iastore, 1) := by decide +kernel
theorem dX5_apart_82 : decode cX5_apart 82 = .ok (.aload_n 0, 1) := by decide +kernel
theorem dX5_apart_83 : decode cX5_apart 83 = .ok (.getfield 19, 3) := by decide +kernel
theorem dX5_apart_86 : decode cX5_apart 86 = .ok (.iload_n 2, 1) := by decide +kernel
theorem dX5_apart_87 : decode cX5_apart 87 = .ok (.invokevirtual 108, 3) := by decide +kernel
theorem dX5_apart_90 : decode cX5_apart 90 = .ok (.istore 8, 2) := by decide +kernel
theorem dX5_apart_92 : decode cX5_apart 92 = .ok (.iload_n 3, 1) := by decide +kernel
theorem dX5_apart_93 : decode cX5_apart 93 = .ok (.iload 7, 2) := by decide +kernel
theorem dX5_apart_95 : decode cX5_apart 95 = .ok (.invokestatic 191, 3) := by decide +kernel
theorem dX5_apart_98 : decode cX5_apart 98 = .ok (.istore 9, 2) := by decide +kernel
theorem dX5_apart_100 : decode cX5_apart 100 = .ok (.iload 8, 2) := by decide +kernel
theorem dX5_apart_102 : decode cX5_apart 102 = .ok (.iload 5, 2) := by decide +kernel
theorem dX5_apart_104 : decode cX5_apart 104 = .ok (.if_icmp .lt 17, 3) := by decide +kernel
theorem dX5_apart_107 : decode cX5_apart 107 = .ok (.iload 8, 2) := by decide +kernel
theorem dX5_apart_109 : decode cX5_apart 109 = .ok (.iload 5, 2) := by decide +kernel
theorem dX5_apart_111 : decode cX5_apart 111 = .ok (.if_icmp .ne 22, 3) := by decide +kernel
theorem dX5_apart_114 : decode cX5_apart 114 = .ok (.iload 9, 2) := by decide +kernel
theorem dX5_apart_116 : decode cX5_apart 116 = .ok (.iload 6, 2) := by decide +kernel
theorem dX5_apart_118 : decode cX5_apart 118 = .ok (.if_icmp .ge 15, 3) := by decide +kernel
theorem dX5_apart_121 : decode cX5_apart 121 = .ok (.iload 8, 2) := by decide +kernel
theorem dX5_apart_123 : decode cX5_apart 123 = .ok (.istore 5, 2) := by decide +kernel
theorem dX5_apart_125 : decode cX5_apart 125 = .ok (.iload 9, 2) := by decide +kernel
theorem dX5_apart_127 : decode cX5_apart 127 = .ok (.istore 6, 2) := by decide +kernel
theorem dX5_apart_129 : decode cX5_apart 129 = .ok (.iload 7, 2) := by decide +kernel
theorem dX5_apart_131 : decode cX5_apart 131 = .ok (.istore 4, 2) := by decide +kernel
theorem dX5_apart_133 : decode cX5_apart 133 = .ok (.iinc 7 1, 3) := by decide +kernel
theorem dX5_apart_136 : decode cX5_apart 136 = .ok (.goto (-72), 3) := by decide +kernel
theorem dX5_apart_139 : decode cX5_apart 139 = .ok (.iload 4, 2) := by decide +kernel
theorem dX5_apart_141 : decode cX5_apart 141 = .ok (.ireturn, 1) := by decide +kernel
theorem dX5_swap_0 : decode cX5_swap 0 = .ok (.iload_n 1, 1) := by decide +kernel
theorem dX5_swap_1 : decode cX5_swap 1 = .ok (.iconst 1, 1) := by decide +kernel
theorem dX5_swap_2 : decode cX5_swap 2 = .ok (.bipush 20, 2) := by decide +kernel
theorem dX5_swap_4 : decode cX5_swap 4 = .ok (.invokestatic 51, 3) := by decide +kernel
theorem dX5_swap_7 : decode cX5_swap 7 = .ok (.ifCond .ne 9, 3) := by decide +kernel
theorem dX5_swap_10 : decode cX5_swap 10 = .ok (.aload_n 0, 1) := by decide +kernel
theorem dX5_swap_11 : decode cX5_swap 11 = .ok (.iconst 0, 1) := by decide +kernel
theorem dX5_swap_12 : decode cX5_swap 12 = .ok (.invokevirtual 55, 3) := by decide +kernel
theorem dX5_swap_15 : decode cX5_swap 15 = .ok (.ireturn, 1) := by decide +kernel
theorem dX5_swap_16 : decode cX5_swap 16 = .ok (.iconst (-1), 1) := by decide +kernel
theorem dX5_swap_17 : decode cX5_swap 17 = .ok (.istore_n 2, 1) := by decide +kernel
theorem dX5_swap_18 : decode cX5_swap 18 = .ok (.aload_n 0, 1) := by decide +kernel
theorem dX5_swap_19 : decode cX5_swap 19 = .ok (.iload_n 1, 1) := by decide +kernel
theorem dX5_swap_20 : decode cX5_swap 20 = .ok (.invokevirtual 171, 3) := by decide +kernel
theorem dX5_swap_23 : decode cX5_swap 23 = .ok (.istore_n 3, 1) := by decide +kernel
theorem dX5_swap_24 : decode cX5_swap 24 = .ok (.iconst 0, 1) := by decide +kernel
theorem dX5_swap_25 : decode cX5_swap 25 = .ok (.istore 4, 2) := by decide +kernel
theorem dX5_swap_27 : decode cX5_swap 27 = .ok (.iload 4, 2) := by decide +kernel
theorem dX5_swap_29 : decode cX5_swap 29 = .ok (.aload_n 0, 1) := by decide +kernel
theorem dX5_swap_30 : decode cX5_swap 30 = .ok (.getfield 10, 3) := by decide +kernel
theorem dX5_swap_33 : decode cX5_swap 33 = .ok (.getfield 121, 3) := by decide +kernel
theorem dX5_swap_36 : decode cX5_swap 36 = .ok (.if_icmp .ge 63, 3) := by decide +kernel
theorem dX5_swap_39 : decode cX5_swap 39 = .ok (.iload 4, 2) := by decide +kernel
theorem dX5_swap_41 : decode cX5_swap 41 = .ok (.iconst 1, 1) := by decide +kernel
theorem dX5_swap_42 : decode cX5_swap 42 = .ok (.iadd, 1) := by decide +kernel
theorem dX5_swap_43 : decode cX5_swap 43 = .ok (.istore 5, 2) := by decide +kernel
theorem dX5_swap_45 : decode cX5_swap 45 = .ok (.iload 5, 2) := by decide +kernel
theorem dX5_swap_47 : decode cX5_swap 47 = .ok (.aload_n 0, 1) := by decide +kernel
theorem dX5_swap_48 : decode cX5_swap 48 = .ok (.getfield 10, 3) := by decide +kernel
theorem dX5_swap_51 : decode cX5_swap 51 = .ok (.getfield 121, 3) := by decide +kernel
theorem dX5_swap_54 : decode cX5_swap 54 = .ok (.if_icmp .ge 39, 3) := by decide +kernel
theorem dX5_swap_57 : decode cX5_swap 57 = .ok (.aload_n 0, 1) := by decide +kernel
theorem dX5_swap_58 : decode cX5_swap 58 = .ok (.iload 4, 2) := by decide +kernel
theorem dX5_swap_60 : decode cX5_swap 60 = .ok (.iload 5, 2) := by decide +kernel
theorem dX5_swap_62 : decode cX5_swap 62 = .ok (.iload_n 1, 1) := by decide +kernel
theorem dX5_swap_63 : decode cX5_swap 63 = .ok (.iload_n 3, 1) := by decide +kernel
theorem dX5_swap_64 : decode cX5_swap 64 = .ok (.invokevirtual 194, 3) := by decide +kernel
theorem dX5_swap_67 : decode cX5_swap 67 = .ok (.istore 6, 2) := by decide +kernel
theorem dX5_swap_69 : decode cX5_swap 69 = .ok (.iload 6, 2) := by decide +kernel
theorem dX5_swap_71 : decode cX5_swap 71 = .ok (.iload_n 3, 1) := by decide +kernel
theorem dX5_swap_72 : decode cX5_swap 72 = .ok (.if_icmp .ge 15, 3) := by decide +kernel
theorem dX5_swap_75 : decode cX5_swap 75 = .ok (.iload 6, 2) := by decide +kernel
theorem dX5_swap_77 : decode cX5_swap 77 = .ok (.istore_n 3, 1) := by decide +kernel
theorem dX5_swap_78 : decode cX5_swap 78 = .ok (.bipush 10, 2) := by decide +kernel
theorem dX5_swap_80 : decode cX5_swap 80 = .ok (.iload 4, 2) := by decide +kernel
theorem dX5_swap_82 : decode cX5_swap 82 = .ok (.imul, 1) := by decide +kernel
theorem dX5_swap_83 : decode cX5_swap 83 = .ok (.iload 5, 2) := by decide +kernel
theorem dX5_swap_85 : decode cX5_swap 85 = .ok (.iadd, 1) := by decide +kernel
theorem dX5_swap_86 : decode cX5_swap 86 = .ok (.istore_n 2, 1) := by decide +kernel
theorem dX5_swap_87 : decode cX5_swap 87 = .ok (.iinc 5 1, 3) := by decide +kernel
theorem dX5_swap_90 : decode cX5_swap 90 = .ok (.goto (-45), 3) := by decide +kernel
theorem dX5_swap_93 : decode cX5_swap 93 = .ok (.iinc 4 1, 3) := by decide +kernel
theorem dX5_swap_96 : decode cX5_swap 96 = .ok (.goto (-69), 3) := by decide +kernel
theorem dX5_swap_99 : decode cX5_swap 99 = .ok (.iload_n 2, 1) := by decide +kernel
theorem dX5_swap_100 : decode cX5_swap 100 = .ok (.ifCond .ge 11, 3) := by decide +kernel
theorem dX5_swap_103 : decode cX5_swap 103 = .ok (.aload_n 0, 1) := by decide +kernel
theorem dX5_swap_104 : decode cX5_swap 104 = .ok (.iconst 3, 1) := by decide +kernel
theorem dX5_swap_105 : decode cX5_swap 105 = .ok (.invokevirtual 55, 3) := by decide +kernel
theorem dX5_swap_108 : decode cX5_swap 108 = .ok (.goto 4, 3) := by decide +kernel
theorem dX5_swap_111 : decode cX5_swap 111 = .ok (.iload_n 2, 1) := by decide +kernel
theorem dX5_swap_112 : decode cX5_swap 112 = .ok (.ireturn, 1) := by decide +kernel
theorem dX5_feed_0 : decode cX5_feed 0 = .ok (.iload_n 2, 1) := by decide +kernel
theorem dX5_feed_1 : decode cX5_feed 1 = .ok (.iconst 1, 1) := by decide +kernel
theorem dX5_feed_2 : decode cX5_feed 2 = .ok (.iconst 4, 1) := by decide +kernel
theorem dX5_feed_3 : decode cX5_feed 3 = .ok (.invokestatic 51, 3) := by decide +kernel
theorem dX5_feed_6 : decode cX5_feed 6 = .ok (.ifCond .ne 9, 3) := by decide +kernel
theorem dX5_feed_9 : decode cX5_feed 9 = .ok (.aload_n 0, 1) := by decide +kernel
theorem dX5_feed_10 : decode cX5_feed 10 = .ok (.iconst 0, 1) := by decide +kernel
theorem dX5_feed_11 : decode cX5_feed 11 = .ok (.invokevirtual 55, 3) := by decide +kernel
theorem dX5_feed_14 : decode cX5_feed 14 = .ok (.ireturn, 1) := by decide +kernel
theorem dX5_feed_15 : decode cX5_feed 15 = .ok (.aload_n 0, 1) := by decide +kernel
theorem dX5_feed_16 : decode cX5_feed 16 = .ok (.getfield 32, 3) := by decide +kernel
theorem dX5_feed_19 : decode cX5_feed 19 = .ok (.getfield 198, 3) := by decide +kernel
theorem dX5_feed_22 : decode cX5_feed 22 = .ok (.iload_n 2, 1) := by decide +kernel
theorem dX5_feed_23 : decode cX5_feed 23 = .ok (.iadd, 1) := by decide +kernel
theorem dX5_feed_24 : decode cX5_feed 24 = .ok (.bipush 120, 2) := by decide +kernel
theorem dX5_feed_26 : decode cX5_feed 26 = .ok (.if_icmp .le 9, 3) := by decide +kernel
theorem dX5_feed_29 : decode cX5_feed 29 = .ok (.aload_n 0, 1) := by decide +kernel
theorem dX5_feed_30 : decode cX5_feed 30 = .ok (.iconst 1, 1) := by decide +kernel
theorem dX5_feed_31 : decode cX5_feed 31 = .ok (.invokevirtual 55, 3) := by decide +kernel
theorem dX5_feed_34 : decode cX5_feed 34 = .ok (.ireturn, 1) := by decide +kernel
theorem dX5_feed_35 : decode cX5_feed 35 = .ok (.iload_n 2, 1) := by decide +kernel
theorem dX5_feed_36 : decode cX5_feed 36 = .ok (.iconst 1, 1) := by decide +kernel
theorem dX5_feed_37 : decode cX5_feed 37 = .ok (.isub, 1) := by decide +kernel
theorem dX5_feed_38 : decode cX5_feed 38 = .ok (.istore_n 3, 1) := by decide +kernel
theorem dX5_feed_39 : decode cX5_feed 39 = .ok (.iload_n 3, 1) := by decide +kernel
theorem dX5_feed_40 : decode cX5_feed 40 = .ok (.ifCond .lt 26, 3) := by decide +kernel
theorem dX5_feed_43 : decode cX5_feed 43 = .ok (.aload_n 0, 1) := by decide +kernel
theorem dX5_feed_44 : decode cX5_feed 44 = .ok (.getfield 32, 3) := by decide +kernel
theorem dX5_feed_47 : decode cX5_feed 47 = .ok (.iload_n 1, 1) := by decide +kernel
theorem dX5_feed_48 : decode cX5_feed 48 = .ok (.bipush 8, 2) := by decide +kernel
theorem dX5_feed_50 : decode cX5_feed 50 = .ok (.iload_n 3, 1) := by decide +kernel
theorem dX5_feed_51 : decode cX5_feed 51 = .ok (.imul, 1) := by decide +kernel
theorem dX5_feed_52 : decode cX5_feed 52 = .ok (.ishr, 1) := by decide +kernel
theorem dX5_feed_53 : decode cX5_feed 53 = .ok (.sipush 255, 3) := by decide +kernel
theorem dX5_feed_56 : decode cX5_feed 56 = .ok (.iand, 1) := by decide +kernel
theorem dX5_feed_57 : decode cX5_feed 57 = .ok (.invokevirtual 201, 3) := by decide +kernel
theorem dX5_feed_60 : decode cX5_feed 60 = .ok (.iinc 3 (-1), 3) := by decide +kernel
theorem dX5_feed_63 : decode cX5_feed 63 = .ok (.goto (-24), 3) := by decide +kernel
theorem dX5_feed_66 : decode cX5_feed 66 = .ok (.aload_n 0, 1) := by decide +kernel
theorem dX5_feed_67 : decode cX5_feed 67 = .ok (.getfield 32, 3) := by decide +kernel
theorem dX5_feed_70 : decode cX5_feed 70 = .ok (.getfield 198, 3) := by decide +kernel
theorem dX5_feed_73 : decode cX5_feed 73 = .ok (.ireturn, 1) := by decide +kernel
theorem dX5_wipe_0 : decode cX5_wipe 0 = .ok (.aload_n 0, 1) := by decide +kernel
theorem dX5_wipe_1 : decode cX5_wipe 1 = .ok (.getfield 32, 3) := by decide +kernel
theorem dX5_wipe_4 : decode cX5_wipe 4 = .ok (.getfield 198, 3) := by decide +kernel
theorem dX5_wipe_7 : decode cX5_wipe 7 = .ok (.istore_n 1, 1) := by decide +kernel
theorem dX5_wipe_8 : decode cX5_wipe 8 = .ok (.aload_n 0, 1) := by decide +kernel
theorem dX5_wipe_9 : decode cX5_wipe 9 = .ok (.getfield 32, 3) := by decide +kernel
theorem dX5_wipe_12 : decode cX5_wipe 12 = .ok (.iconst 0, 1) := by decide +kernel
theorem dX5_wipe_13 : decode cX5_wipe 13 = .ok (.putfield 198, 3) := by decide +kernel
theorem dX5_wipe_16 : decode cX5_wipe 16 = .ok (.iload_n 1, 1) := by decide +kernel
theorem dX5_wipe_17 : decode cX5_wipe 17 = .ok (.ireturn, 1) := by decide +kernel
theorem dX5_plain_0 : decode cX5_plain 0 = .ok (.aload_n 0, 1) := by decide +kernel
theorem dX5_plain_1 : decode cX5_plain 1 = .ok (.getfield 19, 3) := by decide +kernel
theorem dX5_plain_4 : decode cX5_plain 4 = .ok (.aload_n 0, 1) := by decide +kernel
theorem dX5_plain_5 : decode cX5_plain 5 = .ok (.getfield 10, 3) := by decide +kernel
theorem dX5_plain_8 : decode cX5_plain 8 = .ok (.invokevirtual 174, 3) := by decide +kernel
theorem dX5_plain_11 : decode cX5_plain 11 = .ok (.aload_n 0, 1) := by decide +kernel
theorem dX5_plain_12 : decode cX5_plain 12 = .ok (.getfield 32, 3) := by decide +kernel
theorem dX5_plain_15 : decode cX5_plain 15 = .ok (.aload_n 0, 1) := by decide +kernel
theorem dX5_plain_16 : decode cX5_plain 16 = .ok (.getfield 19, 3) := by decide +kernel
theorem dX5_plain_19 : decode cX5_plain 19 = .ok (.invokevirtual 205, 3) := by decide +kernel
theorem dX5_plain_22 : decode cX5_plain 22 = .ok (.istore_n 1, 1) := by decide +kernel
theorem dX5_plain_23 : decode cX5_plain 23 = .ok (.aload_n 0, 1) := by decide +kernel
theorem dX5_plain_24 : decode cX5_plain 24 = .ok (.getfield 32, 3) := by decide +kernel
theorem dX5_plain_27 : decode cX5_plain 27 = .ok (.iconst 0, 1) := by decide +kernel
theorem dX5_plain_28 : decode cX5_plain 28 = .ok (.putfield 198, 3) := by decide +kernel
theorem dX5_plain_31 : decode cX5_plain 31 = .ok (.iload_n 1, 1) := by decide +kernel
theorem dX5_plain_32 : decode cX5_plain 32 = .ok (.ifCond .lt 14, 3) := by decide +kernel
theorem dX5_plain_35 : decode cX5_plain 35 = .ok (.aload_n 0, 1) := by decide +kernel
theorem dX5_plain_36 : decode cX5_plain 36 = .ok (.getfield 10, 3) := by decide +kernel
theorem dX5_plain_39 : decode cX5_plain 39 = .ok (.aload_n 0, 1) := by decide +kernel
theorem dX5_plain_40 : decode cX5_plain 40 = .ok (.getfield 19, 3) := by decide +kernel
theorem dX5_plain_43 : decode cX5_plain 43 = .ok (.invokevirtual 174, 3) := by decide +kernel
theorem dX5_plain_46 : decode cX5_plain 46 = .ok (.iload_n 1, 1) := by decide +kernel
theorem dX5_plain_47 : decode cX5_plain 47 = .ok (.ireturn, 1) := by decide +kernel
theorem dX5_sheet_0 : decode cX5_sheet 0 = .ok (.iload_n 1, 1) := by decide +kernel
theorem dX5_sheet_1 : decode cX5_sheet 1 = .ok (.invokestatic 208, 3) := by decide +kernel
theorem dX5_sheet_4 : decode cX5_sheet 4 = .ok (.ifCond .eq 25, 3) := by decide +kernel
theorem dX5_sheet_7 : decode cX5_sheet 7 = .ok (.iload_n 2, 1) := by decide +kernel
theorem dX5_sheet_8 : decode cX5_sheet 8 = .ok (.ifCond .eq 27, 3) := by decide +kernel
theorem dX5_sheet_11 : decode cX5_sheet 11 = .ok (.iload_n 2, 1) := by decide +kernel
theorem dX5_sheet_12 : decode cX5_sheet 12 = .ok (.bipush 8, 2) := by decide +kernel
theorem dX5_sheet_14 : decode cX5_sheet 14 = .ok (.if_icmp .eq 21, 3) := by decide +kernel
theorem dX5_sheet_17 : decode cX5_sheet 17 = .ok (.iload_n 2, 1) := by decide +kernel
theorem dX5_sheet_18 : decode cX5_sheet 18 = .ok (.bipush 16, 2) := by decide +kernel
theorem dX5_sheet_20 : decode cX5_sheet 20 = .ok (.if_icmp .eq 15, 3) := by decide +kernel
theorem dX5_sheet_23 : decode cX5_sheet 23 = .ok (.iload_n 2, 1) := by decide +kernel
theorem dX5_sheet_24 : decode cX5_sheet 24 = .ok (.bipush 64, 2) := by decide +kernel
theorem dX5_sheet_26 : decode cX5_sheet 26 = .ok (.if_icmp .eq 9, 3) := by decide +kernel
theorem dX5_sheet_29 : decode cX5_sheet 29 = .ok (.aload_n 0, 1) := by decide +kernel
theorem dX5_sheet_30 : decode cX5_sheet 30 = .ok (.iconst 0, 1) := by decide +kernel
theorem dX5_sheet_31 : decode cX5_sheet 31 = .ok (.invokevirtual 55, 3) := by decide +kernel
theorem dX5_sheet_34 : decode cX5_sheet 34 = .ok (.ireturn, 1) := by decide +kernel
theorem dX5_sheet_35 : decode cX5_sheet 35 = .ok (.iload_n 3, 1) := by decide +kernel
theorem dX5_sheet_36 : decode cX5_sheet 36 = .ok (.ifCond .ge 10, 3) := by decide +kernel
theorem dX5_sheet_39 : decode cX5_sheet 39 = .ok (.aload_n 0, 1) := by decide +kernel
theorem dX5_sheet_40 : decode cX5_sheet 40 = .ok (.bipush 6, 2) := by decide +kernel
theorem dX5_sheet_42 : decode cX5_sheet 42 = .ok (.invokevirtual 55, 3) := by decide +kernel
theorem dX5_sheet_45 : decode cX5_sheet 45 = .ok (.ireturn, 1) := by decide +kernel
theorem dX5_sheet_46 : decode cX5_sheet 46 = .ok (.iload_n 3, 1) := by decide +kernel
theorem dX5_sheet_47 : decode cX5_sheet 47 = .ok (.bipush 40, 2) := by decide +kernel
theorem dX5_sheet_49 : decode cX5_sheet 49 = .ok (.if_icmp .le 9, 3) := by decide +kernel
theorem dX5_sheet_52 : decode cX5_sheet 52 = .ok (.aload_n 0, 1) := by decide +kernel
theorem dX5_sheet_53 : decode cX5_sheet 53 = .ok (.iconst 0, 1) := by decide +kernel
theorem dX5_sheet_54 : decode cX5_sheet 54 = .ok (.invokevirtual 55, 3) := by decide +kernel
theorem dX5_sheet_57 : decode cX5_sheet 57 = .ok (.ireturn, 1) := by decide +kernel
theorem dX5_sheet_58 : decode cX5_sheet 58 = .ok (.aload_n 0, 1) := by decide +kernel
theorem dX5_sheet_59 : decode cX5_sheet 59 = .ok (.getfield 38, 3) := by decide +kernel
theorem dX5_sheet_62 : decode cX5_sheet 62 = .ok (.iload_n 1, 1) := by decide +kernel
theorem dX5_sheet_63 : decode cX5_sheet 63 = .ok (.aaload, 1) := by decide +kernel
theorem dX5_sheet_64 : decode cX5_sheet 64 = .ok (.iload_n 2, 1) := by decide +kernel
theorem dX5_sheet_65 : decode cX5_sheet 65 = .ok (.iload_n 3, 1) := by decide +kernel
theorem dX5_sheet_66 : decode cX5_sheet 66 = .ok (.invokevirtual 211, 3) := by decide +kernel
theorem dX5_sheet_69 : decode cX5_sheet 69 = .ok (.aload_n 0, 1) := by decide +kernel
theorem dX5_sheet_70 : decode cX5_sheet 70 = .ok (.getfield 38, 3) := by decide +kernel
theorem dX5_sheet_73 : decode cX5_sheet 73 = .ok (.iload_n 1, 1) := by decide +kernel
theorem dX5_sheet_74 : decode cX5_sheet 74 = .ok (.aaload, 1) := by decide +kernel
theorem dX5_sheet_75 : decode cX5_sheet 75 = .ok (.getfield 215, 3) := by decide +kernel
theorem dX5_sheet_78 : decode cX5_sheet 78 = .ok (.ireturn, 1) := by decide +kernel
theorem dX5_write_0 : decode cX5_write 0 = .ok (.iload_n 1, 1) := by decide +kernel
theorem dX5_write_1 : decode cX5_write 1 = .ok (.invokestatic 208, 3) := by decide +kernel
theorem dX5_write_4 : decode cX5_write 4 = .ok (.ifCond .ne 10, 3) := by decide +kernel
theorem dX5_write_7 : decode cX5_write 7 = .ok (.aload_n 0, 1) := by decide +kernel
theorem dX5_write_8 : decode cX5_write 8 = .ok (.iconst 0, 1) := by decide +kernel
theorem dX5_write_9 : decode cX5_write 9 = .ok (.invokevirtual 55, 3) := by decide +kernel
theorem dX5_write_12 : decode cX5_write 12 = .ok (.i2l, 1) := by decide +kernel
theorem dX5_write_13 : decode cX5_write 13 = .ok (.lreturn, 1) := by decide +kernel
theorem dX5_write_14 : decode cX5_write 14 = .ok (.aload_n 0, 1) := by decide +kernel
theorem dX5_write_15 : decode cX5_write 15 = .ok (.getfield 38, 3) := by decide +kernel
theorem dX5_write_18 : decode cX5_write 18 = .ok (.iload_n 1, 1) := by decide +kernel
theorem dX5_write_19 : decode cX5_write 19 = .ok (.aaload, 1) := by decide +kernel
theorem dX5_write_20 : decode cX5_write 20 = .ok (.astore 5, 2) := by decide +kernel
theorem dX5_write_22 : decode cX5_write 22 = .ok (.aload 5, 2) := by decide +kernel
theorem dX5_write_24 : decode cX5_write 24 = .ok (.invokevirtual 218, 3) := by decide +kernel
theorem dX5_write_27 : decode cX5_write 27 = .ok (.ifCond .eq 10, 3) := by decide +kernel
theorem dX5_write_30 : decode cX5_write 30 = .ok (.aload_n 0, 1) := by decide +kernel
theorem dX5_write_31 : decode cX5_write 31 = .ok (.iconst 5, 1) := by decide +kernel
theorem dX5_write_32 : decode cX5_write 32 = .ok (.invokevirtual 55, 3) := by decide +kernel
theorem dX5_write_35 : decode cX5_write 35 = .ok (.i2l, 1) := by decide +kernel
theorem dX5_write_36 : decode cX5_write 36 = .ok (.lreturn, 1) := by decide +kernel
theorem dX5_write_37 : decode cX5_write 37 = .ok (.iload_n 2, 1) := by decide +kernel
theorem dX5_write_38 : decode cX5_write 38 = .ok (.iconst 0, 1) := by decide +kernel
theorem dX5_write_39 : decode cX5_write 39 = .ok (.aload 5, 2) := by decide +kernel
theorem dX5_write_41 : decode cX5_write 41 = .ok (.getfield 215, 3) := by decide +kernel
theorem dX5_write_44 : decode cX5_write 44 = .ok (.iconst 1, 1) := by decide +kernel
theorem dX5_write_45 : decode cX5_write 45 = .ok (.isub, 1) := by decide +kernel
theorem dX5_write_46 : decode cX5_write 46 = .ok (.invokestatic 51, 3) := by decide +kernel
theorem dX5_write_49 : decode cX5_write 49 = .ok (.ifCond .ne 10, 3) := by decide +kernel
theorem dX5_write_52 : decode cX5_write 52 = .ok (.aload_n 0, 1) := by decide +kernel
theorem dX5_write_53 : decode cX5_write 53 = .ok (.iconst 0, 1) := by decide +kernel
theorem dX5_write_54 : decode cX5_write 54 = .ok (.invokevirtual 55, 3) := by decide +kernel
theorem dX5_write_57 : decode cX5_write 57 = .ok (.i2l, 1) := by decide +kernel
theorem dX5_write_58 : decode cX5_write 58 = .ok (.lreturn, 1) := by decide +kernel
theorem dX5_write_59 : decode cX5_write 59 = .ok (.aload 5, 2) := by decide +kernel
theorem dX5_write_61 : decode cX5_write 61 = .ok (.getfield 222, 3) := by decide +kernel
theorem dX5_write_64 : decode cX5_write 64 = .ok (.iload_n 2, 1) := by decide +kernel
theorem dX5_write_65 : decode cX5_write 65 = .ok (.laload, 1) := by decide +kernel
theorem dX5_write_66 : decode cX5_write 66 = .ok (.lstore 6, 2) := by decide +kernel
theorem dX5_write_68 : decode cX5_write 68 = .ok (.aload 5, 2) := by decide +kernel
theorem dX5_write_70 : decode cX5_write 70 = .ok (.iload_n 2, 1) := by decide +kernel
theorem dX5_write_71 : decode cX5_write 71 = .ok (.lload_n 3, 1) := by decide +kernel
theorem dX5_write_72 : decode cX5_write 72 = .ok (.invokevirtual 226, 3) := by decide +kernel
theorem dX5_write_75 : decode cX5_write 75 = .ok (.lload 6, 2) := by decide +kernel
theorem dX5_write_77 : decode cX5_write 77 = .ok (.lreturn, 1) := by decide +kernel
theorem dX5_copy_0 : decode cX5_copy 0 = .ok (.iload_n 1, 1) := by decide +kernel
theorem dX5_copy_1 : decode cX5_copy 1 = .ok (.invokestatic 208, 3) := by decide +kernel
theorem dX5_copy_4 : decode cX5_copy 4 = .ok (.ifCond .eq 10, 3) := by decide +kernel
theorem dX5_copy_7 : decode cX5_copy 7 = .ok (.iload_n 3, 1) := by decide +kernel
theorem dX5_copy_8 : decode cX5_copy 8 = .ok (.invokestatic 208, 3) := by decide +kernel
theorem dX5_copy_11 : decode cX5_copy 11 = .ok (.ifCond .ne 9, 3) := by decide +kernel
theorem dX5_copy_14 : decode cX5_copy 14 = .ok (.aload_n 0, 1) := by decide +kernel
theorem dX5_copy_15 : decode cX5_copy 15 = .ok (.iconst 0, 1) := by decide +kernel
theorem dX5_copy_16 : decode cX5_copy 16 = .ok (.invokevirtual 55, 3) := by decide +kernel
theorem dX5_copy_19 : decode cX5_copy 19 = .ok (.ireturn, 1) := by decide +kernel
theorem dX5_copy_20 : decode cX5_copy 20 = .ok (.aload_n 0, 1) := by decide +kernel
theorem dX5_copy_21 : decode cX5_copy 21 = .ok (.getfield 38, 3) := by decide +kernel
theorem dX5_copy_24 : decode cX5_copy 24 = .ok (.iload_n 1, 1) := by decide +kernel
theorem dX5_copy_25 : decode cX5_copy 25 = .ok (.aaload, 1) := by decide +kernel
theorem dX5_copy_26 : decode cX5_copy 26 = .ok (.astore 6, 2) := by decide +kernel
theorem dX5_copy_28 : decode cX5_copy 28 = .ok (.aload_n 0, 1) := by decide +kernel
theorem dX5_copy_29 : decode cX5_copy 29 = .ok (.getfield 38, 3) := by decide +kernel
theorem dX5_copy_32 : decode cX5_copy 32 = .ok (.iload_n 3, 1) := by decide +kernel
theorem dX5_copy_33 : decode cX5_copy 33 = .ok (.aaload, 1) := by decide +kernel
theorem dX5_copy_34 : decode cX5_copy 34 = .ok (.astore 7, 2) := by decide +kernel
theorem dX5_copy_36 : decode cX5_copy 36 = .ok (.aload 6, 2) := by decide +kernel
theorem dX5_copy_38 : decode cX5_copy 38 = .ok (.invokevirtual 218, 3) := by decide +kernel
theorem dX5_copy_41 : decode cX5_copy 41 = .ok (.ifCond .ne 11, 3) := by decide +kernel
theorem dX5_copy_44 : decode cX5_copy 44 = .ok (.aload 7, 2) := by decide +kernel
theorem dX5_copy_46 : decode cX5_copy 46 = .ok (.invokevirtual 218, 3) := by decide +kernel
theorem dX5_copy_49 : decode cX5_copy 49 = .ok (.ifCond .eq 9, 3) := by decide +kernel
theorem dX5_copy_52 : decode cX5_copy 52 = .ok (.aload_n 0, 1) := by decide +kernel
theorem dX5_copy_53 : decode cX5_copy 53 = .ok (.iconst 5, 1) := by decide +kernel
theorem dX5_copy_54 : decode cX5_copy 54 = .ok (.invokevirtual 55, 3) := by decide +kernel
theorem dX5_copy_57 : decode cX5_copy 57 = .ok (.ireturn, 1) := by decide +kernel
theorem dX5_copy_58 : decode cX5_copy 58 = .ok (.aload 6, 2) := by decide +kernel
theorem dX5_copy_60 : decode cX5_copy 60 = .ok (.getfield 230, 3) := by decide +kernel
theorem dX5_copy_63 : decode cX5_copy 63 = .ok (.aload 7, 2) := by decide +kernel
theorem dX5_copy_65 : decode cX5_copy 65 = .ok (.getfield 230, 3) := by decide +kernel
theorem dX5_copy_68 : decode cX5_copy 68 = .ok (.if_icmp .eq 9, 3) := by decide +kernel
theorem dX5_copy_71 : decode cX5_copy 71 = .ok (.aload_n 0, 1) := by decide +kernel
theorem dX5_copy_72 : decode cX5_copy 72 = .ok (.iconst 2, 1) := by decide +kernel
theorem dX5_copy_73 : decode cX5_copy 73 = .ok (.invokevirtual 55, 3) := by decide +kernel
theorem dX5_copy_76 : decode cX5_copy 76 = .ok (.ireturn, 1) := by decide +kernel
theorem dX5_copy_77 : decode cX5_copy 77 = .ok (.aload 6, 2) := by decide +kernel
theorem dX5_copy_79 : decode cX5_copy 79 = .ok (.iload_n 2, 1) := by decide +kernel
theorem dX5_copy_80 : decode cX5_copy 80 = .ok (.iload 5, 2) := by decide +kernel
theorem dX5_copy_82 : decode cX5_copy 82 = .ok (.invokevirtual 233, 3) := by decide +kernel
theorem dX5_copy_85 : decode cX5_copy 85 = .ok (.ifCond .eq 15, 3) := by decide +kernel
theorem dX5_copy_88 : decode cX5_copy 88 = .ok (.aload 7, 2) := by decide +kernel
theorem dX5_copy_90 : decode cX5_copy 90 = .ok (.iload 4, 2) := by decide +kernel
theorem dX5_copy_92 : decode cX5_copy 92 = .ok (.iload 5, 2) := by decide +kernel
theorem dX5_copy_94 : decode cX5_copy 94 = .ok (.invokevirtual 233, 3) := by decide +kernel
theorem dX5_copy_97 : decode cX5_copy 97 = .ok (.ifCond .ne 9, 3) := by decide +kernel
theorem dX5_copy_100 : decode cX5_copy 100 = .ok (.aload_n 0, 1) := by decide +kernel
theorem dX5_copy_101 : decode cX5_copy 101 = .ok (.iconst 0, 1) := by decide +kernel
theorem dX5_copy_102 : decode cX5_copy 102 = .ok (.invokevirtual 55, 3) := by decide +kernel
theorem dX5_copy_105 : decode cX5_copy 105 = .ok (.ireturn, 1) := by decide +kernel
theorem dX5_copy_106 : decode cX5_copy 106 = .ok (.aload 6, 2) := by decide +kernel
theorem dX5_copy_108 : decode cX5_copy 108 = .ok (.getfield 222, 3) := by decide +kernel
theorem dX5_copy_111 : decode cX5_copy 111 = .ok (.iload_n 2, 1) := by decide +kernel
theorem dX5_copy_112 : decode cX5_copy 112 = .ok (.aload 7, 2) := by decide +kernel
theorem dX5_copy_114 : decode cX5_copy 114 = .ok (.getfield 222, 3) := by decide +kernel
theorem dX5_copy_117 : decode cX5_copy 117 = .ok (.iload 4, 2) := by decide +kernel
theorem dX5_copy_119 : decode cX5_copy 119 = .ok (.iload 5, 2) := by decide +kernel
theorem dX5_copy_121 : decode cX5_copy 121 = .ok (.invokestatic 236, 3) := by decide +kernel
theorem dX5_copy_124 : decode cX5_copy 124 = .ok (.iload 5, 2) := by decide +kernel
theorem dX5_copy_126 : decode cX5_copy 126 = .ok (.ireturn, 1) := by decide +kernel
theorem dX5_lays_0 : decode cX5_lays 0 = .ok (.iload_n 1, 1) := by decide +kernel
theorem dX5_lays_1 : decode cX5_lays 1 = .ok (.invokestatic 208, 3) := by decide +kernel
theorem dX5_lays_4 : decode cX5_lays 4 = .ok (.ifCond .ne 9, 3) := by decide +kernel
theorem dX5_lays_7 : decode cX5_lays 7 = .ok (.aload_n 0, 1) := by decide +kernel
theorem dX5_lays_8 : decode cX5_lays 8 = .ok (.iconst 0, 1) := by decide +kernel
theorem dX5_lays_9 : decode cX5_lays 9 = .ok (.invokevirtual 55, 3) := by decide +kernel
theorem dX5_lays_12 : decode cX5_lays 12 = .ok (.ireturn, 1) := by decide +kernel
theorem dX5_lays_13 : decode cX5_lays 13 = .ok (.aload_n 0, 1) := by decide +kernel
theorem dX5_lays_14 : decode cX5_lays 14 = .ok (.getfield 38, 3) := by decide +kernel
theorem dX5_lays_17 : decode cX5_lays 17 = .ok (.iload_n 1, 1) := by decide +kernel
theorem dX5_lays_18 : decode cX5_lays 18 = .ok (.aaload, 1) := by decide +kernel
theorem dX5_lays_19 : decode cX5_lays 19 = .ok (.astore_n 2, 1) := by decide +kernel
theorem dX5_lays_20 : decode cX5_lays 20 = .ok (.aload_n 2, 1) := by decide +kernel
theorem dX5_lays_21 : decode cX5_lays 21 = .ok (.invokevirtual 218, 3) := by decide +kernel
theorem dX5_lays_24 : decode cX5_lays 24 = .ok (.ifCond .eq 9, 3) := by decide +kernel
theorem dX5_lays_27 : decode cX5_lays 27 = .ok (.aload_n 0, 1) := by decide +kernel
theorem dX5_lays_28 : decode cX5_lays 28 = .ok (.iconst 5, 1) := by decide +kernel
theorem dX5_lays_29 : decode cX5_lays 29 = .ok (.invokevirtual 55, 3) := by decide +kernel
theorem dX5_lays_32 : decode cX5_lays 32 = .ok (.ireturn, 1) := by decide +kernel
theorem dX5_lays_33 : decode cX5_lays 33 = .ok (.iconst 0, 1) := by decide +kernel
theorem dX5_lays_34 : decode cX5_lays 34 = .ok (.istore_n 3, 1) := by decide +kernel
theorem dX5_lays_35 : decode cX5_lays 35 = .ok (.iconst 0, 1) := by decide +kernel
theorem dX5_lays_36 : decode cX5_lays 36 = .ok (.istore 4, 2) := by decide +kernel
theorem dX5_lays_38 : decode cX5_lays 38 = .ok (.iload 4, 2) := by decide +kernel
theorem dX5_lays_40 : decode cX5_lays 40 = .ok (.aload_n 2, 1) := by decide +kernel
theorem dX5_lays_41 : decode cX5_lays 41 = .ok (.getfield 215, 3) := by decide +kernel
theorem dX5_lays_44 : decode cX5_lays 44 = .ok (.if_icmp .ge 50, 3) := by decide +kernel
theorem dX5_lays_47 : decode cX5_lays 47 = .ok (.aload_n 2, 1) := by decide +kernel
theorem dX5_lays_48 : decode cX5_lays 48 = .ok (.getfield 222, 3) := by decide +kernel
theorem dX5_lays_51 : decode cX5_lays 51 = .ok (.iload 4, 2) := by decide +kernel
theorem dX5_lays_53 : decode cX5_lays 53 = .ok (.laload, 1) := by decide +kernel
theorem dX5_lays_54 : decode cX5_lays 54 = .ok (.lstore 5, 2) := by decide +kernel
theorem dX5_lays_56 : decode cX5_lays 56 = .ok (.lload 5, 2) := by decide +kernel
theorem dX5_lays_58 : decode cX5_lays 58 = .ok (.lconst 0, 1) := by decide +kernel
theorem dX5_lays_59 : decode cX5_lays 59 = .ok (.lcmp, 1) := by decide +kernel
theorem dX5_lays_60 : decode cX5_lays 60 = .ok (.ifCond .lt 28, 3) := by decide +kernel
theorem dX5_lays_63 : decode cX5_lays 63 = .ok (.lload 5, 2) := by decide +kernel
theorem dX5_lays_65 : decode cX5_lays 65 = .ok (.ldc2_w 242, 3) := by decide +kernel
theorem dX5_lays_68 : decode cX5_lays 68 = .ok (.lcmp, 1) := by decide +kernel
theorem dX5_lays_69 : decode cX5_lays 69 = .ok (.ifCond .gt 19, 3) := by decide +kernel
theorem dX5_lays_72 : decode cX5_lays 72 = .ok (.aload_n 0, 1) := by decide +kernel
theorem dX5_lays_73 : decode cX5_lays 73 = .ok (.getfield 10, 3) := by decide +kernel
theorem dX5_lays_76 : decode cX5_lays 76 = .ok (.getfield 59, 3) := by decide +kernel
theorem dX5_lays_79 : decode cX5_lays 79 = .ok (.iload 4, 2) := by decide +kernel
theorem dX5_lays_81 : decode cX5_lays 81 = .ok (.lload 5, 2) := by decide +kernel
theorem dX5_lays_83 : decode cX5_lays 83 = .ok (.l2i, 1) := by decide +kernel
theorem dX5_lays_84 : decode cX5_lays 84 = .ok (.iastore, 1) := by decide +kernel
theorem dX5_lays_85 : decode cX5_lays 85 = .ok (.iinc 3 1, 3) := by decide +kernel
theorem dX5_lays_88 : decode cX5_lays 88 = .ok (.iinc 4 1, 3) := by decide +kernel
theorem dX5_lays_91 : decode cX5_lays 91 = .ok (.goto (-53), 3) := by decide +kernel
theorem dX5_lays_94 : decode cX5_lays 94 = .ok (.iload_n 3, 1) := by decide +kernel
theorem dX5_lays_95 : decode cX5_lays 95 = .ok (.ireturn, 1) := by decide +kernel
theorem dX5_book_0 : decode cX5_book 0 = .ok (.iload_n 1, 1) := by decide +kernel
theorem dX5_book_1 : decode cX5_book 1 = .ok (.invokestatic 208, 3) := by decide +kernel
theorem dX5_book_4 : decode cX5_book 4 = .ok (.ifCond .ne 9, 3) := by decide +kernel
theorem dX5_book_7 : decode cX5_book 7 = .ok (.aload_n 0, 1) := by decide +kernel
theorem dX5_book_8 : decode cX5_book 8 = .ok (.iconst 0, 1) := by decide +kernel
theorem dX5_book_9 : decode cX5_book 9 = .ok (.invokevirtual 55, 3) := by decide +kernel
theorem dX5_book_12 : decode cX5_book 12 = .ok (.ireturn, 1) := by decide +kernel
theorem dX5_book_13 : decode cX5_book 13 = .ok (.aload_n 0, 1) := by decide +kernel
theorem dX5_book_14 : decode cX5_book 14 = .ok (.getfield 38, 3) := by decide +kernel
theorem dX5_book_17 : decode cX5_book 17 = .ok (.iload_n 1, 1) := by decide +kernel
theorem dX5_book_18 : decode cX5_book 18 = .ok (.aaload, 1) := by decide +kernel
theorem dX5_book_19 : decode cX5_book 19 = .ok (.astore_n 2, 1) := by decide +kernel
theorem dX5_book_20 : decode cX5_book 20 = .ok (.aload_n 2, 1) := by decide +kernel
theorem dX5_book_21 : decode cX5_book 21 = .ok (.invokevirtual 218, 3) := by decide +kernel
theorem dX5_book_24 : decode cX5_book 24 = .ok (.ifCond .eq 9, 3) := by decide +kernel
theorem dX5_book_27 : decode cX5_book 27 = .ok (.aload_n 0, 1) := by decide +kernel
theorem dX5_book_28 : decode cX5_book 28 = .ok (.iconst 5, 1) := by decide +kernel
theorem dX5_book_29 : decode cX5_book 29 = .ok (.invokevirtual 55, 3) := by decide +kernel
theorem dX5_book_32 : decode cX5_book 32 = .ok (.ireturn, 1) := by decide +kernel
theorem dX5_book_33 : decode cX5_book 33 = .ok (.aload_n 0, 1) := by decide +kernel
theorem dX5_book_34 : decode cX5_book 34 = .ok (.getfield 19, 3) := by decide +kernel
theorem dX5_book_37 : decode cX5_book 37 = .ok (.aload_n 0, 1) := by decide +kernel
theorem dX5_book_38 : decode cX5_book 38 = .ok (.getfield 10, 3) := by decide +kernel
theorem dX5_book_41 : decode cX5_book 41 = .ok (.invokevirtual 174, 3) := by decide +kernel
theorem dX5_book_44 : decode cX5_book 44 = .ok (.aload_n 0, 1) := by decide +kernel
theorem dX5_book_45 : decode cX5_book 45 = .ok (.getfield 25, 3) := by decide +kernel
theorem dX5_book_48 : decode cX5_book 48 = .ok (.aload_n 0, 1) := by decide +kernel
theorem dX5_book_49 : decode cX5_book 49 = .ok (.getfield 19, 3) := by decide +kernel
theorem dX5_book_52 : decode cX5_book 52 = .ok (.invokevirtual 62, 3) := by decide +kernel
theorem dX5_book_55 : decode cX5_book 55 = .ok (.aload_n 0, 1) := by decide +kernel
theorem dX5_book_56 : decode cX5_book 56 = .ok (.getfield 19, 3) := by decide +kernel
theorem dX5_book_59 : decode cX5_book 59 = .ok (.invokevirtual 158, 3) := by decide +kernel
theorem dX5_book_62 : decode cX5_book 62 = .ok (.istore_n 3, 1) := by decide +kernel
theorem dX5_book_63 : decode cX5_book 63 = .ok (.iconst 0, 1) := by decide +kernel
theorem dX5_book_64 : decode cX5_book 64 = .ok (.istore 4, 2) := by decide +kernel
theorem dX5_book_66 : decode cX5_book 66 = .ok (.iload 4, 2) := by decide +kernel
theorem dX5_book_68 : decode cX5_book 68 = .ok (.aload_n 2, 1) := by decide +kernel
theorem dX5_book_69 : decode cX5_book 69 = .ok (.getfield 215, 3) := by decide +kernel
theorem dX5_book_72 : decode cX5_book 72 = .ok (.if_icmp .ge 31, 3) := by decide +kernel
theorem dX5_book_75 : decode cX5_book 75 = .ok (.aload_n 2, 1) := by decide +kernel
theorem dX5_book_76 : decode cX5_book 76 = .ok (.iload 4, 2) := by decide +kernel
theorem dX5_book_78 : decode cX5_book 78 = .ok (.iload_n 3, 1) := by decide +kernel
theorem dX5_book_79 : decode cX5_book 79 = .ok (.i2l, 1) := by decide +kernel
theorem dX5_book_80 : decode cX5_book 80 = .ok (.invokevirtual 226, 3) := by decide +kernel
theorem dX5_book_83 : decode cX5_book 83 = .ok (.iload_n 3, 1) := by decide +kernel
theorem dX5_book_84 : decode cX5_book 84 = .ok (.aload_n 0, 1) := by decide +kernel
theorem dX5_book_85 : decode cX5_book 85 = .ok (.getfield 25, 3) := by decide +kernel
theorem dX5_book_88 : decode cX5_book 88 = .ok (.aload_n 0, 1) := by decide +kernel
theorem dX5_book_89 : decode cX5_book 89 = .ok (.getfield 19, 3) := by decide +kernel
theorem dX5_book_92 : decode cX5_book 92 = .ok (.invokevirtual 177, 3) := by decide +kernel
theorem dX5_book_95 : decode cX5_book 95 = .ok (.isub, 1) := by decide +kernel
theorem dX5_book_96 : decode cX5_book 96 = .ok (.istore_n 3, 1) := by decide +kernel
theorem dX5_book_97 : decode cX5_book 97 = .ok (.iinc 4 1, 3) := by decide +kernel
theorem dX5_book_100 : decode cX5_book 100 = .ok (.goto (-34), 3) := by decide +kernel
theorem dX5_book_103 : decode cX5_book 103 = .ok (.aload_n 2, 1) := by decide +kernel
theorem dX5_book_104 : decode cX5_book 104 = .ok (.getfield 215, 3) := by decide +kernel
theorem dX5_book_107 : decode cX5_book 107 = .ok (.ireturn, 1) := by decide +kernel
theorem dX5_read_0 : decode cX5_read 0 = .ok (.iload_n 1, 1) := by decide +kernel
theorem dX5_read_1 : decode cX5_read 1 = .ok (.invokestatic 208, 3) := by decide +kernel
theorem dX5_read_4 : decode cX5_read 4 = .ok (.ifCond .ne 9, 3) := by decide +kernel
theorem dX5_read_7 : decode cX5_read 7 = .ok (.aload_n 0, 1) := by decide +kernel
theorem dX5_read_8 : decode cX5_read 8 = .ok (.iconst 0, 1) := by decide +kernel
theorem dX5_read_9 : decode cX5_read 9 = .ok (.invokevirtual 55, 3) := by decide +kernel
theorem dX5_read_12 : decode cX5_read 12 = .ok (.ireturn, 1) := by decide +kernel
theorem dX5_read_13 : decode cX5_read 13 = .ok (.aload_n 0, 1) := by decide +kernel
theorem dX5_read_14 : decode cX5_read 14 = .ok (.getfield 38, 3) := by decide +kernel
theorem dX5_read_17 : decode cX5_read 17 = .ok (.iload_n 1, 1) := by decide +kernel
theorem dX5_read_18 : decode cX5_read 18 = .ok (.aaload, 1) := by decide +kernel
theorem dX5_read_19 : decode cX5_read 19 = .ok (.invokevirtual 218, 3) := by decide +kernel
theorem dX5_read_22 : decode cX5_read 22 = .ok (.ifCond .eq 9, 3) := by decide +kernel
theorem dX5_read_25 : decode cX5_read 25 = .ok (.aload_n 0, 1) := by decide +kernel
theorem dX5_read_26 : decode cX5_read 26 = .ok (.iconst 5, 1) := by decide +kernel
theorem dX5_read_27 : decode cX5_read 27 = .ok (.invokevirtual 55, 3) := by decide +kernel
theorem dX5_read_30 : decode cX5_read 30 = .ok (.ireturn, 1) := by decide +kernel
theorem dX5_read_31 : decode cX5_read 31 = .ok (.aload_n 0, 1) := by decide +kernel
theorem dX5_read_32 : decode cX5_read 32 = .ok (.iload_n 2, 1) := by decide +kernel
theorem dX5_read_33 : decode cX5_read 33 = .ok (.invokevirtual 128, 3) := by decide +kernel
theorem dX5_read_36 : decode cX5_read 36 = .ok (.ifCond .ne 9, 3) := by decide +kernel
theorem dX5_read_39 : decode cX5_read 39 = .ok (.aload_n 0, 1) := by decide +kernel
theorem dX5_read_40 : decode cX5_read 40 = .ok (.iconst 0, 1) := by decide +kernel
theorem dX5_read_41 : decode cX5_read 41 = .ok (.invokevirtual 55, 3) := by decide +kernel
theorem dX5_read_44 : decode cX5_read 44 = .ok (.ireturn, 1) := by decide +kernel
theorem dX5_read_45 : decode cX5_read 45 = .ok (.iconst 0, 1) := by decide +kernel
theorem dX5_read_46 : decode cX5_read 46 = .ok (.istore_n 3, 1) := by decide +kernel
theorem dX5_read_47 : decode cX5_read 47 = .ok (.iconst 0, 1) := by decide +kernel
theorem dX5_read_48 : decode cX5_read 48 = .ok (.istore 4, 2) := by decide +kernel
theorem dX5_read_50 : decode cX5_read 50 = .ok (.iload 4, 2) := by decide +kernel
theorem dX5_read_52 : decode cX5_read 52 = .ok (.aload_n 0, 1) := by decide +kernel
theorem dX5_read_53 : decode cX5_read 53 = .ok (.getfield 10, 3) := by decide +kernel
theorem dX5_read_56 : decode cX5_read 56 = .ok (.getfield 79, 3) := by decide +kernel
theorem dX5_read_59 : decode cX5_read 59 = .ok (.if_icmp .ge 74, 3) := by decide +kernel
theorem dX5_read_62 : decode cX5_read 62 = .ok (.iconst 0, 1) := by decide +kernel
theorem dX5_read_63 : decode cX5_read 63 = .ok (.istore 5, 2) := by decide +kernel
theorem dX5_read_65 : decode cX5_read 65 = .ok (.iload 5, 2) := by decide +kernel
theorem dX5_read_67 : decode cX5_read 67 = .ok (.bipush 48, 2) := by decide +kernel
theorem dX5_read_69 : decode cX5_read 69 = .ok (.if_icmp .ge 58, 3) := by decide +kernel
theorem dX5_read_72 : decode cX5_read 72 = .ok (.aload_n 0, 1) := by decide +kernel
theorem dX5_read_73 : decode cX5_read 73 = .ok (.getfield 19, 3) := by decide +kernel
theorem dX5_read_76 : decode cX5_read 76 = .ok (.aload_n 0, 1) := by decide +kernel
theorem dX5_read_77 : decode cX5_read 77 = .ok (.getfield 10, 3) := by decide +kernel
theorem dX5_read_80 : decode cX5_read 80 = .ok (.invokevirtual 174, 3) := by decide +kernel
theorem dX5_read_83 : decode cX5_read 83 = .ok (.aload_n 0, 1) := by decide +kernel
theorem dX5_read_84 : decode cX5_read 84 = .ok (.getfield 19, 3) := by decide +kernel
theorem dX5_read_87 : decode cX5_read 87 = .ok (.getfield 134, 3) := by decide +kernel
theorem dX5_read_90 : decode cX5_read 90 = .ok (.iload_n 2, 1) := by decide +kernel
theorem dX5_read_91 : decode cX5_read 91 = .ok (.iload 4, 2) := by decide +kernel
theorem dX5_read_93 : decode cX5_read 93 = .ok (.iastore, 1) := by decide +kernel
theorem dX5_read_94 : decode cX5_read 94 = .ok (.aload_n 0, 1) := by decide +kernel
theorem dX5_read_95 : decode cX5_read 95 = .ok (.getfield 19, 3) := by decide +kernel
theorem dX5_read_98 : decode cX5_read 98 = .ok (.getfield 131, 3) := by decide +kernel
theorem dX5_read_101 : decode cX5_read 101 = .ok (.iload_n 2, 1) := by decide +kernel
theorem dX5_read_102 : decode cX5_read 102 = .ok (.iload 5, 2) := by decide +kernel
theorem dX5_read_104 : decode cX5_read 104 = .ok (.iastore, 1) := by decide +kernel
theorem dX5_read_105 : decode cX5_read 105 = .ok (.aload_n 0, 1) := by decide +kernel
theorem dX5_read_106 : decode cX5_read 106 = .ok (.aload_n 0, 1) := by decide +kernel
theorem dX5_read_107 : decode cX5_read 107 = .ok (.getfield 38, 3) := by decide +kernel
theorem dX5_read_110 : decode cX5_read 110 = .ok (.iload_n 1, 1) := by decide +kernel
theorem dX5_read_111 : decode cX5_read 111 = .ok (.aaload, 1) := by decide +kernel
theorem dX5_read_112 : decode cX5_read 112 = .ok (.invokevirtual 244, 3) := by decide +kernel
theorem dX5_read_115 : decode cX5_read 115 = .ok (.ifCond .eq 6, 3) := by decide +kernel
theorem dX5_read_118 : decode cX5_read 118 = .ok (.iinc 3 1, 3) := by decide +kernel
theorem dX5_read_121 : decode cX5_read 121 = .ok (.iinc 5 1, 3) := by decide +kernel
theorem dX5_read_124 : decode cX5_read 124 = .ok (.goto (-59), 3) := by decide +kernel
theorem dX5_read_127 : decode cX5_read 127 = .ok (.iinc 4 1, 3) := by decide +kernel
theorem dX5_read_130 : decode cX5_read 130 = .ok (.goto (-80), 3) := by decide +kernel
theorem dX5_read_133 : decode cX5_read 133 = .ok (.iload_n 3, 1) := by decide +kernel
theorem dX5_read_134 : decode cX5_read 134 = .ok (.ireturn, 1) := by decide +kernel
theorem dX5_image_0 : decode cX5_image 0 = .ok (.aload_n 0, 1) := by decide +kernel
theorem dX5_image_1 : decode cX5_image 1 = .ok (.getfield 16, 3) := by decide +kernel
theorem dX5_image_4 : decode cX5_image 4 = .ok (.aload_n 0, 1) := by decide +kernel
theorem dX5_image_5 : decode cX5_image 5 = .ok (.getfield 10, 3) := by decide +kernel
theorem dX5_image_8 : decode cX5_image 8 = .ok (.invokevirtual 174, 3) := by decide +kernel
theorem dX5_image_11 : decode cX5_image 11 = .ok (.aload_n 0, 1) := by decide +kernel
theorem dX5_image_12 : decode cX5_image 12 = .ok (.iconst 1, 1) := by decide +kernel
theorem dX5_image_13 : decode cX5_image 13 = .ok (.putfield 248, 3) := by decide +kernel
theorem dX5_image_16 : decode cX5_image 16 = .ok (.iconst 1, 1) := by decide +kernel
theorem dX5_image_17 : decode cX5_image 17 = .ok (.ireturn, 1) := by decide +kernel
theorem dX5_undo_0 : decode cX5_undo 0 = .ok (.aload_n 0, 1) := by decide +kernel
theorem dX5_undo_1 : decode cX5_undo 1 = .ok (.getfield 248, 3) := by decide +kernel
theorem dX5_undo_4 : decode cX5_undo 4 = .ok (.ifCond .ne 9, 3) := by decide +kernel
theorem dX5_undo_7 : decode cX5_undo 7 = .ok (.aload_n 0, 1) := by decide +kernel
theorem dX5_undo_8 : decode cX5_undo 8 = .ok (.iconst 3, 1) := by decide +kernel
theorem dX5_undo_9 : decode cX5_undo 9 = .ok (.invokevirtual 55, 3) := by decide +kernel
theorem dX5_undo_12 : decode cX5_undo 12 = .ok (.ireturn, 1) := by decide +kernel
theorem dX5_undo_13 : decode cX5_undo 13 = .ok (.aload_n 0, 1) := by decide +kernel
theorem dX5_undo_14 : decode cX5_undo 14 = .ok (.getfield 10, 3) := by decide +kernel
theorem dX5_undo_17 : decode cX5_undo 17 = .ok (.aload_n 0, 1) := by decide +kernel
theorem dX5_undo_18 : decode cX5_undo 18 = .ok (.getfield 16, 3) := by decide +kernel
theorem dX5_undo_21 : decode cX5_undo 21 = .ok (.invokevirtual 174, 3) := by decide +kernel
theorem dX5_undo_24 : decode cX5_undo 24 = .ok (.aload_n 0, 1) := by decide +kernel
theorem dX5_undo_25 : decode cX5_undo 25 = .ok (.getfield 10, 3) := by decide +kernel
theorem dX5_undo_28 : decode cX5_undo 28 = .ok (.getfield 79, 3) := by decide +kernel
theorem dX5_undo_31 : decode cX5_undo 31 = .ok (.ireturn, 1) := by decide +kernel
theorem dX5_tear_0 : decode cX5_tear 0 = .ok (.aload_n 0, 1) := by decide +kernel
theorem dX5_tear_1 : decode cX5_tear 1 = .ok (.getfield 248, 3) := by decide +kernel
theorem dX5_tear_4 : decode cX5_tear 4 = .ok (.ifCond .eq 7, 3) := by decide +kernel
theorem dX5_tear_7 : decode cX5_tear 7 = .ok (.iconst 1, 1) := by decide +kernel
theorem dX5_tear_8 : decode cX5_tear 8 = .ok (.goto 4, 3) := by decide +kernel
theorem dX5_tear_11 : decode cX5_tear 11 = .ok (.iconst 0, 1) := by decide +kernel
theorem dX5_tear_12 : decode cX5_tear 12 = .ok (.istore_n 1, 1) := by decide +kernel
theorem dX5_tear_13 : decode cX5_tear 13 = .ok (.aload_n 0, 1) := by decide +kernel
theorem dX5_tear_14 : decode cX5_tear 14 = .ok (.iconst 0, 1) := by decide +kernel
theorem dX5_tear_15 : decode cX5_tear 15 = .ok (.putfield 248, 3) := by decide +kernel
theorem dX5_tear_18 : decode cX5_tear 18 = .ok (.iload_n 1, 1) := by decide +kernel
theorem dX5_tear_19 : decode cX5_tear 19 = .ok (.ireturn, 1) := by decide +kernel
theorem dX5_count_0 : decode cX5_count 0 = .ok (.iload_n 1, 1) := by decide +kernel
theorem dX5_count_1 : decode cX5_count 1 = .ok (.tableswitch 63 0 3 #[31, 39, 47, 55], 31) := by decide +kernel
theorem dX5_count_32 : decode cX5_count 32 = .ok (.aload_n 0, 1) := by decide +kernel
theorem dX5_count_33 : decode cX5_count 33 = .ok (.getfield 10, 3) := by decide +kernel
theorem dX5_count_36 : decode cX5_count 36 = .ok (.getfield 79, 3) := by decide +kernel
theorem dX5_count_39 : decode cX5_count 39 = .ok (.ireturn, 1) := by decide +kernel
theorem dX5_count_40 : decode cX5_count 40 = .ok (.aload_n 0, 1) := by decide +kernel
theorem dX5_count_41 : decode cX5_count 41 = .ok (.getfield 32, 3) := by decide +kernel
theorem dX5_count_44 : decode cX5_count 44 = .ok (.getfield 198, 3) := by decide +kernel
theorem dX5_count_47 : decode cX5_count 47 = .ok (.ireturn, 1) := by decide +kernel
theorem dX5_count_48 : decode cX5_count 48 = .ok (.aload_n 0, 1) := by decide +kernel
theorem dX5_count_49 : decode cX5_count 49 = .ok (.getfield 10, 3) := by decide +kernel
theorem dX5_count_52 : decode cX5_count 52 = .ok (.getfield 121, 3) := by decide +kernel
theorem dX5_count_55 : decode cX5_count 55 = .ok (.ireturn, 1) := by decide +kernel
theorem dX5_count_56 : decode cX5_count 56 = .ok (.aload_n 0, 1) := by decide +kernel
theorem dX5_count_57 : decode cX5_count 57 = .ok (.getfield 10, 3) := by decide +kernel
theorem dX5_count_60 : decode cX5_count 60 = .ok (.invokevirtual 252, 3) := by decide +kernel
theorem dX5_count_63 : decode cX5_count 63 = .ok (.ireturn, 1) := by decide +kernel
theorem dX5_count_64 : decode cX5_count 64 = .ok (.aload_n 0, 1) := by decide +kernel
theorem dX5_count_65 : decode cX5_count 65 = .ok (.iconst 0, 1) := by decide +kernel
theorem dX5_count_66 : decode cX5_count 66 = .ok (.invokevirtual 55, 3) := by decide +kernel
theorem dX5_count_69 : decode cX5_count 69 = .ok (.ireturn, 1) := by decide +kernel
theorem dX5_status_0 : decode cX5_status 0 = .ok (.iload_n 1, 1) := by decide +kernel
theorem dX5_status_1 : decode cX5_status 1 = .ok (.iconst (-1), 1) := by decide +kernel
theorem dX5_status_2 : decode cX5_status 2 = .ok (.if_icmp .ne 13, 3) := by decide +kernel
theorem dX5_status_5 : decode cX5_status 5 = .ok (.aload_n 0, 1) := by decide +kernel
theorem dX5_status_6 : decode cX5_status 6 = .ok (.getfield 42, 3) := by decide +kernel
theorem dX5_status_9 : decode cX5_status 9 = .ok (.bipush 7, 2) := by decide +kernel
theorem dX5_status_11 : decode cX5_status 11 = .ok (.invokestatic 255, 3) := by decide +kernel
theorem dX5_status_14 : decode cX5_status 14 = .ok (.ireturn, 1) := by decide +kernel
theorem dX5_status_15 : decode cX5_status 15 = .ok (.iload_n 1, 1) := by decide +kernel
theorem dX5_status_16 : decode cX5_status 16 = .ok (.iconst 0, 1) := by decide +kernel
theorem dX5_status_17 : decode cX5_status 17 = .ok (.bipush 6, 2) := by decide +kernel
theorem dX5_status_19 : decode cX5_status 19 = .ok (.invokestatic 51, 3) := by decide +kernel
theorem dX5_status_22 : decode cX5_status 22 = .ok (.ifCond .ne 9, 3) := by decide +kernel
theorem dX5_status_25 : decode cX5_status 25 = .ok (.aload_n 0, 1) := by decide +kernel
theorem dX5_status_26 : decode cX5_status 26 = .ok (.iconst 0, 1) := by decide +kernel
theorem dX5_status_27 : decode cX5_status 27 = .ok (.invokevirtual 55, 3) := by decide +kernel
theorem dX5_status_30 : decode cX5_status 30 = .ok (.ireturn, 1) := by decide +kernel
theorem dX5_status_31 : decode cX5_status 31 = .ok (.aload_n 0, 1) := by decide +kernel
theorem dX5_status_32 : decode cX5_status 32 = .ok (.getfield 42, 3) := by decide +kernel
theorem dX5_status_35 : decode cX5_status 35 = .ok (.iload_n 1, 1) := by decide +kernel
theorem dX5_status_36 : decode cX5_status 36 = .ok (.iaload, 1) := by decide +kernel
theorem dX5_status_37 : decode cX5_status 37 = .ok (.ireturn, 1) := by decide +kernel
theorem dX5_finding_0 : decode cX5_finding 0 = .ok (.aload_n 0, 1) := by decide +kernel
theorem dX5_finding_1 : decode cX5_finding 1 = .ok (.getfield 42, 3) := by decide +kernel
theorem dX5_finding_4 : decode cX5_finding 4 = .ok (.iload_n 1, 1) := by decide +kernel
theorem dX5_finding_5 : decode cX5_finding 5 = .ok (.dup2, 1) := by decide +kernel
theorem dX5_finding_6 : decode cX5_finding 6 = .ok (.iaload, 1) := by decide +kernel
theorem dX5_finding_7 : decode cX5_finding 7 = .ok (.iconst 1, 1) := by decide +kernel
theorem dX5_finding_8 : decode cX5_finding 8 = .ok (.iadd, 1) := by decide +kernel
theorem dX5_finding_9 : decode cX5_finding 9 = .ok (.iastore, 1) := by decide +kernel
theorem dX5_finding_10 : decode cX5_finding 10 = .ok (.ldc_w 259, 3) := by decide +kernel
theorem dX5_finding_13 : decode cX5_finding 13 = .ok (.iload_n 1, 1) := by decide +kernel
theorem dX5_finding_14 : decode cX5_finding 14 = .ok (.isub, 1) := by decide +kernel
theorem dX5_finding_15 : decode cX5_finding 15 = .ok (.ireturn, 1) := by decide +kernel
theorem dX5_isSitter_0 : decode cX5_isSitter 0 = .ok (.iload_n 1, 1) := by decide +kernel
theorem dX5_isSitter_1 : decode cX5_isSitter 1 = .ok (.iconst 0, 1) := by decide +kernel
theorem dX5_isSitter_2 : decode cX5_isSitter 2 = .ok (.aload_n 0, 1) := by decide +kernel
theorem dX5_isSitter_3 : decode cX5_isSitter 3 = .ok (.getfield 10, 3) := by decide +kernel
theorem dX5_isSitter_6 : decode cX5_isSitter 6 = .ok (.getfield 79, 3) := by decide +kernel
theorem dX5_isSitter_9 : decode cX5_isSitter 9 = .ok (.iconst 1, 1) := by decide +kernel
theorem dX5_isSitter_10 : decode cX5_isSitter 10 = .ok (.isub, 1) := by decide +kernel
theorem dX5_isSitter_11 : decode cX5_isSitter 11 = .ok (.invokestatic 51, 3) := by decide +kernel
theorem dX5_isSitter_14 : decode cX5_isSitter 14 = .ok (.ireturn, 1) := by decide +kernel
theorem dX5_isLikeness_0 : decode cX5_isLikeness 0 = .ok (.iload_n 1, 1) := by decide +kernel
theorem dX5_isLikeness_1 : decode cX5_isLikeness 1 = .ok (.iconst 0, 1) := by decide +kernel
theorem dX5_isLikeness_2 : decode cX5_isLikeness 2 = .ok (.aload_n 0, 1) := by decide +kernel
theorem dX5_isLikeness_3 : decode cX5_isLikeness 3 = .ok (.getfield 10, 3) := by decide +kernel
theorem dX5_isLikeness_6 : decode cX5_isLikeness 6 = .ok (.getfield 121, 3) := by decide +kernel
theorem dX5_isLikeness_9 : decode cX5_isLikeness 9 = .ok (.iconst 1, 1) := by decide +kernel
theorem dX5_isLikeness_10 : decode cX5_isLikeness 10 = .ok (.isub, 1) := by decide +kernel
theorem dX5_isLikeness_11 : decode cX5_isLikeness 11 = .ok (.invokestatic 51, 3) := by decide +kernel
theorem dX5_isLikeness_14 : decode cX5_isLikeness 14 = .ok (.ireturn, 1) := by decide +kernel
theorem dX5_eatenAsItIs_0 : decode cX5_eatenAsItIs 0 = .ok (.aload_n 0, 1) := by decide +kernel
theorem dX5_eatenAsItIs_1 : decode cX5_eatenAsItIs 1 = .ok (.getfield 19, 3) := by decide +kernel
theorem dX5_eatenAsItIs_4 : decode cX5_eatenAsItIs 4 = .ok (.aload_n 0, 1) := by decide +kernel
theorem dX5_eatenAsItIs_5 : decode cX5_eatenAsItIs 5 = .ok (.getfield 10, 3) := by decide +kernel
theorem dX5_eatenAsItIs_8 : decode cX5_eatenAsItIs 8 = .ok (.invokevirtual 174, 3) := by decide +kernel
theorem dX5_eatenAsItIs_11 : decode cX5_eatenAsItIs 11 = .ok (.aload_n 0, 1) := by decide +kernel
theorem dX5_eatenAsItIs_12 : decode cX5_eatenAsItIs 12 = .ok (.getfield 25, 3) := by decide +kernel
theorem dX5_eatenAsItIs_15 : decode cX5_eatenAsItIs 15 = .ok (.aload_n 0, 1) := by decide +kernel
theorem dX5_eatenAsItIs_16 : decode cX5_eatenAsItIs 16 = .ok (.getfield 19, 3) := by decide +kernel
theorem dX5_eatenAsItIs_19 : decode cX5_eatenAsItIs 19 = .ok (.iload_n 1, 1) := by decide +kernel
theorem dX5_eatenAsItIs_20 : decode cX5_eatenAsItIs 20 = .ok (.ldc 153, 2) := by decide +kernel
theorem dX5_eatenAsItIs_22 : decode cX5_eatenAsItIs 22 = .ok (.invokevirtual 154, 3) := by decide +kernel
theorem dX5_eatenAsItIs_25 : decode cX5_eatenAsItIs 25 = .ok (.ireturn, 1) := by decide +kernel
theorem dX5_eatenWith_0 : decode cX5_eatenWith 0 = .ok (.aload_n 0, 1) := by decide +kernel
theorem dX5_eatenWith_1 : decode cX5_eatenWith 1 = .ok (.getfield 19, 3) := by decide +kernel
theorem dX5_eatenWith_4 : decode cX5_eatenWith 4 = .ok (.aload_n 0, 1) := by decide +kernel
theorem dX5_eatenWith_5 : decode cX5_eatenWith 5 = .ok (.getfield 10, 3) := by decide +kernel
theorem dX5_eatenWith_8 : decode cX5_eatenWith 8 = .ok (.invokevirtual 174, 3) := by decide +kernel
theorem dX5_eatenWith_11 : decode cX5_eatenWith 11 = .ok (.aload_n 0, 1) := by decide +kernel
theorem dX5_eatenWith_12 : decode cX5_eatenWith 12 = .ok (.getfield 19, 3) := by decide +kernel
theorem dX5_eatenWith_15 : decode cX5_eatenWith 15 = .ok (.iload_n 1, 1) := by decide +kernel
theorem dX5_eatenWith_16 : decode cX5_eatenWith 16 = .ok (.invokevirtual 260, 3) := by decide +kernel
theorem dX5_eatenWith_19 : decode cX5_eatenWith 19 = .ok (.aload_n 0, 1) := by decide +kernel
theorem dX5_eatenWith_20 : decode cX5_eatenWith 20 = .ok (.getfield 25, 3) := by decide +kernel
theorem dX5_eatenWith_23 : decode cX5_eatenWith 23 = .ok (.aload_n 0, 1) := by decide +kernel
theorem dX5_eatenWith_24 : decode cX5_eatenWith 24 = .ok (.getfield 19, 3) := by decide +kernel
theorem dX5_eatenWith_27 : decode cX5_eatenWith 27 = .ok (.iload_n 2, 1) := by decide +kernel
theorem dX5_eatenWith_28 : decode cX5_eatenWith 28 = .ok (.iload_n 3, 1) := by decide +kernel
theorem dX5_eatenWith_29 : decode cX5_eatenWith 29 = .ok (.invokevirtual 154, 3) := by decide +kernel
theorem dX5_eatenWith_32 : decode cX5_eatenWith 32 = .ok (.ireturn, 1) := by decide +kernel
theorem dX5_eatenSwapped_0 : decode cX5_eatenSwapped 0 = .ok (.aload_n 0, 1) := by decide +kernel
theorem dX5_eatenSwapped_1 : decode cX5_eatenSwapped 1 = .ok (.getfield 19, 3) := by decide +kernel
theorem dX5_eatenSwapped_4 : decode cX5_eatenSwapped 4 = .ok (.aload_n 0, 1) := by decide +kernel
theorem dX5_eatenSwapped_5 : decode cX5_eatenSwapped 5 = .ok (.getfield 10, 3) := by decide +kernel
theorem dX5_eatenSwapped_8 : decode cX5_eatenSwapped 8 = .ok (.invokevirtual 174, 3) := by decide +kernel
theorem dX5_eatenSwapped_11 : decode cX5_eatenSwapped 11 = .ok (.aload_n 0, 1) := by decide +kernel
theorem dX5_eatenSwapped_12 : decode cX5_eatenSwapped 12 = .ok (.getfield 19, 3) := by decide +kernel
theorem dX5_eatenSwapped_15 : decode cX5_eatenSwapped 15 = .ok (.getfield 131, 3) := by decide +kernel
theorem dX5_eatenSwapped_18 : decode cX5_eatenSwapped 18 = .ok (.iload_n 1, 1) := by decide +kernel
theorem dX5_eatenSwapped_19 : decode cX5_eatenSwapped 19 = .ok (.aload_n 0, 1) := by decide +kernel
theorem dX5_eatenSwapped_20 : decode cX5_eatenSwapped 20 = .ok (.getfield 10, 3) := by decide +kernel
theorem dX5_eatenSwapped_23 : decode cX5_eatenSwapped 23 = .ok (.getfield 131, 3) := by decide +kernel
theorem dX5_eatenSwapped_26 : decode cX5_eatenSwapped 26 = .ok (.iload_n 2, 1) := by decide +kernel
theorem dX5_eatenSwapped_27 : decode cX5_eatenSwapped 27 = .ok (.iaload, 1) := by decide +kernel
theorem dX5_eatenSwapped_28 : decode cX5_eatenSwapped 28 = .ok (.iastore, 1) := by decide +kernel
theorem dX5_eatenSwapped_29 : decode cX5_eatenSwapped 29 = .ok (.aload_n 0, 1) := by decide +kernel
theorem dX5_eatenSwapped_30 : decode cX5_eatenSwapped 30 = .ok (.getfield 19, 3) := by decide +kernel
theorem dX5_eatenSwapped_33 : decode cX5_eatenSwapped 33 = .ok (.getfield 131, 3) := by decide +kernel
theorem dX5_eatenSwapped_36 : decode cX5_eatenSwapped 36 = .ok (.iload_n 2, 1) := by decide +kernel
theorem dX5_eatenSwapped_37 : decode cX5_eatenSwapped 37 = .ok (.aload_n 0, 1) := by decide +kernel
theorem dX5_eatenSwapped_38 : decode cX5_eatenSwapped 38 = .ok (.getfield 10, 3) := by decide +kernel
theorem dX5_eatenSwapped_41 : decode cX5_eatenSwapped 41 = .ok (.getfield 131, 3) := by decide +kernel
theorem dX5_eatenSwapped_44 : decode cX5_eatenSwapped 44 = .ok (.iload_n 1, 1) := by decide +kernel
theorem dX5_eatenSwapped_45 : decode cX5_eatenSwapped 45 = .ok (.iaload, 1) := by decide +kernel
theorem dX5_eatenSwapped_46 : decode cX5_eatenSwapped 46 = .ok (.iastore, 1) := by decide +kernel
theorem dX5_eatenSwapped_47 : decode cX5_eatenSwapped 47 = .ok (.aload_n 0, 1) := by decide +kernel
theorem dX5_eatenSwapped_48 : decode cX5_eatenSwapped 48 = .ok (.getfield 25, 3) := by decide +kernel
theorem dX5_eatenSwapped_51 : decode cX5_eatenSwapped 51 = .ok (.aload_n 0, 1) := by decide +kernel
theorem dX5_eatenSwapped_52 : decode cX5_eatenSwapped 52 = .ok (.getfield 19, 3) := by decide +kernel
theorem dX5_eatenSwapped_55 : decode cX5_eatenSwapped 55 = .ok (.iload_n 3, 1) := by decide +kernel
theorem dX5_eatenSwapped_56 : decode cX5_eatenSwapped 56 = .ok (.iload 4, 2) := by decide +kernel
theorem dX5_eatenSwapped_58 : decode cX5_eatenSwapped 58 = .ok (.invokevirtual 154, 3) := by decide +kernel
theorem dX5_eatenSwapped_61 : decode cX5_eatenSwapped 61 = .ok (.ireturn, 1) := by decide +kernel
theorem dX5_bestChoice_0 : decode cX5_bestChoice 0 = .ok (.iconst 0, 1) := by decide +kernel
theorem dX5_bestChoice_1 : decode cX5_bestChoice 1 = .ok (.istore 5, 2) := by decide +kernel
theorem dX5_bestChoice_3 : decode cX5_bestChoice 3 = .ok (.ldc 153, 2) := by decide +kernel
theorem dX5_bestChoice_5 : decode cX5_bestChoice 5 = .ok (.istore 6, 2) := by decide +kernel
theorem dX5_bestChoice_7 : decode cX5_bestChoice 7 = .ok (.iconst 0, 1) := by decide +kernel
theorem dX5_bestChoice_8 : decode cX5_bestChoice 8 = .ok (.istore 7, 2) := by decide +kernel
theorem dX5_bestChoice_10 : decode cX5_bestChoice 10 = .ok (.iload 7, 2) := by decide +kernel
theorem dX5_bestChoice_12 : decode cX5_bestChoice 12 = .ok (.iload_n 3, 1) := by decide +kernel
theorem dX5_bestChoice_13 : decode cX5_bestChoice 13 = .ok (.if_icmp .ge 62, 3) := by decide +kernel
theorem dX5_bestChoice_16 : decode cX5_bestChoice 16 = .ok (.iload 6, 2) := by decide +kernel
theorem dX5_bestChoice_18 : decode cX5_bestChoice 18 = .ok (.ifCond .le 57, 3) := by decide +kernel
theorem dX5_bestChoice_21 : decode cX5_bestChoice 21 = .ok (.aload_n 0, 1) := by decide +kernel
theorem dX5_bestChoice_22 : decode cX5_bestChoice 22 = .ok (.getfield 19, 3) := by decide +kernel
theorem dX5_bestChoice_25 : decode cX5_bestChoice 25 = .ok (.aload_n 0, 1) := by decide +kernel
theorem dX5_bestChoice_26 : decode cX5_bestChoice 26 = .ok (.getfield 10, 3) := by decide +kernel
theorem dX5_bestChoice_29 : decode cX5_bestChoice 29 = .ok (.invokevirtual 174, 3) := by decide +kernel
theorem dX5_bestChoice_32 : decode cX5_bestChoice 32 = .ok (.aload_n 1, 1) := by decide +kernel
theorem dX5_bestChoice_33 : decode cX5_bestChoice 33 = .ok (.iload_n 2, 1) := by decide +kernel
theorem dX5_bestChoice_34 : decode cX5_bestChoice 34 = .ok (.iload 7, 2) := by decide +kernel
theorem dX5_bestChoice_36 : decode cX5_bestChoice 36 = .ok (.iastore, 1) := by decide +kernel
theorem dX5_bestChoice_37 : decode cX5_bestChoice 37 = .ok (.aload_n 0, 1) := by decide +kernel
theorem dX5_bestChoice_38 : decode cX5_bestChoice 38 = .ok (.getfield 25, 3) := by decide +kernel
theorem dX5_bestChoice_41 : decode cX5_bestChoice 41 = .ok (.aload_n 0, 1) := by decide +kernel
theorem dX5_bestChoice_42 : decode cX5_bestChoice 42 = .ok (.getfield 19, 3) := by decide +kernel
theorem dX5_bestChoice_45 : decode cX5_bestChoice 45 = .ok (.iload 4, 2) := by decide +kernel
theorem dX5_bestChoice_47 : decode cX5_bestChoice 47 = .ok (.iload 6, 2) := by decide +kernel
theorem dX5_bestChoice_49 : decode cX5_bestChoice 49 = .ok (.invokevirtual 154, 3) := by decide +kernel
theorem dX5_bestChoice_52 : decode cX5_bestChoice 52 = .ok (.istore 8, 2) := by decide +kernel
theorem dX5_bestChoice_54 : decode cX5_bestChoice 54 = .ok (.iload 8, 2) := by decide +kernel
theorem dX5_bestChoice_56 : decode cX5_bestChoice 56 = .ok (.iload 6, 2) := by decide +kernel
theorem dX5_bestChoice_58 : decode cX5_bestChoice 58 = .ok (.if_icmp .ge 11, 3) := by decide +kernel
theorem dX5_bestChoice_61 : decode cX5_bestChoice 61 = .ok (.iload 8, 2) := by decide +kernel
theorem dX5_bestChoice_63 : decode cX5_bestChoice 63 = .ok (.istore 6, 2) := by decide +kernel
theorem dX5_bestChoice_65 : decode cX5_bestChoice 65 = .ok (.iload 7, 2) := by decide +kernel
theorem dX5_bestChoice_67 : decode cX5_bestChoice 67 = .ok (.istore 5, 2) := by decide +kernel
theorem dX5_bestChoice_69 : decode cX5_bestChoice 69 = .ok (.iinc 7 1, 3) := by decide +kernel
theorem dX5_bestChoice_72 : decode cX5_bestChoice 72 = .ok (.goto (-62), 3) := by decide +kernel
theorem dX5_bestChoice_75 : decode cX5_bestChoice 75 = .ok (.iload 5, 2) := by decide +kernel
theorem dX5_bestChoice_77 : decode cX5_bestChoice 77 = .ok (.ireturn, 1) := by decide +kernel
theorem dX5_trialGoesAs_0 : decode cX5_trialGoesAs 0 = .ok (.aload_n 0, 1) := by decide +kernel
theorem dX5_trialGoesAs_1 : decode cX5_trialGoesAs 1 = .ok (.getfield 25, 3) := by decide +kernel
theorem dX5_trialGoesAs_4 : decode cX5_trialGoesAs 4 = .ok (.aload_n 0, 1) := by decide +kernel
theorem dX5_trialGoesAs_5 : decode cX5_trialGoesAs 5 = .ok (.getfield 19, 3) := by decide +kernel
theorem dX5_trialGoesAs_8 : decode cX5_trialGoesAs 8 = .ok (.invokevirtual 62, 3) := by decide +kernel
theorem dX5_trialGoesAs_11 : decode cX5_trialGoesAs 11 = .ok (.aload_n 0, 1) := by decide +kernel
theorem dX5_trialGoesAs_12 : decode cX5_trialGoesAs 12 = .ok (.getfield 19, 3) := by decide +kernel
theorem dX5_trialGoesAs_15 : decode cX5_trialGoesAs 15 = .ok (.invokevirtual 158, 3) := by decide +kernel
theorem dX5_trialGoesAs_18 : decode cX5_trialGoesAs 18 = .ok (.istore_n 2, 1) := by decide +kernel
theorem dX5_trialGoesAs_19 : decode cX5_trialGoesAs 19 = .ok (.iconst 0, 1) := by decide +kernel
theorem dX5_trialGoesAs_20 : decode cX5_trialGoesAs 20 = .ok (.istore_n 3, 1) := by decide +kernel
theorem dX5_trialGoesAs_21 : decode cX5_trialGoesAs 21 = .ok (.iload_n 3, 1) := by decide +kernel
theorem dX5_trialGoesAs_22 : decode cX5_trialGoesAs 22 = .ok (.aload_n 1, 1) := by decide +kernel
theorem dX5_trialGoesAs_23 : decode cX5_trialGoesAs 23 = .ok (.getfield 215, 3) := by decide +kernel
theorem dX5_trialGoesAs_26 : decode cX5_trialGoesAs 26 = .ok (.if_icmp .ge 37, 3) := by decide +kernel
theorem dX5_trialGoesAs_29 : decode cX5_trialGoesAs 29 = .ok (.aload_n 1, 1) := by decide +kernel
theorem dX5_trialGoesAs_30 : decode cX5_trialGoesAs 30 = .ok (.getfield 222, 3) := by decide +kernel
theorem dX5_trialGoesAs_33 : decode cX5_trialGoesAs 33 = .ok (.iload_n 3, 1) := by decide +kernel
theorem dX5_trialGoesAs_34 : decode cX5_trialGoesAs 34 = .ok (.laload, 1) := by decide +kernel
theorem dX5_trialGoesAs_35 : decode cX5_trialGoesAs 35 = .ok (.iload_n 2, 1) := by decide +kernel
theorem dX5_trialGoesAs_36 : decode cX5_trialGoesAs 36 = .ok (.i2l, 1) := by decide +kernel
theorem dX5_trialGoesAs_37 : decode cX5_trialGoesAs 37 = .ok (.lcmp, 1) := by decide +kernel
theorem dX5_trialGoesAs_38 : decode cX5_trialGoesAs 38 = .ok (.ifCond .eq 5, 3) := by decide +kernel
theorem dX5_trialGoesAs_41 : decode cX5_trialGoesAs 41 = .ok (.iconst 0, 1) := by decide +kernel
theorem dX5_trialGoesAs_42 : decode cX5_trialGoesAs 42 = .ok (.ireturn, 1) := by decide +kernel
theorem dX5_trialGoesAs_43 : decode cX5_trialGoesAs 43 = .ok (.iload_n 2, 1) := by decide +kernel
theorem dX5_trialGoesAs_44 : decode cX5_trialGoesAs 44 = .ok (.aload_n 0, 1) := by decide +kernel
theorem dX5_trialGoesAs_45 : decode cX5_trialGoesAs 45 = .ok (.getfield 25, 3) := by decide +kernel
theorem dX5_trialGoesAs_48 : decode cX5_trialGoesAs 48 = .ok (.aload_n 0, 1) := by decide +kernel
theorem dX5_trialGoesAs_49 : decode cX5_trialGoesAs 49 = .ok (.getfield 19, 3) := by decide +kernel
theorem dX5_trialGoesAs_52 : decode cX5_trialGoesAs 52 = .ok (.invokevirtual 177, 3) := by decide +kernel
theorem dX5_trialGoesAs_55 : decode cX5_trialGoesAs 55 = .ok (.isub, 1) := by decide +kernel
theorem dX5_trialGoesAs_56 : decode cX5_trialGoesAs 56 = .ok (.istore_n 2, 1) := by decide +kernel
theorem dX5_trialGoesAs_57 : decode cX5_trialGoesAs 57 = .ok (.iinc 3 1, 3) := by decide +kernel
theorem dX5_trialGoesAs_60 : decode cX5_trialGoesAs 60 = .ok (.goto (-39), 3) := by decide +kernel
theorem dX5_trialGoesAs_63 : decode cX5_trialGoesAs 63 = .ok (.iconst 1, 1) := by decide +kernel
theorem dX5_trialGoesAs_64 : decode cX5_trialGoesAs 64 = .ok (.ireturn, 1) := by decide +kernel
theorem dX5_isWithin_0 : decode cX5_isWithin 0 = .ok (.iload_n 0, 1) := by decide +kernel
theorem dX5_isWithin_1 : decode cX5_isWithin 1 = .ok (.iload_n 1, 1) := by decide +kernel
theorem dX5_isWithin_2 : decode cX5_isWithin 2 = .ok (.if_icmp .lt 12, 3) := by decide +kernel
theorem dX5_isWithin_5 : decode cX5_isWithin 5 = .ok (.iload_n 0, 1) := by decide +kernel
theorem dX5_isWithin_6 : decode cX5_isWithin 6 = .ok (.iload_n 2, 1) := by decide +kernel
theorem dX5_isWithin_7 : decode cX5_isWithin 7 = .ok (.if_icmp .gt 7, 3) := by decide +kernel
theorem dX5_isWithin_10 : decode cX5_isWithin 10 = .ok (.iconst 1, 1) := by decide +kernel
theorem dX5_isWithin_11 : decode cX5_isWithin 11 = .ok (.goto 4, 3) := by decide +kernel
theorem dX5_isWithin_14 : decode cX5_isWithin 14 = .ok (.iconst 0, 1) := by decide +kernel
theorem dX5_isWithin_15 : decode cX5_isWithin 15 = .ok (.ireturn, 1) := by decide +kernel
theorem dX5_isCell_0 : decode cX5_isCell 0 = .ok (.iload_n 0, 1) := by decide +kernel
theorem dX5_isCell_1 : decode cX5_isCell 1 = .ok (.iconst 0, 1) := by decide +kernel
theorem dX5_isCell_2 : decode cX5_isCell 2 = .ok (.bipush 47, 2) := by decide +kernel
theorem dX5_isCell_4 : decode cX5_isCell 4 = .ok (.invokestatic 51, 3) := by decide +kernel
theorem dX5_isCell_7 : decode cX5_isCell 7 = .ok (.ireturn, 1) := by decide +kernel
theorem dX5_isKind_0 : decode cX5_isKind 0 = .ok (.iload_n 0, 1) := by decide +kernel
theorem dX5_isKind_1 : decode cX5_isKind 1 = .ok (.iconst 0, 1) := by decide +kernel
theorem dX5_isKind_2 : decode cX5_isKind 2 = .ok (.iconst 5, 1) := by decide +kernel
theorem dX5_isKind_3 : decode cX5_isKind 3 = .ok (.invokestatic 51, 3) := by decide +kernel
theorem dX5_isKind_6 : decode cX5_isKind 6 = .ok (.ireturn, 1) := by decide +kernel
theorem dX5_isSheet_0 : decode cX5_isSheet 0 = .ok (.iload_n 0, 1) := by decide +kernel
theorem dX5_isSheet_1 : decode cX5_isSheet 1 = .ok (.iconst 0, 1) := by decide +kernel
theorem dX5_isSheet_2 : decode cX5_isSheet 2 = .ok (.iconst 3, 1) := by decide +kernel
theorem dX5_isSheet_3 : decode cX5_isSheet 3 = .ok (.invokestatic 51, 3) := by decide +kernel
theorem dX5_isSheet_6 : decode cX5_isSheet 6 = .ok (.ireturn, 1) := by decide +kernel
theorem dX5_exchange_0 : decode cX5_exchange 0 = .ok (.aload_n 0, 1) := by decide +kernel
theorem dX5_exchange_1 : decode cX5_exchange 1 = .ok (.iload_n 1, 1) := by decide +kernel
theorem dX5_exchange_2 : decode cX5_exchange 2 = .ok (.iaload, 1) := by decide +kernel
theorem dX5_exchange_3 : decode cX5_exchange 3 = .ok (.istore_n 3, 1) := by decide +kernel
theorem dX5_exchange_4 : decode cX5_exchange 4 = .ok (.aload_n 0, 1) := by decide +kernel
theorem dX5_exchange_5 : decode cX5_exchange 5 = .ok (.iload_n 1, 1) := by decide +kernel
theorem dX5_exchange_6 : decode cX5_exchange 6 = .ok (.iload_n 2, 1) := by decide +kernel
theorem dX5_exchange_7 : decode cX5_exchange 7 = .ok (.iastore, 1) := by decide +kernel
theorem dX5_exchange_8 : decode cX5_exchange 8 = .ok (.iload_n 3, 1) := by decide +kernel
theorem dX5_exchange_9 : decode cX5_exchange 9 = .ok (.ireturn, 1) := by decide +kernel
theorem dX5_sumOf_0 : decode cX5_sumOf 0 = .ok (.iconst 0, 1) := by decide +kernel
theorem dX5_sumOf_1 : decode cX5_sumOf 1 = .ok (.istore_n 2, 1) := by decide +kernel
theorem dX5_sumOf_2 : decode cX5_sumOf 2 = .ok (.iconst 0, 1) := by decide +kernel
theorem dX5_sumOf_3 : decode cX5_sumOf 3 = .ok (.istore_n 3, 1) := by decide +kernel
theorem dX5_sumOf_4 : decode cX5_sumOf 4 = .ok (.iload_n 3, 1) := by decide +kernel
theorem dX5_sumOf_5 : decode cX5_sumOf 5 = .ok (.iload_n 1, 1) := by decide +kernel
theorem dX5_sumOf_6 : decode cX5_sumOf 6 = .ok (.if_icmp .ge 15, 3) := by decide +kernel
theorem dX5_sumOf_9 : decode cX5_sumOf 9 = .ok (.iload_n 2, 1) := by decide +kernel
theorem dX5_sumOf_10 : decode cX5_sumOf 10 = .ok (.aload_n 0, 1) := by decide +kernel
theorem dX5_sumOf_11 : decode cX5_sumOf 11 = .ok (.iload_n 3, 1) := by decide +kernel
theorem dX5_sumOf_12 : decode cX5_sumOf 12 = .ok (.iaload, 1) := by decide +kernel
theorem dX5_sumOf_13 : decode cX5_sumOf 13 = .ok (.iadd, 1) := by decide +kernel
theorem dX5_sumOf_14 : decode cX5_sumOf 14 = .ok (.istore_n 2, 1) := by decide +kernel
theorem dX5_sumOf_15 : decode cX5_sumOf 15 = .ok (.iinc 3 1, 3) := by decide +kernel
theorem dX5_sumOf_18 : decode cX5_sumOf 18 = .ok (.goto (-14), 3) := by decide +kernel
theorem dX5_sumOf_21 : decode cX5_sumOf 21 = .ok (.iload_n 2, 1) := by decide +kernel
theorem dX5_sumOf_22 : decode cX5_sumOf 22 = .ok (.ireturn, 1) := by decide +kernel
theorem dX5_distanceOf_0 : decode cX5_distanceOf 0 = .ok (.iload_n 0, 1) := by decide +kernel
theorem dX5_distanceOf_1 : decode cX5_distanceOf 1 = .ok (.bipush 8, 2) := by decide +kernel
theorem dX5_distanceOf_3 : decode cX5_distanceOf 3 = .ok (.idiv, 1) := by decide +kernel
theorem dX5_distanceOf_4 : decode cX5_distanceOf 4 = .ok (.iload_n 1, 1) := by decide +kernel
theorem dX5_distanceOf_5 : decode cX5_distanceOf 5 = .ok (.bipush 8, 2) := by decide +kernel
theorem dX5_distanceOf_7 : decode cX5_distanceOf 7 = .ok (.idiv, 1) := by decide +kernel
theorem dX5_distanceOf_8 : decode cX5_distanceOf 8 = .ok (.isub, 1) := by decide +kernel
theorem dX5_distanceOf_9 : decode cX5_distanceOf 9 = .ok (.invokestatic 263, 3) := by decide +kernel
theorem dX5_distanceOf_12 : decode cX5_distanceOf 12 = .ok (.istore_n 2, 1) := by decide +kernel
theorem dX5_distanceOf_13 : decode cX5_distanceOf 13 = .ok (.iload_n 0, 1) := by decide +kernel
theorem dX5_distanceOf_14 : decode cX5_distanceOf 14 = .ok (.bipush 8, 2) := by decide +kernel
theorem dX5_distanceOf_16 : decode cX5_distanceOf 16 = .ok (.irem, 1) := by decide +kernel
theorem dX5_distanceOf_17 : decode cX5_distanceOf 17 = .ok (.iload_n 1, 1) := by decide +kernel
theorem dX5_distanceOf_18 : decode cX5_distanceOf 18 = .ok (.bipush 8, 2) := by decide +kernel
theorem dX5_distanceOf_20 : decode cX5_distanceOf 20 = .ok (.irem, 1) := by decide +kernel
theorem dX5_distanceOf_21 : decode cX5_distanceOf 21 = .ok (.isub, 1) := by decide +kernel
theorem dX5_distanceOf_22 : decode cX5_distanceOf 22 = .ok (.invokestatic 263, 3) := by decide +kernel
theorem dX5_distanceOf_25 : decode cX5_distanceOf 25 = .ok (.istore_n 3, 1) := by decide +kernel
theorem dX5_distanceOf_26 : decode cX5_distanceOf 26 = .ok (.iload_n 2, 1) := by decide +kernel
theorem dX5_distanceOf_27 : decode cX5_distanceOf 27 = .ok (.iload_n 3, 1) := by decide +kernel
theorem dX5_distanceOf_28 : decode cX5_distanceOf 28 = .ok (.iadd, 1) := by decide +kernel
theorem dX5_distanceOf_29 : decode cX5_distanceOf 29 = .ok (.ireturn, 1) := by decide +kernel
end
section
theorem dX6_init_0 : decode cX6_init 0 = .ok (.aload_n 0, 1) := by decide +kernel
theorem dX6_init_1 : decode cX6_init 1 = .ok (.invokespecial 1, 3) := by decide +kernel
theorem dX6_init_4 : decode cX6_init 4 = .ok (.aload_n 0, 1) := by decide +kernel
theorem dX6_init_5 : decode cX6_init 5 = .ok (.bipush 100, 2) := by decide +kernel
theorem dX6_init_7 : decode cX6_init 7 = .ok (.newarray .int, 2) := by decide +kernel
theorem dX6_init_9 : decode cX6_init 9 = .ok (.putfield 7, 3) := by decide +kernel
theorem dX6_init_12 : decode cX6_init 12 = .ok (.aload_n 0, 1) := by decide +kernel
theorem dX6_init_13 : decode cX6_init 13 = .ok (.bipush 100, 2) := by decide +kernel
theorem dX6_init_15 : decode cX6_init 15 = .ok (.newarray .int, 2) := by decide +kernel
theorem dX6_init_17 : decode cX6_init 17 = .ok (.putfield 13, 3) := by decide +kernel
theorem dX6_init_20 : decode cX6_init 20 = .ok (.aload_n 0, 1) := by decide +kernel
theorem dX6_init_21 : decode cX6_init 21 = .ok (.bipush 100, 2) := by decide +kernel
theorem dX6_init_23 : decode cX6_init 23 = .ok (.newarray .int, 2) := by decide +kernel
theorem dX6_init_25 : decode cX6_init 25 = .ok (.putfield 16, 3) := by decide +kernel
theorem dX6_init_28 : decode cX6_init 28 = .ok (.aload_n 0, 1) := by decide +kernel
theorem dX6_init_29 : decode cX6_init 29 = .ok (.bipush 100, 2) := by decide +kernel
theorem dX6_init_31 : decode cX6_init 31 = .ok (.newarray .int, 2) := by decide +kernel
theorem dX6_init_33 : decode cX6_init 33 = .ok (.putfield 19, 3) := by decide +kernel
theorem dX6_init_36 : decode cX6_init 36 = .ok (.aload_n 0, 1) := by decide +kernel
theorem dX6_init_37 : decode cX6_init 37 = .ok (.bipush 7, 2) := by decide +kernel
theorem dX6_init_39 : decode cX6_init 39 = .ok (.newarray .int, 2) := by decide +kernel
theorem dX6_init_41 : decode cX6_init 41 = .ok (.putfield 22, 3) := by decide +kernel
theorem dX6_init_44 : decode cX6_init 44 = .ok (.aload_n 0, 1) := by decide +kernel
theorem dX6_init_45 : decode cX6_init 45 = .ok (.bipush 48, 2) := by decide +kernel
theorem dX6_init_47 : decode cX6_init 47 = .ok (.newarray .int, 2) := by decide +kernel
theorem dX6_init_49 : decode cX6_init 49 = .ok (.putfield 25, 3) := by decide +kernel
theorem dX6_init_52 : decode cX6_init 52 = .ok (.aload_n 0, 1) := by decide +kernel
theorem dX6_init_53 : decode cX6_init 53 = .ok (.bipush 104, 2) := by decide +kernel
theorem dX6_init_55 : decode cX6_init 55 = .ok (.newarray .int, 2) := by decide +kernel
theorem dX6_init_57 : decode cX6_init 57 = .ok (.putfield 28, 3) := by decide +kernel
theorem dX6_init_60 : decode cX6_init 60 = .ok (.aload_n 0, 1) := by decide +kernel
theorem dX6_init_61 : decode cX6_init 61 = .ok (.bipush 6, 2) := by decide +kernel
theorem dX6_init_63 : decode cX6_init 63 = .ok (.newarray .int, 2) := by decide +kernel
theorem dX6_init_65 : decode cX6_init 65 = .ok (.putfield 31, 3) := by decide +kernel
theorem dX6_init_68 : decode cX6_init 68 = .ok (.aload_n 0, 1) := by decide +kernel
theorem dX6_init_69 : decode cX6_init 69 = .ok (.bipush 120, 2) := by decide +kernel
theorem dX6_init_71 : decode cX6_init 71 = .ok (.newarray .int, 2) := by decide +kernel
theorem dX6_init_73 : decode cX6_init 73 = .ok (.putfield 34, 3) := by decide +kernel
theorem dX6_init_76 : decode cX6_init 76 = .ok (.aload_n 0, 1) := by decide +kernel
theorem dX6_init_77 : decode cX6_init 77 = .ok (.iconst 4, 1) := by decide +kernel
theorem dX6_init_78 : decode cX6_init 78 = .ok (.newarray .int, 2) := by decide +kernel
theorem dX6_init_80 : decode cX6_init 80 = .ok (.putfield 37, 3) := by decide +kernel
theorem dX6_init_83 : decode cX6_init 83 = .ok (.aload_n 0, 1) := by decide +kernel
theorem dX6_init_84 : decode cX6_init 84 = .ok (.iconst 4, 1) := by decide +kernel
theorem dX6_init_85 : decode cX6_init 85 = .ok (.newarray .int, 2) := by decide +kernel
theorem dX6_init_87 : decode cX6_init 87 = .ok (.putfield 40, 3) := by decide +kernel
theorem dX6_init_90 : decode cX6_init 90 = .ok (.aload_n 0, 1) := by decide +kernel
theorem dX6_init_91 : decode cX6_init 91 = .ok (.sipush 160, 3) := by decide +kernel
theorem dX6_init_94 : decode cX6_init 94 = .ok (.newarray .long, 2) := by decide +kernel
theorem dX6_init_96 : decode cX6_init 96 = .ok (.putfield 43, 3) := by decide +kernel
theorem dX6_init_99 : decode cX6_init 99 = .ok (.aload_n 0, 1) := by decide +kernel
theorem dX6_init_100 : decode cX6_init 100 = .ok (.bipush 40, 2) := by decide +kernel
theorem dX6_init_102 : decode cX6_init 102 = .ok (.newarray .long, 2) := by decide +kernel
theorem dX6_init_104 : decode cX6_init 104 = .ok (.putfield 47, 3) := by decide +kernel
theorem dX6_init_107 : decode cX6_init 107 = .ok (.aload_n 0, 1) := by decide +kernel
theorem dX6_init_108 : decode cX6_init 108 = .ok (.getfield 7, 3) := by decide +kernel
theorem dX6_init_111 : decode cX6_init 111 = .ok (.iconst 3, 1) := by decide +kernel
theorem dX6_init_112 : decode cX6_init 112 = .ok (.iconst 3, 1) := by decide +kernel
theorem dX6_init_113 : decode cX6_init 113 = .ok (.iastore, 1) := by decide +kernel
theorem dX6_init_114 : decode cX6_init 114 = .ok (.iconst 0, 1) := by decide +kernel
theorem dX6_init_115 : decode cX6_init 115 = .ok (.istore_n 1, 1) := by decide +kernel
theorem dX6_init_116 : decode cX6_init 116 = .ok (.iload_n 1, 1) := by decide +kernel
theorem dX6_init_117 : decode cX6_init 117 = .ok (.bipush 48, 2) := by decide +kernel
theorem dX6_init_119 : decode cX6_init 119 = .ok (.if_icmp .ge 19, 3) := by decide +kernel
theorem dX6_init_122 : decode cX6_init 122 = .ok (.aload_n 0, 1) := by decide +kernel
theorem dX6_init_123 : decode cX6_init 123 = .ok (.getfield 7, 3) := by decide +kernel
theorem dX6_init_126 : decode cX6_init 126 = .ok (.iconst 4, 1) := by decide +kernel
theorem dX6_init_127 : decode cX6_init 127 = .ok (.iload_n 1, 1) := by decide +kernel
theorem dX6_init_128 : decode cX6_init 128 = .ok (.iadd, 1) := by decide +kernel
theorem dX6_init_129 : decode cX6_init 129 = .ok (.bipush 10, 2) := by decide +kernel
theorem dX6_init_131 : decode cX6_init 131 = .ok (.iastore, 1) := by decide +kernel
theorem dX6_init_132 : decode cX6_init 132 = .ok (.iinc 1 1, 3) := by decide +kernel
theorem dX6_init_135 : decode cX6_init 135 = .ok (.goto (-19), 3) := by decide +kernel
theorem dX6_init_138 : decode cX6_init 138 = .ok (.return_, 1) := by decide +kernel
theorem dX6_in_0 : decode cX6_in 0 = .ok (.lload_n 0, 1) := by decide +kernel
theorem dX6_in_1 : decode cX6_in 1 = .ok (.lload_n 2, 1) := by decide +kernel
theorem dX6_in_2 : decode cX6_in 2 = .ok (.lcmp, 1) := by decide +kernel
theorem dX6_in_3 : decode cX6_in 3 = .ok (.ifCond .lt 14, 3) := by decide +kernel
theorem dX6_in_6 : decode cX6_in 6 = .ok (.lload_n 0, 1) := by decide +kernel
theorem dX6_in_7 : decode cX6_in 7 = .ok (.lload 4, 2) := by decide +kernel
theorem dX6_in_9 : decode cX6_in 9 = .ok (.lcmp, 1) := by decide +kernel
theorem dX6_in_10 : decode cX6_in 10 = .ok (.ifCond .gt 7, 3) := by decide +kernel
theorem dX6_in_13 : decode cX6_in 13 = .ok (.iconst 1, 1) := by decide +kernel
theorem dX6_in_14 : decode cX6_in 14 = .ok (.goto 4, 3) := by decide +kernel
theorem dX6_in_17 : decode cX6_in 17 = .ok (.iconst 0, 1) := by decide +kernel
theorem dX6_in_18 : decode cX6_in 18 = .ok (.ireturn, 1) := by decide +kernel
theorem dX6_finds_0 : decode cX6_finds 0 = .ok (.aload_n 0, 1) := by decide +kernel
theorem dX6_finds_1 : decode cX6_finds 1 = .ok (.getfield 22, 3) := by decide +kernel
theorem dX6_finds_4 : decode cX6_finds 4 = .ok (.ldc 50, 2) := by decide +kernel
theorem dX6_finds_6 : decode cX6_finds 6 = .ok (.iload_n 1, 1) := by decide +kernel
theorem dX6_finds_7 : decode cX6_finds 7 = .ok (.isub, 1) := by decide +kernel
theorem dX6_finds_8 : decode cX6_finds 8 = .ok (.dup2, 1) := by decide +kernel
theorem dX6_finds_9 : decode cX6_finds 9 = .ok (.iaload, 1) := by decide +kernel
theorem dX6_finds_10 : decode cX6_finds 10 = .ok (.iconst 1, 1) := by decide +kernel
theorem dX6_finds_11 : decode cX6_finds 11 = .ok (.iadd, 1) := by decide +kernel
theorem dX6_finds_12 : decode cX6_finds 12 = .ok (.iastore, 1) := by decide +kernel
theorem dX6_finds_13 : decode cX6_finds 13 = .ok (.iload_n 1, 1) := by decide +kernel
theorem dX6_finds_14 : decode cX6_finds 14 = .ok (.ireturn, 1) := by decide +kernel
theorem dX6_saves_0 : decode cX6_saves 0 = .ok (.iconst 0, 1) := by decide +kernel
theorem dX6_saves_1 : decode cX6_saves 1 = .ok (.istore_n 1, 1) := by decide +kernel
theorem dX6_saves_2 : decode cX6_saves 2 = .ok (.iload_n 1, 1) := by decide +kernel
theorem dX6_saves_3 : decode cX6_saves 3 = .ok (.bipush 100, 2) := by decide +kernel
theorem dX6_saves_5 : decode cX6_saves 5 = .ok (.if_icmp .ge 21, 3) := by decide +kernel
theorem dX6_saves_8 : decode cX6_saves 8 = .ok (.aload_n 0, 1) := by decide +kernel
theorem dX6_saves_9 : decode cX6_saves 9 = .ok (.getfield 16, 3) := by decide +kernel
theorem dX6_saves_12 : decode cX6_saves 12 = .ok (.iload_n 1, 1) := by decide +kernel
theorem dX6_saves_13 : decode cX6_saves 13 = .ok (.aload_n 0, 1) := by decide +kernel
theorem dX6_saves_14 : decode cX6_saves 14 = .ok (.getfield 7, 3) := by decide +kernel
theorem dX6_saves_17 : decode cX6_saves 17 = .ok (.iload_n 1, 1) := by decide +kernel
theorem dX6_saves_18 : decode cX6_saves 18 = .ok (.iaload, 1) := by decide +kernel
theorem dX6_saves_19 : decode cX6_saves 19 = .ok (.iastore, 1) := by decide +kernel
theorem dX6_saves_20 : decode cX6_saves 20 = .ok (.iinc 1 1, 3) := by decide +kernel
theorem dX6_saves_23 : decode cX6_saves 23 = .ok (.goto (-21), 3) := by decide +kernel
theorem dX6_saves_26 : decode cX6_saves 26 = .ok (.return_, 1) := by decide +kernel
theorem dX6_putsBack_0 : decode cX6_putsBack 0 = .ok (.iconst 0, 1) := by decide +kernel
theorem dX6_putsBack_1 : decode cX6_putsBack 1 = .ok (.istore_n 1, 1) := by decide +kernel
theorem dX6_putsBack_2 : decode cX6_putsBack 2 = .ok (.iload_n 1, 1) := by decide +kernel
theorem dX6_putsBack_3 : decode cX6_putsBack 3 = .ok (.bipush 100, 2) := by decide +kernel
theorem dX6_putsBack_5 : decode cX6_putsBack 5 = .ok (.if_icmp .ge 21, 3) := by decide +kernel
theorem dX6_putsBack_8 : decode cX6_putsBack 8 = .ok (.aload_n 0, 1) := by decide +kernel
theorem dX6_putsBack_9 : decode cX6_putsBack 9 = .ok (.getfield 7, 3) := by decide +kernel
theorem dX6_putsBack_12 : decode cX6_putsBack 12 = .ok (.iload_n 1, 1) := by decide +kernel
theorem dX6_putsBack_13 : decode cX6_putsBack 13 = .ok (.aload_n 0, 1) := by decide +kernel
theorem dX6_putsBack_14 : decode cX6_putsBack 14 = .ok (.getfield 16, 3) := by decide +kernel
theorem dX6_putsBack_17 : decode cX6_putsBack 17 = .ok (.iload_n 1, 1) := by decide +kernel
theorem dX6_putsBack_18 : decode cX6_putsBack 18 = .ok (.iaload, 1) := by decide +kernel
theorem dX6_putsBack_19 : decode cX6_putsBack 19 = .ok (.iastore, 1) := by decide +kernel
theorem dX6_putsBack_20 : decode cX6_putsBack 20 = .ok (.iinc 1 1, 3) := by decide +kernel
theorem dX6_putsBack_23 : decode cX6_putsBack 23 = .ok (.goto (-21), 3) := by decide +kernel
theorem dX6_putsBack_26 : decode cX6_putsBack 26 = .ok (.return_, 1) := by decide +kernel
theorem dX6_laysAside_0 : decode cX6_laysAside 0 = .ok (.iconst 0, 1) := by decide +kernel
theorem dX6_laysAside_1 : decode cX6_laysAside 1 = .ok (.istore_n 1, 1) := by decide +kernel
theorem dX6_laysAside_2 : decode cX6_laysAside 2 = .ok (.iload_n 1, 1) := by decide +kernel
theorem dX6_laysAside_3 : decode cX6_laysAside 3 = .ok (.bipush 100, 2) := by decide +kernel
theorem dX6_laysAside_5 : decode cX6_laysAside 5 = .ok (.if_icmp .ge 21, 3) := by decide +kernel
theorem dX6_laysAside_8 : decode cX6_laysAside 8 = .ok (.aload_n 0, 1) := by decide +kernel
theorem dX6_laysAside_9 : decode cX6_laysAside 9 = .ok (.getfield 19, 3) := by decide +kernel
theorem dX6_laysAside_12 : decode cX6_laysAside 12 = .ok (.iload_n 1, 1) := by decide +kernel
theorem dX6_laysAside_13 : decode cX6_laysAside 13 = .ok (.aload_n 0, 1) := by decide +kernel
theorem dX6_laysAside_14 : decode cX6_laysAside 14 = .ok (.getfield 7, 3) := by decide +kernel
theorem dX6_laysAside_17 : decode cX6_laysAside 17 = .ok (.iload_n 1, 1) := by decide +kernel
theorem dX6_laysAside_18 : decode cX6_laysAside 18 = .ok (.iaload, 1) := by decide +kernel
theorem dX6_laysAside_19 : decode cX6_laysAside 19 = .ok (.iastore, 1) := by decide +kernel
theorem dX6_laysAside_20 : decode cX6_laysAside 20 = .ok (.iinc 1 1, 3) := by decide +kernel
theorem dX6_laysAside_23 : decode cX6_laysAside 23 = .ok (.goto (-21), 3) := by decide +kernel
theorem dX6_laysAside_26 : decode cX6_laysAside 26 = .ok (.return_, 1) := by decide +kernel
theorem dX6_takesBack_0 : decode cX6_takesBack 0 = .ok (.iconst 0, 1) := by decide +kernel
theorem dX6_takesBack_1 : decode cX6_takesBack 1 = .ok (.istore_n 2, 1) := by decide +kernel
theorem dX6_takesBack_2 : decode cX6_takesBack 2 = .ok (.iload_n 2, 1) := by decide +kernel
theorem dX6_takesBack_3 : decode cX6_takesBack 3 = .ok (.bipush 100, 2) := by decide +kernel
theorem dX6_takesBack_5 : decode cX6_takesBack 5 = .ok (.if_icmp .ge 21, 3) := by decide +kernel
theorem dX6_takesBack_8 : decode cX6_takesBack 8 = .ok (.aload_n 0, 1) := by decide +kernel
theorem dX6_takesBack_9 : decode cX6_takesBack 9 = .ok (.getfield 7, 3) := by decide +kernel
theorem dX6_takesBack_12 : decode cX6_takesBack 12 = .ok (.iload_n 2, 1) := by decide +kernel
theorem dX6_takesBack_13 : decode cX6_takesBack 13 = .ok (.aload_n 0, 1) := by decide +kernel
theorem dX6_takesBack_14 : decode cX6_takesBack 14 = .ok (.getfield 19, 3) := by decide +kernel
theorem dX6_takesBack_17 : decode cX6_takesBack 17 = .ok (.iload_n 2, 1) := by decide +kernel
theorem dX6_takesBack_18 : decode cX6_takesBack 18 = .ok (.iaload, 1) := by decide +kernel
theorem dX6_takesBack_19 : decode cX6_takesBack 19 = .ok (.iastore, 1) := by decide +kernel
theorem dX6_takesBack_20 : decode cX6_takesBack 20 = .ok (.iinc 2 1, 3) := by decide +kernel
theorem dX6_takesBack_23 : decode cX6_takesBack 23 = .ok (.goto (-21), 3) := by decide +kernel
theorem dX6_takesBack_26 : decode cX6_takesBack 26 = .ok (.iload_n 1, 1) := by decide +kernel
theorem dX6_takesBack_27 : decode cX6_takesBack 27 = .ok (.ireturn, 1) := by decide +kernel
theorem dX6_becomes_0 : decode cX6_becomes 0 = .ok (.aload_n 0, 1) := by decide +kernel
theorem dX6_becomes_1 : decode cX6_becomes 1 = .ok (.getfield 7, 3) := by decide +kernel
theorem dX6_becomes_4 : decode cX6_becomes 4 = .ok (.iload_n 1, 1) := by decide +kernel
theorem dX6_becomes_5 : decode cX6_becomes 5 = .ok (.iaload, 1) := by decide +kernel
theorem dX6_becomes_6 : decode cX6_becomes 6 = .ok (.istore_n 3, 1) := by decide +kernel
theorem dX6_becomes_7 : decode cX6_becomes 7 = .ok (.aload_n 0, 1) := by decide +kernel
theorem dX6_becomes_8 : decode cX6_becomes 8 = .ok (.getfield 7, 3) := by decide +kernel
theorem dX6_becomes_11 : decode cX6_becomes 11 = .ok (.iload_n 1, 1) := by decide +kernel
theorem dX6_becomes_12 : decode cX6_becomes 12 = .ok (.iload_n 2, 1) := by decide +kernel
theorem dX6_becomes_13 : decode cX6_becomes 13 = .ok (.iastore, 1) := by decide +kernel
theorem dX6_becomes_14 : decode cX6_becomes 14 = .ok (.iload_n 3, 1) := by decide +kernel
theorem dX6_becomes_15 : decode cX6_becomes 15 = .ok (.ireturn, 1) := by decide +kernel
theorem dX6_isCell_0 : decode cX6_isCell 0 = .ok (.iload_n 0, 1) := by decide +kernel
theorem dX6_isCell_1 : decode cX6_isCell 1 = .ok (.i2l, 1) := by decide +kernel
theorem dX6_isCell_2 : decode cX6_isCell 2 = .ok (.lconst 0, 1) := by decide +kernel
theorem dX6_isCell_3 : decode cX6_isCell 3 = .ok (.ldc2_w 51, 3) := by decide +kernel
theorem dX6_isCell_6 : decode cX6_isCell 6 = .ok (.invokestatic 53, 3) := by decide +kernel
theorem dX6_isCell_9 : decode cX6_isCell 9 = .ok (.ireturn, 1) := by decide +kernel
theorem dX6_isSitter_0 : decode cX6_isSitter 0 = .ok (.iload_n 1, 1) := by decide +kernel
theorem dX6_isSitter_1 : decode cX6_isSitter 1 = .ok (.i2l, 1) := by decide +kernel
theorem dX6_isSitter_2 : decode cX6_isSitter 2 = .ok (.lconst 0, 1) := by decide +kernel
theorem dX6_isSitter_3 : decode cX6_isSitter 3 = .ok (.aload_n 0, 1) := by decide +kernel
theorem dX6_isSitter_4 : decode cX6_isSitter 4 = .ok (.getfield 7, 3) := by decide +kernel
theorem dX6_isSitter_7 : decode cX6_isSitter 7 = .ok (.iconst 0, 1) := by decide +kernel
theorem dX6_isSitter_8 : decode cX6_isSitter 8 = .ok (.iaload, 1) := by decide +kernel
theorem dX6_isSitter_9 : decode cX6_isSitter 9 = .ok (.iconst 1, 1) := by decide +kernel
theorem dX6_isSitter_10 : decode cX6_isSitter 10 = .ok (.isub, 1) := by decide +kernel
theorem dX6_isSitter_11 : decode cX6_isSitter 11 = .ok (.i2l, 1) := by decide +kernel
theorem dX6_isSitter_12 : decode cX6_isSitter 12 = .ok (.invokestatic 53, 3) := by decide +kernel
theorem dX6_isSitter_15 : decode cX6_isSitter 15 = .ok (.ireturn, 1) := by decide +kernel
theorem dX6_isLikeness_0 : decode cX6_isLikeness 0 = .ok (.iload_n 1, 1) := by decide +kernel
theorem dX6_isLikeness_1 : decode cX6_isLikeness 1 = .ok (.i2l, 1) := by decide +kernel
theorem dX6_isLikeness_2 : decode cX6_isLikeness 2 = .ok (.lconst 0, 1) := by decide +kernel
theorem dX6_isLikeness_3 : decode cX6_isLikeness 3 = .ok (.aload_n 0, 1) := by decide +kernel
theorem dX6_isLikeness_4 : decode cX6_isLikeness 4 = .ok (.getfield 7, 3) := by decide +kernel
theorem dX6_isLikeness_7 : decode cX6_isLikeness 7 = .ok (.iconst 1, 1) := by decide +kernel
theorem dX6_isLikeness_8 : decode cX6_isLikeness 8 = .ok (.iaload, 1) := by decide +kernel
theorem dX6_isLikeness_9 : decode cX6_isLikeness 9 = .ok (.iconst 1, 1) := by decide +kernel
theorem dX6_isLikeness_10 : decode cX6_isLikeness 10 = .ok (.isub, 1) := by decide +kernel
theorem dX6_isLikeness_11 : decode cX6_isLikeness 11 = .ok (.i2l, 1) := by decide +kernel
theorem dX6_isLikeness_12 : decode cX6_isLikeness 12 = .ok (.invokestatic 53, 3) := by decide +kernel
theorem dX6_isLikeness_15 : decode cX6_isLikeness 15 = .ok (.ireturn, 1) := by decide +kernel
theorem dX6_isKind_0 : decode cX6_isKind 0 = .ok (.iload_n 0, 1) := by decide +kernel
theorem dX6_isKind_1 : decode cX6_isKind 1 = .ok (.i2l, 1) := by decide +kernel
theorem dX6_isKind_2 : decode cX6_isKind 2 = .ok (.lconst 0, 1) := by decide +kernel
theorem dX6_isKind_3 : decode cX6_isKind 3 = .ok (.ldc2_w 57, 3) := by decide +kernel
theorem dX6_isKind_6 : decode cX6_isKind 6 = .ok (.invokestatic 53, 3) := by decide +kernel
theorem dX6_isKind_9 : decode cX6_isKind 9 = .ok (.ireturn, 1) := by decide +kernel
theorem dX6_spotOf_0 : decode cX6_spotOf 0 = .ok (.bipush 52, 2) := by decide +kernel
theorem dX6_spotOf_2 : decode cX6_spotOf 2 = .ok (.iconst 4, 1) := by decide +kernel
theorem dX6_spotOf_3 : decode cX6_spotOf 3 = .ok (.iload_n 0, 1) := by decide +kernel
theorem dX6_spotOf_4 : decode cX6_spotOf 4 = .ok (.imul, 1) := by decide +kernel
theorem dX6_spotOf_5 : decode cX6_spotOf 5 = .ok (.iadd, 1) := by decide +kernel
theorem dX6_spotOf_6 : decode cX6_spotOf 6 = .ok (.iload_n 1, 1) := by decide +kernel
theorem dX6_spotOf_7 : decode cX6_spotOf 7 = .ok (.iadd, 1) := by decide +kernel
theorem dX6_spotOf_8 : decode cX6_spotOf 8 = .ok (.ireturn, 1) := by decide +kernel
theorem dX6_its_0 : decode cX6_its 0 = .ok (.aload_n 0, 1) := by decide +kernel
theorem dX6_its_1 : decode cX6_its 1 = .ok (.getfield 7, 3) := by decide +kernel
theorem dX6_its_4 : decode cX6_its 4 = .ok (.iload_n 1, 1) := by decide +kernel
theorem dX6_its_5 : decode cX6_its 5 = .ok (.iload_n 2, 1) := by decide +kernel
theorem dX6_its_6 : decode cX6_its 6 = .ok (.invokestatic 59, 3) := by decide +kernel
theorem dX6_its_9 : decode cX6_its 9 = .ok (.iaload, 1) := by decide +kernel
theorem dX6_its_10 : decode cX6_its 10 = .ok (.ireturn, 1) := by decide +kernel
theorem dX6_placeOf_0 : decode cX6_placeOf 0 = .ok (.bipush 76, 2) := by decide +kernel
theorem dX6_placeOf_2 : decode cX6_placeOf 2 = .ok (.iconst 3, 1) := by decide +kernel
theorem dX6_placeOf_3 : decode cX6_placeOf 3 = .ok (.iload_n 0, 1) := by decide +kernel
theorem dX6_placeOf_4 : decode cX6_placeOf 4 = .ok (.imul, 1) := by decide +kernel
theorem dX6_placeOf_5 : decode cX6_placeOf 5 = .ok (.iadd, 1) := by decide +kernel
theorem dX6_placeOf_6 : decode cX6_placeOf 6 = .ok (.iload_n 1, 1) := by decide +kernel
theorem dX6_placeOf_7 : decode cX6_placeOf 7 = .ok (.iadd, 1) := by decide +kernel
theorem dX6_placeOf_8 : decode cX6_placeOf 8 = .ok (.ireturn, 1) := by decide +kernel
theorem dX6_likes_0 : decode cX6_likes 0 = .ok (.aload_n 0, 1) := by decide +kernel
theorem dX6_likes_1 : decode cX6_likes 1 = .ok (.getfield 7, 3) := by decide +kernel
theorem dX6_likes_4 : decode cX6_likes 4 = .ok (.iload_n 1, 1) := by decide +kernel
theorem dX6_likes_5 : decode cX6_likes 5 = .ok (.iload_n 2, 1) := by decide +kernel
theorem dX6_likes_6 : decode cX6_likes 6 = .ok (.invokestatic 63, 3) := by decide +kernel
theorem dX6_likes_9 : decode cX6_likes 9 = .ok (.iaload, 1) := by decide +kernel
theorem dX6_likes_10 : decode cX6_likes 10 = .ok (.ireturn, 1) := by decide +kernel
theorem dX6_isThere_0 : decode cX6_isThere 0 = .ok (.aload_n 0, 1) := by decide +kernel
theorem dX6_isThere_1 : decode cX6_isThere 1 = .ok (.getfield 66, 3) := by decide +kernel
theorem dX6_isThere_4 : decode cX6_isThere 4 = .ok (.iload_n 1, 1) := by decide +kernel
theorem dX6_isThere_5 : decode cX6_isThere 5 = .ok (.ishr, 1) := by decide +kernel
theorem dX6_isThere_6 : decode cX6_isThere 6 = .ok (.iconst 1, 1) := by decide +kernel
theorem dX6_isThere_7 : decode cX6_isThere 7 = .ok (.iand, 1) := by decide +kernel
theorem dX6_isThere_8 : decode cX6_isThere 8 = .ok (.ifCond .ne 7, 3) := by decide +kernel
theorem dX6_isThere_11 : decode cX6_isThere 11 = .ok (.iconst 1, 1) := by decide +kernel
theorem dX6_isThere_12 : decode cX6_isThere 12 = .ok (.goto 4, 3) := by decide +kernel
theorem dX6_isThere_15 : decode cX6_isThere 15 = .ok (.iconst 0, 1) := by decide +kernel
theorem dX6_isThere_16 : decode cX6_isThere 16 = .ok (.ireturn, 1) := by decide +kernel
theorem dX6_far_0 : decode cX6_far 0 = .ok (.iload_n 0, 1) := by decide +kernel
theorem dX6_far_1 : decode cX6_far 1 = .ok (.bipush 8, 2) := by decide +kernel
theorem dX6_far_3 : decode cX6_far 3 = .ok (.idiv, 1) := by decide +kernel
theorem dX6_far_4 : decode cX6_far 4 = .ok (.iload_n 1, 1) := by decide +kernel
theorem dX6_far_5 : decode cX6_far 5 = .ok (.bipush 8, 2) := by decide +kernel
theorem dX6_far_7 : decode cX6_far 7 = .ok (.idiv, 1) := by decide +kernel
theorem dX6_far_8 : decode cX6_far 8 = .ok (.isub, 1) := by decide +kernel
theorem dX6_far_9 : decode cX6_far 9 = .ok (.istore_n 2, 1) := by decide +kernel
theorem dX6_far_10 : decode cX6_far 10 = .ok (.iload_n 0, 1) := by decide +kernel
theorem dX6_far_11 : decode cX6_far 11 = .ok (.bipush 8, 2) := by decide +kernel
theorem dX6_far_13 : decode cX6_far 13 = .ok (.irem, 1) := by decide +kernel
theorem dX6_far_14 : decode cX6_far 14 = .ok (.iload_n 1, 1) := by decide +kernel
theorem dX6_far_15 : decode cX6_far 15 = .ok (.bipush 8, 2) := by decide +kernel
theorem dX6_far_17 : decode cX6_far 17 = .ok (.irem, 1) := by decide +kernel
theorem dX6_far_18 : decode cX6_far 18 = .ok (.isub, 1) := by decide +kernel
theorem dX6_far_19 : decode cX6_far 19 = .ok (.istore_n 3, 1) := by decide +kernel
theorem dX6_far_20 : decode cX6_far 20 = .ok (.iload_n 2, 1) := by decide +kernel
theorem dX6_far_21 : decode cX6_far 21 = .ok (.ifCond .ge 8, 3) := by decide +kernel
theorem dX6_far_24 : decode cX6_far 24 = .ok (.iload_n 2, 1) := by decide +kernel
theorem dX6_far_25 : decode cX6_far 25 = .ok (.ineg, 1) := by decide +kernel
theorem dX6_far_26 : decode cX6_far 26 = .ok (.goto 4, 3) := by decide +kernel
theorem dX6_far_29 : decode cX6_far 29 = .ok (.iload_n 2, 1) := by decide +kernel
theorem dX6_far_30 : decode cX6_far 30 = .ok (.iload_n 3, 1) := by decide +kernel
theorem dX6_far_31 : decode cX6_far 31 = .ok (.ifCond .ge 8, 3) := by decide +kernel
theorem dX6_far_34 : decode cX6_far 34 = .ok (.iload_n 3, 1) := by decide +kernel
theorem dX6_far_35 : decode cX6_far 35 = .ok (.ineg, 1) := by decide +kernel
theorem dX6_far_36 : decode cX6_far 36 = .ok (.goto 4, 3) := by decide +kernel
theorem dX6_far_39 : decode cX6_far 39 = .ok (.iload_n 3, 1) := by decide +kernel
theorem dX6_far_40 : decode cX6_far 40 = .ok (.iadd, 1) := by decide +kernel
theorem dX6_far_41 : decode cX6_far 41 = .ok (.ireturn, 1) := by decide +kernel
theorem dX6_counts_0 : decode cX6_counts 0 = .ok (.aload_n 0, 1) := by decide +kernel
theorem dX6_counts_1 : decode cX6_counts 1 = .ok (.iload_n 1, 1) := by decide +kernel
theorem dX6_counts_2 : decode cX6_counts 2 = .ok (.iconst 1, 1) := by decide +kernel
theorem dX6_counts_3 : decode cX6_counts 3 = .ok (.invokevirtual 70, 3) := by decide +kernel
theorem dX6_counts_6 : decode cX6_counts 6 = .ok (.istore_n 2, 1) := by decide +kernel
theorem dX6_counts_7 : decode cX6_counts 7 = .ok (.aload_n 0, 1) := by decide +kernel
theorem dX6_counts_8 : decode cX6_counts 8 = .ok (.iload_n 2, 1) := by decide +kernel
theorem dX6_counts_9 : decode cX6_counts 9 = .ok (.iconst 1, 1) := by decide +kernel
theorem dX6_counts_10 : decode cX6_counts 10 = .ok (.invokevirtual 73, 3) := by decide +kernel
theorem dX6_counts_13 : decode cX6_counts 13 = .ok (.istore_n 3, 1) := by decide +kernel
theorem dX6_counts_14 : decode cX6_counts 14 = .ok (.aload_n 0, 1) := by decide +kernel
theorem dX6_counts_15 : decode cX6_counts 15 = .ok (.iload_n 1, 1) := by decide +kernel
theorem dX6_counts_16 : decode cX6_counts 16 = .ok (.iconst 2, 1) := by decide +kernel
theorem dX6_counts_17 : decode cX6_counts 17 = .ok (.invokevirtual 70, 3) := by decide +kernel
theorem dX6_counts_20 : decode cX6_counts 20 = .ok (.istore 4, 2) := by decide +kernel
theorem dX6_counts_22 : decode cX6_counts 22 = .ok (.iload_n 3, 1) := by decide +kernel
theorem dX6_counts_23 : decode cX6_counts 23 = .ok (.iload 4, 2) := by decide +kernel
theorem dX6_counts_25 : decode cX6_counts 25 = .ok (.iconst 4, 1) := by decide +kernel
theorem dX6_counts_26 : decode cX6_counts 26 = .ok (.idiv, 1) := by decide +kernel
theorem dX6_counts_27 : decode cX6_counts 27 = .ok (.if_icmp .le 12, 3) := by decide +kernel
theorem dX6_counts_30 : decode cX6_counts 30 = .ok (.iload_n 3, 1) := by decide +kernel
theorem dX6_counts_31 : decode cX6_counts 31 = .ok (.iload 4, 2) := by decide +kernel
theorem dX6_counts_33 : decode cX6_counts 33 = .ok (.iconst 4, 1) := by decide +kernel
theorem dX6_counts_34 : decode cX6_counts 34 = .ok (.idiv, 1) := by decide +kernel
theorem dX6_counts_35 : decode cX6_counts 35 = .ok (.isub, 1) := by decide +kernel
theorem dX6_counts_36 : decode cX6_counts 36 = .ok (.goto 4, 3) := by decide +kernel
theorem dX6_counts_39 : decode cX6_counts 39 = .ok (.iconst 0, 1) := by decide +kernel
theorem dX6_counts_40 : decode cX6_counts 40 = .ok (.istore 5, 2) := by decide +kernel
theorem dX6_counts_42 : decode cX6_counts 42 = .ok (.aload_n 0, 1) := by decide +kernel
theorem dX6_counts_43 : decode cX6_counts 43 = .ok (.iload_n 2, 1) := by decide +kernel
theorem dX6_counts_44 : decode cX6_counts 44 = .ok (.iconst 0, 1) := by decide +kernel
theorem dX6_counts_45 : decode cX6_counts 45 = .ok (.invokevirtual 73, 3) := by decide +kernel
theorem dX6_counts_48 : decode cX6_counts 48 = .ok (.tableswitch 80 1 5 #[36, 41, 46, 60, 67], 36) := by decide +kernel
theorem dX6_counts_84 : decode cX6_counts 84 = .ok (.iload 5, 2) := by decide +kernel
theorem dX6_counts_86 : decode cX6_counts 86 = .ok (.iconst 5, 1) := by decide +kernel
theorem dX6_counts_87 : decode cX6_counts 87 = .ok (.iadd, 1) := by decide +kernel
theorem dX6_counts_88 : decode cX6_counts 88 = .ok (.ireturn, 1) := by decide +kernel
theorem dX6_counts_89 : decode cX6_counts 89 = .ok (.iload 5, 2) := by decide +kernel
theorem dX6_counts_91 : decode cX6_counts 91 = .ok (.iconst 2, 1) := by decide +kernel
theorem dX6_counts_92 : decode cX6_counts 92 = .ok (.idiv, 1) := by decide +kernel
theorem dX6_counts_93 : decode cX6_counts 93 = .ok (.ireturn, 1) := by decide +kernel
theorem dX6_counts_94 : decode cX6_counts 94 = .ok (.iload 4, 2) := by decide +kernel
theorem dX6_counts_96 : decode cX6_counts 96 = .ok (.sipush 365, 3) := by decide +kernel
theorem dX6_counts_99 : decode cX6_counts 99 = .ok (.if_icmp .ge 7, 3) := by decide +kernel
theorem dX6_counts_102 : decode cX6_counts 102 = .ok (.iload_n 3, 1) := by decide +kernel
theorem dX6_counts_103 : decode cX6_counts 103 = .ok (.goto 4, 3) := by decide +kernel
theorem dX6_counts_106 : decode cX6_counts 106 = .ok (.iconst 0, 1) := by decide +kernel
theorem dX6_counts_107 : decode cX6_counts 107 = .ok (.ireturn, 1) := by decide +kernel
theorem dX6_counts_108 : decode cX6_counts 108 = .ok (.iconst 0, 1) := by decide +kernel
theorem dX6_counts_109 : decode cX6_counts 109 = .ok (.iload 5, 2) := by decide +kernel
theorem dX6_counts_111 : decode cX6_counts 111 = .ok (.iconst 2, 1) := by decide +kernel
theorem dX6_counts_112 : decode cX6_counts 112 = .ok (.idiv, 1) := by decide +kernel
theorem dX6_counts_113 : decode cX6_counts 113 = .ok (.isub, 1) := by decide +kernel
theorem dX6_counts_114 : decode cX6_counts 114 = .ok (.ireturn, 1) := by decide +kernel
theorem dX6_counts_115 : decode cX6_counts 115 = .ok (.iload 4, 2) := by decide +kernel
theorem dX6_counts_117 : decode cX6_counts 117 = .ok (.bipush 7, 2) := by decide +kernel
theorem dX6_counts_119 : decode cX6_counts 119 = .ok (.if_icmp .ge 7, 3) := by decide +kernel
theorem dX6_counts_122 : decode cX6_counts 122 = .ok (.iload_n 3, 1) := by decide +kernel
theorem dX6_counts_123 : decode cX6_counts 123 = .ok (.goto 4, 3) := by decide +kernel
theorem dX6_counts_126 : decode cX6_counts 126 = .ok (.iconst 0, 1) := by decide +kernel
theorem dX6_counts_127 : decode cX6_counts 127 = .ok (.ireturn, 1) := by decide +kernel
theorem dX6_counts_128 : decode cX6_counts 128 = .ok (.iload 5, 2) := by decide +kernel
theorem dX6_counts_130 : decode cX6_counts 130 = .ok (.ireturn, 1) := by decide +kernel
theorem dX6_atLeastNothing_0 : decode cX6_atLeastNothing 0 = .ok (.iload_n 0, 1) := by decide +kernel
theorem dX6_atLeastNothing_1 : decode cX6_atLeastNothing 1 = .ok (.ifCond .ge 7, 3) := by decide +kernel
theorem dX6_atLeastNothing_4 : decode cX6_atLeastNothing 4 = .ok (.iconst 0, 1) := by decide +kernel
theorem dX6_atLeastNothing_5 : decode cX6_atLeastNothing 5 = .ok (.goto 4, 3) := by decide +kernel
theorem dX6_atLeastNothing_8 : decode cX6_atLeastNothing 8 = .ok (.iload_n 0, 1) := by decide +kernel
theorem dX6_atLeastNothing_9 : decode cX6_atLeastNothing 9 = .ok (.ireturn, 1) := by decide +kernel
theorem dX6_scared_0 : decode cX6_scared 0 = .ok (.aload_n 0, 1) := by decide +kernel
theorem dX6_scared_1 : decode cX6_scared 1 = .ok (.iload_n 1, 1) := by decide +kernel
theorem dX6_scared_2 : decode cX6_scared 2 = .ok (.invokevirtual 76, 3) := by decide +kernel
theorem dX6_scared_5 : decode cX6_scared 5 = .ok (.istore_n 3, 1) := by decide +kernel
theorem dX6_scared_6 : decode cX6_scared 6 = .ok (.iload_n 3, 1) := by decide +kernel
theorem dX6_scared_7 : decode cX6_scared 7 = .ok (.iconst 3, 1) := by decide +kernel
theorem dX6_scared_8 : decode cX6_scared 8 = .ok (.iload_n 2, 1) := by decide +kernel
theorem dX6_scared_9 : decode cX6_scared 9 = .ok (.imul, 1) := by decide +kernel
theorem dX6_scared_10 : decode cX6_scared 10 = .ok (.isub, 1) := by decide +kernel
theorem dX6_scared_11 : decode cX6_scared 11 = .ok (.invokestatic 80, 3) := by decide +kernel
theorem dX6_scared_14 : decode cX6_scared 14 = .ok (.istore 4, 2) := by decide +kernel
theorem dX6_scared_16 : decode cX6_scared 16 = .ok (.aload_n 0, 1) := by decide +kernel
theorem dX6_scared_17 : decode cX6_scared 17 = .ok (.aload_n 0, 1) := by decide +kernel
theorem dX6_scared_18 : decode cX6_scared 18 = .ok (.iload_n 1, 1) := by decide +kernel
theorem dX6_scared_19 : decode cX6_scared 19 = .ok (.iconst 1, 1) := by decide +kernel
theorem dX6_scared_20 : decode cX6_scared 20 = .ok (.invokevirtual 70, 3) := by decide +kernel
theorem dX6_scared_23 : decode cX6_scared 23 = .ok (.iconst 0, 1) := by decide +kernel
theorem dX6_scared_24 : decode cX6_scared 24 = .ok (.invokevirtual 73, 3) := by decide +kernel
theorem dX6_scared_27 : decode cX6_scared 27 = .ok (.tableswitch 81 1 5 #[33, 40, 81, 48, 66], 33) := by decide +kernel
theorem dX6_scared_60 : decode cX6_scared 60 = .ok (.iload_n 3, 1) := by decide +kernel
theorem dX6_scared_61 : decode cX6_scared 61 = .ok (.iload_n 2, 1) := by decide +kernel
theorem dX6_scared_62 : decode cX6_scared 62 = .ok (.isub, 1) := by decide +kernel
theorem dX6_scared_63 : decode cX6_scared 63 = .ok (.invokestatic 80, 3) := by decide +kernel
theorem dX6_scared_66 : decode cX6_scared 66 = .ok (.ireturn, 1) := by decide +kernel
theorem dX6_scared_67 : decode cX6_scared 67 = .ok (.iload 4, 2) := by decide +kernel
theorem dX6_scared_69 : decode cX6_scared 69 = .ok (.iconst 1, 1) := by decide +kernel
theorem dX6_scared_70 : decode cX6_scared 70 = .ok (.isub, 1) := by decide +kernel
theorem dX6_scared_71 : decode cX6_scared 71 = .ok (.invokestatic 80, 3) := by decide +kernel
theorem dX6_scared_74 : decode cX6_scared 74 = .ok (.ireturn, 1) := by decide +kernel
theorem dX6_scared_75 : decode cX6_scared 75 = .ok (.iload_n 3, 1) := by decide +kernel
theorem dX6_scared_76 : decode cX6_scared 76 = .ok (.iconst 2, 1) := by decide +kernel
theorem dX6_scared_77 : decode cX6_scared 77 = .ok (.iload_n 2, 1) := by decide +kernel
theorem dX6_scared_78 : decode cX6_scared 78 = .ok (.imul, 1) := by decide +kernel
theorem dX6_scared_79 : decode cX6_scared 79 = .ok (.iadd, 1) := by decide +kernel
theorem dX6_scared_80 : decode cX6_scared 80 = .ok (.ifCond .ge 11, 3) := by decide +kernel
theorem dX6_scared_83 : decode cX6_scared 83 = .ok (.iload_n 3, 1) := by decide +kernel
theorem dX6_scared_84 : decode cX6_scared 84 = .ok (.iconst 2, 1) := by decide +kernel
theorem dX6_scared_85 : decode cX6_scared 85 = .ok (.iload_n 2, 1) := by decide +kernel
theorem dX6_scared_86 : decode cX6_scared 86 = .ok (.imul, 1) := by decide +kernel
theorem dX6_scared_87 : decode cX6_scared 87 = .ok (.iadd, 1) := by decide +kernel
theorem dX6_scared_88 : decode cX6_scared 88 = .ok (.goto 4, 3) := by decide +kernel
theorem dX6_scared_91 : decode cX6_scared 91 = .ok (.iconst 0, 1) := by decide +kernel
theorem dX6_scared_92 : decode cX6_scared 92 = .ok (.ireturn, 1) := by decide +kernel
theorem dX6_scared_93 : decode cX6_scared 93 = .ok (.iload_n 2, 1) := by decide +kernel
theorem dX6_scared_94 : decode cX6_scared 94 = .ok (.iconst 1, 1) := by decide +kernel
theorem dX6_scared_95 : decode cX6_scared 95 = .ok (.if_icmp .gt 10, 3) := by decide +kernel
theorem dX6_scared_98 : decode cX6_scared 98 = .ok (.iconst 2, 1) := by decide +kernel
theorem dX6_scared_99 : decode cX6_scared 99 = .ok (.iload 4, 2) := by decide +kernel
theorem dX6_scared_101 : decode cX6_scared 101 = .ok (.imul, 1) := by decide +kernel
theorem dX6_scared_102 : decode cX6_scared 102 = .ok (.goto 5, 3) := by decide +kernel
theorem dX6_scared_105 : decode cX6_scared 105 = .ok (.iload 4, 2) := by decide +kernel
theorem dX6_scared_107 : decode cX6_scared 107 = .ok (.ireturn, 1) := by decide +kernel
theorem dX6_scared_108 : decode cX6_scared 108 = .ok (.iload 4, 2) := by decide +kernel
theorem dX6_scared_110 : decode cX6_scared 110 = .ok (.ireturn, 1) := by decide +kernel
theorem dX6_fear_0 : decode cX6_fear 0 = .ok (.iconst 0, 1) := by decide +kernel
theorem dX6_fear_1 : decode cX6_fear 1 = .ok (.istore_n 2, 1) := by decide +kernel
theorem dX6_fear_2 : decode cX6_fear 2 = .ok (.iconst 0, 1) := by decide +kernel
theorem dX6_fear_3 : decode cX6_fear 3 = .ok (.istore_n 3, 1) := by decide +kernel
theorem dX6_fear_4 : decode cX6_fear 4 = .ok (.iload_n 3, 1) := by decide +kernel
theorem dX6_fear_5 : decode cX6_fear 5 = .ok (.aload_n 0, 1) := by decide +kernel
theorem dX6_fear_6 : decode cX6_fear 6 = .ok (.getfield 7, 3) := by decide +kernel
theorem dX6_fear_9 : decode cX6_fear 9 = .ok (.iconst 0, 1) := by decide +kernel
theorem dX6_fear_10 : decode cX6_fear 10 = .ok (.iaload, 1) := by decide +kernel
theorem dX6_fear_11 : decode cX6_fear 11 = .ok (.if_icmp .ge 106, 3) := by decide +kernel
theorem dX6_fear_14 : decode cX6_fear 14 = .ok (.sipush (-1000), 3) := by decide +kernel
theorem dX6_fear_17 : decode cX6_fear 17 = .ok (.istore 4, 2) := by decide +kernel
theorem dX6_fear_19 : decode cX6_fear 19 = .ok (.iconst 0, 1) := by decide +kernel
theorem dX6_fear_20 : decode cX6_fear 20 = .ok (.istore 5, 2) := by decide +kernel
theorem dX6_fear_22 : decode cX6_fear 22 = .ok (.iload 5, 2) := by decide +kernel
theorem dX6_fear_24 : decode cX6_fear 24 = .ok (.aload_n 0, 1) := by decide +kernel
theorem dX6_fear_25 : decode cX6_fear 25 = .ok (.getfield 7, 3) := by decide +kernel
theorem dX6_fear_28 : decode cX6_fear 28 = .ok (.iconst 1, 1) := by decide +kernel
theorem dX6_fear_29 : decode cX6_fear 29 = .ok (.iaload, 1) := by decide +kernel
theorem dX6_fear_30 : decode cX6_fear 30 = .ok (.if_icmp .ge 64, 3) := by decide +kernel
theorem dX6_fear_33 : decode cX6_fear 33 = .ok (.aload_n 0, 1) := by decide +kernel
theorem dX6_fear_34 : decode cX6_fear 34 = .ok (.iload 5, 2) := by decide +kernel
theorem dX6_fear_36 : decode cX6_fear 36 = .ok (.iconst 1, 1) := by decide +kernel
theorem dX6_fear_37 : decode cX6_fear 37 = .ok (.invokevirtual 70, 3) := by decide +kernel
theorem dX6_fear_40 : decode cX6_fear 40 = .ok (.iload_n 3, 1) := by decide +kernel
theorem dX6_fear_41 : decode cX6_fear 41 = .ok (.if_icmp .ne 47, 3) := by decide +kernel
theorem dX6_fear_44 : decode cX6_fear 44 = .ok (.aload_n 0, 1) := by decide +kernel
theorem dX6_fear_45 : decode cX6_fear 45 = .ok (.iload 5, 2) := by decide +kernel
theorem dX6_fear_47 : decode cX6_fear 47 = .ok (.invokevirtual 83, 3) := by decide +kernel
theorem dX6_fear_50 : decode cX6_fear 50 = .ok (.ifCond .eq 38, 3) := by decide +kernel
theorem dX6_fear_53 : decode cX6_fear 53 = .ok (.aload_n 0, 1) := by decide +kernel
theorem dX6_fear_54 : decode cX6_fear 54 = .ok (.iload 5, 2) := by decide +kernel
theorem dX6_fear_56 : decode cX6_fear 56 = .ok (.iload_n 1, 1) := by decide +kernel
theorem dX6_fear_57 : decode cX6_fear 57 = .ok (.aload_n 0, 1) := by decide +kernel
theorem dX6_fear_58 : decode cX6_fear 58 = .ok (.iload 5, 2) := by decide +kernel
theorem dX6_fear_60 : decode cX6_fear 60 = .ok (.iconst 0, 1) := by decide +kernel
theorem dX6_fear_61 : decode cX6_fear 61 = .ok (.invokevirtual 70, 3) := by decide +kernel
theorem dX6_fear_64 : decode cX6_fear 64 = .ok (.invokestatic 87, 3) := by decide +kernel
theorem dX6_fear_67 : decode cX6_fear 67 = .ok (.invokevirtual 90, 3) := by decide +kernel
theorem dX6_fear_70 : decode cX6_fear 70 = .ok (.istore 6, 2) := by decide +kernel
theorem dX6_fear_72 : decode cX6_fear 72 = .ok (.iload 6, 2) := by decide +kernel
theorem dX6_fear_74 : decode cX6_fear 74 = .ok (.iload 4, 2) := by decide +kernel
theorem dX6_fear_76 : decode cX6_fear 76 = .ok (.if_icmp .le 8, 3) := by decide +kernel
theorem dX6_fear_79 : decode cX6_fear 79 = .ok (.iload 6, 2) := by decide +kernel
theorem dX6_fear_81 : decode cX6_fear 81 = .ok (.goto 5, 3) := by decide +kernel
theorem dX6_fear_84 : decode cX6_fear 84 = .ok (.iload 4, 2) := by decide +kernel
theorem dX6_fear_86 : decode cX6_fear 86 = .ok (.istore 4, 2) := by decide +kernel
theorem dX6_fear_88 : decode cX6_fear 88 = .ok (.iinc 5 1, 3) := by decide +kernel
theorem dX6_fear_91 : decode cX6_fear 91 = .ok (.goto (-69), 3) := by decide +kernel
theorem dX6_fear_94 : decode cX6_fear 94 = .ok (.iload_n 2, 1) := by decide +kernel
theorem dX6_fear_95 : decode cX6_fear 95 = .ok (.iload 4, 2) := by decide +kernel
theorem dX6_fear_97 : decode cX6_fear 97 = .ok (.sipush (-1000), 3) := by decide +kernel
theorem dX6_fear_100 : decode cX6_fear 100 = .ok (.if_icmp .ne 7, 3) := by decide +kernel
theorem dX6_fear_103 : decode cX6_fear 103 = .ok (.iconst 0, 1) := by decide +kernel
theorem dX6_fear_104 : decode cX6_fear 104 = .ok (.goto 5, 3) := by decide +kernel
theorem dX6_fear_107 : decode cX6_fear 107 = .ok (.iload 4, 2) := by decide +kernel
theorem dX6_fear_109 : decode cX6_fear 109 = .ok (.iadd, 1) := by decide +kernel
theorem dX6_fear_110 : decode cX6_fear 110 = .ok (.istore_n 2, 1) := by decide +kernel
theorem dX6_fear_111 : decode cX6_fear 111 = .ok (.iinc 3 1, 3) := by decide +kernel
theorem dX6_fear_114 : decode cX6_fear 114 = .ok (.goto (-110), 3) := by decide +kernel
theorem dX6_fear_117 : decode cX6_fear 117 = .ok (.iload_n 2, 1) := by decide +kernel
theorem dX6_fear_118 : decode cX6_fear 118 = .ok (.ireturn, 1) := by decide +kernel
theorem dX6_wheat_0 : decode cX6_wheat 0 = .ok (.iload_n 1, 1) := by decide +kernel
theorem dX6_wheat_1 : decode cX6_wheat 1 = .ok (.invokestatic 93, 3) := by decide +kernel
theorem dX6_wheat_4 : decode cX6_wheat 4 = .ok (.ifCond .eq 26, 3) := by decide +kernel
theorem dX6_wheat_7 : decode cX6_wheat 7 = .ok (.iload_n 2, 1) := by decide +kernel
theorem dX6_wheat_8 : decode cX6_wheat 8 = .ok (.i2l, 1) := by decide +kernel
theorem dX6_wheat_9 : decode cX6_wheat 9 = .ok (.lconst 0, 1) := by decide +kernel
theorem dX6_wheat_10 : decode cX6_wheat 10 = .ok (.ldc2_w 96, 3) := by decide +kernel
theorem dX6_wheat_13 : decode cX6_wheat 13 = .ok (.invokestatic 53, 3) := by decide +kernel
theorem dX6_wheat_16 : decode cX6_wheat 16 = .ok (.ifCond .eq 14, 3) := by decide +kernel
theorem dX6_wheat_19 : decode cX6_wheat 19 = .ok (.aload_n 0, 1) := by decide +kernel
theorem dX6_wheat_20 : decode cX6_wheat 20 = .ok (.iconst 4, 1) := by decide +kernel
theorem dX6_wheat_21 : decode cX6_wheat 21 = .ok (.iload_n 1, 1) := by decide +kernel
theorem dX6_wheat_22 : decode cX6_wheat 22 = .ok (.iadd, 1) := by decide +kernel
theorem dX6_wheat_23 : decode cX6_wheat 23 = .ok (.iload_n 2, 1) := by decide +kernel
theorem dX6_wheat_24 : decode cX6_wheat 24 = .ok (.invokevirtual 98, 3) := by decide +kernel
theorem dX6_wheat_27 : decode cX6_wheat 27 = .ok (.goto 9, 3) := by decide +kernel
theorem dX6_wheat_30 : decode cX6_wheat 30 = .ok (.aload_n 0, 1) := by decide +kernel
theorem dX6_wheat_31 : decode cX6_wheat 31 = .ok (.ldc 50, 2) := by decide +kernel
theorem dX6_wheat_33 : decode cX6_wheat 33 = .ok (.invokevirtual 101, 3) := by decide +kernel
theorem dX6_wheat_36 : decode cX6_wheat 36 = .ok (.ireturn, 1) := by decide +kernel
theorem dX6_thoseAt_0 : decode cX6_thoseAt 0 = .ok (.iconst 0, 1) := by decide +kernel
theorem dX6_thoseAt_1 : decode cX6_thoseAt 1 = .ok (.istore_n 2, 1) := by decide +kernel
theorem dX6_thoseAt_2 : decode cX6_thoseAt 2 = .ok (.iconst 0, 1) := by decide +kernel
theorem dX6_thoseAt_3 : decode cX6_thoseAt 3 = .ok (.istore_n 3, 1) := by decide +kernel
theorem dX6_thoseAt_4 : decode cX6_thoseAt 4 = .ok (.iload_n 3, 1) := by decide +kernel
theorem dX6_thoseAt_5 : decode cX6_thoseAt 5 = .ok (.aload_n 0, 1) := by decide +kernel
theorem dX6_thoseAt_6 : decode cX6_thoseAt 6 = .ok (.getfield 7, 3) := by decide +kernel
theorem dX6_thoseAt_9 : decode cX6_thoseAt 9 = .ok (.iconst 1, 1) := by decide +kernel
theorem dX6_thoseAt_10 : decode cX6_thoseAt 10 = .ok (.iaload, 1) := by decide +kernel
theorem dX6_thoseAt_11 : decode cX6_thoseAt 11 = .ok (.if_icmp .ge 29, 3) := by decide +kernel
theorem dX6_thoseAt_14 : decode cX6_thoseAt 14 = .ok (.iload_n 2, 1) := by decide +kernel
theorem dX6_thoseAt_15 : decode cX6_thoseAt 15 = .ok (.aload_n 0, 1) := by decide +kernel
theorem dX6_thoseAt_16 : decode cX6_thoseAt 16 = .ok (.iload_n 3, 1) := by decide +kernel
theorem dX6_thoseAt_17 : decode cX6_thoseAt 17 = .ok (.iconst 0, 1) := by decide +kernel
theorem dX6_thoseAt_18 : decode cX6_thoseAt 18 = .ok (.invokevirtual 70, 3) := by decide +kernel
theorem dX6_thoseAt_21 : decode cX6_thoseAt 21 = .ok (.iload_n 1, 1) := by decide +kernel
theorem dX6_thoseAt_22 : decode cX6_thoseAt 22 = .ok (.if_icmp .ne 9, 3) := by decide +kernel
theorem dX6_thoseAt_25 : decode cX6_thoseAt 25 = .ok (.iconst 1, 1) := by decide +kernel
theorem dX6_thoseAt_26 : decode cX6_thoseAt 26 = .ok (.iload_n 3, 1) := by decide +kernel
theorem dX6_thoseAt_27 : decode cX6_thoseAt 27 = .ok (.ishl, 1) := by decide +kernel
theorem dX6_thoseAt_28 : decode cX6_thoseAt 28 = .ok (.goto 4, 3) := by decide +kernel
theorem dX6_thoseAt_31 : decode cX6_thoseAt 31 = .ok (.iconst 0, 1) := by decide +kernel
theorem dX6_thoseAt_32 : decode cX6_thoseAt 32 = .ok (.ior, 1) := by decide +kernel
theorem dX6_thoseAt_33 : decode cX6_thoseAt 33 = .ok (.istore_n 2, 1) := by decide +kernel
theorem dX6_thoseAt_34 : decode cX6_thoseAt 34 = .ok (.iinc 3 1, 3) := by decide +kernel
theorem dX6_thoseAt_37 : decode cX6_thoseAt 37 = .ok (.goto (-33), 3) := by decide +kernel
theorem dX6_thoseAt_40 : decode cX6_thoseAt 40 = .ok (.iload_n 2, 1) := by decide +kernel
theorem dX6_thoseAt_41 : decode cX6_thoseAt 41 = .ok (.ireturn, 1) := by decide +kernel
theorem dX6_cell_0 : decode cX6_cell 0 = .ok (.iload_n 1, 1) := by decide +kernel
theorem dX6_cell_1 : decode cX6_cell 1 = .ok (.invokestatic 93, 3) := by decide +kernel
theorem dX6_cell_4 : decode cX6_cell 4 = .ok (.ifCond .eq 15, 3) := by decide +kernel
theorem dX6_cell_7 : decode cX6_cell 7 = .ok (.iload_n 2, 1) := by decide +kernel
theorem dX6_cell_8 : decode cX6_cell 8 = .ok (.i2l, 1) := by decide +kernel
theorem dX6_cell_9 : decode cX6_cell 9 = .ok (.lconst 0, 1) := by decide +kernel
theorem dX6_cell_10 : decode cX6_cell 10 = .ok (.ldc2_w 104, 3) := by decide +kernel
theorem dX6_cell_13 : decode cX6_cell 13 = .ok (.invokestatic 53, 3) := by decide +kernel
theorem dX6_cell_16 : decode cX6_cell 16 = .ok (.ifCond .ne 10, 3) := by decide +kernel
theorem dX6_cell_19 : decode cX6_cell 19 = .ok (.aload_n 0, 1) := by decide +kernel
theorem dX6_cell_20 : decode cX6_cell 20 = .ok (.ldc 50, 2) := by decide +kernel
theorem dX6_cell_22 : decode cX6_cell 22 = .ok (.invokevirtual 101, 3) := by decide +kernel
theorem dX6_cell_25 : decode cX6_cell 25 = .ok (.ireturn, 1) := by decide +kernel
theorem dX6_cell_26 : decode cX6_cell 26 = .ok (.iload_n 2, 1) := by decide +kernel
theorem dX6_cell_27 : decode cX6_cell 27 = .ok (.ifCond .ne 14, 3) := by decide +kernel
theorem dX6_cell_30 : decode cX6_cell 30 = .ok (.aload_n 0, 1) := by decide +kernel
theorem dX6_cell_31 : decode cX6_cell 31 = .ok (.getfield 7, 3) := by decide +kernel
theorem dX6_cell_34 : decode cX6_cell 34 = .ok (.iconst 4, 1) := by decide +kernel
theorem dX6_cell_35 : decode cX6_cell 35 = .ok (.iload_n 1, 1) := by decide +kernel
theorem dX6_cell_36 : decode cX6_cell 36 = .ok (.iadd, 1) := by decide +kernel
theorem dX6_cell_37 : decode cX6_cell 37 = .ok (.iaload, 1) := by decide +kernel
theorem dX6_cell_38 : decode cX6_cell 38 = .ok (.goto 25, 3) := by decide +kernel
theorem dX6_cell_41 : decode cX6_cell 41 = .ok (.iload_n 2, 1) := by decide +kernel
theorem dX6_cell_42 : decode cX6_cell 42 = .ok (.iconst 1, 1) := by decide +kernel
theorem dX6_cell_43 : decode cX6_cell 43 = .ok (.if_icmp .ne 15, 3) := by decide +kernel
theorem dX6_cell_46 : decode cX6_cell 46 = .ok (.sipush 1000, 3) := by decide +kernel
theorem dX6_cell_49 : decode cX6_cell 49 = .ok (.aload_n 0, 1) := by decide +kernel
theorem dX6_cell_50 : decode cX6_cell 50 = .ok (.iload_n 1, 1) := by decide +kernel
theorem dX6_cell_51 : decode cX6_cell 51 = .ok (.invokevirtual 106, 3) := by decide +kernel
theorem dX6_cell_54 : decode cX6_cell 54 = .ok (.iadd, 1) := by decide +kernel
theorem dX6_cell_55 : decode cX6_cell 55 = .ok (.goto 8, 3) := by decide +kernel
theorem dX6_cell_58 : decode cX6_cell 58 = .ok (.aload_n 0, 1) := by decide +kernel
theorem dX6_cell_59 : decode cX6_cell 59 = .ok (.iload_n 1, 1) := by decide +kernel
theorem dX6_cell_60 : decode cX6_cell 60 = .ok (.invokevirtual 109, 3) := by decide +kernel
theorem dX6_cell_63 : decode cX6_cell 63 = .ok (.ireturn, 1) := by decide +kernel
theorem dX6_crows_0 : decode cX6_crows 0 = .ok (.iload_n 1, 1) := by decide +kernel
theorem dX6_crows_1 : decode cX6_crows 1 = .ok (.i2l, 1) := by decide +kernel
theorem dX6_crows_2 : decode cX6_crows 2 = .ok (.lconst 0, 1) := by decide +kernel
theorem dX6_crows_3 : decode cX6_crows 3 = .ok (.ldc2_w 112, 3) := by decide +kernel
theorem dX6_crows_6 : decode cX6_crows 6 = .ok (.invokestatic 53, 3) := by decide +kernel
theorem dX6_crows_9 : decode cX6_crows 9 = .ok (.ifCond .eq 12, 3) := by decide +kernel
theorem dX6_crows_12 : decode cX6_crows 12 = .ok (.aload_n 0, 1) := by decide +kernel
theorem dX6_crows_13 : decode cX6_crows 13 = .ok (.iconst 3, 1) := by decide +kernel
theorem dX6_crows_14 : decode cX6_crows 14 = .ok (.iload_n 1, 1) := by decide +kernel
theorem dX6_crows_15 : decode cX6_crows 15 = .ok (.invokevirtual 98, 3) := by decide +kernel
theorem dX6_crows_18 : decode cX6_crows 18 = .ok (.goto 9, 3) := by decide +kernel
theorem dX6_crows_21 : decode cX6_crows 21 = .ok (.aload_n 0, 1) := by decide +kernel
theorem dX6_crows_22 : decode cX6_crows 22 = .ok (.ldc 50, 2) := by decide +kernel
theorem dX6_crows_24 : decode cX6_crows 24 = .ok (.invokevirtual 101, 3) := by decide +kernel
theorem dX6_crows_27 : decode cX6_crows 27 = .ok (.ireturn, 1) := by decide +kernel
theorem dX6_adds_0 : decode cX6_adds 0 = .ok (.aload_n 0, 1) := by decide +kernel
theorem dX6_adds_1 : decode cX6_adds 1 = .ok (.getfield 7, 3) := by decide +kernel
theorem dX6_adds_4 : decode cX6_adds 4 = .ok (.iconst 0, 1) := by decide +kernel
theorem dX6_adds_5 : decode cX6_adds 5 = .ok (.iaload, 1) := by decide +kernel
theorem dX6_adds_6 : decode cX6_adds 6 = .ok (.istore_n 2, 1) := by decide +kernel
theorem dX6_adds_7 : decode cX6_adds 7 = .ok (.aload_n 0, 1) := by decide +kernel
theorem dX6_adds_8 : decode cX6_adds 8 = .ok (.getfield 7, 3) := by decide +kernel
theorem dX6_adds_11 : decode cX6_adds 11 = .ok (.iload_n 2, 1) := by decide +kernel
theorem dX6_adds_12 : decode cX6_adds 12 = .ok (.iconst 0, 1) := by decide +kernel
theorem dX6_adds_13 : decode cX6_adds 13 = .ok (.invokestatic 59, 3) := by decide +kernel
theorem dX6_adds_16 : decode cX6_adds 16 = .ok (.iload_n 1, 1) := by decide +kernel
theorem dX6_adds_17 : decode cX6_adds 17 = .ok (.iastore, 1) := by decide +kernel
theorem dX6_adds_18 : decode cX6_adds 18 = .ok (.aload_n 0, 1) := by decide +kernel
theorem dX6_adds_19 : decode cX6_adds 19 = .ok (.getfield 7, 3) := by decide +kernel
theorem dX6_adds_22 : decode cX6_adds 22 = .ok (.iload_n 2, 1) := by decide +kernel
theorem dX6_adds_23 : decode cX6_adds 23 = .ok (.iconst 1, 1) := by decide +kernel
theorem dX6_adds_24 : decode cX6_adds 24 = .ok (.invokestatic 59, 3) := by decide +kernel
theorem dX6_adds_27 : decode cX6_adds 27 = .ok (.bipush 10, 2) := by decide +kernel
theorem dX6_adds_29 : decode cX6_adds 29 = .ok (.iastore, 1) := by decide +kernel
theorem dX6_adds_30 : decode cX6_adds 30 = .ok (.aload_n 0, 1) := by decide +kernel
theorem dX6_adds_31 : decode cX6_adds 31 = .ok (.getfield 7, 3) := by decide +kernel
theorem dX6_adds_34 : decode cX6_adds 34 = .ok (.iload_n 2, 1) := by decide +kernel
theorem dX6_adds_35 : decode cX6_adds 35 = .ok (.iconst 2, 1) := by decide +kernel
theorem dX6_adds_36 : decode cX6_adds 36 = .ok (.invokestatic 59, 3) := by decide +kernel
theorem dX6_adds_39 : decode cX6_adds 39 = .ok (.iconst 5, 1) := by decide +kernel
theorem dX6_adds_40 : decode cX6_adds 40 = .ok (.iastore, 1) := by decide +kernel
theorem dX6_adds_41 : decode cX6_adds 41 = .ok (.aload_n 0, 1) := by decide +kernel
theorem dX6_adds_42 : decode cX6_adds 42 = .ok (.getfield 7, 3) := by decide +kernel
theorem dX6_adds_45 : decode cX6_adds 45 = .ok (.iload_n 2, 1) := by decide +kernel
theorem dX6_adds_46 : decode cX6_adds 46 = .ok (.iconst 3, 1) := by decide +kernel
theorem dX6_adds_47 : decode cX6_adds 47 = .ok (.invokestatic 59, 3) := by decide +kernel
theorem dX6_adds_50 : decode cX6_adds 50 = .ok (.aload_n 0, 1) := by decide +kernel
theorem dX6_adds_51 : decode cX6_adds 51 = .ok (.getfield 7, 3) := by decide +kernel
theorem dX6_adds_54 : decode cX6_adds 54 = .ok (.iconst 2, 1) := by decide +kernel
theorem dX6_adds_55 : decode cX6_adds 55 = .ok (.iaload, 1) := by decide +kernel
theorem dX6_adds_56 : decode cX6_adds 56 = .ok (.iastore, 1) := by decide +kernel
theorem dX6_adds_57 : decode cX6_adds 57 = .ok (.aload_n 0, 1) := by decide +kernel
theorem dX6_adds_58 : decode cX6_adds 58 = .ok (.getfield 7, 3) := by decide +kernel
theorem dX6_adds_61 : decode cX6_adds 61 = .ok (.iconst 0, 1) := by decide +kernel
theorem dX6_adds_62 : decode cX6_adds 62 = .ok (.dup2, 1) := by decide +kernel
theorem dX6_adds_63 : decode cX6_adds 63 = .ok (.iaload, 1) := by decide +kernel
theorem dX6_adds_64 : decode cX6_adds 64 = .ok (.iconst 1, 1) := by decide +kernel
theorem dX6_adds_65 : decode cX6_adds 65 = .ok (.iadd, 1) := by decide +kernel
theorem dX6_adds_66 : decode cX6_adds 66 = .ok (.iastore, 1) := by decide +kernel
theorem dX6_adds_67 : decode cX6_adds 67 = .ok (.iload_n 2, 1) := by decide +kernel
theorem dX6_adds_68 : decode cX6_adds 68 = .ok (.ireturn, 1) := by decide +kernel
theorem dX6_sitter_0 : decode cX6_sitter 0 = .ok (.iload_n 1, 1) := by decide +kernel
theorem dX6_sitter_1 : decode cX6_sitter 1 = .ok (.invokestatic 114, 3) := by decide +kernel
theorem dX6_sitter_4 : decode cX6_sitter 4 = .ok (.ifCond .ne 10, 3) := by decide +kernel
theorem dX6_sitter_7 : decode cX6_sitter 7 = .ok (.aload_n 0, 1) := by decide +kernel
theorem dX6_sitter_8 : decode cX6_sitter 8 = .ok (.ldc 50, 2) := by decide +kernel
theorem dX6_sitter_10 : decode cX6_sitter 10 = .ok (.invokevirtual 101, 3) := by decide +kernel
theorem dX6_sitter_13 : decode cX6_sitter 13 = .ok (.ireturn, 1) := by decide +kernel
theorem dX6_sitter_14 : decode cX6_sitter 14 = .ok (.aload_n 0, 1) := by decide +kernel
theorem dX6_sitter_15 : decode cX6_sitter 15 = .ok (.getfield 7, 3) := by decide +kernel
theorem dX6_sitter_18 : decode cX6_sitter 18 = .ok (.iconst 0, 1) := by decide +kernel
theorem dX6_sitter_19 : decode cX6_sitter 19 = .ok (.iaload, 1) := by decide +kernel
theorem dX6_sitter_20 : decode cX6_sitter 20 = .ok (.bipush 6, 2) := by decide +kernel
theorem dX6_sitter_22 : decode cX6_sitter 22 = .ok (.if_icmp .ne 12, 3) := by decide +kernel
theorem dX6_sitter_25 : decode cX6_sitter 25 = .ok (.aload_n 0, 1) := by decide +kernel
theorem dX6_sitter_26 : decode cX6_sitter 26 = .ok (.ldc 117, 2) := by decide +kernel
theorem dX6_sitter_28 : decode cX6_sitter 28 = .ok (.invokevirtual 101, 3) := by decide +kernel
theorem dX6_sitter_31 : decode cX6_sitter 31 = .ok (.goto 8, 3) := by decide +kernel
theorem dX6_sitter_34 : decode cX6_sitter 34 = .ok (.aload_n 0, 1) := by decide +kernel
theorem dX6_sitter_35 : decode cX6_sitter 35 = .ok (.iload_n 1, 1) := by decide +kernel
theorem dX6_sitter_36 : decode cX6_sitter 36 = .ok (.invokevirtual 118, 3) := by decide +kernel
theorem dX6_sitter_39 : decode cX6_sitter 39 = .ok (.ireturn, 1) := by decide +kernel
theorem dX6_likenessesOf_0 : decode cX6_likenessesOf 0 = .ok (.iconst 0, 1) := by decide +kernel
theorem dX6_likenessesOf_1 : decode cX6_likenessesOf 1 = .ok (.istore_n 2, 1) := by decide +kernel
theorem dX6_likenessesOf_2 : decode cX6_likenessesOf 2 = .ok (.iconst 0, 1) := by decide +kernel
theorem dX6_likenessesOf_3 : decode cX6_likenessesOf 3 = .ok (.istore_n 3, 1) := by decide +kernel
theorem dX6_likenessesOf_4 : decode cX6_likenessesOf 4 = .ok (.iload_n 3, 1) := by decide +kernel
theorem dX6_likenessesOf_5 : decode cX6_likenessesOf 5 = .ok (.aload_n 0, 1) := by decide +kernel
theorem dX6_likenessesOf_6 : decode cX6_likenessesOf 6 = .ok (.getfield 7, 3) := by decide +kernel
theorem dX6_likenessesOf_9 : decode cX6_likenessesOf 9 = .ok (.iconst 1, 1) := by decide +kernel
theorem dX6_likenessesOf_10 : decode cX6_likenessesOf 10 = .ok (.iaload, 1) := by decide +kernel
theorem dX6_likenessesOf_11 : decode cX6_likenessesOf 11 = .ok (.if_icmp .ge 35, 3) := by decide +kernel
theorem dX6_likenessesOf_14 : decode cX6_likenessesOf 14 = .ok (.iload_n 2, 1) := by decide +kernel
theorem dX6_likenessesOf_15 : decode cX6_likenessesOf 15 = .ok (.aload_n 0, 1) := by decide +kernel
theorem dX6_likenessesOf_16 : decode cX6_likenessesOf 16 = .ok (.iload_n 3, 1) := by decide +kernel
theorem dX6_likenessesOf_17 : decode cX6_likenessesOf 17 = .ok (.iconst 1, 1) := by decide +kernel
theorem dX6_likenessesOf_18 : decode cX6_likenessesOf 18 = .ok (.invokevirtual 70, 3) := by decide +kernel
theorem dX6_likenessesOf_21 : decode cX6_likenessesOf 21 = .ok (.iload_n 1, 1) := by decide +kernel
theorem dX6_likenessesOf_22 : decode cX6_likenessesOf 22 = .ok (.if_icmp .ne 15, 3) := by decide +kernel
theorem dX6_likenessesOf_25 : decode cX6_likenessesOf 25 = .ok (.aload_n 0, 1) := by decide +kernel
theorem dX6_likenessesOf_26 : decode cX6_likenessesOf 26 = .ok (.iload_n 3, 1) := by decide +kernel
theorem dX6_likenessesOf_27 : decode cX6_likenessesOf 27 = .ok (.invokevirtual 83, 3) := by decide +kernel
theorem dX6_likenessesOf_30 : decode cX6_likenessesOf 30 = .ok (.ifCond .eq 7, 3) := by decide +kernel
theorem dX6_likenessesOf_33 : decode cX6_likenessesOf 33 = .ok (.iconst 1, 1) := by decide +kernel
theorem dX6_likenessesOf_34 : decode cX6_likenessesOf 34 = .ok (.goto 4, 3) := by decide +kernel
theorem dX6_likenessesOf_37 : decode cX6_likenessesOf 37 = .ok (.iconst 0, 1) := by decide +kernel
theorem dX6_likenessesOf_38 : decode cX6_likenessesOf 38 = .ok (.iadd, 1) := by decide +kernel
theorem dX6_likenessesOf_39 : decode cX6_likenessesOf 39 = .ok (.istore_n 2, 1) := by decide +kernel
theorem dX6_likenessesOf_40 : decode cX6_likenessesOf 40 = .ok (.iinc 3 1, 3) := by decide +kernel
theorem dX6_likenessesOf_43 : decode cX6_likenessesOf 43 = .ok (.goto (-39), 3) := by decide +kernel
theorem dX6_likenessesOf_46 : decode cX6_likenessesOf 46 = .ok (.iload_n 2, 1) := by decide +kernel
theorem dX6_likenessesOf_47 : decode cX6_likenessesOf 47 = .ok (.ireturn, 1) := by decide +kernel
theorem dX6_areMet_0 : decode cX6_areMet 0 = .ok (.aload_n 0, 1) := by decide +kernel
theorem dX6_areMet_1 : decode cX6_areMet 1 = .ok (.iload_n 1, 1) := by decide +kernel
theorem dX6_areMet_2 : decode cX6_areMet 2 = .ok (.iconst 0, 1) := by decide +kernel
theorem dX6_areMet_3 : decode cX6_areMet 3 = .ok (.invokevirtual 70, 3) := by decide +kernel
theorem dX6_areMet_6 : decode cX6_areMet 6 = .ok (.istore_n 3, 1) := by decide +kernel
theorem dX6_areMet_7 : decode cX6_areMet 7 = .ok (.aload_n 0, 1) := by decide +kernel
theorem dX6_areMet_8 : decode cX6_areMet 8 = .ok (.iload_n 2, 1) := by decide +kernel
theorem dX6_areMet_9 : decode cX6_areMet 9 = .ok (.iconst 0, 1) := by decide +kernel
theorem dX6_areMet_10 : decode cX6_areMet 10 = .ok (.invokevirtual 70, 3) := by decide +kernel
theorem dX6_areMet_13 : decode cX6_areMet 13 = .ok (.istore 4, 2) := by decide +kernel
theorem dX6_areMet_15 : decode cX6_areMet 15 = .ok (.aload_n 0, 1) := by decide +kernel
theorem dX6_areMet_16 : decode cX6_areMet 16 = .ok (.iload_n 1, 1) := by decide +kernel
theorem dX6_areMet_17 : decode cX6_areMet 17 = .ok (.iconst 1, 1) := by decide +kernel
theorem dX6_areMet_18 : decode cX6_areMet 18 = .ok (.invokevirtual 70, 3) := by decide +kernel
theorem dX6_areMet_21 : decode cX6_areMet 21 = .ok (.aload_n 0, 1) := by decide +kernel
theorem dX6_areMet_22 : decode cX6_areMet 22 = .ok (.iload_n 2, 1) := by decide +kernel
theorem dX6_areMet_23 : decode cX6_areMet 23 = .ok (.iconst 1, 1) := by decide +kernel
theorem dX6_areMet_24 : decode cX6_areMet 24 = .ok (.invokevirtual 70, 3) := by decide +kernel
theorem dX6_areMet_27 : decode cX6_areMet 27 = .ok (.if_icmp .ne 31, 3) := by decide +kernel
theorem dX6_areMet_30 : decode cX6_areMet 30 = .ok (.iload_n 3, 1) := by decide +kernel
theorem dX6_areMet_31 : decode cX6_areMet 31 = .ok (.bipush 8, 2) := by decide +kernel
theorem dX6_areMet_33 : decode cX6_areMet 33 = .ok (.idiv, 1) := by decide +kernel
theorem dX6_areMet_34 : decode cX6_areMet 34 = .ok (.iload 4, 2) := by decide +kernel
theorem dX6_areMet_36 : decode cX6_areMet 36 = .ok (.bipush 8, 2) := by decide +kernel
theorem dX6_areMet_38 : decode cX6_areMet 38 = .ok (.idiv, 1) := by decide +kernel
theorem dX6_areMet_39 : decode cX6_areMet 39 = .ok (.if_icmp .eq 15, 3) := by decide +kernel
theorem dX6_areMet_42 : decode cX6_areMet 42 = .ok (.iload_n 3, 1) := by decide +kernel
theorem dX6_areMet_43 : decode cX6_areMet 43 = .ok (.bipush 8, 2) := by decide +kernel
theorem dX6_areMet_45 : decode cX6_areMet 45 = .ok (.irem, 1) := by decide +kernel
theorem dX6_areMet_46 : decode cX6_areMet 46 = .ok (.iload 4, 2) := by decide +kernel
theorem dX6_areMet_48 : decode cX6_areMet 48 = .ok (.bipush 8, 2) := by decide +kernel
theorem dX6_areMet_50 : decode cX6_areMet 50 = .ok (.irem, 1) := by decide +kernel
theorem dX6_areMet_51 : decode cX6_areMet 51 = .ok (.if_icmp .ne 7, 3) := by decide +kernel
theorem dX6_areMet_54 : decode cX6_areMet 54 = .ok (.iconst 1, 1) := by decide +kernel
theorem dX6_areMet_55 : decode cX6_areMet 55 = .ok (.goto 4, 3) := by decide +kernel
theorem dX6_areMet_58 : decode cX6_areMet 58 = .ok (.iconst 0, 1) := by decide +kernel
theorem dX6_areMet_59 : decode cX6_areMet 59 = .ok (.ireturn, 1) := by decide +kernel
theorem dX6_meets_0 : decode cX6_meets 0 = .ok (.iconst 0, 1) := by decide +kernel
theorem dX6_meets_1 : decode cX6_meets 1 = .ok (.istore_n 2, 1) := by decide +kernel
theorem dX6_meets_2 : decode cX6_meets 2 = .ok (.iconst 0, 1) := by decide +kernel
theorem dX6_meets_3 : decode cX6_meets 3 = .ok (.istore_n 3, 1) := by decide +kernel
theorem dX6_meets_4 : decode cX6_meets 4 = .ok (.iload_n 3, 1) := by decide +kernel
theorem dX6_meets_5 : decode cX6_meets 5 = .ok (.aload_n 0, 1) := by decide +kernel
theorem dX6_meets_6 : decode cX6_meets 6 = .ok (.getfield 7, 3) := by decide +kernel
theorem dX6_meets_9 : decode cX6_meets 9 = .ok (.iconst 1, 1) := by decide +kernel
theorem dX6_meets_10 : decode cX6_meets 10 = .ok (.iaload, 1) := by decide +kernel
theorem dX6_meets_11 : decode cX6_meets 11 = .ok (.if_icmp .ge 69, 3) := by decide +kernel
theorem dX6_meets_14 : decode cX6_meets 14 = .ok (.iconst 0, 1) := by decide +kernel
theorem dX6_meets_15 : decode cX6_meets 15 = .ok (.istore 4, 2) := by decide +kernel
theorem dX6_meets_17 : decode cX6_meets 17 = .ok (.iload 4, 2) := by decide +kernel
theorem dX6_meets_19 : decode cX6_meets 19 = .ok (.iload_n 3, 1) := by decide +kernel
theorem dX6_meets_20 : decode cX6_meets 20 = .ok (.if_icmp .ge 54, 3) := by decide +kernel
theorem dX6_meets_23 : decode cX6_meets 23 = .ok (.iload_n 2, 1) := by decide +kernel
theorem dX6_meets_24 : decode cX6_meets 24 = .ok (.aload_n 0, 1) := by decide +kernel
theorem dX6_meets_25 : decode cX6_meets 25 = .ok (.iload_n 3, 1) := by decide +kernel
theorem dX6_meets_26 : decode cX6_meets 26 = .ok (.iconst 1, 1) := by decide +kernel
theorem dX6_meets_27 : decode cX6_meets 27 = .ok (.invokevirtual 70, 3) := by decide +kernel
theorem dX6_meets_30 : decode cX6_meets 30 = .ok (.iload_n 1, 1) := by decide +kernel
theorem dX6_meets_31 : decode cX6_meets 31 = .ok (.if_icmp .ne 34, 3) := by decide +kernel
theorem dX6_meets_34 : decode cX6_meets 34 = .ok (.aload_n 0, 1) := by decide +kernel
theorem dX6_meets_35 : decode cX6_meets 35 = .ok (.iload_n 3, 1) := by decide +kernel
theorem dX6_meets_36 : decode cX6_meets 36 = .ok (.iload 4, 2) := by decide +kernel
theorem dX6_meets_38 : decode cX6_meets 38 = .ok (.invokevirtual 121, 3) := by decide +kernel
theorem dX6_meets_41 : decode cX6_meets 41 = .ok (.ifCond .eq 24, 3) := by decide +kernel
theorem dX6_meets_44 : decode cX6_meets 44 = .ok (.aload_n 0, 1) := by decide +kernel
theorem dX6_meets_45 : decode cX6_meets 45 = .ok (.iload_n 3, 1) := by decide +kernel
theorem dX6_meets_46 : decode cX6_meets 46 = .ok (.invokevirtual 83, 3) := by decide +kernel
theorem dX6_meets_49 : decode cX6_meets 49 = .ok (.ifCond .eq 16, 3) := by decide +kernel
theorem dX6_meets_52 : decode cX6_meets 52 = .ok (.aload_n 0, 1) := by decide +kernel
theorem dX6_meets_53 : decode cX6_meets 53 = .ok (.iload 4, 2) := by decide +kernel
theorem dX6_meets_55 : decode cX6_meets 55 = .ok (.invokevirtual 83, 3) := by decide +kernel
theorem dX6_meets_58 : decode cX6_meets 58 = .ok (.ifCond .eq 7, 3) := by decide +kernel
theorem dX6_meets_61 : decode cX6_meets 61 = .ok (.iconst 1, 1) := by decide +kernel
theorem dX6_meets_62 : decode cX6_meets 62 = .ok (.goto 4, 3) := by decide +kernel
theorem dX6_meets_65 : decode cX6_meets 65 = .ok (.iconst 0, 1) := by decide +kernel
theorem dX6_meets_66 : decode cX6_meets 66 = .ok (.iadd, 1) := by decide +kernel
theorem dX6_meets_67 : decode cX6_meets 67 = .ok (.istore_n 2, 1) := by decide +kernel
theorem dX6_meets_68 : decode cX6_meets 68 = .ok (.iinc 4 1, 3) := by decide +kernel
theorem dX6_meets_71 : decode cX6_meets 71 = .ok (.goto (-54), 3) := by decide +kernel
theorem dX6_meets_74 : decode cX6_meets 74 = .ok (.iinc 3 1, 3) := by decide +kernel
theorem dX6_meets_77 : decode cX6_meets 77 = .ok (.goto (-73), 3) := by decide +kernel
theorem dX6_meets_80 : decode cX6_meets 80 = .ok (.iload_n 2, 1) := by decide +kernel
theorem dX6_meets_81 : decode cX6_meets 81 = .ok (.ireturn, 1) := by decide +kernel
theorem dX6_of_0 : decode cX6_of 0 = .ok (.aload_n 0, 1) := by decide +kernel
theorem dX6_of_1 : decode cX6_of 1 = .ok (.iload_n 1, 1) := by decide +kernel
theorem dX6_of_2 : decode cX6_of 2 = .ok (.invokevirtual 125, 3) := by decide +kernel
theorem dX6_of_5 : decode cX6_of 5 = .ok (.ifCond .eq 15, 3) := by decide +kernel
theorem dX6_of_8 : decode cX6_of 8 = .ok (.iload_n 2, 1) := by decide +kernel
theorem dX6_of_9 : decode cX6_of 9 = .ok (.i2l, 1) := by decide +kernel
theorem dX6_of_10 : decode cX6_of 10 = .ok (.lconst 0, 1) := by decide +kernel
theorem dX6_of_11 : decode cX6_of 11 = .ok (.ldc2_w 57, 3) := by decide +kernel
theorem dX6_of_14 : decode cX6_of 14 = .ok (.invokestatic 53, 3) := by decide +kernel
theorem dX6_of_17 : decode cX6_of 17 = .ok (.ifCond .ne 10, 3) := by decide +kernel
theorem dX6_of_20 : decode cX6_of 20 = .ok (.aload_n 0, 1) := by decide +kernel
theorem dX6_of_21 : decode cX6_of 21 = .ok (.ldc 50, 2) := by decide +kernel
theorem dX6_of_23 : decode cX6_of 23 = .ok (.invokevirtual 101, 3) := by decide +kernel
theorem dX6_of_26 : decode cX6_of 26 = .ok (.ireturn, 1) := by decide +kernel
theorem dX6_of_27 : decode cX6_of 27 = .ok (.iload_n 2, 1) := by decide +kernel
theorem dX6_of_28 : decode cX6_of 28 = .ok (.iconst 4, 1) := by decide +kernel
theorem dX6_of_29 : decode cX6_of 29 = .ok (.if_icmp .ge 12, 3) := by decide +kernel
theorem dX6_of_32 : decode cX6_of 32 = .ok (.aload_n 0, 1) := by decide +kernel
theorem dX6_of_33 : decode cX6_of 33 = .ok (.iload_n 1, 1) := by decide +kernel
theorem dX6_of_34 : decode cX6_of 34 = .ok (.iload_n 2, 1) := by decide +kernel
theorem dX6_of_35 : decode cX6_of 35 = .ok (.invokevirtual 73, 3) := by decide +kernel
theorem dX6_of_38 : decode cX6_of 38 = .ok (.goto 21, 3) := by decide +kernel
theorem dX6_of_41 : decode cX6_of 41 = .ok (.iload_n 2, 1) := by decide +kernel
theorem dX6_of_42 : decode cX6_of 42 = .ok (.iconst 4, 1) := by decide +kernel
theorem dX6_of_43 : decode cX6_of 43 = .ok (.if_icmp .ne 11, 3) := by decide +kernel
theorem dX6_of_46 : decode cX6_of 46 = .ok (.aload_n 0, 1) := by decide +kernel
theorem dX6_of_47 : decode cX6_of 47 = .ok (.iload_n 1, 1) := by decide +kernel
theorem dX6_of_48 : decode cX6_of 48 = .ok (.invokevirtual 128, 3) := by decide +kernel
theorem dX6_of_51 : decode cX6_of 51 = .ok (.goto 8, 3) := by decide +kernel
theorem dX6_of_54 : decode cX6_of 54 = .ok (.aload_n 0, 1) := by decide +kernel
theorem dX6_of_55 : decode cX6_of 55 = .ok (.iload_n 1, 1) := by decide +kernel
theorem dX6_of_56 : decode cX6_of 56 = .ok (.invokevirtual 131, 3) := by decide +kernel
theorem dX6_of_59 : decode cX6_of 59 = .ok (.ireturn, 1) := by decide +kernel
theorem dX6_set_0 : decode cX6_set 0 = .ok (.iload_n 2, 1) := by decide +kernel
theorem dX6_set_1 : decode cX6_set 1 = .ok (.iconst 1, 1) := by decide +kernel
theorem dX6_set_2 : decode cX6_set 2 = .ok (.if_icmp .ne 15, 3) := by decide +kernel
theorem dX6_set_5 : decode cX6_set 5 = .ok (.iload_n 3, 1) := by decide +kernel
theorem dX6_set_6 : decode cX6_set 6 = .ok (.i2l, 1) := by decide +kernel
theorem dX6_set_7 : decode cX6_set 7 = .ok (.lconst 0, 1) := by decide +kernel
theorem dX6_set_8 : decode cX6_set 8 = .ok (.ldc2_w 134, 3) := by decide +kernel
theorem dX6_set_11 : decode cX6_set 11 = .ok (.invokestatic 53, 3) := by decide +kernel
theorem dX6_set_14 : decode cX6_set 14 = .ok (.goto 25, 3) := by decide +kernel
theorem dX6_set_17 : decode cX6_set 17 = .ok (.iload_n 2, 1) := by decide +kernel
theorem dX6_set_18 : decode cX6_set 18 = .ok (.iconst 2, 1) := by decide +kernel
theorem dX6_set_19 : decode cX6_set 19 = .ok (.if_icmp .ne 19, 3) := by decide +kernel
theorem dX6_set_22 : decode cX6_set 22 = .ok (.iload_n 3, 1) := by decide +kernel
theorem dX6_set_23 : decode cX6_set 23 = .ok (.i2l, 1) := by decide +kernel
theorem dX6_set_24 : decode cX6_set 24 = .ok (.lconst 0, 1) := by decide +kernel
theorem dX6_set_25 : decode cX6_set 25 = .ok (.ldc2_w 96, 3) := by decide +kernel
theorem dX6_set_28 : decode cX6_set 28 = .ok (.invokestatic 53, 3) := by decide +kernel
theorem dX6_set_31 : decode cX6_set 31 = .ok (.ifCond .eq 7, 3) := by decide +kernel
theorem dX6_set_34 : decode cX6_set 34 = .ok (.iconst 1, 1) := by decide +kernel
theorem dX6_set_35 : decode cX6_set 35 = .ok (.goto 4, 3) := by decide +kernel
theorem dX6_set_38 : decode cX6_set 38 = .ok (.iconst 0, 1) := by decide +kernel
theorem dX6_set_39 : decode cX6_set 39 = .ok (.istore 4, 2) := by decide +kernel
theorem dX6_set_41 : decode cX6_set 41 = .ok (.aload_n 0, 1) := by decide +kernel
theorem dX6_set_42 : decode cX6_set 42 = .ok (.iload_n 1, 1) := by decide +kernel
theorem dX6_set_43 : decode cX6_set 43 = .ok (.invokevirtual 125, 3) := by decide +kernel
theorem dX6_set_46 : decode cX6_set 46 = .ok (.ifCond .eq 21, 3) := by decide +kernel
theorem dX6_set_49 : decode cX6_set 49 = .ok (.iload 4, 2) := by decide +kernel
theorem dX6_set_51 : decode cX6_set 51 = .ok (.ifCond .eq 16, 3) := by decide +kernel
theorem dX6_set_54 : decode cX6_set 54 = .ok (.aload_n 0, 1) := by decide +kernel
theorem dX6_set_55 : decode cX6_set 55 = .ok (.iload_n 1, 1) := by decide +kernel
theorem dX6_set_56 : decode cX6_set 56 = .ok (.iload_n 2, 1) := by decide +kernel
theorem dX6_set_57 : decode cX6_set 57 = .ok (.invokestatic 59, 3) := by decide +kernel
theorem dX6_set_60 : decode cX6_set 60 = .ok (.iload_n 3, 1) := by decide +kernel
theorem dX6_set_61 : decode cX6_set 61 = .ok (.invokevirtual 98, 3) := by decide +kernel
theorem dX6_set_64 : decode cX6_set 64 = .ok (.goto 9, 3) := by decide +kernel
theorem dX6_set_67 : decode cX6_set 67 = .ok (.aload_n 0, 1) := by decide +kernel
theorem dX6_set_68 : decode cX6_set 68 = .ok (.ldc 50, 2) := by decide +kernel
theorem dX6_set_70 : decode cX6_set 70 = .ok (.invokevirtual 101, 3) := by decide +kernel
theorem dX6_set_73 : decode cX6_set 73 = .ok (.ireturn, 1) := by decide +kernel
theorem dX6_turn_0 : decode cX6_turn 0 = .ok (.aload_n 0, 1) := by decide +kernel
theorem dX6_turn_1 : decode cX6_turn 1 = .ok (.iload_n 1, 1) := by decide +kernel
theorem dX6_turn_2 : decode cX6_turn 2 = .ok (.invokevirtual 125, 3) := by decide +kernel
theorem dX6_turn_5 : decode cX6_turn 5 = .ok (.ifCond .eq 23, 3) := by decide +kernel
theorem dX6_turn_8 : decode cX6_turn 8 = .ok (.iload_n 2, 1) := by decide +kernel
theorem dX6_turn_9 : decode cX6_turn 9 = .ok (.invokestatic 114, 3) := by decide +kernel
theorem dX6_turn_12 : decode cX6_turn 12 = .ok (.ifCond .eq 16, 3) := by decide +kernel
theorem dX6_turn_15 : decode cX6_turn 15 = .ok (.aload_n 0, 1) := by decide +kernel
theorem dX6_turn_16 : decode cX6_turn 16 = .ok (.iload_n 1, 1) := by decide +kernel
theorem dX6_turn_17 : decode cX6_turn 17 = .ok (.iconst 0, 1) := by decide +kernel
theorem dX6_turn_18 : decode cX6_turn 18 = .ok (.invokestatic 59, 3) := by decide +kernel
theorem dX6_turn_21 : decode cX6_turn 21 = .ok (.iload_n 2, 1) := by decide +kernel
theorem dX6_turn_22 : decode cX6_turn 22 = .ok (.invokevirtual 98, 3) := by decide +kernel
theorem dX6_turn_25 : decode cX6_turn 25 = .ok (.goto 9, 3) := by decide +kernel
theorem dX6_turn_28 : decode cX6_turn 28 = .ok (.aload_n 0, 1) := by decide +kernel
theorem dX6_turn_29 : decode cX6_turn 29 = .ok (.ldc 50, 2) := by decide +kernel
theorem dX6_turn_31 : decode cX6_turn 31 = .ok (.invokevirtual 101, 3) := by decide +kernel
theorem dX6_turn_34 : decode cX6_turn 34 = .ok (.ireturn, 1) := by decide +kernel
theorem dX6_isUnder_0 : decode cX6_isUnder 0 = .ok (.iload_n 1, 1) := by decide +kernel
theorem dX6_isUnder_1 : decode cX6_isUnder 1 = .ok (.ifCond .eq 20, 3) := by decide +kernel
theorem dX6_isUnder_4 : decode cX6_isUnder 4 = .ok (.iload_n 0, 1) := by decide +kernel
theorem dX6_isUnder_5 : decode cX6_isUnder 5 = .ok (.iload_n 1, 1) := by decide +kernel
theorem dX6_isUnder_6 : decode cX6_isUnder 6 = .ok (.if_icmp .eq 15, 3) := by decide +kernel
theorem dX6_isUnder_9 : decode cX6_isUnder 9 = .ok (.iload_n 0, 1) := by decide +kernel
theorem dX6_isUnder_10 : decode cX6_isUnder 10 = .ok (.iconst 3, 1) := by decide +kernel
theorem dX6_isUnder_11 : decode cX6_isUnder 11 = .ok (.if_icmp .le 14, 3) := by decide +kernel
theorem dX6_isUnder_14 : decode cX6_isUnder 14 = .ok (.iload_n 0, 1) := by decide +kernel
theorem dX6_isUnder_15 : decode cX6_isUnder 15 = .ok (.iconst 2, 1) := by decide +kernel
theorem dX6_isUnder_16 : decode cX6_isUnder 16 = .ok (.isub, 1) := by decide +kernel
theorem dX6_isUnder_17 : decode cX6_isUnder 17 = .ok (.iload_n 1, 1) := by decide +kernel
theorem dX6_isUnder_18 : decode cX6_isUnder 18 = .ok (.if_icmp .ne 7, 3) := by decide +kernel
theorem dX6_isUnder_21 : decode cX6_isUnder 21 = .ok (.iconst 1, 1) := by decide +kernel
theorem dX6_isUnder_22 : decode cX6_isUnder 22 = .ok (.goto 4, 3) := by decide +kernel
theorem dX6_isUnder_25 : decode cX6_isUnder 25 = .ok (.iconst 0, 1) := by decide +kernel
theorem dX6_isUnder_26 : decode cX6_isUnder 26 = .ok (.ireturn, 1) := by decide +kernel
theorem dX6_as_0 : decode cX6_as 0 = .ok (.aload_n 0, 1) := by decide +kernel
theorem dX6_as_1 : decode cX6_as 1 = .ok (.iload_n 1, 1) := by decide +kernel
theorem dX6_as_2 : decode cX6_as 2 = .ok (.invokevirtual 125, 3) := by decide +kernel
theorem dX6_as_5 : decode cX6_as 5 = .ok (.ifCond .eq 10, 3) := by decide +kernel
theorem dX6_as_8 : decode cX6_as 8 = .ok (.iload_n 2, 1) := by decide +kernel
theorem dX6_as_9 : decode cX6_as 9 = .ok (.invokestatic 114, 3) := by decide +kernel
theorem dX6_as_12 : decode cX6_as 12 = .ok (.ifCond .ne 10, 3) := by decide +kernel
theorem dX6_as_15 : decode cX6_as 15 = .ok (.aload_n 0, 1) := by decide +kernel
theorem dX6_as_16 : decode cX6_as 16 = .ok (.ldc 50, 2) := by decide +kernel
theorem dX6_as_18 : decode cX6_as 18 = .ok (.invokevirtual 101, 3) := by decide +kernel
theorem dX6_as_21 : decode cX6_as 21 = .ok (.ireturn, 1) := by decide +kernel
theorem dX6_as_22 : decode cX6_as 22 = .ok (.aload_n 0, 1) := by decide +kernel
theorem dX6_as_23 : decode cX6_as 23 = .ok (.iload_n 1, 1) := by decide +kernel
theorem dX6_as_24 : decode cX6_as 24 = .ok (.iconst 0, 1) := by decide +kernel
theorem dX6_as_25 : decode cX6_as 25 = .ok (.invokevirtual 73, 3) := by decide +kernel
theorem dX6_as_28 : decode cX6_as 28 = .ok (.iload_n 2, 1) := by decide +kernel
theorem dX6_as_29 : decode cX6_as 29 = .ok (.invokestatic 136, 3) := by decide +kernel
theorem dX6_as_32 : decode cX6_as 32 = .ok (.ifCond .eq 12, 3) := by decide +kernel
theorem dX6_as_35 : decode cX6_as 35 = .ok (.aload_n 0, 1) := by decide +kernel
theorem dX6_as_36 : decode cX6_as 36 = .ok (.iload_n 1, 1) := by decide +kernel
theorem dX6_as_37 : decode cX6_as 37 = .ok (.iconst 1, 1) := by decide +kernel
theorem dX6_as_38 : decode cX6_as 38 = .ok (.invokevirtual 73, 3) := by decide +kernel
theorem dX6_as_41 : decode cX6_as 41 = .ok (.goto 9, 3) := by decide +kernel
theorem dX6_as_44 : decode cX6_as 44 = .ok (.aload_n 0, 1) := by decide +kernel
theorem dX6_as_45 : decode cX6_as 45 = .ok (.ldc 139, 2) := by decide +kernel
theorem dX6_as_47 : decode cX6_as 47 = .ok (.invokevirtual 101, 3) := by decide +kernel
theorem dX6_as_50 : decode cX6_as 50 = .ok (.ireturn, 1) := by decide +kernel
theorem dX6_puts_0 : decode cX6_puts 0 = .ok (.aload_n 0, 1) := by decide +kernel
theorem dX6_puts_1 : decode cX6_puts 1 = .ok (.getfield 7, 3) := by decide +kernel
theorem dX6_puts_4 : decode cX6_puts 4 = .ok (.iconst 1, 1) := by decide +kernel
theorem dX6_puts_5 : decode cX6_puts 5 = .ok (.iaload, 1) := by decide +kernel
theorem dX6_puts_6 : decode cX6_puts 6 = .ok (.istore_n 3, 1) := by decide +kernel
theorem dX6_puts_7 : decode cX6_puts 7 = .ok (.aload_n 0, 1) := by decide +kernel
theorem dX6_puts_8 : decode cX6_puts 8 = .ok (.getfield 7, 3) := by decide +kernel
theorem dX6_puts_11 : decode cX6_puts 11 = .ok (.iload_n 3, 1) := by decide +kernel
theorem dX6_puts_12 : decode cX6_puts 12 = .ok (.iconst 0, 1) := by decide +kernel
theorem dX6_puts_13 : decode cX6_puts 13 = .ok (.invokestatic 63, 3) := by decide +kernel
theorem dX6_puts_16 : decode cX6_puts 16 = .ok (.iload_n 2, 1) := by decide +kernel
theorem dX6_puts_17 : decode cX6_puts 17 = .ok (.iastore, 1) := by decide +kernel
theorem dX6_puts_18 : decode cX6_puts 18 = .ok (.aload_n 0, 1) := by decide +kernel
theorem dX6_puts_19 : decode cX6_puts 19 = .ok (.getfield 7, 3) := by decide +kernel
theorem dX6_puts_22 : decode cX6_puts 22 = .ok (.iload_n 3, 1) := by decide +kernel
theorem dX6_puts_23 : decode cX6_puts 23 = .ok (.iconst 1, 1) := by decide +kernel
theorem dX6_puts_24 : decode cX6_puts 24 = .ok (.invokestatic 63, 3) := by decide +kernel
theorem dX6_puts_27 : decode cX6_puts 27 = .ok (.iload_n 1, 1) := by decide +kernel
theorem dX6_puts_28 : decode cX6_puts 28 = .ok (.iastore, 1) := by decide +kernel
theorem dX6_puts_29 : decode cX6_puts 29 = .ok (.aload_n 0, 1) := by decide +kernel
theorem dX6_puts_30 : decode cX6_puts 30 = .ok (.getfield 7, 3) := by decide +kernel
theorem dX6_puts_33 : decode cX6_puts 33 = .ok (.iload_n 3, 1) := by decide +kernel
theorem dX6_puts_34 : decode cX6_puts 34 = .ok (.iconst 2, 1) := by decide +kernel
theorem dX6_puts_35 : decode cX6_puts 35 = .ok (.invokestatic 63, 3) := by decide +kernel
theorem dX6_puts_38 : decode cX6_puts 38 = .ok (.iconst 0, 1) := by decide +kernel
theorem dX6_puts_39 : decode cX6_puts 39 = .ok (.iastore, 1) := by decide +kernel
theorem dX6_puts_40 : decode cX6_puts 40 = .ok (.aload_n 0, 1) := by decide +kernel
theorem dX6_puts_41 : decode cX6_puts 41 = .ok (.getfield 7, 3) := by decide +kernel
theorem dX6_puts_44 : decode cX6_puts 44 = .ok (.iconst 1, 1) := by decide +kernel
theorem dX6_puts_45 : decode cX6_puts 45 = .ok (.dup2, 1) := by decide +kernel
theorem dX6_puts_46 : decode cX6_puts 46 = .ok (.iaload, 1) := by decide +kernel
theorem dX6_puts_47 : decode cX6_puts 47 = .ok (.iconst 1, 1) := by decide +kernel
theorem dX6_puts_48 : decode cX6_puts 48 = .ok (.iadd, 1) := by decide +kernel
theorem dX6_puts_49 : decode cX6_puts 49 = .ok (.iastore, 1) := by decide +kernel
theorem dX6_puts_50 : decode cX6_puts 50 = .ok (.iload_n 3, 1) := by decide +kernel
theorem dX6_puts_51 : decode cX6_puts 51 = .ok (.ireturn, 1) := by decide +kernel
theorem dX6_likeness_0 : decode cX6_likeness 0 = .ok (.aload_n 0, 1) := by decide +kernel
theorem dX6_likeness_1 : decode cX6_likeness 1 = .ok (.iload_n 1, 1) := by decide +kernel
theorem dX6_likeness_2 : decode cX6_likeness 2 = .ok (.invokevirtual 125, 3) := by decide +kernel
theorem dX6_likeness_5 : decode cX6_likeness 5 = .ok (.ifCond .eq 10, 3) := by decide +kernel
theorem dX6_likeness_8 : decode cX6_likeness 8 = .ok (.iload_n 2, 1) := by decide +kernel
theorem dX6_likeness_9 : decode cX6_likeness 9 = .ok (.invokestatic 93, 3) := by decide +kernel
theorem dX6_likeness_12 : decode cX6_likeness 12 = .ok (.ifCond .ne 10, 3) := by decide +kernel
theorem dX6_likeness_15 : decode cX6_likeness 15 = .ok (.aload_n 0, 1) := by decide +kernel
theorem dX6_likeness_16 : decode cX6_likeness 16 = .ok (.ldc 50, 2) := by decide +kernel
theorem dX6_likeness_18 : decode cX6_likeness 18 = .ok (.invokevirtual 101, 3) := by decide +kernel
theorem dX6_likeness_21 : decode cX6_likeness 21 = .ok (.ireturn, 1) := by decide +kernel
theorem dX6_likeness_22 : decode cX6_likeness 22 = .ok (.aload_n 0, 1) := by decide +kernel
theorem dX6_likeness_23 : decode cX6_likeness 23 = .ok (.getfield 7, 3) := by decide +kernel
theorem dX6_likeness_26 : decode cX6_likeness 26 = .ok (.iconst 1, 1) := by decide +kernel
theorem dX6_likeness_27 : decode cX6_likeness 27 = .ok (.iaload, 1) := by decide +kernel
theorem dX6_likeness_28 : decode cX6_likeness 28 = .ok (.bipush 8, 2) := by decide +kernel
theorem dX6_likeness_30 : decode cX6_likeness 30 = .ok (.if_icmp .ne 12, 3) := by decide +kernel
theorem dX6_likeness_33 : decode cX6_likeness 33 = .ok (.aload_n 0, 1) := by decide +kernel
theorem dX6_likeness_34 : decode cX6_likeness 34 = .ok (.ldc 117, 2) := by decide +kernel
theorem dX6_likeness_36 : decode cX6_likeness 36 = .ok (.invokevirtual 101, 3) := by decide +kernel
theorem dX6_likeness_39 : decode cX6_likeness 39 = .ok (.goto 9, 3) := by decide +kernel
theorem dX6_likeness_42 : decode cX6_likeness 42 = .ok (.aload_n 0, 1) := by decide +kernel
theorem dX6_likeness_43 : decode cX6_likeness 43 = .ok (.iload_n 1, 1) := by decide +kernel
theorem dX6_likeness_44 : decode cX6_likeness 44 = .ok (.iload_n 2, 1) := by decide +kernel
theorem dX6_likeness_45 : decode cX6_likeness 45 = .ok (.invokevirtual 140, 3) := by decide +kernel
theorem dX6_likeness_48 : decode cX6_likeness 48 = .ok (.ireturn, 1) := by decide +kernel
theorem dX6_told_0 : decode cX6_told 0 = .ok (.aload_n 0, 1) := by decide +kernel
theorem dX6_told_1 : decode cX6_told 1 = .ok (.iload_n 1, 1) := by decide +kernel
theorem dX6_told_2 : decode cX6_told 2 = .ok (.invokevirtual 143, 3) := by decide +kernel
theorem dX6_told_5 : decode cX6_told 5 = .ok (.ifCond .eq 15, 3) := by decide +kernel
theorem dX6_told_8 : decode cX6_told 8 = .ok (.iload_n 2, 1) := by decide +kernel
theorem dX6_told_9 : decode cX6_told 9 = .ok (.i2l, 1) := by decide +kernel
theorem dX6_told_10 : decode cX6_told 10 = .ok (.lconst 0, 1) := by decide +kernel
theorem dX6_told_11 : decode cX6_told 11 = .ok (.ldc2_w 146, 3) := by decide +kernel
theorem dX6_told_14 : decode cX6_told 14 = .ok (.invokestatic 53, 3) := by decide +kernel
theorem dX6_told_17 : decode cX6_told 17 = .ok (.ifCond .ne 10, 3) := by decide +kernel
theorem dX6_told_20 : decode cX6_told 20 = .ok (.aload_n 0, 1) := by decide +kernel
theorem dX6_told_21 : decode cX6_told 21 = .ok (.ldc 50, 2) := by decide +kernel
theorem dX6_told_23 : decode cX6_told 23 = .ok (.invokevirtual 101, 3) := by decide +kernel
theorem dX6_told_26 : decode cX6_told 26 = .ok (.ireturn, 1) := by decide +kernel
theorem dX6_told_27 : decode cX6_told 27 = .ok (.iload_n 2, 1) := by decide +kernel
theorem dX6_told_28 : decode cX6_told 28 = .ok (.iconst 3, 1) := by decide +kernel
theorem dX6_told_29 : decode cX6_told 29 = .ok (.if_icmp .ge 12, 3) := by decide +kernel
theorem dX6_told_32 : decode cX6_told 32 = .ok (.aload_n 0, 1) := by decide +kernel
theorem dX6_told_33 : decode cX6_told 33 = .ok (.iload_n 1, 1) := by decide +kernel
theorem dX6_told_34 : decode cX6_told 34 = .ok (.iload_n 2, 1) := by decide +kernel
theorem dX6_told_35 : decode cX6_told 35 = .ok (.invokevirtual 70, 3) := by decide +kernel
theorem dX6_told_38 : decode cX6_told 38 = .ok (.goto 26, 3) := by decide +kernel
theorem dX6_told_41 : decode cX6_told 41 = .ok (.sipush 1000, 3) := by decide +kernel
theorem dX6_told_44 : decode cX6_told 44 = .ok (.iload_n 2, 1) := by decide +kernel
theorem dX6_told_45 : decode cX6_told 45 = .ok (.iconst 3, 1) := by decide +kernel
theorem dX6_told_46 : decode cX6_told 46 = .ok (.if_icmp .ne 11, 3) := by decide +kernel
theorem dX6_told_49 : decode cX6_told 49 = .ok (.aload_n 0, 1) := by decide +kernel
theorem dX6_told_50 : decode cX6_told 50 = .ok (.iload_n 1, 1) := by decide +kernel
theorem dX6_told_51 : decode cX6_told 51 = .ok (.invokevirtual 76, 3) := by decide +kernel
theorem dX6_told_54 : decode cX6_told 54 = .ok (.goto 9, 3) := by decide +kernel
theorem dX6_told_57 : decode cX6_told 57 = .ok (.aload_n 0, 1) := by decide +kernel
theorem dX6_told_58 : decode cX6_told 58 = .ok (.iload_n 1, 1) := by decide +kernel
theorem dX6_told_59 : decode cX6_told 59 = .ok (.iconst 0, 1) := by decide +kernel
theorem dX6_told_60 : decode cX6_told 60 = .ok (.invokevirtual 90, 3) := by decide +kernel
theorem dX6_told_63 : decode cX6_told 63 = .ok (.iadd, 1) := by decide +kernel
theorem dX6_told_64 : decode cX6_told 64 = .ok (.ireturn, 1) := by decide +kernel
theorem dX6_place_0 : decode cX6_place 0 = .ok (.iload_n 2, 1) := by decide +kernel
theorem dX6_place_1 : decode cX6_place 1 = .ok (.ifCond .ne 10, 3) := by decide +kernel
theorem dX6_place_4 : decode cX6_place 4 = .ok (.iload_n 3, 1) := by decide +kernel
theorem dX6_place_5 : decode cX6_place 5 = .ok (.invokestatic 93, 3) := by decide +kernel
theorem dX6_place_8 : decode cX6_place 8 = .ok (.goto 38, 3) := by decide +kernel
theorem dX6_place_11 : decode cX6_place 11 = .ok (.iload_n 2, 1) := by decide +kernel
theorem dX6_place_12 : decode cX6_place 12 = .ok (.iconst 1, 1) := by decide +kernel
theorem dX6_place_13 : decode cX6_place 13 = .ok (.if_icmp .ne 11, 3) := by decide +kernel
theorem dX6_place_16 : decode cX6_place 16 = .ok (.aload_n 0, 1) := by decide +kernel
theorem dX6_place_17 : decode cX6_place 17 = .ok (.iload_n 3, 1) := by decide +kernel
theorem dX6_place_18 : decode cX6_place 18 = .ok (.invokevirtual 125, 3) := by decide +kernel
theorem dX6_place_21 : decode cX6_place 21 = .ok (.goto 25, 3) := by decide +kernel
theorem dX6_place_24 : decode cX6_place 24 = .ok (.iload_n 2, 1) := by decide +kernel
theorem dX6_place_25 : decode cX6_place 25 = .ok (.iconst 2, 1) := by decide +kernel
theorem dX6_place_26 : decode cX6_place 26 = .ok (.if_icmp .ne 19, 3) := by decide +kernel
theorem dX6_place_29 : decode cX6_place 29 = .ok (.iload_n 3, 1) := by decide +kernel
theorem dX6_place_30 : decode cX6_place 30 = .ok (.i2l, 1) := by decide +kernel
theorem dX6_place_31 : decode cX6_place 31 = .ok (.lconst 0, 1) := by decide +kernel
theorem dX6_place_32 : decode cX6_place 32 = .ok (.ldc2_w 148, 3) := by decide +kernel
theorem dX6_place_35 : decode cX6_place 35 = .ok (.invokestatic 53, 3) := by decide +kernel
theorem dX6_place_38 : decode cX6_place 38 = .ok (.ifCond .eq 7, 3) := by decide +kernel
theorem dX6_place_41 : decode cX6_place 41 = .ok (.iconst 1, 1) := by decide +kernel
theorem dX6_place_42 : decode cX6_place 42 = .ok (.goto 4, 3) := by decide +kernel
theorem dX6_place_45 : decode cX6_place 45 = .ok (.iconst 0, 1) := by decide +kernel
theorem dX6_place_46 : decode cX6_place 46 = .ok (.istore 4, 2) := by decide +kernel
theorem dX6_place_48 : decode cX6_place 48 = .ok (.aload_n 0, 1) := by decide +kernel
theorem dX6_place_49 : decode cX6_place 49 = .ok (.iload_n 1, 1) := by decide +kernel
theorem dX6_place_50 : decode cX6_place 50 = .ok (.invokevirtual 143, 3) := by decide +kernel
theorem dX6_place_53 : decode cX6_place 53 = .ok (.ifCond .eq 21, 3) := by decide +kernel
theorem dX6_place_56 : decode cX6_place 56 = .ok (.iload 4, 2) := by decide +kernel
theorem dX6_place_58 : decode cX6_place 58 = .ok (.ifCond .eq 16, 3) := by decide +kernel
theorem dX6_place_61 : decode cX6_place 61 = .ok (.aload_n 0, 1) := by decide +kernel
theorem dX6_place_62 : decode cX6_place 62 = .ok (.iload_n 1, 1) := by decide +kernel
theorem dX6_place_63 : decode cX6_place 63 = .ok (.iload_n 2, 1) := by decide +kernel
theorem dX6_place_64 : decode cX6_place 64 = .ok (.invokestatic 63, 3) := by decide +kernel
theorem dX6_place_67 : decode cX6_place 67 = .ok (.iload_n 3, 1) := by decide +kernel
theorem dX6_place_68 : decode cX6_place 68 = .ok (.invokevirtual 98, 3) := by decide +kernel
theorem dX6_place_71 : decode cX6_place 71 = .ok (.goto 9, 3) := by decide +kernel
theorem dX6_place_74 : decode cX6_place 74 = .ok (.aload_n 0, 1) := by decide +kernel
theorem dX6_place_75 : decode cX6_place 75 = .ok (.ldc 50, 2) := by decide +kernel
theorem dX6_place_77 : decode cX6_place 77 = .ok (.invokevirtual 101, 3) := by decide +kernel
theorem dX6_place_80 : decode cX6_place 80 = .ok (.ireturn, 1) := by decide +kernel
theorem dX6_scares_0 : decode cX6_scares 0 = .ok (.aload_n 0, 1) := by decide +kernel
theorem dX6_scares_1 : decode cX6_scares 1 = .ok (.iload_n 1, 1) := by decide +kernel
theorem dX6_scares_2 : decode cX6_scares 2 = .ok (.invokevirtual 143, 3) := by decide +kernel
theorem dX6_scares_5 : decode cX6_scares 5 = .ok (.ifCond .eq 28, 3) := by decide +kernel
theorem dX6_scares_8 : decode cX6_scares 8 = .ok (.iload_n 2, 1) := by decide +kernel
theorem dX6_scares_9 : decode cX6_scares 9 = .ok (.i2l, 1) := by decide +kernel
theorem dX6_scares_10 : decode cX6_scares 10 = .ok (.lconst 0, 1) := by decide +kernel
theorem dX6_scares_11 : decode cX6_scares 11 = .ok (.ldc2_w 150, 3) := by decide +kernel
theorem dX6_scares_14 : decode cX6_scares 14 = .ok (.invokestatic 53, 3) := by decide +kernel
theorem dX6_scares_17 : decode cX6_scares 17 = .ok (.ifCond .eq 16, 3) := by decide +kernel
theorem dX6_scares_20 : decode cX6_scares 20 = .ok (.sipush 1000, 3) := by decide +kernel
theorem dX6_scares_23 : decode cX6_scares 23 = .ok (.aload_n 0, 1) := by decide +kernel
theorem dX6_scares_24 : decode cX6_scares 24 = .ok (.iload_n 1, 1) := by decide +kernel
theorem dX6_scares_25 : decode cX6_scares 25 = .ok (.iload_n 2, 1) := by decide +kernel
theorem dX6_scares_26 : decode cX6_scares 26 = .ok (.invokevirtual 90, 3) := by decide +kernel
theorem dX6_scares_29 : decode cX6_scares 29 = .ok (.iadd, 1) := by decide +kernel
theorem dX6_scares_30 : decode cX6_scares 30 = .ok (.goto 9, 3) := by decide +kernel
theorem dX6_scares_33 : decode cX6_scares 33 = .ok (.aload_n 0, 1) := by decide +kernel
theorem dX6_scares_34 : decode cX6_scares 34 = .ok (.ldc 50, 2) := by decide +kernel
theorem dX6_scares_36 : decode cX6_scares 36 = .ok (.invokevirtual 101, 3) := by decide +kernel
theorem dX6_scares_39 : decode cX6_scares 39 = .ok (.ireturn, 1) := by decide +kernel
theorem dX6_fearBy_0 : decode cX6_fearBy 0 = .ok (.iconst 0, 1) := by decide +kernel
theorem dX6_fearBy_1 : decode cX6_fearBy 1 = .ok (.istore_n 2, 1) := by decide +kernel
theorem dX6_fearBy_2 : decode cX6_fearBy 2 = .ok (.iload_n 2, 1) := by decide +kernel
theorem dX6_fearBy_3 : decode cX6_fearBy 3 = .ok (.aload_n 0, 1) := by decide +kernel
theorem dX6_fearBy_4 : decode cX6_fearBy 4 = .ok (.getfield 7, 3) := by decide +kernel
theorem dX6_fearBy_7 : decode cX6_fearBy 7 = .ok (.iconst 0, 1) := by decide +kernel
theorem dX6_fearBy_8 : decode cX6_fearBy 8 = .ok (.iaload, 1) := by decide +kernel
theorem dX6_fearBy_9 : decode cX6_fearBy 9 = .ok (.if_icmp .ge 18, 3) := by decide +kernel
theorem dX6_fearBy_12 : decode cX6_fearBy 12 = .ok (.aload_n 0, 1) := by decide +kernel
theorem dX6_fearBy_13 : decode cX6_fearBy 13 = .ok (.getfield 31, 3) := by decide +kernel
theorem dX6_fearBy_16 : decode cX6_fearBy 16 = .ok (.iload_n 2, 1) := by decide +kernel
theorem dX6_fearBy_17 : decode cX6_fearBy 17 = .ok (.sipush (-1000), 3) := by decide +kernel
theorem dX6_fearBy_20 : decode cX6_fearBy 20 = .ok (.iastore, 1) := by decide +kernel
theorem dX6_fearBy_21 : decode cX6_fearBy 21 = .ok (.iinc 2 1, 3) := by decide +kernel
theorem dX6_fearBy_24 : decode cX6_fearBy 24 = .ok (.goto (-22), 3) := by decide +kernel
theorem dX6_fearBy_27 : decode cX6_fearBy 27 = .ok (.iconst 0, 1) := by decide +kernel
theorem dX6_fearBy_28 : decode cX6_fearBy 28 = .ok (.istore_n 2, 1) := by decide +kernel
theorem dX6_fearBy_29 : decode cX6_fearBy 29 = .ok (.iload_n 2, 1) := by decide +kernel
theorem dX6_fearBy_30 : decode cX6_fearBy 30 = .ok (.aload_n 0, 1) := by decide +kernel
theorem dX6_fearBy_31 : decode cX6_fearBy 31 = .ok (.getfield 7, 3) := by decide +kernel
theorem dX6_fearBy_34 : decode cX6_fearBy 34 = .ok (.iconst 1, 1) := by decide +kernel
theorem dX6_fearBy_35 : decode cX6_fearBy 35 = .ok (.iaload, 1) := by decide +kernel
theorem dX6_fearBy_36 : decode cX6_fearBy 36 = .ok (.if_icmp .ge 75, 3) := by decide +kernel
theorem dX6_fearBy_39 : decode cX6_fearBy 39 = .ok (.aload_n 0, 1) := by decide +kernel
theorem dX6_fearBy_40 : decode cX6_fearBy 40 = .ok (.iload_n 2, 1) := by decide +kernel
theorem dX6_fearBy_41 : decode cX6_fearBy 41 = .ok (.invokevirtual 83, 3) := by decide +kernel
theorem dX6_fearBy_44 : decode cX6_fearBy 44 = .ok (.ifCond .eq 61, 3) := by decide +kernel
theorem dX6_fearBy_47 : decode cX6_fearBy 47 = .ok (.aload_n 0, 1) := by decide +kernel
theorem dX6_fearBy_48 : decode cX6_fearBy 48 = .ok (.getfield 28, 3) := by decide +kernel
theorem dX6_fearBy_51 : decode cX6_fearBy 51 = .ok (.bipush 13, 2) := by decide +kernel
theorem dX6_fearBy_53 : decode cX6_fearBy 53 = .ok (.iload_n 2, 1) := by decide +kernel
theorem dX6_fearBy_54 : decode cX6_fearBy 54 = .ok (.imul, 1) := by decide +kernel
theorem dX6_fearBy_55 : decode cX6_fearBy 55 = .ok (.iload_n 1, 1) := by decide +kernel
theorem dX6_fearBy_56 : decode cX6_fearBy 56 = .ok (.aload_n 0, 1) := by decide +kernel
theorem dX6_fearBy_57 : decode cX6_fearBy 57 = .ok (.iload_n 2, 1) := by decide +kernel
theorem dX6_fearBy_58 : decode cX6_fearBy 58 = .ok (.iconst 0, 1) := by decide +kernel
theorem dX6_fearBy_59 : decode cX6_fearBy 59 = .ok (.invokevirtual 70, 3) := by decide +kernel
theorem dX6_fearBy_62 : decode cX6_fearBy 62 = .ok (.invokestatic 87, 3) := by decide +kernel
theorem dX6_fearBy_65 : decode cX6_fearBy 65 = .ok (.iadd, 1) := by decide +kernel
theorem dX6_fearBy_66 : decode cX6_fearBy 66 = .ok (.iaload, 1) := by decide +kernel
theorem dX6_fearBy_67 : decode cX6_fearBy 67 = .ok (.istore_n 3, 1) := by decide +kernel
theorem dX6_fearBy_68 : decode cX6_fearBy 68 = .ok (.aload_n 0, 1) := by decide +kernel
theorem dX6_fearBy_69 : decode cX6_fearBy 69 = .ok (.iload_n 2, 1) := by decide +kernel
theorem dX6_fearBy_70 : decode cX6_fearBy 70 = .ok (.iconst 1, 1) := by decide +kernel
theorem dX6_fearBy_71 : decode cX6_fearBy 71 = .ok (.invokevirtual 70, 3) := by decide +kernel
theorem dX6_fearBy_74 : decode cX6_fearBy 74 = .ok (.istore 4, 2) := by decide +kernel
theorem dX6_fearBy_76 : decode cX6_fearBy 76 = .ok (.aload_n 0, 1) := by decide +kernel
theorem dX6_fearBy_77 : decode cX6_fearBy 77 = .ok (.getfield 31, 3) := by decide +kernel
theorem dX6_fearBy_80 : decode cX6_fearBy 80 = .ok (.iload 4, 2) := by decide +kernel
theorem dX6_fearBy_82 : decode cX6_fearBy 82 = .ok (.iload_n 3, 1) := by decide +kernel
theorem dX6_fearBy_83 : decode cX6_fearBy 83 = .ok (.aload_n 0, 1) := by decide +kernel
theorem dX6_fearBy_84 : decode cX6_fearBy 84 = .ok (.getfield 31, 3) := by decide +kernel
theorem dX6_fearBy_87 : decode cX6_fearBy 87 = .ok (.iload 4, 2) := by decide +kernel
theorem dX6_fearBy_89 : decode cX6_fearBy 89 = .ok (.iaload, 1) := by decide +kernel
theorem dX6_fearBy_90 : decode cX6_fearBy 90 = .ok (.if_icmp .le 7, 3) := by decide +kernel
theorem dX6_fearBy_93 : decode cX6_fearBy 93 = .ok (.iload_n 3, 1) := by decide +kernel
theorem dX6_fearBy_94 : decode cX6_fearBy 94 = .ok (.goto 10, 3) := by decide +kernel
theorem dX6_fearBy_97 : decode cX6_fearBy 97 = .ok (.aload_n 0, 1) := by decide +kernel
theorem dX6_fearBy_98 : decode cX6_fearBy 98 = .ok (.getfield 31, 3) := by decide +kernel
theorem dX6_fearBy_101 : decode cX6_fearBy 101 = .ok (.iload 4, 2) := by decide +kernel
theorem dX6_fearBy_103 : decode cX6_fearBy 103 = .ok (.iaload, 1) := by decide +kernel
theorem dX6_fearBy_104 : decode cX6_fearBy 104 = .ok (.iastore, 1) := by decide +kernel
theorem dX6_fearBy_105 : decode cX6_fearBy 105 = .ok (.iinc 2 1, 3) := by decide +kernel
theorem dX6_fearBy_108 : decode cX6_fearBy 108 = .ok (.goto (-79), 3) := by decide +kernel
theorem dX6_fearBy_111 : decode cX6_fearBy 111 = .ok (.iconst 0, 1) := by decide +kernel
theorem dX6_fearBy_112 : decode cX6_fearBy 112 = .ok (.istore_n 2, 1) := by decide +kernel
theorem dX6_fearBy_113 : decode cX6_fearBy 113 = .ok (.iconst 0, 1) := by decide +kernel
theorem dX6_fearBy_114 : decode cX6_fearBy 114 = .ok (.istore_n 3, 1) := by decide +kernel
theorem dX6_fearBy_115 : decode cX6_fearBy 115 = .ok (.iload_n 3, 1) := by decide +kernel
theorem dX6_fearBy_116 : decode cX6_fearBy 116 = .ok (.aload_n 0, 1) := by decide +kernel
theorem dX6_fearBy_117 : decode cX6_fearBy 117 = .ok (.getfield 7, 3) := by decide +kernel
theorem dX6_fearBy_120 : decode cX6_fearBy 120 = .ok (.iconst 0, 1) := by decide +kernel
theorem dX6_fearBy_121 : decode cX6_fearBy 121 = .ok (.iaload, 1) := by decide +kernel
theorem dX6_fearBy_122 : decode cX6_fearBy 122 = .ok (.if_icmp .ge 34, 3) := by decide +kernel
theorem dX6_fearBy_125 : decode cX6_fearBy 125 = .ok (.iload_n 2, 1) := by decide +kernel
theorem dX6_fearBy_126 : decode cX6_fearBy 126 = .ok (.aload_n 0, 1) := by decide +kernel
theorem dX6_fearBy_127 : decode cX6_fearBy 127 = .ok (.getfield 31, 3) := by decide +kernel
theorem dX6_fearBy_130 : decode cX6_fearBy 130 = .ok (.iload_n 3, 1) := by decide +kernel
theorem dX6_fearBy_131 : decode cX6_fearBy 131 = .ok (.iaload, 1) := by decide +kernel
theorem dX6_fearBy_132 : decode cX6_fearBy 132 = .ok (.sipush (-1000), 3) := by decide +kernel
theorem dX6_fearBy_135 : decode cX6_fearBy 135 = .ok (.if_icmp .ne 7, 3) := by decide +kernel
theorem dX6_fearBy_138 : decode cX6_fearBy 138 = .ok (.iconst 0, 1) := by decide +kernel
theorem dX6_fearBy_139 : decode cX6_fearBy 139 = .ok (.goto 9, 3) := by decide +kernel
theorem dX6_fearBy_142 : decode cX6_fearBy 142 = .ok (.aload_n 0, 1) := by decide +kernel
theorem dX6_fearBy_143 : decode cX6_fearBy 143 = .ok (.getfield 31, 3) := by decide +kernel
theorem dX6_fearBy_146 : decode cX6_fearBy 146 = .ok (.iload_n 3, 1) := by decide +kernel
theorem dX6_fearBy_147 : decode cX6_fearBy 147 = .ok (.iaload, 1) := by decide +kernel
theorem dX6_fearBy_148 : decode cX6_fearBy 148 = .ok (.iadd, 1) := by decide +kernel
theorem dX6_fearBy_149 : decode cX6_fearBy 149 = .ok (.istore_n 2, 1) := by decide +kernel
theorem dX6_fearBy_150 : decode cX6_fearBy 150 = .ok (.iinc 3 1, 3) := by decide +kernel
theorem dX6_fearBy_153 : decode cX6_fearBy 153 = .ok (.goto (-38), 3) := by decide +kernel
theorem dX6_fearBy_156 : decode cX6_fearBy 156 = .ok (.iload_n 2, 1) := by decide +kernel
theorem dX6_fearBy_157 : decode cX6_fearBy 157 = .ok (.ireturn, 1) := by decide +kernel
theorem dX6_fearsNow_0 : decode cX6_fearsNow 0 = .ok (.iconst 0, 1) := by decide +kernel
theorem dX6_fearsNow_1 : decode cX6_fearsNow 1 = .ok (.istore_n 1, 1) := by decide +kernel
theorem dX6_fearsNow_2 : decode cX6_fearsNow 2 = .ok (.iload_n 1, 1) := by decide +kernel
theorem dX6_fearsNow_3 : decode cX6_fearsNow 3 = .ok (.bipush 13, 2) := by decide +kernel
theorem dX6_fearsNow_5 : decode cX6_fearsNow 5 = .ok (.aload_n 0, 1) := by decide +kernel
theorem dX6_fearsNow_6 : decode cX6_fearsNow 6 = .ok (.getfield 7, 3) := by decide +kernel
theorem dX6_fearsNow_9 : decode cX6_fearsNow 9 = .ok (.iconst 1, 1) := by decide +kernel
theorem dX6_fearsNow_10 : decode cX6_fearsNow 10 = .ok (.iaload, 1) := by decide +kernel
theorem dX6_fearsNow_11 : decode cX6_fearsNow 11 = .ok (.imul, 1) := by decide +kernel
theorem dX6_fearsNow_12 : decode cX6_fearsNow 12 = .ok (.if_icmp .ge 27, 3) := by decide +kernel
theorem dX6_fearsNow_15 : decode cX6_fearsNow 15 = .ok (.aload_n 0, 1) := by decide +kernel
theorem dX6_fearsNow_16 : decode cX6_fearsNow 16 = .ok (.getfield 28, 3) := by decide +kernel
theorem dX6_fearsNow_19 : decode cX6_fearsNow 19 = .ok (.iload_n 1, 1) := by decide +kernel
theorem dX6_fearsNow_20 : decode cX6_fearsNow 20 = .ok (.aload_n 0, 1) := by decide +kernel
theorem dX6_fearsNow_21 : decode cX6_fearsNow 21 = .ok (.iload_n 1, 1) := by decide +kernel
theorem dX6_fearsNow_22 : decode cX6_fearsNow 22 = .ok (.bipush 13, 2) := by decide +kernel
theorem dX6_fearsNow_24 : decode cX6_fearsNow 24 = .ok (.idiv, 1) := by decide +kernel
theorem dX6_fearsNow_25 : decode cX6_fearsNow 25 = .ok (.iload_n 1, 1) := by decide +kernel
theorem dX6_fearsNow_26 : decode cX6_fearsNow 26 = .ok (.bipush 13, 2) := by decide +kernel
theorem dX6_fearsNow_28 : decode cX6_fearsNow 28 = .ok (.irem, 1) := by decide +kernel
theorem dX6_fearsNow_29 : decode cX6_fearsNow 29 = .ok (.invokevirtual 90, 3) := by decide +kernel
theorem dX6_fearsNow_32 : decode cX6_fearsNow 32 = .ok (.iastore, 1) := by decide +kernel
theorem dX6_fearsNow_33 : decode cX6_fearsNow 33 = .ok (.iinc 1 1, 3) := by decide +kernel
theorem dX6_fearsNow_36 : decode cX6_fearsNow 36 = .ok (.goto (-34), 3) := by decide +kernel
theorem dX6_fearsNow_39 : decode cX6_fearsNow 39 = .ok (.iconst 0, 1) := by decide +kernel
theorem dX6_fearsNow_40 : decode cX6_fearsNow 40 = .ok (.istore_n 1, 1) := by decide +kernel
theorem dX6_fearsNow_41 : decode cX6_fearsNow 41 = .ok (.iload_n 1, 1) := by decide +kernel
theorem dX6_fearsNow_42 : decode cX6_fearsNow 42 = .ok (.bipush 48, 2) := by decide +kernel
theorem dX6_fearsNow_44 : decode cX6_fearsNow 44 = .ok (.if_icmp .ge 20, 3) := by decide +kernel
theorem dX6_fearsNow_47 : decode cX6_fearsNow 47 = .ok (.aload_n 0, 1) := by decide +kernel
theorem dX6_fearsNow_48 : decode cX6_fearsNow 48 = .ok (.getfield 25, 3) := by decide +kernel
theorem dX6_fearsNow_51 : decode cX6_fearsNow 51 = .ok (.iload_n 1, 1) := by decide +kernel
theorem dX6_fearsNow_52 : decode cX6_fearsNow 52 = .ok (.aload_n 0, 1) := by decide +kernel
theorem dX6_fearsNow_53 : decode cX6_fearsNow 53 = .ok (.iload_n 1, 1) := by decide +kernel
theorem dX6_fearsNow_54 : decode cX6_fearsNow 54 = .ok (.invokevirtual 152, 3) := by decide +kernel
theorem dX6_fearsNow_57 : decode cX6_fearsNow 57 = .ok (.iastore, 1) := by decide +kernel
theorem dX6_fearsNow_58 : decode cX6_fearsNow 58 = .ok (.iinc 1 1, 3) := by decide +kernel
theorem dX6_fearsNow_61 : decode cX6_fearsNow 61 = .ok (.goto (-20), 3) := by decide +kernel
theorem dX6_fearsNow_64 : decode cX6_fearsNow 64 = .ok (.return_, 1) := by decide +kernel
theorem dX6_landsAt_0 : decode cX6_landsAt 0 = .ok (.iconst (-1), 1) := by decide +kernel
theorem dX6_landsAt_1 : decode cX6_landsAt 1 = .ok (.istore_n 1, 1) := by decide +kernel
theorem dX6_landsAt_2 : decode cX6_landsAt 2 = .ok (.iconst 0, 1) := by decide +kernel
theorem dX6_landsAt_3 : decode cX6_landsAt 3 = .ok (.istore_n 2, 1) := by decide +kernel
theorem dX6_landsAt_4 : decode cX6_landsAt 4 = .ok (.iload_n 2, 1) := by decide +kernel
theorem dX6_landsAt_5 : decode cX6_landsAt 5 = .ok (.bipush 48, 2) := by decide +kernel
theorem dX6_landsAt_7 : decode cX6_landsAt 7 = .ok (.if_icmp .ge 84, 3) := by decide +kernel
theorem dX6_landsAt_10 : decode cX6_landsAt 10 = .ok (.aload_n 0, 1) := by decide +kernel
theorem dX6_landsAt_11 : decode cX6_landsAt 11 = .ok (.getfield 7, 3) := by decide +kernel
theorem dX6_landsAt_14 : decode cX6_landsAt 14 = .ok (.iconst 4, 1) := by decide +kernel
theorem dX6_landsAt_15 : decode cX6_landsAt 15 = .ok (.iload_n 2, 1) := by decide +kernel
theorem dX6_landsAt_16 : decode cX6_landsAt 16 = .ok (.iadd, 1) := by decide +kernel
theorem dX6_landsAt_17 : decode cX6_landsAt 17 = .ok (.iaload, 1) := by decide +kernel
theorem dX6_landsAt_18 : decode cX6_landsAt 18 = .ok (.ifCond .le 18, 3) := by decide +kernel
theorem dX6_landsAt_21 : decode cX6_landsAt 21 = .ok (.aload_n 0, 1) := by decide +kernel
theorem dX6_landsAt_22 : decode cX6_landsAt 22 = .ok (.getfield 25, 3) := by decide +kernel
theorem dX6_landsAt_25 : decode cX6_landsAt 25 = .ok (.iload_n 2, 1) := by decide +kernel
theorem dX6_landsAt_26 : decode cX6_landsAt 26 = .ok (.iaload, 1) := by decide +kernel
theorem dX6_landsAt_27 : decode cX6_landsAt 27 = .ok (.bipush 20, 2) := by decide +kernel
theorem dX6_landsAt_29 : decode cX6_landsAt 29 = .ok (.if_icmp .ge 7, 3) := by decide +kernel
theorem dX6_landsAt_32 : decode cX6_landsAt 32 = .ok (.iconst 1, 1) := by decide +kernel
theorem dX6_landsAt_33 : decode cX6_landsAt 33 = .ok (.goto 4, 3) := by decide +kernel
theorem dX6_landsAt_36 : decode cX6_landsAt 36 = .ok (.iconst 0, 1) := by decide +kernel
theorem dX6_landsAt_37 : decode cX6_landsAt 37 = .ok (.istore_n 3, 1) := by decide +kernel
theorem dX6_landsAt_38 : decode cX6_landsAt 38 = .ok (.iload_n 3, 1) := by decide +kernel
theorem dX6_landsAt_39 : decode cX6_landsAt 39 = .ok (.ifCond .eq 44, 3) := by decide +kernel
theorem dX6_landsAt_42 : decode cX6_landsAt 42 = .ok (.iload_n 1, 1) := by decide +kernel
theorem dX6_landsAt_43 : decode cX6_landsAt 43 = .ok (.ifCond .lt 36, 3) := by decide +kernel
theorem dX6_landsAt_46 : decode cX6_landsAt 46 = .ok (.aload_n 0, 1) := by decide +kernel
theorem dX6_landsAt_47 : decode cX6_landsAt 47 = .ok (.getfield 7, 3) := by decide +kernel
theorem dX6_landsAt_50 : decode cX6_landsAt 50 = .ok (.iconst 4, 1) := by decide +kernel
theorem dX6_landsAt_51 : decode cX6_landsAt 51 = .ok (.iload_n 2, 1) := by decide +kernel
theorem dX6_landsAt_52 : decode cX6_landsAt 52 = .ok (.iadd, 1) := by decide +kernel
theorem dX6_landsAt_53 : decode cX6_landsAt 53 = .ok (.iaload, 1) := by decide +kernel
theorem dX6_landsAt_54 : decode cX6_landsAt 54 = .ok (.aload_n 0, 1) := by decide +kernel
theorem dX6_landsAt_55 : decode cX6_landsAt 55 = .ok (.getfield 25, 3) := by decide +kernel
theorem dX6_landsAt_58 : decode cX6_landsAt 58 = .ok (.iload_n 2, 1) := by decide +kernel
theorem dX6_landsAt_59 : decode cX6_landsAt 59 = .ok (.iaload, 1) := by decide +kernel
theorem dX6_landsAt_60 : decode cX6_landsAt 60 = .ok (.isub, 1) := by decide +kernel
theorem dX6_landsAt_61 : decode cX6_landsAt 61 = .ok (.aload_n 0, 1) := by decide +kernel
theorem dX6_landsAt_62 : decode cX6_landsAt 62 = .ok (.getfield 7, 3) := by decide +kernel
theorem dX6_landsAt_65 : decode cX6_landsAt 65 = .ok (.iconst 4, 1) := by decide +kernel
theorem dX6_landsAt_66 : decode cX6_landsAt 66 = .ok (.iload_n 1, 1) := by decide +kernel
theorem dX6_landsAt_67 : decode cX6_landsAt 67 = .ok (.iadd, 1) := by decide +kernel
theorem dX6_landsAt_68 : decode cX6_landsAt 68 = .ok (.iaload, 1) := by decide +kernel
theorem dX6_landsAt_69 : decode cX6_landsAt 69 = .ok (.aload_n 0, 1) := by decide +kernel
theorem dX6_landsAt_70 : decode cX6_landsAt 70 = .ok (.getfield 25, 3) := by decide +kernel
theorem dX6_landsAt_73 : decode cX6_landsAt 73 = .ok (.iload_n 1, 1) := by decide +kernel
theorem dX6_landsAt_74 : decode cX6_landsAt 74 = .ok (.iaload, 1) := by decide +kernel
theorem dX6_landsAt_75 : decode cX6_landsAt 75 = .ok (.isub, 1) := by decide +kernel
theorem dX6_landsAt_76 : decode cX6_landsAt 76 = .ok (.if_icmp .le 7, 3) := by decide +kernel
theorem dX6_landsAt_79 : decode cX6_landsAt 79 = .ok (.iload_n 2, 1) := by decide +kernel
theorem dX6_landsAt_80 : decode cX6_landsAt 80 = .ok (.goto 4, 3) := by decide +kernel
theorem dX6_landsAt_83 : decode cX6_landsAt 83 = .ok (.iload_n 1, 1) := by decide +kernel
theorem dX6_landsAt_84 : decode cX6_landsAt 84 = .ok (.istore_n 1, 1) := by decide +kernel
theorem dX6_landsAt_85 : decode cX6_landsAt 85 = .ok (.iinc 2 1, 3) := by decide +kernel
theorem dX6_landsAt_88 : decode cX6_landsAt 88 = .ok (.goto (-84), 3) := by decide +kernel
theorem dX6_landsAt_91 : decode cX6_landsAt 91 = .ok (.iload_n 1, 1) := by decide +kernel
theorem dX6_landsAt_92 : decode cX6_landsAt 92 = .ok (.ireturn, 1) := by decide +kernel
theorem dX6_lands_0 : decode cX6_lands 0 = .ok (.aload_n 0, 1) := by decide +kernel
theorem dX6_lands_1 : decode cX6_lands 1 = .ok (.invokevirtual 155, 3) := by decide +kernel
theorem dX6_lands_4 : decode cX6_lands 4 = .ok (.aload_n 0, 1) := by decide +kernel
theorem dX6_lands_5 : decode cX6_lands 5 = .ok (.invokevirtual 158, 3) := by decide +kernel
theorem dX6_lands_8 : decode cX6_lands 8 = .ok (.istore_n 1, 1) := by decide +kernel
theorem dX6_lands_9 : decode cX6_lands 9 = .ok (.iload_n 1, 1) := by decide +kernel
theorem dX6_lands_10 : decode cX6_lands 10 = .ok (.ifCond .ge 12, 3) := by decide +kernel
theorem dX6_lands_13 : decode cX6_lands 13 = .ok (.aload_n 0, 1) := by decide +kernel
theorem dX6_lands_14 : decode cX6_lands 14 = .ok (.ldc 162, 2) := by decide +kernel
theorem dX6_lands_16 : decode cX6_lands 16 = .ok (.invokevirtual 101, 3) := by decide +kernel
theorem dX6_lands_19 : decode cX6_lands 19 = .ok (.goto 4, 3) := by decide +kernel
theorem dX6_lands_22 : decode cX6_lands 22 = .ok (.iload_n 1, 1) := by decide +kernel
theorem dX6_lands_23 : decode cX6_lands 23 = .ok (.ireturn, 1) := by decide +kernel
theorem dX6_day_0 : decode cX6_day 0 = .ok (.iconst 0, 1) := by decide +kernel
theorem dX6_day_1 : decode cX6_day 1 = .ok (.istore_n 1, 1) := by decide +kernel
theorem dX6_day_2 : decode cX6_day 2 = .ok (.aload_n 0, 1) := by decide +kernel
theorem dX6_day_3 : decode cX6_day 3 = .ok (.getfield 7, 3) := by decide +kernel
theorem dX6_day_6 : decode cX6_day 6 = .ok (.iconst 3, 1) := by decide +kernel
theorem dX6_day_7 : decode cX6_day 7 = .ok (.iaload, 1) := by decide +kernel
theorem dX6_day_8 : decode cX6_day 8 = .ok (.ifCond .le 7, 3) := by decide +kernel
theorem dX6_day_11 : decode cX6_day 11 = .ok (.aload_n 0, 1) := by decide +kernel
theorem dX6_day_12 : decode cX6_day 12 = .ok (.invokevirtual 155, 3) := by decide +kernel
theorem dX6_day_15 : decode cX6_day 15 = .ok (.iconst 0, 1) := by decide +kernel
theorem dX6_day_16 : decode cX6_day 16 = .ok (.istore_n 2, 1) := by decide +kernel
theorem dX6_day_17 : decode cX6_day 17 = .ok (.iload_n 2, 1) := by decide +kernel
theorem dX6_day_18 : decode cX6_day 18 = .ok (.aload_n 0, 1) := by decide +kernel
theorem dX6_day_19 : decode cX6_day 19 = .ok (.getfield 7, 3) := by decide +kernel
theorem dX6_day_22 : decode cX6_day 22 = .ok (.iconst 3, 1) := by decide +kernel
theorem dX6_day_23 : decode cX6_day 23 = .ok (.iaload, 1) := by decide +kernel
theorem dX6_day_24 : decode cX6_day 24 = .ok (.if_icmp .ge 62, 3) := by decide +kernel
theorem dX6_day_27 : decode cX6_day 27 = .ok (.aload_n 0, 1) := by decide +kernel
theorem dX6_day_28 : decode cX6_day 28 = .ok (.invokevirtual 158, 3) := by decide +kernel
theorem dX6_day_31 : decode cX6_day 31 = .ok (.istore_n 3, 1) := by decide +kernel
theorem dX6_day_32 : decode cX6_day 32 = .ok (.iload_n 3, 1) := by decide +kernel
theorem dX6_day_33 : decode cX6_day 33 = .ok (.ifCond .lt 47, 3) := by decide +kernel
theorem dX6_day_36 : decode cX6_day 36 = .ok (.aload_n 0, 1) := by decide +kernel
theorem dX6_day_37 : decode cX6_day 37 = .ok (.getfield 7, 3) := by decide +kernel
theorem dX6_day_40 : decode cX6_day 40 = .ok (.iconst 4, 1) := by decide +kernel
theorem dX6_day_41 : decode cX6_day 41 = .ok (.iload_n 3, 1) := by decide +kernel
theorem dX6_day_42 : decode cX6_day 42 = .ok (.iadd, 1) := by decide +kernel
theorem dX6_day_43 : decode cX6_day 43 = .ok (.iaload, 1) := by decide +kernel
theorem dX6_day_44 : decode cX6_day 44 = .ok (.iconst 2, 1) := by decide +kernel
theorem dX6_day_45 : decode cX6_day 45 = .ok (.if_icmp .ge 14, 3) := by decide +kernel
theorem dX6_day_48 : decode cX6_day 48 = .ok (.aload_n 0, 1) := by decide +kernel
theorem dX6_day_49 : decode cX6_day 49 = .ok (.getfield 7, 3) := by decide +kernel
theorem dX6_day_52 : decode cX6_day 52 = .ok (.iconst 4, 1) := by decide +kernel
theorem dX6_day_53 : decode cX6_day 53 = .ok (.iload_n 3, 1) := by decide +kernel
theorem dX6_day_54 : decode cX6_day 54 = .ok (.iadd, 1) := by decide +kernel
theorem dX6_day_55 : decode cX6_day 55 = .ok (.iaload, 1) := by decide +kernel
theorem dX6_day_56 : decode cX6_day 56 = .ok (.goto 4, 3) := by decide +kernel
theorem dX6_day_59 : decode cX6_day 59 = .ok (.iconst 2, 1) := by decide +kernel
theorem dX6_day_60 : decode cX6_day 60 = .ok (.istore 4, 2) := by decide +kernel
theorem dX6_day_62 : decode cX6_day 62 = .ok (.aload_n 0, 1) := by decide +kernel
theorem dX6_day_63 : decode cX6_day 63 = .ok (.getfield 7, 3) := by decide +kernel
theorem dX6_day_66 : decode cX6_day 66 = .ok (.iconst 4, 1) := by decide +kernel
theorem dX6_day_67 : decode cX6_day 67 = .ok (.iload_n 3, 1) := by decide +kernel
theorem dX6_day_68 : decode cX6_day 68 = .ok (.iadd, 1) := by decide +kernel
theorem dX6_day_69 : decode cX6_day 69 = .ok (.dup2, 1) := by decide +kernel
theorem dX6_day_70 : decode cX6_day 70 = .ok (.iaload, 1) := by decide +kernel
theorem dX6_day_71 : decode cX6_day 71 = .ok (.iload 4, 2) := by decide +kernel
theorem dX6_day_73 : decode cX6_day 73 = .ok (.isub, 1) := by decide +kernel
theorem dX6_day_74 : decode cX6_day 74 = .ok (.iastore, 1) := by decide +kernel
theorem dX6_day_75 : decode cX6_day 75 = .ok (.iload_n 1, 1) := by decide +kernel
theorem dX6_day_76 : decode cX6_day 76 = .ok (.iload 4, 2) := by decide +kernel
theorem dX6_day_78 : decode cX6_day 78 = .ok (.iadd, 1) := by decide +kernel
theorem dX6_day_79 : decode cX6_day 79 = .ok (.istore_n 1, 1) := by decide +kernel
theorem dX6_day_80 : decode cX6_day 80 = .ok (.iinc 2 1, 3) := by decide +kernel
theorem dX6_day_83 : decode cX6_day 83 = .ok (.goto (-66), 3) := by decide +kernel
theorem dX6_day_86 : decode cX6_day 86 = .ok (.iconst 0, 1) := by decide +kernel
theorem dX6_day_87 : decode cX6_day 87 = .ok (.istore_n 2, 1) := by decide +kernel
theorem dX6_day_88 : decode cX6_day 88 = .ok (.iload_n 2, 1) := by decide +kernel
theorem dX6_day_89 : decode cX6_day 89 = .ok (.aload_n 0, 1) := by decide +kernel
theorem dX6_day_90 : decode cX6_day 90 = .ok (.getfield 7, 3) := by decide +kernel
theorem dX6_day_93 : decode cX6_day 93 = .ok (.iconst 0, 1) := by decide +kernel
theorem dX6_day_94 : decode cX6_day 94 = .ok (.iaload, 1) := by decide +kernel
theorem dX6_day_95 : decode cX6_day 95 = .ok (.if_icmp .ge 34, 3) := by decide +kernel
theorem dX6_day_98 : decode cX6_day 98 = .ok (.aload_n 0, 1) := by decide +kernel
theorem dX6_day_99 : decode cX6_day 99 = .ok (.getfield 7, 3) := by decide +kernel
theorem dX6_day_102 : decode cX6_day 102 = .ok (.iload_n 2, 1) := by decide +kernel
theorem dX6_day_103 : decode cX6_day 103 = .ok (.iconst 1, 1) := by decide +kernel
theorem dX6_day_104 : decode cX6_day 104 = .ok (.invokestatic 59, 3) := by decide +kernel
theorem dX6_day_107 : decode cX6_day 107 = .ok (.aload_n 0, 1) := by decide +kernel
theorem dX6_day_108 : decode cX6_day 108 = .ok (.iload_n 2, 1) := by decide +kernel
theorem dX6_day_109 : decode cX6_day 109 = .ok (.iconst 1, 1) := by decide +kernel
theorem dX6_day_110 : decode cX6_day 110 = .ok (.invokevirtual 73, 3) := by decide +kernel
theorem dX6_day_113 : decode cX6_day 113 = .ok (.aload_n 0, 1) := by decide +kernel
theorem dX6_day_114 : decode cX6_day 114 = .ok (.iload_n 2, 1) := by decide +kernel
theorem dX6_day_115 : decode cX6_day 115 = .ok (.invokevirtual 131, 3) := by decide +kernel
theorem dX6_day_118 : decode cX6_day 118 = .ok (.isub, 1) := by decide +kernel
theorem dX6_day_119 : decode cX6_day 119 = .ok (.invokestatic 80, 3) := by decide +kernel
theorem dX6_day_122 : decode cX6_day 122 = .ok (.iastore, 1) := by decide +kernel
theorem dX6_day_123 : decode cX6_day 123 = .ok (.iinc 2 1, 3) := by decide +kernel
theorem dX6_day_126 : decode cX6_day 126 = .ok (.goto (-38), 3) := by decide +kernel
theorem dX6_day_129 : decode cX6_day 129 = .ok (.iconst 0, 1) := by decide +kernel
theorem dX6_day_130 : decode cX6_day 130 = .ok (.istore_n 2, 1) := by decide +kernel
theorem dX6_day_131 : decode cX6_day 131 = .ok (.iload_n 2, 1) := by decide +kernel
theorem dX6_day_132 : decode cX6_day 132 = .ok (.aload_n 0, 1) := by decide +kernel
theorem dX6_day_133 : decode cX6_day 133 = .ok (.getfield 7, 3) := by decide +kernel
theorem dX6_day_136 : decode cX6_day 136 = .ok (.iconst 1, 1) := by decide +kernel
theorem dX6_day_137 : decode cX6_day 137 = .ok (.iaload, 1) := by decide +kernel
theorem dX6_day_138 : decode cX6_day 138 = .ok (.if_icmp .ge 39, 3) := by decide +kernel
theorem dX6_day_141 : decode cX6_day 141 = .ok (.aload_n 0, 1) := by decide +kernel
theorem dX6_day_142 : decode cX6_day 142 = .ok (.getfield 7, 3) := by decide +kernel
theorem dX6_day_145 : decode cX6_day 145 = .ok (.iload_n 2, 1) := by decide +kernel
theorem dX6_day_146 : decode cX6_day 146 = .ok (.iconst 2, 1) := by decide +kernel
theorem dX6_day_147 : decode cX6_day 147 = .ok (.invokestatic 63, 3) := by decide +kernel
theorem dX6_day_150 : decode cX6_day 150 = .ok (.dup2, 1) := by decide +kernel
theorem dX6_day_151 : decode cX6_day 151 = .ok (.iaload, 1) := by decide +kernel
theorem dX6_day_152 : decode cX6_day 152 = .ok (.aload_n 0, 1) := by decide +kernel
theorem dX6_day_153 : decode cX6_day 153 = .ok (.iload_n 2, 1) := by decide +kernel
theorem dX6_day_154 : decode cX6_day 154 = .ok (.iconst 2, 1) := by decide +kernel
theorem dX6_day_155 : decode cX6_day 155 = .ok (.invokevirtual 70, 3) := by decide +kernel
theorem dX6_day_158 : decode cX6_day 158 = .ok (.sipush 9999, 3) := by decide +kernel
theorem dX6_day_161 : decode cX6_day 161 = .ok (.if_icmp .ge 7, 3) := by decide +kernel
theorem dX6_day_164 : decode cX6_day 164 = .ok (.iconst 1, 1) := by decide +kernel
theorem dX6_day_165 : decode cX6_day 165 = .ok (.goto 4, 3) := by decide +kernel
theorem dX6_day_168 : decode cX6_day 168 = .ok (.iconst 0, 1) := by decide +kernel
theorem dX6_day_169 : decode cX6_day 169 = .ok (.iadd, 1) := by decide +kernel
theorem dX6_day_170 : decode cX6_day 170 = .ok (.iastore, 1) := by decide +kernel
theorem dX6_day_171 : decode cX6_day 171 = .ok (.iinc 2 1, 3) := by decide +kernel
theorem dX6_day_174 : decode cX6_day 174 = .ok (.goto (-43), 3) := by decide +kernel
theorem dX6_day_177 : decode cX6_day 177 = .ok (.aload_n 0, 1) := by decide +kernel
theorem dX6_day_178 : decode cX6_day 178 = .ok (.getfield 7, 3) := by decide +kernel
theorem dX6_day_181 : decode cX6_day 181 = .ok (.iconst 2, 1) := by decide +kernel
theorem dX6_day_182 : decode cX6_day 182 = .ok (.dup2, 1) := by decide +kernel
theorem dX6_day_183 : decode cX6_day 183 = .ok (.iaload, 1) := by decide +kernel
theorem dX6_day_184 : decode cX6_day 184 = .ok (.iconst 1, 1) := by decide +kernel
theorem dX6_day_185 : decode cX6_day 185 = .ok (.iadd, 1) := by decide +kernel
theorem dX6_day_186 : decode cX6_day 186 = .ok (.iastore, 1) := by decide +kernel
theorem dX6_day_187 : decode cX6_day 187 = .ok (.iload_n 1, 1) := by decide +kernel
theorem dX6_day_188 : decode cX6_day 188 = .ok (.ireturn, 1) := by decide +kernel
theorem dX6_daysGo_0 : decode cX6_daysGo 0 = .ok (.iconst 0, 1) := by decide +kernel
theorem dX6_daysGo_1 : decode cX6_daysGo 1 = .ok (.istore_n 2, 1) := by decide +kernel
theorem dX6_daysGo_2 : decode cX6_daysGo 2 = .ok (.iconst 0, 1) := by decide +kernel
theorem dX6_daysGo_3 : decode cX6_daysGo 3 = .ok (.istore_n 3, 1) := by decide +kernel
theorem dX6_daysGo_4 : decode cX6_daysGo 4 = .ok (.iload_n 3, 1) := by decide +kernel
theorem dX6_daysGo_5 : decode cX6_daysGo 5 = .ok (.iload_n 1, 1) := by decide +kernel
theorem dX6_daysGo_6 : decode cX6_daysGo 6 = .ok (.if_icmp .ge 16, 3) := by decide +kernel
theorem dX6_daysGo_9 : decode cX6_daysGo 9 = .ok (.iload_n 2, 1) := by decide +kernel
theorem dX6_daysGo_10 : decode cX6_daysGo 10 = .ok (.aload_n 0, 1) := by decide +kernel
theorem dX6_daysGo_11 : decode cX6_daysGo 11 = .ok (.invokevirtual 163, 3) := by decide +kernel
theorem dX6_daysGo_14 : decode cX6_daysGo 14 = .ok (.iadd, 1) := by decide +kernel
theorem dX6_daysGo_15 : decode cX6_daysGo 15 = .ok (.istore_n 2, 1) := by decide +kernel
theorem dX6_daysGo_16 : decode cX6_daysGo 16 = .ok (.iinc 3 1, 3) := by decide +kernel
theorem dX6_daysGo_19 : decode cX6_daysGo 19 = .ok (.goto (-15), 3) := by decide +kernel
theorem dX6_daysGo_22 : decode cX6_daysGo 22 = .ok (.iload_n 2, 1) := by decide +kernel
theorem dX6_daysGo_23 : decode cX6_daysGo 23 = .ok (.ireturn, 1) := by decide +kernel
theorem dX6_days_0 : decode cX6_days 0 = .ok (.iload_n 1, 1) := by decide +kernel
theorem dX6_days_1 : decode cX6_days 1 = .ok (.i2l, 1) := by decide +kernel
theorem dX6_days_2 : decode cX6_days 2 = .ok (.lconst 1, 1) := by decide +kernel
theorem dX6_days_3 : decode cX6_days 3 = .ok (.ldc2_w 166, 3) := by decide +kernel
theorem dX6_days_6 : decode cX6_days 6 = .ok (.invokestatic 53, 3) := by decide +kernel
theorem dX6_days_9 : decode cX6_days 9 = .ok (.ifCond .ne 10, 3) := by decide +kernel
theorem dX6_days_12 : decode cX6_days 12 = .ok (.aload_n 0, 1) := by decide +kernel
theorem dX6_days_13 : decode cX6_days 13 = .ok (.ldc 50, 2) := by decide +kernel
theorem dX6_days_15 : decode cX6_days 15 = .ok (.invokevirtual 101, 3) := by decide +kernel
theorem dX6_days_18 : decode cX6_days 18 = .ok (.ireturn, 1) := by decide +kernel
theorem dX6_days_19 : decode cX6_days 19 = .ok (.aload_n 0, 1) := by decide +kernel
theorem dX6_days_20 : decode cX6_days 20 = .ok (.getfield 7, 3) := by decide +kernel
theorem dX6_days_23 : decode cX6_days 23 = .ok (.iconst 2, 1) := by decide +kernel
theorem dX6_days_24 : decode cX6_days 24 = .ok (.iaload, 1) := by decide +kernel
theorem dX6_days_25 : decode cX6_days 25 = .ok (.iload_n 1, 1) := by decide +kernel
theorem dX6_days_26 : decode cX6_days 26 = .ok (.iadd, 1) := by decide +kernel
theorem dX6_days_27 : decode cX6_days 27 = .ok (.sipush 9999, 3) := by decide +kernel
theorem dX6_days_30 : decode cX6_days 30 = .ok (.if_icmp .le 12, 3) := by decide +kernel
theorem dX6_days_33 : decode cX6_days 33 = .ok (.aload_n 0, 1) := by decide +kernel
theorem dX6_days_34 : decode cX6_days 34 = .ok (.ldc 168, 2) := by decide +kernel
theorem dX6_days_36 : decode cX6_days 36 = .ok (.invokevirtual 101, 3) := by decide +kernel
theorem dX6_days_39 : decode cX6_days 39 = .ok (.goto 8, 3) := by decide +kernel
theorem dX6_days_42 : decode cX6_days 42 = .ok (.aload_n 0, 1) := by decide +kernel
theorem dX6_days_43 : decode cX6_days 43 = .ok (.iload_n 1, 1) := by decide +kernel
theorem dX6_days_44 : decode cX6_days 44 = .ok (.invokevirtual 169, 3) := by decide +kernel
theorem dX6_days_47 : decode cX6_days 47 = .ok (.ireturn, 1) := by decide +kernel
theorem dX6_wheatAll_0 : decode cX6_wheatAll 0 = .ok (.iconst 0, 1) := by decide +kernel
theorem dX6_wheatAll_1 : decode cX6_wheatAll 1 = .ok (.istore_n 1, 1) := by decide +kernel
theorem dX6_wheatAll_2 : decode cX6_wheatAll 2 = .ok (.iconst 0, 1) := by decide +kernel
theorem dX6_wheatAll_3 : decode cX6_wheatAll 3 = .ok (.istore_n 2, 1) := by decide +kernel
theorem dX6_wheatAll_4 : decode cX6_wheatAll 4 = .ok (.iload_n 2, 1) := by decide +kernel
theorem dX6_wheatAll_5 : decode cX6_wheatAll 5 = .ok (.bipush 48, 2) := by decide +kernel
theorem dX6_wheatAll_7 : decode cX6_wheatAll 7 = .ok (.if_icmp .ge 20, 3) := by decide +kernel
theorem dX6_wheatAll_10 : decode cX6_wheatAll 10 = .ok (.iload_n 1, 1) := by decide +kernel
theorem dX6_wheatAll_11 : decode cX6_wheatAll 11 = .ok (.aload_n 0, 1) := by decide +kernel
theorem dX6_wheatAll_12 : decode cX6_wheatAll 12 = .ok (.getfield 7, 3) := by decide +kernel
theorem dX6_wheatAll_15 : decode cX6_wheatAll 15 = .ok (.iconst 4, 1) := by decide +kernel
theorem dX6_wheatAll_16 : decode cX6_wheatAll 16 = .ok (.iload_n 2, 1) := by decide +kernel
theorem dX6_wheatAll_17 : decode cX6_wheatAll 17 = .ok (.iadd, 1) := by decide +kernel
theorem dX6_wheatAll_18 : decode cX6_wheatAll 18 = .ok (.iaload, 1) := by decide +kernel
theorem dX6_wheatAll_19 : decode cX6_wheatAll 19 = .ok (.iadd, 1) := by decide +kernel
theorem dX6_wheatAll_20 : decode cX6_wheatAll 20 = .ok (.istore_n 1, 1) := by decide +kernel
theorem dX6_wheatAll_21 : decode cX6_wheatAll 21 = .ok (.iinc 2 1, 3) := by decide +kernel
theorem dX6_wheatAll_24 : decode cX6_wheatAll 24 = .ok (.goto (-20), 3) := by decide +kernel
theorem dX6_wheatAll_27 : decode cX6_wheatAll 27 = .ok (.iload_n 1, 1) := by decide +kernel
theorem dX6_wheatAll_28 : decode cX6_wheatAll 28 = .ok (.ireturn, 1) := by decide +kernel
theorem dX6_fees_0 : decode cX6_fees 0 = .ok (.iconst 0, 1) := by decide +kernel
theorem dX6_fees_1 : decode cX6_fees 1 = .ok (.istore_n 1, 1) := by decide +kernel
theorem dX6_fees_2 : decode cX6_fees 2 = .ok (.iconst 0, 1) := by decide +kernel
theorem dX6_fees_3 : decode cX6_fees 3 = .ok (.istore_n 2, 1) := by decide +kernel
theorem dX6_fees_4 : decode cX6_fees 4 = .ok (.iload_n 2, 1) := by decide +kernel
theorem dX6_fees_5 : decode cX6_fees 5 = .ok (.aload_n 0, 1) := by decide +kernel
theorem dX6_fees_6 : decode cX6_fees 6 = .ok (.getfield 7, 3) := by decide +kernel
theorem dX6_fees_9 : decode cX6_fees 9 = .ok (.iconst 0, 1) := by decide +kernel
theorem dX6_fees_10 : decode cX6_fees 10 = .ok (.iaload, 1) := by decide +kernel
theorem dX6_fees_11 : decode cX6_fees 11 = .ok (.if_icmp .ge 30, 3) := by decide +kernel
theorem dX6_fees_14 : decode cX6_fees 14 = .ok (.iload_n 1, 1) := by decide +kernel
theorem dX6_fees_15 : decode cX6_fees 15 = .ok (.aload_n 0, 1) := by decide +kernel
theorem dX6_fees_16 : decode cX6_fees 16 = .ok (.iload_n 2, 1) := by decide +kernel
theorem dX6_fees_17 : decode cX6_fees 17 = .ok (.invokevirtual 128, 3) := by decide +kernel
theorem dX6_fees_20 : decode cX6_fees 20 = .ok (.ifCond .le 12, 3) := by decide +kernel
theorem dX6_fees_23 : decode cX6_fees 23 = .ok (.aload_n 0, 1) := by decide +kernel
theorem dX6_fees_24 : decode cX6_fees 24 = .ok (.iload_n 2, 1) := by decide +kernel
theorem dX6_fees_25 : decode cX6_fees 25 = .ok (.iconst 2, 1) := by decide +kernel
theorem dX6_fees_26 : decode cX6_fees 26 = .ok (.invokevirtual 73, 3) := by decide +kernel
theorem dX6_fees_29 : decode cX6_fees 29 = .ok (.goto 4, 3) := by decide +kernel
theorem dX6_fees_32 : decode cX6_fees 32 = .ok (.iconst 0, 1) := by decide +kernel
theorem dX6_fees_33 : decode cX6_fees 33 = .ok (.iadd, 1) := by decide +kernel
theorem dX6_fees_34 : decode cX6_fees 34 = .ok (.istore_n 1, 1) := by decide +kernel
theorem dX6_fees_35 : decode cX6_fees 35 = .ok (.iinc 2 1, 3) := by decide +kernel
theorem dX6_fees_38 : decode cX6_fees 38 = .ok (.goto (-34), 3) := by decide +kernel
theorem dX6_fees_41 : decode cX6_fees 41 = .ok (.iload_n 1, 1) := by decide +kernel
theorem dX6_fees_42 : decode cX6_fees 42 = .ok (.ireturn, 1) := by decide +kernel
theorem dX6_feared_0 : decode cX6_feared 0 = .ok (.iconst 0, 1) := by decide +kernel
theorem dX6_feared_1 : decode cX6_feared 1 = .ok (.istore_n 1, 1) := by decide +kernel
theorem dX6_feared_2 : decode cX6_feared 2 = .ok (.iconst 0, 1) := by decide +kernel
theorem dX6_feared_3 : decode cX6_feared 3 = .ok (.istore_n 2, 1) := by decide +kernel
theorem dX6_feared_4 : decode cX6_feared 4 = .ok (.iload_n 2, 1) := by decide +kernel
theorem dX6_feared_5 : decode cX6_feared 5 = .ok (.bipush 48, 2) := by decide +kernel
theorem dX6_feared_7 : decode cX6_feared 7 = .ok (.if_icmp .ge 27, 3) := by decide +kernel
theorem dX6_feared_10 : decode cX6_feared 10 = .ok (.iload_n 1, 1) := by decide +kernel
theorem dX6_feared_11 : decode cX6_feared 11 = .ok (.aload_n 0, 1) := by decide +kernel
theorem dX6_feared_12 : decode cX6_feared 12 = .ok (.iload_n 2, 1) := by decide +kernel
theorem dX6_feared_13 : decode cX6_feared 13 = .ok (.invokevirtual 106, 3) := by decide +kernel
theorem dX6_feared_16 : decode cX6_feared 16 = .ok (.bipush 20, 2) := by decide +kernel
theorem dX6_feared_18 : decode cX6_feared 18 = .ok (.if_icmp .lt 7, 3) := by decide +kernel
theorem dX6_feared_21 : decode cX6_feared 21 = .ok (.iconst 1, 1) := by decide +kernel
theorem dX6_feared_22 : decode cX6_feared 22 = .ok (.goto 4, 3) := by decide +kernel
theorem dX6_feared_25 : decode cX6_feared 25 = .ok (.iconst 0, 1) := by decide +kernel
theorem dX6_feared_26 : decode cX6_feared 26 = .ok (.iadd, 1) := by decide +kernel
theorem dX6_feared_27 : decode cX6_feared 27 = .ok (.istore_n 1, 1) := by decide +kernel
theorem dX6_feared_28 : decode cX6_feared 28 = .ok (.iinc 2 1, 3) := by decide +kernel
theorem dX6_feared_31 : decode cX6_feared 31 = .ok (.goto (-27), 3) := by decide +kernel
theorem dX6_feared_34 : decode cX6_feared 34 = .ok (.iload_n 1, 1) := by decide +kernel
theorem dX6_feared_35 : decode cX6_feared 35 = .ok (.ireturn, 1) := by decide +kernel
theorem dX6_meeting_0 : decode cX6_meeting 0 = .ok (.iconst 0, 1) := by decide +kernel
theorem dX6_meeting_1 : decode cX6_meeting 1 = .ok (.istore_n 1, 1) := by decide +kernel
theorem dX6_meeting_2 : decode cX6_meeting 2 = .ok (.iconst 0, 1) := by decide +kernel
theorem dX6_meeting_3 : decode cX6_meeting 3 = .ok (.istore_n 2, 1) := by decide +kernel
theorem dX6_meeting_4 : decode cX6_meeting 4 = .ok (.iload_n 2, 1) := by decide +kernel
theorem dX6_meeting_5 : decode cX6_meeting 5 = .ok (.aload_n 0, 1) := by decide +kernel
theorem dX6_meeting_6 : decode cX6_meeting 6 = .ok (.getfield 7, 3) := by decide +kernel
theorem dX6_meeting_9 : decode cX6_meeting 9 = .ok (.iconst 0, 1) := by decide +kernel
theorem dX6_meeting_10 : decode cX6_meeting 10 = .ok (.iaload, 1) := by decide +kernel
theorem dX6_meeting_11 : decode cX6_meeting 11 = .ok (.if_icmp .ge 27, 3) := by decide +kernel
theorem dX6_meeting_14 : decode cX6_meeting 14 = .ok (.iload_n 1, 1) := by decide +kernel
theorem dX6_meeting_15 : decode cX6_meeting 15 = .ok (.aload_n 0, 1) := by decide +kernel
theorem dX6_meeting_16 : decode cX6_meeting 16 = .ok (.iload_n 2, 1) := by decide +kernel
theorem dX6_meeting_17 : decode cX6_meeting 17 = .ok (.invokevirtual 131, 3) := by decide +kernel
theorem dX6_meeting_20 : decode cX6_meeting 20 = .ok (.ifCond .le 9, 3) := by decide +kernel
theorem dX6_meeting_23 : decode cX6_meeting 23 = .ok (.iconst 1, 1) := by decide +kernel
theorem dX6_meeting_24 : decode cX6_meeting 24 = .ok (.iload_n 2, 1) := by decide +kernel
theorem dX6_meeting_25 : decode cX6_meeting 25 = .ok (.ishl, 1) := by decide +kernel
theorem dX6_meeting_26 : decode cX6_meeting 26 = .ok (.goto 4, 3) := by decide +kernel
theorem dX6_meeting_29 : decode cX6_meeting 29 = .ok (.iconst 0, 1) := by decide +kernel
theorem dX6_meeting_30 : decode cX6_meeting 30 = .ok (.ior, 1) := by decide +kernel
theorem dX6_meeting_31 : decode cX6_meeting 31 = .ok (.istore_n 1, 1) := by decide +kernel
theorem dX6_meeting_32 : decode cX6_meeting 32 = .ok (.iinc 2 1, 3) := by decide +kernel
theorem dX6_meeting_35 : decode cX6_meeting 35 = .ok (.goto (-31), 3) := by decide +kernel
theorem dX6_meeting_38 : decode cX6_meeting 38 = .ok (.iload_n 1, 1) := by decide +kernel
theorem dX6_meeting_39 : decode cX6_meeting 39 = .ok (.ireturn, 1) := by decide +kernel
theorem dX6_now_0 : decode cX6_now 0 = .ok (.iload_n 1, 1) := by decide +kernel
theorem dX6_now_1 : decode cX6_now 1 = .ok (.tableswitch 68 0 5 #[39, 39, 48, 53, 58, 63], 39) := by decide +kernel
theorem dX6_now_40 : decode cX6_now 40 = .ok (.aload_n 0, 1) := by decide +kernel
theorem dX6_now_41 : decode cX6_now 41 = .ok (.getfield 7, 3) := by decide +kernel
theorem dX6_now_44 : decode cX6_now 44 = .ok (.iconst 2, 1) := by decide +kernel
theorem dX6_now_45 : decode cX6_now 45 = .ok (.iload_n 1, 1) := by decide +kernel
theorem dX6_now_46 : decode cX6_now 46 = .ok (.iadd, 1) := by decide +kernel
theorem dX6_now_47 : decode cX6_now 47 = .ok (.iaload, 1) := by decide +kernel
theorem dX6_now_48 : decode cX6_now 48 = .ok (.ireturn, 1) := by decide +kernel
theorem dX6_now_49 : decode cX6_now 49 = .ok (.aload_n 0, 1) := by decide +kernel
theorem dX6_now_50 : decode cX6_now 50 = .ok (.invokevirtual 172, 3) := by decide +kernel
theorem dX6_now_53 : decode cX6_now 53 = .ok (.ireturn, 1) := by decide +kernel
theorem dX6_now_54 : decode cX6_now 54 = .ok (.aload_n 0, 1) := by decide +kernel
theorem dX6_now_55 : decode cX6_now 55 = .ok (.invokevirtual 175, 3) := by decide +kernel
theorem dX6_now_58 : decode cX6_now 58 = .ok (.ireturn, 1) := by decide +kernel
theorem dX6_now_59 : decode cX6_now 59 = .ok (.aload_n 0, 1) := by decide +kernel
theorem dX6_now_60 : decode cX6_now 60 = .ok (.invokevirtual 178, 3) := by decide +kernel
theorem dX6_now_63 : decode cX6_now 63 = .ok (.ireturn, 1) := by decide +kernel
theorem dX6_now_64 : decode cX6_now 64 = .ok (.aload_n 0, 1) := by decide +kernel
theorem dX6_now_65 : decode cX6_now 65 = .ok (.invokevirtual 181, 3) := by decide +kernel
theorem dX6_now_68 : decode cX6_now 68 = .ok (.ireturn, 1) := by decide +kernel
theorem dX6_now_69 : decode cX6_now 69 = .ok (.aload_n 0, 1) := by decide +kernel
theorem dX6_now_70 : decode cX6_now 70 = .ok (.ldc 50, 2) := by decide +kernel
theorem dX6_now_72 : decode cX6_now 72 = .ok (.invokevirtual 101, 3) := by decide +kernel
theorem dX6_now_75 : decode cX6_now 75 = .ok (.ireturn, 1) := by decide +kernel
theorem dX6_on_0 : decode cX6_on 0 = .ok (.iload_n 1, 1) := by decide +kernel
theorem dX6_on_1 : decode cX6_on 1 = .ok (.invokestatic 93, 3) := by decide +kernel
theorem dX6_on_4 : decode cX6_on 4 = .ok (.ifCond .eq 15, 3) := by decide +kernel
theorem dX6_on_7 : decode cX6_on 7 = .ok (.iload_n 2, 1) := by decide +kernel
theorem dX6_on_8 : decode cX6_on 8 = .ok (.i2l, 1) := by decide +kernel
theorem dX6_on_9 : decode cX6_on 9 = .ok (.lconst 0, 1) := by decide +kernel
theorem dX6_on_10 : decode cX6_on 10 = .ok (.ldc2_w 166, 3) := by decide +kernel
theorem dX6_on_13 : decode cX6_on 13 = .ok (.invokestatic 53, 3) := by decide +kernel
theorem dX6_on_16 : decode cX6_on 16 = .ok (.ifCond .ne 10, 3) := by decide +kernel
theorem dX6_on_19 : decode cX6_on 19 = .ok (.aload_n 0, 1) := by decide +kernel
theorem dX6_on_20 : decode cX6_on 20 = .ok (.ldc 50, 2) := by decide +kernel
theorem dX6_on_22 : decode cX6_on 22 = .ok (.invokevirtual 101, 3) := by decide +kernel
theorem dX6_on_25 : decode cX6_on 25 = .ok (.ireturn, 1) := by decide +kernel
theorem dX6_on_26 : decode cX6_on 26 = .ok (.aload_n 0, 1) := by decide +kernel
theorem dX6_on_27 : decode cX6_on 27 = .ok (.invokevirtual 184, 3) := by decide +kernel
theorem dX6_on_30 : decode cX6_on 30 = .ok (.aload_n 0, 1) := by decide +kernel
theorem dX6_on_31 : decode cX6_on 31 = .ok (.iload_n 2, 1) := by decide +kernel
theorem dX6_on_32 : decode cX6_on 32 = .ok (.invokevirtual 169, 3) := by decide +kernel
theorem dX6_on_35 : decode cX6_on 35 = .ok (.istore_n 3, 1) := by decide +kernel
theorem dX6_on_36 : decode cX6_on 36 = .ok (.aload_n 0, 1) := by decide +kernel
theorem dX6_on_37 : decode cX6_on 37 = .ok (.aload_n 0, 1) := by decide +kernel
theorem dX6_on_38 : decode cX6_on 38 = .ok (.getfield 7, 3) := by decide +kernel
theorem dX6_on_41 : decode cX6_on 41 = .ok (.iconst 4, 1) := by decide +kernel
theorem dX6_on_42 : decode cX6_on 42 = .ok (.iload_n 1, 1) := by decide +kernel
theorem dX6_on_43 : decode cX6_on 43 = .ok (.iadd, 1) := by decide +kernel
theorem dX6_on_44 : decode cX6_on 44 = .ok (.iaload, 1) := by decide +kernel
theorem dX6_on_45 : decode cX6_on 45 = .ok (.invokevirtual 187, 3) := by decide +kernel
theorem dX6_on_48 : decode cX6_on 48 = .ok (.ireturn, 1) := by decide +kernel
theorem dX6_eatenOn_0 : decode cX6_eatenOn 0 = .ok (.aload_n 0, 1) := by decide +kernel
theorem dX6_eatenOn_1 : decode cX6_eatenOn 1 = .ok (.invokevirtual 184, 3) := by decide +kernel
theorem dX6_eatenOn_4 : decode cX6_eatenOn 4 = .ok (.aload_n 0, 1) := by decide +kernel
theorem dX6_eatenOn_5 : decode cX6_eatenOn 5 = .ok (.aload_n 0, 1) := by decide +kernel
theorem dX6_eatenOn_6 : decode cX6_eatenOn 6 = .ok (.iload_n 1, 1) := by decide +kernel
theorem dX6_eatenOn_7 : decode cX6_eatenOn 7 = .ok (.invokevirtual 169, 3) := by decide +kernel
theorem dX6_eatenOn_10 : decode cX6_eatenOn 10 = .ok (.invokevirtual 187, 3) := by decide +kernel
theorem dX6_eatenOn_13 : decode cX6_eatenOn 13 = .ok (.ireturn, 1) := by decide +kernel
theorem dX6_eaten_0 : decode cX6_eaten 0 = .ok (.iload_n 1, 1) := by decide +kernel
theorem dX6_eaten_1 : decode cX6_eaten 1 = .ok (.i2l, 1) := by decide +kernel
theorem dX6_eaten_2 : decode cX6_eaten 2 = .ok (.lconst 0, 1) := by decide +kernel
theorem dX6_eaten_3 : decode cX6_eaten 3 = .ok (.ldc2_w 166, 3) := by decide +kernel
theorem dX6_eaten_6 : decode cX6_eaten 6 = .ok (.invokestatic 53, 3) := by decide +kernel
theorem dX6_eaten_9 : decode cX6_eaten 9 = .ok (.ifCond .eq 11, 3) := by decide +kernel
theorem dX6_eaten_12 : decode cX6_eaten 12 = .ok (.aload_n 0, 1) := by decide +kernel
theorem dX6_eaten_13 : decode cX6_eaten 13 = .ok (.iload_n 1, 1) := by decide +kernel
theorem dX6_eaten_14 : decode cX6_eaten 14 = .ok (.invokevirtual 190, 3) := by decide +kernel
theorem dX6_eaten_17 : decode cX6_eaten 17 = .ok (.goto 9, 3) := by decide +kernel
theorem dX6_eaten_20 : decode cX6_eaten 20 = .ok (.aload_n 0, 1) := by decide +kernel
theorem dX6_eaten_21 : decode cX6_eaten 21 = .ok (.ldc 50, 2) := by decide +kernel
theorem dX6_eaten_23 : decode cX6_eaten 23 = .ok (.invokevirtual 101, 3) := by decide +kernel
theorem dX6_eaten_26 : decode cX6_eaten 26 = .ok (.ireturn, 1) := by decide +kernel
theorem dX6_first_0 : decode cX6_first 0 = .ok (.iload_n 1, 1) := by decide +kernel
theorem dX6_first_1 : decode cX6_first 1 = .ok (.invokestatic 93, 3) := by decide +kernel
theorem dX6_first_4 : decode cX6_first 4 = .ok (.ifCond .ne 10, 3) := by decide +kernel
theorem dX6_first_7 : decode cX6_first 7 = .ok (.aload_n 0, 1) := by decide +kernel
theorem dX6_first_8 : decode cX6_first 8 = .ok (.ldc 50, 2) := by decide +kernel
theorem dX6_first_10 : decode cX6_first 10 = .ok (.invokevirtual 101, 3) := by decide +kernel
theorem dX6_first_13 : decode cX6_first 13 = .ok (.ireturn, 1) := by decide +kernel
theorem dX6_first_14 : decode cX6_first 14 = .ok (.aload_n 0, 1) := by decide +kernel
theorem dX6_first_15 : decode cX6_first 15 = .ok (.getfield 7, 3) := by decide +kernel
theorem dX6_first_18 : decode cX6_first 18 = .ok (.iconst 4, 1) := by decide +kernel
theorem dX6_first_19 : decode cX6_first 19 = .ok (.iload_n 1, 1) := by decide +kernel
theorem dX6_first_20 : decode cX6_first 20 = .ok (.iadd, 1) := by decide +kernel
theorem dX6_first_21 : decode cX6_first 21 = .ok (.iaload, 1) := by decide +kernel
theorem dX6_first_22 : decode cX6_first 22 = .ok (.istore_n 2, 1) := by decide +kernel
theorem dX6_first_23 : decode cX6_first 23 = .ok (.aload_n 0, 1) := by decide +kernel
theorem dX6_first_24 : decode cX6_first 24 = .ok (.invokevirtual 184, 3) := by decide +kernel
theorem dX6_first_27 : decode cX6_first 27 = .ok (.iconst 0, 1) := by decide +kernel
theorem dX6_first_28 : decode cX6_first 28 = .ok (.istore_n 3, 1) := by decide +kernel
theorem dX6_first_29 : decode cX6_first 29 = .ok (.iload_n 3, 1) := by decide +kernel
theorem dX6_first_30 : decode cX6_first 30 = .ok (.bipush 60, 2) := by decide +kernel
theorem dX6_first_32 : decode cX6_first 32 = .ok (.if_icmp .gt 27, 3) := by decide +kernel
theorem dX6_first_35 : decode cX6_first 35 = .ok (.aload_n 0, 1) := by decide +kernel
theorem dX6_first_36 : decode cX6_first 36 = .ok (.getfield 7, 3) := by decide +kernel
theorem dX6_first_39 : decode cX6_first 39 = .ok (.iconst 4, 1) := by decide +kernel
theorem dX6_first_40 : decode cX6_first 40 = .ok (.iload_n 1, 1) := by decide +kernel
theorem dX6_first_41 : decode cX6_first 41 = .ok (.iadd, 1) := by decide +kernel
theorem dX6_first_42 : decode cX6_first 42 = .ok (.iaload, 1) := by decide +kernel
theorem dX6_first_43 : decode cX6_first 43 = .ok (.iload_n 2, 1) := by decide +kernel
theorem dX6_first_44 : decode cX6_first 44 = .ok (.if_icmp .ne 15, 3) := by decide +kernel
theorem dX6_first_47 : decode cX6_first 47 = .ok (.aload_n 0, 1) := by decide +kernel
theorem dX6_first_48 : decode cX6_first 48 = .ok (.invokevirtual 163, 3) := by decide +kernel
theorem dX6_first_51 : decode cX6_first 51 = .ok (.istore 4, 2) := by decide +kernel
theorem dX6_first_53 : decode cX6_first 53 = .ok (.iinc 3 1, 3) := by decide +kernel
theorem dX6_first_56 : decode cX6_first 56 = .ok (.goto (-27), 3) := by decide +kernel
theorem dX6_first_59 : decode cX6_first 59 = .ok (.aload_n 0, 1) := by decide +kernel
theorem dX6_first_60 : decode cX6_first 60 = .ok (.iload_n 3, 1) := by decide +kernel
theorem dX6_first_61 : decode cX6_first 61 = .ok (.invokevirtual 187, 3) := by decide +kernel
theorem dX6_first_64 : decode cX6_first 64 = .ok (.istore 4, 2) := by decide +kernel
theorem dX6_first_66 : decode cX6_first 66 = .ok (.iload 4, 2) := by decide +kernel
theorem dX6_first_68 : decode cX6_first 68 = .ok (.bipush 60, 2) := by decide +kernel
theorem dX6_first_70 : decode cX6_first 70 = .ok (.if_icmp .le 12, 3) := by decide +kernel
theorem dX6_first_73 : decode cX6_first 73 = .ok (.aload_n 0, 1) := by decide +kernel
theorem dX6_first_74 : decode cX6_first 74 = .ok (.ldc 162, 2) := by decide +kernel
theorem dX6_first_76 : decode cX6_first 76 = .ok (.invokevirtual 101, 3) := by decide +kernel
theorem dX6_first_79 : decode cX6_first 79 = .ok (.goto 5, 3) := by decide +kernel
theorem dX6_first_82 : decode cX6_first 82 = .ok (.iload 4, 2) := by decide +kernel
theorem dX6_first_84 : decode cX6_first 84 = .ok (.ireturn, 1) := by decide +kernel
theorem dX6_isSoon_0 : decode cX6_isSoon 0 = .ok (.iload_n 0, 1) := by decide +kernel
theorem dX6_isSoon_1 : decode cX6_isSoon 1 = .ok (.i2l, 1) := by decide +kernel
theorem dX6_isSoon_2 : decode cX6_isSoon 2 = .ok (.lconst 1, 1) := by decide +kernel
theorem dX6_isSoon_3 : decode cX6_isSoon 3 = .ok (.ldc2_w 112, 3) := by decide +kernel
theorem dX6_isSoon_6 : decode cX6_isSoon 6 = .ok (.invokestatic 53, 3) := by decide +kernel
theorem dX6_isSoon_9 : decode cX6_isSoon 9 = .ok (.ireturn, 1) := by decide +kernel
theorem dX6_leastBy_0 : decode cX6_leastBy 0 = .ok (.aload_n 0, 1) := by decide +kernel
theorem dX6_leastBy_1 : decode cX6_leastBy 1 = .ok (.getfield 7, 3) := by decide +kernel
theorem dX6_leastBy_4 : decode cX6_leastBy 4 = .ok (.iload_n 1, 1) := by decide +kernel
theorem dX6_leastBy_5 : decode cX6_leastBy 5 = .ok (.iaload, 1) := by decide +kernel
theorem dX6_leastBy_6 : decode cX6_leastBy 6 = .ok (.istore 4, 2) := by decide +kernel
theorem dX6_leastBy_8 : decode cX6_leastBy 8 = .ok (.iconst 0, 1) := by decide +kernel
theorem dX6_leastBy_9 : decode cX6_leastBy 9 = .ok (.istore 5, 2) := by decide +kernel
theorem dX6_leastBy_11 : decode cX6_leastBy 11 = .ok (.iconst (-1), 1) := by decide +kernel
theorem dX6_leastBy_12 : decode cX6_leastBy 12 = .ok (.istore 6, 2) := by decide +kernel
theorem dX6_leastBy_14 : decode cX6_leastBy 14 = .ok (.iconst 0, 1) := by decide +kernel
theorem dX6_leastBy_15 : decode cX6_leastBy 15 = .ok (.istore 7, 2) := by decide +kernel
theorem dX6_leastBy_17 : decode cX6_leastBy 17 = .ok (.iload 7, 2) := by decide +kernel
theorem dX6_leastBy_19 : decode cX6_leastBy 19 = .ok (.iload_n 2, 1) := by decide +kernel
theorem dX6_leastBy_20 : decode cX6_leastBy 20 = .ok (.if_icmp .ge 66, 3) := by decide +kernel
theorem dX6_leastBy_23 : decode cX6_leastBy 23 = .ok (.aload_n 0, 1) := by decide +kernel
theorem dX6_leastBy_24 : decode cX6_leastBy 24 = .ok (.getfield 7, 3) := by decide +kernel
theorem dX6_leastBy_27 : decode cX6_leastBy 27 = .ok (.iload_n 1, 1) := by decide +kernel
theorem dX6_leastBy_28 : decode cX6_leastBy 28 = .ok (.iload 7, 2) := by decide +kernel
theorem dX6_leastBy_30 : decode cX6_leastBy 30 = .ok (.iastore, 1) := by decide +kernel
theorem dX6_leastBy_31 : decode cX6_leastBy 31 = .ok (.aload_n 0, 1) := by decide +kernel
theorem dX6_leastBy_32 : decode cX6_leastBy 32 = .ok (.iload_n 3, 1) := by decide +kernel
theorem dX6_leastBy_33 : decode cX6_leastBy 33 = .ok (.invokevirtual 190, 3) := by decide +kernel
theorem dX6_leastBy_36 : decode cX6_leastBy 36 = .ok (.istore 8, 2) := by decide +kernel
theorem dX6_leastBy_38 : decode cX6_leastBy 38 = .ok (.iload 6, 2) := by decide +kernel
theorem dX6_leastBy_40 : decode cX6_leastBy 40 = .ok (.ifCond .lt 10, 3) := by decide +kernel
theorem dX6_leastBy_43 : decode cX6_leastBy 43 = .ok (.iload 8, 2) := by decide +kernel
theorem dX6_leastBy_45 : decode cX6_leastBy 45 = .ok (.iload 6, 2) := by decide +kernel
theorem dX6_leastBy_47 : decode cX6_leastBy 47 = .ok (.if_icmp .ge 8, 3) := by decide +kernel
theorem dX6_leastBy_50 : decode cX6_leastBy 50 = .ok (.iload 7, 2) := by decide +kernel
theorem dX6_leastBy_52 : decode cX6_leastBy 52 = .ok (.goto 5, 3) := by decide +kernel
theorem dX6_leastBy_55 : decode cX6_leastBy 55 = .ok (.iload 5, 2) := by decide +kernel
theorem dX6_leastBy_57 : decode cX6_leastBy 57 = .ok (.istore 5, 2) := by decide +kernel
theorem dX6_leastBy_59 : decode cX6_leastBy 59 = .ok (.iload 6, 2) := by decide +kernel
theorem dX6_leastBy_61 : decode cX6_leastBy 61 = .ok (.ifCond .lt 10, 3) := by decide +kernel
theorem dX6_leastBy_64 : decode cX6_leastBy 64 = .ok (.iload 8, 2) := by decide +kernel
theorem dX6_leastBy_66 : decode cX6_leastBy 66 = .ok (.iload 6, 2) := by decide +kernel
theorem dX6_leastBy_68 : decode cX6_leastBy 68 = .ok (.if_icmp .ge 8, 3) := by decide +kernel
theorem dX6_leastBy_71 : decode cX6_leastBy 71 = .ok (.iload 8, 2) := by decide +kernel
theorem dX6_leastBy_73 : decode cX6_leastBy 73 = .ok (.goto 5, 3) := by decide +kernel
theorem dX6_leastBy_76 : decode cX6_leastBy 76 = .ok (.iload 6, 2) := by decide +kernel
theorem dX6_leastBy_78 : decode cX6_leastBy 78 = .ok (.istore 6, 2) := by decide +kernel
theorem dX6_leastBy_80 : decode cX6_leastBy 80 = .ok (.iinc 7 1, 3) := by decide +kernel
theorem dX6_leastBy_83 : decode cX6_leastBy 83 = .ok (.goto (-66), 3) := by decide +kernel
theorem dX6_leastBy_86 : decode cX6_leastBy 86 = .ok (.aload_n 0, 1) := by decide +kernel
theorem dX6_leastBy_87 : decode cX6_leastBy 87 = .ok (.getfield 7, 3) := by decide +kernel
theorem dX6_leastBy_90 : decode cX6_leastBy 90 = .ok (.iload_n 1, 1) := by decide +kernel
theorem dX6_leastBy_91 : decode cX6_leastBy 91 = .ok (.iload 4, 2) := by decide +kernel
theorem dX6_leastBy_93 : decode cX6_leastBy 93 = .ok (.iastore, 1) := by decide +kernel
theorem dX6_leastBy_94 : decode cX6_leastBy 94 = .ok (.iload 5, 2) := by decide +kernel
theorem dX6_leastBy_96 : decode cX6_leastBy 96 = .ok (.ireturn, 1) := by decide +kernel
theorem dX6_spot_0 : decode cX6_spot 0 = .ok (.aload_n 0, 1) := by decide +kernel
theorem dX6_spot_1 : decode cX6_spot 1 = .ok (.iload_n 1, 1) := by decide +kernel
theorem dX6_spot_2 : decode cX6_spot 2 = .ok (.invokevirtual 143, 3) := by decide +kernel
theorem dX6_spot_5 : decode cX6_spot 5 = .ok (.ifCond .eq 25, 3) := by decide +kernel
theorem dX6_spot_8 : decode cX6_spot 8 = .ok (.iload_n 2, 1) := by decide +kernel
theorem dX6_spot_9 : decode cX6_spot 9 = .ok (.invokestatic 193, 3) := by decide +kernel
theorem dX6_spot_12 : decode cX6_spot 12 = .ok (.ifCond .eq 18, 3) := by decide +kernel
theorem dX6_spot_15 : decode cX6_spot 15 = .ok (.aload_n 0, 1) := by decide +kernel
theorem dX6_spot_16 : decode cX6_spot 16 = .ok (.iload_n 1, 1) := by decide +kernel
theorem dX6_spot_17 : decode cX6_spot 17 = .ok (.iconst 0, 1) := by decide +kernel
theorem dX6_spot_18 : decode cX6_spot 18 = .ok (.invokestatic 63, 3) := by decide +kernel
theorem dX6_spot_21 : decode cX6_spot 21 = .ok (.bipush 48, 2) := by decide +kernel
theorem dX6_spot_23 : decode cX6_spot 23 = .ok (.iload_n 2, 1) := by decide +kernel
theorem dX6_spot_24 : decode cX6_spot 24 = .ok (.invokevirtual 196, 3) := by decide +kernel
theorem dX6_spot_27 : decode cX6_spot 27 = .ok (.goto 9, 3) := by decide +kernel
theorem dX6_spot_30 : decode cX6_spot 30 = .ok (.aload_n 0, 1) := by decide +kernel
theorem dX6_spot_31 : decode cX6_spot 31 = .ok (.ldc 50, 2) := by decide +kernel
theorem dX6_spot_33 : decode cX6_spot 33 = .ok (.invokevirtual 101, 3) := by decide +kernel
theorem dX6_spot_36 : decode cX6_spot 36 = .ok (.ireturn, 1) := by decide +kernel
theorem dX6_whose_0 : decode cX6_whose 0 = .ok (.aload_n 0, 1) := by decide +kernel
theorem dX6_whose_1 : decode cX6_whose 1 = .ok (.iload_n 1, 1) := by decide +kernel
theorem dX6_whose_2 : decode cX6_whose 2 = .ok (.invokevirtual 143, 3) := by decide +kernel
theorem dX6_whose_5 : decode cX6_whose 5 = .ok (.ifCond .eq 29, 3) := by decide +kernel
theorem dX6_whose_8 : decode cX6_whose 8 = .ok (.iload_n 2, 1) := by decide +kernel
theorem dX6_whose_9 : decode cX6_whose 9 = .ok (.invokestatic 193, 3) := by decide +kernel
theorem dX6_whose_12 : decode cX6_whose 12 = .ok (.ifCond .eq 22, 3) := by decide +kernel
theorem dX6_whose_15 : decode cX6_whose 15 = .ok (.aload_n 0, 1) := by decide +kernel
theorem dX6_whose_16 : decode cX6_whose 16 = .ok (.iload_n 1, 1) := by decide +kernel
theorem dX6_whose_17 : decode cX6_whose 17 = .ok (.iconst 1, 1) := by decide +kernel
theorem dX6_whose_18 : decode cX6_whose 18 = .ok (.invokestatic 63, 3) := by decide +kernel
theorem dX6_whose_21 : decode cX6_whose 21 = .ok (.aload_n 0, 1) := by decide +kernel
theorem dX6_whose_22 : decode cX6_whose 22 = .ok (.getfield 7, 3) := by decide +kernel
theorem dX6_whose_25 : decode cX6_whose 25 = .ok (.iconst 0, 1) := by decide +kernel
theorem dX6_whose_26 : decode cX6_whose 26 = .ok (.iaload, 1) := by decide +kernel
theorem dX6_whose_27 : decode cX6_whose 27 = .ok (.iload_n 2, 1) := by decide +kernel
theorem dX6_whose_28 : decode cX6_whose 28 = .ok (.invokevirtual 196, 3) := by decide +kernel
theorem dX6_whose_31 : decode cX6_whose 31 = .ok (.goto 9, 3) := by decide +kernel
theorem dX6_whose_34 : decode cX6_whose 34 = .ok (.aload_n 0, 1) := by decide +kernel
theorem dX6_whose_35 : decode cX6_whose 35 = .ok (.ldc 50, 2) := by decide +kernel
theorem dX6_whose_37 : decode cX6_whose 37 = .ok (.invokevirtual 101, 3) := by decide +kernel
theorem dX6_whose_40 : decode cX6_whose 40 = .ok (.ireturn, 1) := by decide +kernel
theorem dX6_kind_0 : decode cX6_kind 0 = .ok (.aload_n 0, 1) := by decide +kernel
theorem dX6_kind_1 : decode cX6_kind 1 = .ok (.iload_n 1, 1) := by decide +kernel
theorem dX6_kind_2 : decode cX6_kind 2 = .ok (.invokevirtual 125, 3) := by decide +kernel
theorem dX6_kind_5 : decode cX6_kind 5 = .ok (.ifCond .eq 25, 3) := by decide +kernel
theorem dX6_kind_8 : decode cX6_kind 8 = .ok (.iload_n 2, 1) := by decide +kernel
theorem dX6_kind_9 : decode cX6_kind 9 = .ok (.invokestatic 193, 3) := by decide +kernel
theorem dX6_kind_12 : decode cX6_kind 12 = .ok (.ifCond .eq 18, 3) := by decide +kernel
theorem dX6_kind_15 : decode cX6_kind 15 = .ok (.aload_n 0, 1) := by decide +kernel
theorem dX6_kind_16 : decode cX6_kind 16 = .ok (.iload_n 1, 1) := by decide +kernel
theorem dX6_kind_17 : decode cX6_kind 17 = .ok (.iconst 0, 1) := by decide +kernel
theorem dX6_kind_18 : decode cX6_kind 18 = .ok (.invokestatic 59, 3) := by decide +kernel
theorem dX6_kind_21 : decode cX6_kind 21 = .ok (.bipush 6, 2) := by decide +kernel
theorem dX6_kind_23 : decode cX6_kind 23 = .ok (.iload_n 2, 1) := by decide +kernel
theorem dX6_kind_24 : decode cX6_kind 24 = .ok (.invokevirtual 196, 3) := by decide +kernel
theorem dX6_kind_27 : decode cX6_kind 27 = .ok (.goto 9, 3) := by decide +kernel
theorem dX6_kind_30 : decode cX6_kind 30 = .ok (.aload_n 0, 1) := by decide +kernel
theorem dX6_kind_31 : decode cX6_kind 31 = .ok (.ldc 50, 2) := by decide +kernel
theorem dX6_kind_33 : decode cX6_kind 33 = .ok (.invokevirtual 101, 3) := by decide +kernel
theorem dX6_kind_36 : decode cX6_kind 36 = .ok (.ireturn, 1) := by decide +kernel
theorem dX6_temper_0 : decode cX6_temper 0 = .ok (.aload_n 0, 1) := by decide +kernel
theorem dX6_temper_1 : decode cX6_temper 1 = .ok (.iload_n 1, 1) := by decide +kernel
theorem dX6_temper_2 : decode cX6_temper 2 = .ok (.invokevirtual 125, 3) := by decide +kernel
theorem dX6_temper_5 : decode cX6_temper 5 = .ok (.ifCond .eq 25, 3) := by decide +kernel
theorem dX6_temper_8 : decode cX6_temper 8 = .ok (.iload_n 2, 1) := by decide +kernel
theorem dX6_temper_9 : decode cX6_temper 9 = .ok (.invokestatic 193, 3) := by decide +kernel
theorem dX6_temper_12 : decode cX6_temper 12 = .ok (.ifCond .eq 18, 3) := by decide +kernel
theorem dX6_temper_15 : decode cX6_temper 15 = .ok (.aload_n 0, 1) := by decide +kernel
theorem dX6_temper_16 : decode cX6_temper 16 = .ok (.iload_n 1, 1) := by decide +kernel
theorem dX6_temper_17 : decode cX6_temper 17 = .ok (.iconst 1, 1) := by decide +kernel
theorem dX6_temper_18 : decode cX6_temper 18 = .ok (.invokestatic 59, 3) := by decide +kernel
theorem dX6_temper_21 : decode cX6_temper 21 = .ok (.bipush 31, 2) := by decide +kernel
theorem dX6_temper_23 : decode cX6_temper 23 = .ok (.iload_n 2, 1) := by decide +kernel
theorem dX6_temper_24 : decode cX6_temper 24 = .ok (.invokevirtual 196, 3) := by decide +kernel
theorem dX6_temper_27 : decode cX6_temper 27 = .ok (.goto 9, 3) := by decide +kernel
theorem dX6_temper_30 : decode cX6_temper 30 = .ok (.aload_n 0, 1) := by decide +kernel
theorem dX6_temper_31 : decode cX6_temper 31 = .ok (.ldc 50, 2) := by decide +kernel
theorem dX6_temper_33 : decode cX6_temper 33 = .ok (.invokevirtual 101, 3) := by decide +kernel
theorem dX6_temper_36 : decode cX6_temper 36 = .ok (.ireturn, 1) := by decide +kernel
theorem dX6_ones_0 : decode cX6_ones 0 = .ok (.iconst 0, 1) := by decide +kernel
theorem dX6_ones_1 : decode cX6_ones 1 = .ok (.istore_n 1, 1) := by decide +kernel
theorem dX6_ones_2 : decode cX6_ones 2 = .ok (.iload_n 0, 1) := by decide +kernel
theorem dX6_ones_3 : decode cX6_ones 3 = .ok (.istore_n 2, 1) := by decide +kernel
theorem dX6_ones_4 : decode cX6_ones 4 = .ok (.iload_n 2, 1) := by decide +kernel
theorem dX6_ones_5 : decode cX6_ones 5 = .ok (.ifCond .eq 15, 3) := by decide +kernel
theorem dX6_ones_8 : decode cX6_ones 8 = .ok (.iinc 1 1, 3) := by decide +kernel
theorem dX6_ones_11 : decode cX6_ones 11 = .ok (.iload_n 2, 1) := by decide +kernel
theorem dX6_ones_12 : decode cX6_ones 12 = .ok (.iload_n 2, 1) := by decide +kernel
theorem dX6_ones_13 : decode cX6_ones 13 = .ok (.iconst 1, 1) := by decide +kernel
theorem dX6_ones_14 : decode cX6_ones 14 = .ok (.isub, 1) := by decide +kernel
theorem dX6_ones_15 : decode cX6_ones 15 = .ok (.iand, 1) := by decide +kernel
theorem dX6_ones_16 : decode cX6_ones 16 = .ok (.istore_n 2, 1) := by decide +kernel
theorem dX6_ones_17 : decode cX6_ones 17 = .ok (.goto (-13), 3) := by decide +kernel
theorem dX6_ones_20 : decode cX6_ones 20 = .ok (.iload_n 1, 1) := by decide +kernel
theorem dX6_ones_21 : decode cX6_ones 21 = .ok (.ireturn, 1) := by decide +kernel
theorem dX6_eatenWithout_0 : decode cX6_eatenWithout 0 = .ok (.aload_n 0, 1) := by decide +kernel
theorem dX6_eatenWithout_1 : decode cX6_eatenWithout 1 = .ok (.iload_n 1, 1) := by decide +kernel
theorem dX6_eatenWithout_2 : decode cX6_eatenWithout 2 = .ok (.putfield 66, 3) := by decide +kernel
theorem dX6_eatenWithout_5 : decode cX6_eatenWithout 5 = .ok (.aload_n 0, 1) := by decide +kernel
theorem dX6_eatenWithout_6 : decode cX6_eatenWithout 6 = .ok (.iload_n 2, 1) := by decide +kernel
theorem dX6_eatenWithout_7 : decode cX6_eatenWithout 7 = .ok (.invokevirtual 190, 3) := by decide +kernel
theorem dX6_eatenWithout_10 : decode cX6_eatenWithout 10 = .ok (.istore_n 3, 1) := by decide +kernel
theorem dX6_eatenWithout_11 : decode cX6_eatenWithout 11 = .ok (.aload_n 0, 1) := by decide +kernel
theorem dX6_eatenWithout_12 : decode cX6_eatenWithout 12 = .ok (.iconst 0, 1) := by decide +kernel
theorem dX6_eatenWithout_13 : decode cX6_eatenWithout 13 = .ok (.putfield 66, 3) := by decide +kernel
theorem dX6_eatenWithout_16 : decode cX6_eatenWithout 16 = .ok (.iload_n 3, 1) := by decide +kernel
theorem dX6_eatenWithout_17 : decode cX6_eatenWithout 17 = .ok (.ireturn, 1) := by decide +kernel
theorem dX6_keep_0 : decode cX6_keep 0 = .ok (.iload_n 1, 1) := by decide +kernel
theorem dX6_keep_1 : decode cX6_keep 1 = .ok (.i2l, 1) := by decide +kernel
theorem dX6_keep_2 : decode cX6_keep 2 = .ok (.lconst 1, 1) := by decide +kernel
theorem dX6_keep_3 : decode cX6_keep 3 = .ok (.ldc2_w 200, 3) := by decide +kernel
theorem dX6_keep_6 : decode cX6_keep 6 = .ok (.invokestatic 53, 3) := by decide +kernel
theorem dX6_keep_9 : decode cX6_keep 9 = .ok (.ifCond .ne 10, 3) := by decide +kernel
theorem dX6_keep_12 : decode cX6_keep 12 = .ok (.aload_n 0, 1) := by decide +kernel
theorem dX6_keep_13 : decode cX6_keep 13 = .ok (.ldc 50, 2) := by decide +kernel
theorem dX6_keep_15 : decode cX6_keep 15 = .ok (.invokevirtual 101, 3) := by decide +kernel
theorem dX6_keep_18 : decode cX6_keep 18 = .ok (.ireturn, 1) := by decide +kernel
theorem dX6_keep_19 : decode cX6_keep 19 = .ok (.iconst 1, 1) := by decide +kernel
theorem dX6_keep_20 : decode cX6_keep 20 = .ok (.aload_n 0, 1) := by decide +kernel
theorem dX6_keep_21 : decode cX6_keep 21 = .ok (.getfield 7, 3) := by decide +kernel
theorem dX6_keep_24 : decode cX6_keep 24 = .ok (.iconst 1, 1) := by decide +kernel
theorem dX6_keep_25 : decode cX6_keep 25 = .ok (.iaload, 1) := by decide +kernel
theorem dX6_keep_26 : decode cX6_keep 26 = .ok (.ishl, 1) := by decide +kernel
theorem dX6_keep_27 : decode cX6_keep 27 = .ok (.iconst 1, 1) := by decide +kernel
theorem dX6_keep_28 : decode cX6_keep 28 = .ok (.isub, 1) := by decide +kernel
theorem dX6_keep_29 : decode cX6_keep 29 = .ok (.istore_n 2, 1) := by decide +kernel
theorem dX6_keep_30 : decode cX6_keep 30 = .ok (.iload_n 2, 1) := by decide +kernel
theorem dX6_keep_31 : decode cX6_keep 31 = .ok (.istore_n 3, 1) := by decide +kernel
theorem dX6_keep_32 : decode cX6_keep 32 = .ok (.aload_n 0, 1) := by decide +kernel
theorem dX6_keep_33 : decode cX6_keep 33 = .ok (.iload_n 1, 1) := by decide +kernel
theorem dX6_keep_34 : decode cX6_keep 34 = .ok (.invokevirtual 190, 3) := by decide +kernel
theorem dX6_keep_37 : decode cX6_keep 37 = .ok (.istore 4, 2) := by decide +kernel
theorem dX6_keep_39 : decode cX6_keep 39 = .ok (.iconst 0, 1) := by decide +kernel
theorem dX6_keep_40 : decode cX6_keep 40 = .ok (.istore 5, 2) := by decide +kernel
theorem dX6_keep_42 : decode cX6_keep 42 = .ok (.iload 5, 2) := by decide +kernel
theorem dX6_keep_44 : decode cX6_keep 44 = .ok (.iload_n 2, 1) := by decide +kernel
theorem dX6_keep_45 : decode cX6_keep 45 = .ok (.if_icmp .ge 44, 3) := by decide +kernel
theorem dX6_keep_48 : decode cX6_keep 48 = .ok (.iload 5, 2) := by decide +kernel
theorem dX6_keep_50 : decode cX6_keep 50 = .ok (.invokestatic 202, 3) := by decide +kernel
theorem dX6_keep_53 : decode cX6_keep 53 = .ok (.iload_n 3, 1) := by decide +kernel
theorem dX6_keep_54 : decode cX6_keep 54 = .ok (.invokestatic 202, 3) := by decide +kernel
theorem dX6_keep_57 : decode cX6_keep 57 = .ok (.if_icmp .ge 24, 3) := by decide +kernel
theorem dX6_keep_60 : decode cX6_keep 60 = .ok (.aload_n 0, 1) := by decide +kernel
theorem dX6_keep_61 : decode cX6_keep 61 = .ok (.iload_n 2, 1) := by decide +kernel
theorem dX6_keep_62 : decode cX6_keep 62 = .ok (.iload 5, 2) := by decide +kernel
theorem dX6_keep_64 : decode cX6_keep 64 = .ok (.iconst (-1), 1) := by decide +kernel
theorem dX6_keep_65 : decode cX6_keep 65 = .ok (.ixor, 1) := by decide +kernel
theorem dX6_keep_66 : decode cX6_keep 66 = .ok (.iand, 1) := by decide +kernel
theorem dX6_keep_67 : decode cX6_keep 67 = .ok (.iload_n 1, 1) := by decide +kernel
theorem dX6_keep_68 : decode cX6_keep 68 = .ok (.invokevirtual 205, 3) := by decide +kernel
theorem dX6_keep_71 : decode cX6_keep 71 = .ok (.iload 4, 2) := by decide +kernel
theorem dX6_keep_73 : decode cX6_keep 73 = .ok (.if_icmp .gt 8, 3) := by decide +kernel
theorem dX6_keep_76 : decode cX6_keep 76 = .ok (.iload 5, 2) := by decide +kernel
theorem dX6_keep_78 : decode cX6_keep 78 = .ok (.goto 4, 3) := by decide +kernel
theorem dX6_keep_81 : decode cX6_keep 81 = .ok (.iload_n 3, 1) := by decide +kernel
theorem dX6_keep_82 : decode cX6_keep 82 = .ok (.istore_n 3, 1) := by decide +kernel
theorem dX6_keep_83 : decode cX6_keep 83 = .ok (.iinc 5 1, 3) := by decide +kernel
theorem dX6_keep_86 : decode cX6_keep 86 = .ok (.goto (-44), 3) := by decide +kernel
theorem dX6_keep_89 : decode cX6_keep 89 = .ok (.iload_n 3, 1) := by decide +kernel
theorem dX6_keep_90 : decode cX6_keep 90 = .ok (.ireturn, 1) := by decide +kernel
theorem dX6_worth_0 : decode cX6_worth 0 = .ok (.iload_n 1, 1) := by decide +kernel
theorem dX6_worth_1 : decode cX6_worth 1 = .ok (.invokestatic 193, 3) := by decide +kernel
theorem dX6_worth_4 : decode cX6_worth 4 = .ok (.ifCond .ne 10, 3) := by decide +kernel
theorem dX6_worth_7 : decode cX6_worth 7 = .ok (.aload_n 0, 1) := by decide +kernel
theorem dX6_worth_8 : decode cX6_worth 8 = .ok (.ldc 50, 2) := by decide +kernel
theorem dX6_worth_10 : decode cX6_worth 10 = .ok (.invokevirtual 101, 3) := by decide +kernel
theorem dX6_worth_13 : decode cX6_worth 13 = .ok (.ireturn, 1) := by decide +kernel
theorem dX6_worth_14 : decode cX6_worth 14 = .ok (.iconst (-1), 1) := by decide +kernel
theorem dX6_worth_15 : decode cX6_worth 15 = .ok (.istore_n 2, 1) := by decide +kernel
theorem dX6_worth_16 : decode cX6_worth 16 = .ok (.aload_n 0, 1) := by decide +kernel
theorem dX6_worth_17 : decode cX6_worth 17 = .ok (.iload_n 1, 1) := by decide +kernel
theorem dX6_worth_18 : decode cX6_worth 18 = .ok (.invokevirtual 190, 3) := by decide +kernel
theorem dX6_worth_21 : decode cX6_worth 21 = .ok (.istore_n 3, 1) := by decide +kernel
theorem dX6_worth_22 : decode cX6_worth 22 = .ok (.iconst 0, 1) := by decide +kernel
theorem dX6_worth_23 : decode cX6_worth 23 = .ok (.istore 4, 2) := by decide +kernel
theorem dX6_worth_25 : decode cX6_worth 25 = .ok (.iload 4, 2) := by decide +kernel
theorem dX6_worth_27 : decode cX6_worth 27 = .ok (.aload_n 0, 1) := by decide +kernel
theorem dX6_worth_28 : decode cX6_worth 28 = .ok (.getfield 7, 3) := by decide +kernel
theorem dX6_worth_31 : decode cX6_worth 31 = .ok (.iconst 0, 1) := by decide +kernel
theorem dX6_worth_32 : decode cX6_worth 32 = .ok (.iaload, 1) := by decide +kernel
theorem dX6_worth_33 : decode cX6_worth 33 = .ok (.if_icmp .ge 92, 3) := by decide +kernel
theorem dX6_worth_36 : decode cX6_worth 36 = .ok (.iconst 0, 1) := by decide +kernel
theorem dX6_worth_37 : decode cX6_worth 37 = .ok (.istore 5, 2) := by decide +kernel
theorem dX6_worth_39 : decode cX6_worth 39 = .ok (.iconst 0, 1) := by decide +kernel
theorem dX6_worth_40 : decode cX6_worth 40 = .ok (.istore 6, 2) := by decide +kernel
theorem dX6_worth_42 : decode cX6_worth 42 = .ok (.iload 6, 2) := by decide +kernel
theorem dX6_worth_44 : decode cX6_worth 44 = .ok (.aload_n 0, 1) := by decide +kernel
theorem dX6_worth_45 : decode cX6_worth 45 = .ok (.getfield 7, 3) := by decide +kernel
theorem dX6_worth_48 : decode cX6_worth 48 = .ok (.iconst 1, 1) := by decide +kernel
theorem dX6_worth_49 : decode cX6_worth 49 = .ok (.iaload, 1) := by decide +kernel
theorem dX6_worth_50 : decode cX6_worth 50 = .ok (.if_icmp .ge 34, 3) := by decide +kernel
theorem dX6_worth_53 : decode cX6_worth 53 = .ok (.iload 5, 2) := by decide +kernel
theorem dX6_worth_55 : decode cX6_worth 55 = .ok (.aload_n 0, 1) := by decide +kernel
theorem dX6_worth_56 : decode cX6_worth 56 = .ok (.iload 6, 2) := by decide +kernel
theorem dX6_worth_58 : decode cX6_worth 58 = .ok (.iconst 1, 1) := by decide +kernel
theorem dX6_worth_59 : decode cX6_worth 59 = .ok (.invokevirtual 70, 3) := by decide +kernel
theorem dX6_worth_62 : decode cX6_worth 62 = .ok (.iload 4, 2) := by decide +kernel
theorem dX6_worth_64 : decode cX6_worth 64 = .ok (.if_icmp .ne 10, 3) := by decide +kernel
theorem dX6_worth_67 : decode cX6_worth 67 = .ok (.iconst 1, 1) := by decide +kernel
theorem dX6_worth_68 : decode cX6_worth 68 = .ok (.iload 6, 2) := by decide +kernel
theorem dX6_worth_70 : decode cX6_worth 70 = .ok (.ishl, 1) := by decide +kernel
theorem dX6_worth_71 : decode cX6_worth 71 = .ok (.goto 4, 3) := by decide +kernel
theorem dX6_worth_74 : decode cX6_worth 74 = .ok (.iconst 0, 1) := by decide +kernel
theorem dX6_worth_75 : decode cX6_worth 75 = .ok (.ior, 1) := by decide +kernel
theorem dX6_worth_76 : decode cX6_worth 76 = .ok (.istore 5, 2) := by decide +kernel
theorem dX6_worth_78 : decode cX6_worth 78 = .ok (.iinc 6 1, 3) := by decide +kernel
theorem dX6_worth_81 : decode cX6_worth 81 = .ok (.goto (-39), 3) := by decide +kernel
theorem dX6_worth_84 : decode cX6_worth 84 = .ok (.aload_n 0, 1) := by decide +kernel
theorem dX6_worth_85 : decode cX6_worth 85 = .ok (.iload 5, 2) := by decide +kernel
theorem dX6_worth_87 : decode cX6_worth 87 = .ok (.iload_n 1, 1) := by decide +kernel
theorem dX6_worth_88 : decode cX6_worth 88 = .ok (.invokevirtual 205, 3) := by decide +kernel
theorem dX6_worth_91 : decode cX6_worth 91 = .ok (.istore 6, 2) := by decide +kernel
theorem dX6_worth_93 : decode cX6_worth 93 = .ok (.iload 6, 2) := by decide +kernel
theorem dX6_worth_95 : decode cX6_worth 95 = .ok (.iload_n 3, 1) := by decide +kernel
theorem dX6_worth_96 : decode cX6_worth 96 = .ok (.if_icmp .le 8, 3) := by decide +kernel
theorem dX6_worth_99 : decode cX6_worth 99 = .ok (.iload 4, 2) := by decide +kernel
theorem dX6_worth_101 : decode cX6_worth 101 = .ok (.goto 4, 3) := by decide +kernel
theorem dX6_worth_104 : decode cX6_worth 104 = .ok (.iload_n 2, 1) := by decide +kernel
theorem dX6_worth_105 : decode cX6_worth 105 = .ok (.istore_n 2, 1) := by decide +kernel
theorem dX6_worth_106 : decode cX6_worth 106 = .ok (.iload 6, 2) := by decide +kernel
theorem dX6_worth_108 : decode cX6_worth 108 = .ok (.iload_n 3, 1) := by decide +kernel
theorem dX6_worth_109 : decode cX6_worth 109 = .ok (.if_icmp .le 8, 3) := by decide +kernel
theorem dX6_worth_112 : decode cX6_worth 112 = .ok (.iload 6, 2) := by decide +kernel
theorem dX6_worth_114 : decode cX6_worth 114 = .ok (.goto 4, 3) := by decide +kernel
theorem dX6_worth_117 : decode cX6_worth 117 = .ok (.iload_n 3, 1) := by decide +kernel
theorem dX6_worth_118 : decode cX6_worth 118 = .ok (.istore_n 3, 1) := by decide +kernel
theorem dX6_worth_119 : decode cX6_worth 119 = .ok (.iinc 4 1, 3) := by decide +kernel
theorem dX6_worth_122 : decode cX6_worth 122 = .ok (.goto (-97), 3) := by decide +kernel
theorem dX6_worth_125 : decode cX6_worth 125 = .ok (.iload_n 2, 1) := by decide +kernel
theorem dX6_worth_126 : decode cX6_worth 126 = .ok (.ifCond .ge 12, 3) := by decide +kernel
theorem dX6_worth_129 : decode cX6_worth 129 = .ok (.aload_n 0, 1) := by decide +kernel
theorem dX6_worth_130 : decode cX6_worth 130 = .ok (.ldc 162, 2) := by decide +kernel
theorem dX6_worth_132 : decode cX6_worth 132 = .ok (.invokevirtual 101, 3) := by decide +kernel
theorem dX6_worth_135 : decode cX6_worth 135 = .ok (.goto 4, 3) := by decide +kernel
theorem dX6_worth_138 : decode cX6_worth 138 = .ok (.iload_n 2, 1) := by decide +kernel
theorem dX6_worth_139 : decode cX6_worth 139 = .ok (.ireturn, 1) := by decide +kernel
theorem dX6_apart_0 : decode cX6_apart 0 = .ok (.aload_n 0, 1) := by decide +kernel
theorem dX6_apart_1 : decode cX6_apart 1 = .ok (.iload_n 1, 1) := by decide +kernel
theorem dX6_apart_2 : decode cX6_apart 2 = .ok (.invokevirtual 143, 3) := by decide +kernel
theorem dX6_apart_5 : decode cX6_apart 5 = .ok (.ifCond .ne 10, 3) := by decide +kernel
theorem dX6_apart_8 : decode cX6_apart 8 = .ok (.aload_n 0, 1) := by decide +kernel
theorem dX6_apart_9 : decode cX6_apart 9 = .ok (.ldc 50, 2) := by decide +kernel
theorem dX6_apart_11 : decode cX6_apart 11 = .ok (.invokevirtual 101, 3) := by decide +kernel
theorem dX6_apart_14 : decode cX6_apart 14 = .ok (.ireturn, 1) := by decide +kernel
theorem dX6_apart_15 : decode cX6_apart 15 = .ok (.iload_n 1, 1) := by decide +kernel
theorem dX6_apart_16 : decode cX6_apart 16 = .ok (.iconst 0, 1) := by decide +kernel
theorem dX6_apart_17 : decode cX6_apart 17 = .ok (.invokestatic 63, 3) := by decide +kernel
theorem dX6_apart_20 : decode cX6_apart 20 = .ok (.istore_n 2, 1) := by decide +kernel
theorem dX6_apart_21 : decode cX6_apart 21 = .ok (.aload_n 0, 1) := by decide +kernel
theorem dX6_apart_22 : decode cX6_apart 22 = .ok (.getfield 7, 3) := by decide +kernel
theorem dX6_apart_25 : decode cX6_apart 25 = .ok (.iload_n 2, 1) := by decide +kernel
theorem dX6_apart_26 : decode cX6_apart 26 = .ok (.iaload, 1) := by decide +kernel
theorem dX6_apart_27 : decode cX6_apart 27 = .ok (.istore_n 3, 1) := by decide +kernel
theorem dX6_apart_28 : decode cX6_apart 28 = .ok (.iconst (-1), 1) := by decide +kernel
theorem dX6_apart_29 : decode cX6_apart 29 = .ok (.istore 4, 2) := by decide +kernel
theorem dX6_apart_31 : decode cX6_apart 31 = .ok (.iconst 0, 1) := by decide +kernel
theorem dX6_apart_32 : decode cX6_apart 32 = .ok (.istore 5, 2) := by decide +kernel
theorem dX6_apart_34 : decode cX6_apart 34 = .ok (.iconst 0, 1) := by decide +kernel
theorem dX6_apart_35 : decode cX6_apart 35 = .ok (.istore 6, 2) := by decide +kernel
theorem dX6_apart_37 : decode cX6_apart 37 = .ok (.iload 6, 2) := by decide +kernel
theorem dX6_apart_39 : decode cX6_apart 39 = .ok (.bipush 48, 2) := by decide +kernel
theorem dX6_apart_41 : decode cX6_apart 41 = .ok (.if_icmp .ge 76, 3) := by decide +kernel
theorem dX6_apart_44 : decode cX6_apart 44 = .ok (.aload_n 0, 1) := by decide +kernel
theorem dX6_apart_45 : decode cX6_apart 45 = .ok (.getfield 7, 3) := by decide +kernel
theorem dX6_apart_48 : decode cX6_apart 48 = .ok (.iload_n 2, 1) := by decide +kernel
theorem dX6_apart_49 : decode cX6_apart 49 = .ok (.iload 6, 2) := by decide +kernel
theorem dX6_apart_51 : decode cX6_apart 51 = .ok (.iastore, 1) := by decide +kernel
theorem dX6_apart_52 : decode cX6_apart 52 = .ok (.bipush 100, 2) := by decide +kernel
theorem dX6_apart_54 : decode cX6_apart 54 = .ok (.aload_n 0, 1) := by decide +kernel
theorem dX6_apart_55 : decode cX6_apart 55 = .ok (.aload_n 0, 1) := by decide +kernel
theorem dX6_apart_56 : decode cX6_apart 56 = .ok (.iload_n 1, 1) := by decide +kernel
theorem dX6_apart_57 : decode cX6_apart 57 = .ok (.iconst 1, 1) := by decide +kernel
theorem dX6_apart_58 : decode cX6_apart 58 = .ok (.invokevirtual 70, 3) := by decide +kernel
theorem dX6_apart_61 : decode cX6_apart 61 = .ok (.invokevirtual 131, 3) := by decide +kernel
theorem dX6_apart_64 : decode cX6_apart 64 = .ok (.imul, 1) := by decide +kernel
theorem dX6_apart_65 : decode cX6_apart 65 = .ok (.iload 6, 2) := by decide +kernel
theorem dX6_apart_67 : decode cX6_apart 67 = .ok (.iload_n 3, 1) := by decide +kernel
theorem dX6_apart_68 : decode cX6_apart 68 = .ok (.invokestatic 87, 3) := by decide +kernel
theorem dX6_apart_71 : decode cX6_apart 71 = .ok (.iadd, 1) := by decide +kernel
theorem dX6_apart_72 : decode cX6_apart 72 = .ok (.istore 7, 2) := by decide +kernel
theorem dX6_apart_74 : decode cX6_apart 74 = .ok (.iload 4, 2) := by decide +kernel
theorem dX6_apart_76 : decode cX6_apart 76 = .ok (.ifCond .lt 10, 3) := by decide +kernel
theorem dX6_apart_79 : decode cX6_apart 79 = .ok (.iload 7, 2) := by decide +kernel
theorem dX6_apart_81 : decode cX6_apart 81 = .ok (.iload 5, 2) := by decide +kernel
theorem dX6_apart_83 : decode cX6_apart 83 = .ok (.if_icmp .ge 8, 3) := by decide +kernel
theorem dX6_apart_86 : decode cX6_apart 86 = .ok (.iload 6, 2) := by decide +kernel
theorem dX6_apart_88 : decode cX6_apart 88 = .ok (.goto 5, 3) := by decide +kernel
theorem dX6_apart_91 : decode cX6_apart 91 = .ok (.iload 4, 2) := by decide +kernel
theorem dX6_apart_93 : decode cX6_apart 93 = .ok (.istore 4, 2) := by decide +kernel
theorem dX6_apart_95 : decode cX6_apart 95 = .ok (.iload 4, 2) := by decide +kernel
theorem dX6_apart_97 : decode cX6_apart 97 = .ok (.iload 6, 2) := by decide +kernel
theorem dX6_apart_99 : decode cX6_apart 99 = .ok (.if_icmp .ne 8, 3) := by decide +kernel
theorem dX6_apart_102 : decode cX6_apart 102 = .ok (.iload 7, 2) := by decide +kernel
theorem dX6_apart_104 : decode cX6_apart 104 = .ok (.goto 5, 3) := by decide +kernel
theorem dX6_apart_107 : decode cX6_apart 107 = .ok (.iload 5, 2) := by decide +kernel
theorem dX6_apart_109 : decode cX6_apart 109 = .ok (.istore 5, 2) := by decide +kernel
theorem dX6_apart_111 : decode cX6_apart 111 = .ok (.iinc 6 1, 3) := by decide +kernel
theorem dX6_apart_114 : decode cX6_apart 114 = .ok (.goto (-77), 3) := by decide +kernel
theorem dX6_apart_117 : decode cX6_apart 117 = .ok (.aload_n 0, 1) := by decide +kernel
theorem dX6_apart_118 : decode cX6_apart 118 = .ok (.getfield 7, 3) := by decide +kernel
theorem dX6_apart_121 : decode cX6_apart 121 = .ok (.iload_n 2, 1) := by decide +kernel
theorem dX6_apart_122 : decode cX6_apart 122 = .ok (.iload_n 3, 1) := by decide +kernel
theorem dX6_apart_123 : decode cX6_apart 123 = .ok (.iastore, 1) := by decide +kernel
theorem dX6_apart_124 : decode cX6_apart 124 = .ok (.iload 4, 2) := by decide +kernel
theorem dX6_apart_126 : decode cX6_apart 126 = .ok (.ireturn, 1) := by decide +kernel
theorem dX6_swapped_0 : decode cX6_swapped 0 = .ok (.aload_n 0, 1) := by decide +kernel
theorem dX6_swapped_1 : decode cX6_swapped 1 = .ok (.iload_n 1, 1) := by decide +kernel
theorem dX6_swapped_2 : decode cX6_swapped 2 = .ok (.iconst 0, 1) := by decide +kernel
theorem dX6_swapped_3 : decode cX6_swapped 3 = .ok (.invokevirtual 70, 3) := by decide +kernel
theorem dX6_swapped_6 : decode cX6_swapped 6 = .ok (.istore 4, 2) := by decide +kernel
theorem dX6_swapped_8 : decode cX6_swapped 8 = .ok (.aload_n 0, 1) := by decide +kernel
theorem dX6_swapped_9 : decode cX6_swapped 9 = .ok (.iload_n 2, 1) := by decide +kernel
theorem dX6_swapped_10 : decode cX6_swapped 10 = .ok (.iconst 0, 1) := by decide +kernel
theorem dX6_swapped_11 : decode cX6_swapped 11 = .ok (.invokevirtual 70, 3) := by decide +kernel
theorem dX6_swapped_14 : decode cX6_swapped 14 = .ok (.istore 5, 2) := by decide +kernel
theorem dX6_swapped_16 : decode cX6_swapped 16 = .ok (.aload_n 0, 1) := by decide +kernel
theorem dX6_swapped_17 : decode cX6_swapped 17 = .ok (.getfield 7, 3) := by decide +kernel
theorem dX6_swapped_20 : decode cX6_swapped 20 = .ok (.iload_n 1, 1) := by decide +kernel
theorem dX6_swapped_21 : decode cX6_swapped 21 = .ok (.iconst 0, 1) := by decide +kernel
theorem dX6_swapped_22 : decode cX6_swapped 22 = .ok (.invokestatic 63, 3) := by decide +kernel
theorem dX6_swapped_25 : decode cX6_swapped 25 = .ok (.iload 5, 2) := by decide +kernel
theorem dX6_swapped_27 : decode cX6_swapped 27 = .ok (.iastore, 1) := by decide +kernel
theorem dX6_swapped_28 : decode cX6_swapped 28 = .ok (.aload_n 0, 1) := by decide +kernel
theorem dX6_swapped_29 : decode cX6_swapped 29 = .ok (.getfield 7, 3) := by decide +kernel
theorem dX6_swapped_32 : decode cX6_swapped 32 = .ok (.iload_n 2, 1) := by decide +kernel
theorem dX6_swapped_33 : decode cX6_swapped 33 = .ok (.iconst 0, 1) := by decide +kernel
theorem dX6_swapped_34 : decode cX6_swapped 34 = .ok (.invokestatic 63, 3) := by decide +kernel
theorem dX6_swapped_37 : decode cX6_swapped 37 = .ok (.iload 4, 2) := by decide +kernel
theorem dX6_swapped_39 : decode cX6_swapped 39 = .ok (.iastore, 1) := by decide +kernel
theorem dX6_swapped_40 : decode cX6_swapped 40 = .ok (.aload_n 0, 1) := by decide +kernel
theorem dX6_swapped_41 : decode cX6_swapped 41 = .ok (.iload_n 3, 1) := by decide +kernel
theorem dX6_swapped_42 : decode cX6_swapped 42 = .ok (.invokevirtual 190, 3) := by decide +kernel
theorem dX6_swapped_45 : decode cX6_swapped 45 = .ok (.istore 6, 2) := by decide +kernel
theorem dX6_swapped_47 : decode cX6_swapped 47 = .ok (.aload_n 0, 1) := by decide +kernel
theorem dX6_swapped_48 : decode cX6_swapped 48 = .ok (.getfield 7, 3) := by decide +kernel
theorem dX6_swapped_51 : decode cX6_swapped 51 = .ok (.iload_n 1, 1) := by decide +kernel
theorem dX6_swapped_52 : decode cX6_swapped 52 = .ok (.iconst 0, 1) := by decide +kernel
theorem dX6_swapped_53 : decode cX6_swapped 53 = .ok (.invokestatic 63, 3) := by decide +kernel
theorem dX6_swapped_56 : decode cX6_swapped 56 = .ok (.iload 4, 2) := by decide +kernel
theorem dX6_swapped_58 : decode cX6_swapped 58 = .ok (.iastore, 1) := by decide +kernel
theorem dX6_swapped_59 : decode cX6_swapped 59 = .ok (.aload_n 0, 1) := by decide +kernel
theorem dX6_swapped_60 : decode cX6_swapped 60 = .ok (.getfield 7, 3) := by decide +kernel
theorem dX6_swapped_63 : decode cX6_swapped 63 = .ok (.iload_n 2, 1) := by decide +kernel
theorem dX6_swapped_64 : decode cX6_swapped 64 = .ok (.iconst 0, 1) := by decide +kernel
theorem dX6_swapped_65 : decode cX6_swapped 65 = .ok (.invokestatic 63, 3) := by decide +kernel
theorem dX6_swapped_68 : decode cX6_swapped 68 = .ok (.iload 5, 2) := by decide +kernel
theorem dX6_swapped_70 : decode cX6_swapped 70 = .ok (.iastore, 1) := by decide +kernel
theorem dX6_swapped_71 : decode cX6_swapped 71 = .ok (.iload 6, 2) := by decide +kernel
theorem dX6_swapped_73 : decode cX6_swapped 73 = .ok (.ireturn, 1) := by decide +kernel
theorem dX6_swap_0 : decode cX6_swap 0 = .ok (.iload_n 1, 1) := by decide +kernel
theorem dX6_swap_1 : decode cX6_swap 1 = .ok (.invokestatic 193, 3) := by decide +kernel
theorem dX6_swap_4 : decode cX6_swap 4 = .ok (.ifCond .ne 10, 3) := by decide +kernel
theorem dX6_swap_7 : decode cX6_swap 7 = .ok (.aload_n 0, 1) := by decide +kernel
theorem dX6_swap_8 : decode cX6_swap 8 = .ok (.ldc 50, 2) := by decide +kernel
theorem dX6_swap_10 : decode cX6_swap 10 = .ok (.invokevirtual 101, 3) := by decide +kernel
theorem dX6_swap_13 : decode cX6_swap 13 = .ok (.ireturn, 1) := by decide +kernel
theorem dX6_swap_14 : decode cX6_swap 14 = .ok (.iconst (-1), 1) := by decide +kernel
theorem dX6_swap_15 : decode cX6_swap 15 = .ok (.istore_n 2, 1) := by decide +kernel
theorem dX6_swap_16 : decode cX6_swap 16 = .ok (.aload_n 0, 1) := by decide +kernel
theorem dX6_swap_17 : decode cX6_swap 17 = .ok (.iload_n 1, 1) := by decide +kernel
theorem dX6_swap_18 : decode cX6_swap 18 = .ok (.invokevirtual 190, 3) := by decide +kernel
theorem dX6_swap_21 : decode cX6_swap 21 = .ok (.istore_n 3, 1) := by decide +kernel
theorem dX6_swap_22 : decode cX6_swap 22 = .ok (.iconst 0, 1) := by decide +kernel
theorem dX6_swap_23 : decode cX6_swap 23 = .ok (.istore 4, 2) := by decide +kernel
theorem dX6_swap_25 : decode cX6_swap 25 = .ok (.iload 4, 2) := by decide +kernel
theorem dX6_swap_27 : decode cX6_swap 27 = .ok (.aload_n 0, 1) := by decide +kernel
theorem dX6_swap_28 : decode cX6_swap 28 = .ok (.getfield 7, 3) := by decide +kernel
theorem dX6_swap_31 : decode cX6_swap 31 = .ok (.iconst 1, 1) := by decide +kernel
theorem dX6_swap_32 : decode cX6_swap 32 = .ok (.iaload, 1) := by decide +kernel
theorem dX6_swap_33 : decode cX6_swap 33 = .ok (.if_icmp .ge 75, 3) := by decide +kernel
theorem dX6_swap_36 : decode cX6_swap 36 = .ok (.iload 4, 2) := by decide +kernel
theorem dX6_swap_38 : decode cX6_swap 38 = .ok (.iconst 1, 1) := by decide +kernel
theorem dX6_swap_39 : decode cX6_swap 39 = .ok (.iadd, 1) := by decide +kernel
theorem dX6_swap_40 : decode cX6_swap 40 = .ok (.istore 5, 2) := by decide +kernel
theorem dX6_swap_42 : decode cX6_swap 42 = .ok (.iload 5, 2) := by decide +kernel
theorem dX6_swap_44 : decode cX6_swap 44 = .ok (.aload_n 0, 1) := by decide +kernel
theorem dX6_swap_45 : decode cX6_swap 45 = .ok (.getfield 7, 3) := by decide +kernel
theorem dX6_swap_48 : decode cX6_swap 48 = .ok (.iconst 1, 1) := by decide +kernel
theorem dX6_swap_49 : decode cX6_swap 49 = .ok (.iaload, 1) := by decide +kernel
theorem dX6_swap_50 : decode cX6_swap 50 = .ok (.if_icmp .ge 52, 3) := by decide +kernel
theorem dX6_swap_53 : decode cX6_swap 53 = .ok (.aload_n 0, 1) := by decide +kernel
theorem dX6_swap_54 : decode cX6_swap 54 = .ok (.iload 4, 2) := by decide +kernel
theorem dX6_swap_56 : decode cX6_swap 56 = .ok (.iload 5, 2) := by decide +kernel
theorem dX6_swap_58 : decode cX6_swap 58 = .ok (.iload_n 1, 1) := by decide +kernel
theorem dX6_swap_59 : decode cX6_swap 59 = .ok (.invokevirtual 208, 3) := by decide +kernel
theorem dX6_swap_62 : decode cX6_swap 62 = .ok (.istore 6, 2) := by decide +kernel
theorem dX6_swap_64 : decode cX6_swap 64 = .ok (.iload 6, 2) := by decide +kernel
theorem dX6_swap_66 : decode cX6_swap 66 = .ok (.iload_n 3, 1) := by decide +kernel
theorem dX6_swap_67 : decode cX6_swap 67 = .ok (.if_icmp .ge 14, 3) := by decide +kernel
theorem dX6_swap_70 : decode cX6_swap 70 = .ok (.bipush 10, 2) := by decide +kernel
theorem dX6_swap_72 : decode cX6_swap 72 = .ok (.iload 4, 2) := by decide +kernel
theorem dX6_swap_74 : decode cX6_swap 74 = .ok (.imul, 1) := by decide +kernel
theorem dX6_swap_75 : decode cX6_swap 75 = .ok (.iload 5, 2) := by decide +kernel
theorem dX6_swap_77 : decode cX6_swap 77 = .ok (.iadd, 1) := by decide +kernel
theorem dX6_swap_78 : decode cX6_swap 78 = .ok (.goto 4, 3) := by decide +kernel
theorem dX6_swap_81 : decode cX6_swap 81 = .ok (.iload_n 2, 1) := by decide +kernel
theorem dX6_swap_82 : decode cX6_swap 82 = .ok (.istore_n 2, 1) := by decide +kernel
theorem dX6_swap_83 : decode cX6_swap 83 = .ok (.iload 6, 2) := by decide +kernel
theorem dX6_swap_85 : decode cX6_swap 85 = .ok (.iload_n 3, 1) := by decide +kernel
theorem dX6_swap_86 : decode cX6_swap 86 = .ok (.if_icmp .ge 8, 3) := by decide +kernel
theorem dX6_swap_89 : decode cX6_swap 89 = .ok (.iload 6, 2) := by decide +kernel
theorem dX6_swap_91 : decode cX6_swap 91 = .ok (.goto 4, 3) := by decide +kernel
theorem dX6_swap_94 : decode cX6_swap 94 = .ok (.iload_n 3, 1) := by decide +kernel
theorem dX6_swap_95 : decode cX6_swap 95 = .ok (.istore_n 3, 1) := by decide +kernel
theorem dX6_swap_96 : decode cX6_swap 96 = .ok (.iinc 5 1, 3) := by decide +kernel
theorem dX6_swap_99 : decode cX6_swap 99 = .ok (.goto (-57), 3) := by decide +kernel
theorem dX6_swap_102 : decode cX6_swap 102 = .ok (.iinc 4 1, 3) := by decide +kernel
theorem dX6_swap_105 : decode cX6_swap 105 = .ok (.goto (-80), 3) := by decide +kernel
theorem dX6_swap_108 : decode cX6_swap 108 = .ok (.iload_n 2, 1) := by decide +kernel
theorem dX6_swap_109 : decode cX6_swap 109 = .ok (.ifCond .ge 12, 3) := by decide +kernel
theorem dX6_swap_112 : decode cX6_swap 112 = .ok (.aload_n 0, 1) := by decide +kernel
theorem dX6_swap_113 : decode cX6_swap 113 = .ok (.ldc 162, 2) := by decide +kernel
theorem dX6_swap_115 : decode cX6_swap 115 = .ok (.invokevirtual 101, 3) := by decide +kernel
theorem dX6_swap_118 : decode cX6_swap 118 = .ok (.goto 4, 3) := by decide +kernel
theorem dX6_swap_121 : decode cX6_swap 121 = .ok (.iload_n 2, 1) := by decide +kernel
theorem dX6_swap_122 : decode cX6_swap 122 = .ok (.ireturn, 1) := by decide +kernel
theorem dX6_feed_0 : decode cX6_feed 0 = .ok (.iload_n 2, 1) := by decide +kernel
theorem dX6_feed_1 : decode cX6_feed 1 = .ok (.i2l, 1) := by decide +kernel
theorem dX6_feed_2 : decode cX6_feed 2 = .ok (.lconst 1, 1) := by decide +kernel
theorem dX6_feed_3 : decode cX6_feed 3 = .ok (.ldc2_w 146, 3) := by decide +kernel
theorem dX6_feed_6 : decode cX6_feed 6 = .ok (.invokestatic 53, 3) := by decide +kernel
theorem dX6_feed_9 : decode cX6_feed 9 = .ok (.ifCond .ne 10, 3) := by decide +kernel
theorem dX6_feed_12 : decode cX6_feed 12 = .ok (.aload_n 0, 1) := by decide +kernel
theorem dX6_feed_13 : decode cX6_feed 13 = .ok (.ldc 50, 2) := by decide +kernel
theorem dX6_feed_15 : decode cX6_feed 15 = .ok (.invokevirtual 101, 3) := by decide +kernel
theorem dX6_feed_18 : decode cX6_feed 18 = .ok (.ireturn, 1) := by decide +kernel
theorem dX6_feed_19 : decode cX6_feed 19 = .ok (.aload_n 0, 1) := by decide +kernel
theorem dX6_feed_20 : decode cX6_feed 20 = .ok (.getfield 211, 3) := by decide +kernel
theorem dX6_feed_23 : decode cX6_feed 23 = .ok (.iload_n 2, 1) := by decide +kernel
theorem dX6_feed_24 : decode cX6_feed 24 = .ok (.iadd, 1) := by decide +kernel
theorem dX6_feed_25 : decode cX6_feed 25 = .ok (.bipush 120, 2) := by decide +kernel
theorem dX6_feed_27 : decode cX6_feed 27 = .ok (.if_icmp .le 10, 3) := by decide +kernel
theorem dX6_feed_30 : decode cX6_feed 30 = .ok (.aload_n 0, 1) := by decide +kernel
theorem dX6_feed_31 : decode cX6_feed 31 = .ok (.ldc 117, 2) := by decide +kernel
theorem dX6_feed_33 : decode cX6_feed 33 = .ok (.invokevirtual 101, 3) := by decide +kernel
theorem dX6_feed_36 : decode cX6_feed 36 = .ok (.ireturn, 1) := by decide +kernel
theorem dX6_feed_37 : decode cX6_feed 37 = .ok (.iload_n 2, 1) := by decide +kernel
theorem dX6_feed_38 : decode cX6_feed 38 = .ok (.iconst 1, 1) := by decide +kernel
theorem dX6_feed_39 : decode cX6_feed 39 = .ok (.isub, 1) := by decide +kernel
theorem dX6_feed_40 : decode cX6_feed 40 = .ok (.istore_n 3, 1) := by decide +kernel
theorem dX6_feed_41 : decode cX6_feed 41 = .ok (.iload_n 3, 1) := by decide +kernel
theorem dX6_feed_42 : decode cX6_feed 42 = .ok (.ifCond .lt 38, 3) := by decide +kernel
theorem dX6_feed_45 : decode cX6_feed 45 = .ok (.aload_n 0, 1) := by decide +kernel
theorem dX6_feed_46 : decode cX6_feed 46 = .ok (.getfield 34, 3) := by decide +kernel
theorem dX6_feed_49 : decode cX6_feed 49 = .ok (.aload_n 0, 1) := by decide +kernel
theorem dX6_feed_50 : decode cX6_feed 50 = .ok (.getfield 211, 3) := by decide +kernel
theorem dX6_feed_53 : decode cX6_feed 53 = .ok (.iload_n 1, 1) := by decide +kernel
theorem dX6_feed_54 : decode cX6_feed 54 = .ok (.bipush 8, 2) := by decide +kernel
theorem dX6_feed_56 : decode cX6_feed 56 = .ok (.iload_n 3, 1) := by decide +kernel
theorem dX6_feed_57 : decode cX6_feed 57 = .ok (.imul, 1) := by decide +kernel
theorem dX6_feed_58 : decode cX6_feed 58 = .ok (.ishr, 1) := by decide +kernel
theorem dX6_feed_59 : decode cX6_feed 59 = .ok (.sipush 255, 3) := by decide +kernel
theorem dX6_feed_62 : decode cX6_feed 62 = .ok (.iand, 1) := by decide +kernel
theorem dX6_feed_63 : decode cX6_feed 63 = .ok (.iastore, 1) := by decide +kernel
theorem dX6_feed_64 : decode cX6_feed 64 = .ok (.aload_n 0, 1) := by decide +kernel
theorem dX6_feed_65 : decode cX6_feed 65 = .ok (.dup, 1) := by decide +kernel
theorem dX6_feed_66 : decode cX6_feed 66 = .ok (.getfield 211, 3) := by decide +kernel
theorem dX6_feed_69 : decode cX6_feed 69 = .ok (.iconst 1, 1) := by decide +kernel
theorem dX6_feed_70 : decode cX6_feed 70 = .ok (.iadd, 1) := by decide +kernel
theorem dX6_feed_71 : decode cX6_feed 71 = .ok (.putfield 211, 3) := by decide +kernel
theorem dX6_feed_74 : decode cX6_feed 74 = .ok (.iinc 3 (-1), 3) := by decide +kernel
theorem dX6_feed_77 : decode cX6_feed 77 = .ok (.goto (-36), 3) := by decide +kernel
theorem dX6_feed_80 : decode cX6_feed 80 = .ok (.aload_n 0, 1) := by decide +kernel
theorem dX6_feed_81 : decode cX6_feed 81 = .ok (.getfield 211, 3) := by decide +kernel
theorem dX6_feed_84 : decode cX6_feed 84 = .ok (.ireturn, 1) := by decide +kernel
theorem dX6_wipe_0 : decode cX6_wipe 0 = .ok (.aload_n 0, 1) := by decide +kernel
theorem dX6_wipe_1 : decode cX6_wipe 1 = .ok (.getfield 211, 3) := by decide +kernel
theorem dX6_wipe_4 : decode cX6_wipe 4 = .ok (.istore_n 1, 1) := by decide +kernel
theorem dX6_wipe_5 : decode cX6_wipe 5 = .ok (.aload_n 0, 1) := by decide +kernel
theorem dX6_wipe_6 : decode cX6_wipe 6 = .ok (.iconst 0, 1) := by decide +kernel
theorem dX6_wipe_7 : decode cX6_wipe 7 = .ok (.putfield 211, 3) := by decide +kernel
theorem dX6_wipe_10 : decode cX6_wipe 10 = .ok (.iload_n 1, 1) := by decide +kernel
theorem dX6_wipe_11 : decode cX6_wipe 11 = .ok (.ireturn, 1) := by decide +kernel
theorem dX6_byteAt_0 : decode cX6_byteAt 0 = .ok (.iload_n 1, 1) := by decide +kernel
theorem dX6_byteAt_1 : decode cX6_byteAt 1 = .ok (.aload_n 0, 1) := by decide +kernel
theorem dX6_byteAt_2 : decode cX6_byteAt 2 = .ok (.getfield 211, 3) := by decide +kernel
theorem dX6_byteAt_5 : decode cX6_byteAt 5 = .ok (.if_icmp .ge 12, 3) := by decide +kernel
theorem dX6_byteAt_8 : decode cX6_byteAt 8 = .ok (.aload_n 0, 1) := by decide +kernel
theorem dX6_byteAt_9 : decode cX6_byteAt 9 = .ok (.getfield 34, 3) := by decide +kernel
theorem dX6_byteAt_12 : decode cX6_byteAt 12 = .ok (.iload_n 1, 1) := by decide +kernel
theorem dX6_byteAt_13 : decode cX6_byteAt 13 = .ok (.iaload, 1) := by decide +kernel
theorem dX6_byteAt_14 : decode cX6_byteAt 14 = .ok (.goto 4, 3) := by decide +kernel
theorem dX6_byteAt_17 : decode cX6_byteAt 17 = .ok (.iconst (-1), 1) := by decide +kernel
theorem dX6_byteAt_18 : decode cX6_byteAt 18 = .ok (.ireturn, 1) := by decide +kernel
theorem dX6_isLetter_0 : decode cX6_isLetter 0 = .ok (.iload_n 0, 1) := by decide +kernel
theorem dX6_isLetter_1 : decode cX6_isLetter 1 = .ok (.i2l, 1) := by decide +kernel
theorem dX6_isLetter_2 : decode cX6_isLetter 2 = .ok (.ldc2_w 214, 3) := by decide +kernel
theorem dX6_isLetter_5 : decode cX6_isLetter 5 = .ok (.ldc2_w 216, 3) := by decide +kernel
theorem dX6_isLetter_8 : decode cX6_isLetter 8 = .ok (.invokestatic 53, 3) := by decide +kernel
theorem dX6_isLetter_11 : decode cX6_isLetter 11 = .ok (.ireturn, 1) := by decide +kernel
theorem dX6_isDigit_0 : decode cX6_isDigit 0 = .ok (.iload_n 0, 1) := by decide +kernel
theorem dX6_isDigit_1 : decode cX6_isDigit 1 = .ok (.i2l, 1) := by decide +kernel
theorem dX6_isDigit_2 : decode cX6_isDigit 2 = .ok (.ldc2_w 218, 3) := by decide +kernel
theorem dX6_isDigit_5 : decode cX6_isDigit 5 = .ok (.ldc2_w 220, 3) := by decide +kernel
theorem dX6_isDigit_8 : decode cX6_isDigit 8 = .ok (.invokestatic 53, 3) := by decide +kernel
theorem dX6_isDigit_11 : decode cX6_isDigit 11 = .ok (.ireturn, 1) := by decide +kernel
theorem dX6_token_0 : decode cX6_token 0 = .ok (.aload_n 0, 1) := by decide +kernel
theorem dX6_token_1 : decode cX6_token 1 = .ok (.aload_n 0, 1) := by decide +kernel
theorem dX6_token_2 : decode cX6_token 2 = .ok (.getfield 222, 3) := by decide +kernel
theorem dX6_token_5 : decode cX6_token 5 = .ok (.putfield 225, 3) := by decide +kernel
theorem dX6_token_8 : decode cX6_token 8 = .ok (.aload_n 0, 1) := by decide +kernel
theorem dX6_token_9 : decode cX6_token 9 = .ok (.aload_n 0, 1) := by decide +kernel
theorem dX6_token_10 : decode cX6_token 10 = .ok (.getfield 225, 3) := by decide +kernel
theorem dX6_token_13 : decode cX6_token 13 = .ok (.invokevirtual 228, 3) := by decide +kernel
theorem dX6_token_16 : decode cX6_token 16 = .ok (.bipush 32, 2) := by decide +kernel
theorem dX6_token_18 : decode cX6_token 18 = .ok (.if_icmp .ne 16, 3) := by decide +kernel
theorem dX6_token_21 : decode cX6_token 21 = .ok (.aload_n 0, 1) := by decide +kernel
theorem dX6_token_22 : decode cX6_token 22 = .ok (.dup, 1) := by decide +kernel
theorem dX6_token_23 : decode cX6_token 23 = .ok (.getfield 225, 3) := by decide +kernel
theorem dX6_token_26 : decode cX6_token 26 = .ok (.iconst 1, 1) := by decide +kernel
theorem dX6_token_27 : decode cX6_token 27 = .ok (.iadd, 1) := by decide +kernel
theorem dX6_token_28 : decode cX6_token 28 = .ok (.putfield 225, 3) := by decide +kernel
theorem dX6_token_31 : decode cX6_token 31 = .ok (.goto (-23), 3) := by decide +kernel
theorem dX6_token_34 : decode cX6_token 34 = .ok (.aload_n 0, 1) := by decide +kernel
theorem dX6_token_35 : decode cX6_token 35 = .ok (.aload_n 0, 1) := by decide +kernel
theorem dX6_token_36 : decode cX6_token 36 = .ok (.getfield 225, 3) := by decide +kernel
theorem dX6_token_39 : decode cX6_token 39 = .ok (.invokevirtual 228, 3) := by decide +kernel
theorem dX6_token_42 : decode cX6_token 42 = .ok (.invokestatic 231, 3) := by decide +kernel
theorem dX6_token_45 : decode cX6_token 45 = .ok (.istore_n 1, 1) := by decide +kernel
theorem dX6_token_46 : decode cX6_token 46 = .ok (.aload_n 0, 1) := by decide +kernel
theorem dX6_token_47 : decode cX6_token 47 = .ok (.aload_n 0, 1) := by decide +kernel
theorem dX6_token_48 : decode cX6_token 48 = .ok (.getfield 225, 3) := by decide +kernel
theorem dX6_token_51 : decode cX6_token 51 = .ok (.invokevirtual 228, 3) := by decide +kernel
theorem dX6_token_54 : decode cX6_token 54 = .ok (.invokestatic 234, 3) := by decide +kernel
theorem dX6_token_57 : decode cX6_token 57 = .ok (.istore_n 2, 1) := by decide +kernel
theorem dX6_token_58 : decode cX6_token 58 = .ok (.aload_n 0, 1) := by decide +kernel
theorem dX6_token_59 : decode cX6_token 59 = .ok (.aload_n 0, 1) := by decide +kernel
theorem dX6_token_60 : decode cX6_token 60 = .ok (.getfield 225, 3) := by decide +kernel
theorem dX6_token_63 : decode cX6_token 63 = .ok (.aload_n 0, 1) := by decide +kernel
theorem dX6_token_64 : decode cX6_token 64 = .ok (.getfield 211, 3) := by decide +kernel
theorem dX6_token_67 : decode cX6_token 67 = .ok (.if_icmp .ge 12, 3) := by decide +kernel
theorem dX6_token_70 : decode cX6_token 70 = .ok (.aload_n 0, 1) := by decide +kernel
theorem dX6_token_71 : decode cX6_token 71 = .ok (.getfield 225, 3) := by decide +kernel
theorem dX6_token_74 : decode cX6_token 74 = .ok (.iconst 1, 1) := by decide +kernel
theorem dX6_token_75 : decode cX6_token 75 = .ok (.iadd, 1) := by decide +kernel
theorem dX6_token_76 : decode cX6_token 76 = .ok (.goto 7, 3) := by decide +kernel
theorem dX6_token_79 : decode cX6_token 79 = .ok (.aload_n 0, 1) := by decide +kernel
theorem dX6_token_80 : decode cX6_token 80 = .ok (.getfield 225, 3) := by decide +kernel
theorem dX6_token_83 : decode cX6_token 83 = .ok (.putfield 222, 3) := by decide +kernel
theorem dX6_token_86 : decode cX6_token 86 = .ok (.iload_n 1, 1) := by decide +kernel
theorem dX6_token_87 : decode cX6_token 87 = .ok (.ifCond .eq 17, 3) := by decide +kernel
theorem dX6_token_90 : decode cX6_token 90 = .ok (.aload_n 0, 1) := by decide +kernel
theorem dX6_token_91 : decode cX6_token 91 = .ok (.aload_n 0, 1) := by decide +kernel
theorem dX6_token_92 : decode cX6_token 92 = .ok (.getfield 222, 3) := by decide +kernel
theorem dX6_token_95 : decode cX6_token 95 = .ok (.invokevirtual 228, 3) := by decide +kernel
theorem dX6_token_98 : decode cX6_token 98 = .ok (.invokestatic 231, 3) := by decide +kernel
theorem dX6_token_101 : decode cX6_token 101 = .ok (.ifCond .ne 21, 3) := by decide +kernel
theorem dX6_token_104 : decode cX6_token 104 = .ok (.iload_n 2, 1) := by decide +kernel
theorem dX6_token_105 : decode cX6_token 105 = .ok (.ifCond .eq 30, 3) := by decide +kernel
theorem dX6_token_108 : decode cX6_token 108 = .ok (.aload_n 0, 1) := by decide +kernel
theorem dX6_token_109 : decode cX6_token 109 = .ok (.aload_n 0, 1) := by decide +kernel
theorem dX6_token_110 : decode cX6_token 110 = .ok (.getfield 222, 3) := by decide +kernel
theorem dX6_token_113 : decode cX6_token 113 = .ok (.invokevirtual 228, 3) := by decide +kernel
theorem dX6_token_116 : decode cX6_token 116 = .ok (.invokestatic 234, 3) := by decide +kernel
theorem dX6_token_119 : decode cX6_token 119 = .ok (.ifCond .eq 16, 3) := by decide +kernel
theorem dX6_token_122 : decode cX6_token 122 = .ok (.aload_n 0, 1) := by decide +kernel
theorem dX6_token_123 : decode cX6_token 123 = .ok (.dup, 1) := by decide +kernel
theorem dX6_token_124 : decode cX6_token 124 = .ok (.getfield 222, 3) := by decide +kernel
theorem dX6_token_127 : decode cX6_token 127 = .ok (.iconst 1, 1) := by decide +kernel
theorem dX6_token_128 : decode cX6_token 128 = .ok (.iadd, 1) := by decide +kernel
theorem dX6_token_129 : decode cX6_token 129 = .ok (.putfield 222, 3) := by decide +kernel
theorem dX6_token_132 : decode cX6_token 132 = .ok (.goto (-46), 3) := by decide +kernel
theorem dX6_token_135 : decode cX6_token 135 = .ok (.return_, 1) := by decide +kernel
theorem dX6_must_0 : decode cX6_must 0 = .ok (.aload_n 0, 1) := by decide +kernel
theorem dX6_must_1 : decode cX6_must 1 = .ok (.aload_n 0, 1) := by decide +kernel
theorem dX6_must_2 : decode cX6_must 2 = .ok (.getfield 237, 3) := by decide +kernel
theorem dX6_must_5 : decode cX6_must 5 = .ok (.ifCond .ne 7, 3) := by decide +kernel
theorem dX6_must_8 : decode cX6_must 8 = .ok (.iload_n 1, 1) := by decide +kernel
theorem dX6_must_9 : decode cX6_must 9 = .ok (.ifCond .ne 7, 3) := by decide +kernel
theorem dX6_must_12 : decode cX6_must 12 = .ok (.iconst 1, 1) := by decide +kernel
theorem dX6_must_13 : decode cX6_must 13 = .ok (.goto 4, 3) := by decide +kernel
theorem dX6_must_16 : decode cX6_must 16 = .ok (.iconst 0, 1) := by decide +kernel
theorem dX6_must_17 : decode cX6_must 17 = .ok (.putfield 237, 3) := by decide +kernel
theorem dX6_must_20 : decode cX6_must 20 = .ok (.aload_n 0, 1) := by decide +kernel
theorem dX6_must_21 : decode cX6_must 21 = .ok (.getfield 237, 3) := by decide +kernel
theorem dX6_must_24 : decode cX6_must 24 = .ok (.ifCond .ne 7, 3) := by decide +kernel
theorem dX6_must_27 : decode cX6_must 27 = .ok (.aload_n 0, 1) := by decide +kernel
theorem dX6_must_28 : decode cX6_must 28 = .ok (.invokevirtual 241, 3) := by decide +kernel
theorem dX6_must_31 : decode cX6_must 31 = .ok (.return_, 1) := by decide +kernel
theorem dX6_word_0 : decode cX6_word 0 = .ok (.lconst 0, 1) := by decide +kernel
theorem dX6_word_1 : decode cX6_word 1 = .ok (.lstore_n 1, 1) := by decide +kernel
theorem dX6_word_2 : decode cX6_word 2 = .ok (.aload_n 0, 1) := by decide +kernel
theorem dX6_word_3 : decode cX6_word 3 = .ok (.getfield 225, 3) := by decide +kernel
theorem dX6_word_6 : decode cX6_word 6 = .ok (.istore_n 3, 1) := by decide +kernel
theorem dX6_word_7 : decode cX6_word 7 = .ok (.iload_n 3, 1) := by decide +kernel
theorem dX6_word_8 : decode cX6_word 8 = .ok (.aload_n 0, 1) := by decide +kernel
theorem dX6_word_9 : decode cX6_word 9 = .ok (.getfield 222, 3) := by decide +kernel
theorem dX6_word_12 : decode cX6_word 12 = .ok (.if_icmp .ge 38, 3) := by decide +kernel
theorem dX6_word_15 : decode cX6_word 15 = .ok (.lload_n 1, 1) := by decide +kernel
theorem dX6_word_16 : decode cX6_word 16 = .ok (.ldc2_w 244, 3) := by decide +kernel
theorem dX6_word_19 : decode cX6_word 19 = .ok (.lcmp, 1) := by decide +kernel
theorem dX6_word_20 : decode cX6_word 20 = .ok (.ifCond .le 7, 3) := by decide +kernel
theorem dX6_word_23 : decode cX6_word 23 = .ok (.lload_n 1, 1) := by decide +kernel
theorem dX6_word_24 : decode cX6_word 24 = .ok (.goto 19, 3) := by decide +kernel
theorem dX6_word_27 : decode cX6_word 27 = .ok (.ldc2_w 246, 3) := by decide +kernel
theorem dX6_word_30 : decode cX6_word 30 = .ok (.lload_n 1, 1) := by decide +kernel
theorem dX6_word_31 : decode cX6_word 31 = .ok (.lmul, 1) := by decide +kernel
theorem dX6_word_32 : decode cX6_word 32 = .ok (.aload_n 0, 1) := by decide +kernel
theorem dX6_word_33 : decode cX6_word 33 = .ok (.getfield 34, 3) := by decide +kernel
theorem dX6_word_36 : decode cX6_word 36 = .ok (.iload_n 3, 1) := by decide +kernel
theorem dX6_word_37 : decode cX6_word 37 = .ok (.iaload, 1) := by decide +kernel
theorem dX6_word_38 : decode cX6_word 38 = .ok (.bipush 96, 2) := by decide +kernel
theorem dX6_word_40 : decode cX6_word 40 = .ok (.isub, 1) := by decide +kernel
theorem dX6_word_41 : decode cX6_word 41 = .ok (.i2l, 1) := by decide +kernel
theorem dX6_word_42 : decode cX6_word 42 = .ok (.ladd, 1) := by decide +kernel
theorem dX6_word_43 : decode cX6_word 43 = .ok (.lstore_n 1, 1) := by decide +kernel
theorem dX6_word_44 : decode cX6_word 44 = .ok (.iinc 3 1, 3) := by decide +kernel
theorem dX6_word_47 : decode cX6_word 47 = .ok (.goto (-40), 3) := by decide +kernel
theorem dX6_word_50 : decode cX6_word 50 = .ok (.aload_n 0, 1) := by decide +kernel
theorem dX6_word_51 : decode cX6_word 51 = .ok (.getfield 237, 3) := by decide +kernel
theorem dX6_word_54 : decode cX6_word 54 = .ok (.ifCond .ne 17, 3) := by decide +kernel
theorem dX6_word_57 : decode cX6_word 57 = .ok (.aload_n 0, 1) := by decide +kernel
theorem dX6_word_58 : decode cX6_word 58 = .ok (.aload_n 0, 1) := by decide +kernel
theorem dX6_word_59 : decode cX6_word 59 = .ok (.getfield 225, 3) := by decide +kernel
theorem dX6_word_62 : decode cX6_word 62 = .ok (.invokevirtual 228, 3) := by decide +kernel
theorem dX6_word_65 : decode cX6_word 65 = .ok (.invokestatic 231, 3) := by decide +kernel
theorem dX6_word_68 : decode cX6_word 68 = .ok (.ifCond .ne 7, 3) := by decide +kernel
theorem dX6_word_71 : decode cX6_word 71 = .ok (.lconst 0, 1) := by decide +kernel
theorem dX6_word_72 : decode cX6_word 72 = .ok (.goto 4, 3) := by decide +kernel
theorem dX6_word_75 : decode cX6_word 75 = .ok (.lload_n 1, 1) := by decide +kernel
theorem dX6_word_76 : decode cX6_word 76 = .ok (.lreturn, 1) := by decide +kernel
theorem dX6_number_0 : decode cX6_number 0 = .ok (.aload_n 0, 1) := by decide +kernel
theorem dX6_number_1 : decode cX6_number 1 = .ok (.getfield 237, 3) := by decide +kernel
theorem dX6_number_4 : decode cX6_number 4 = .ok (.ifCond .eq 4, 3) := by decide +kernel
theorem dX6_number_7 : decode cX6_number 7 = .ok (.return_, 1) := by decide +kernel
theorem dX6_number_8 : decode cX6_number 8 = .ok (.aload_n 0, 1) := by decide +kernel
theorem dX6_number_9 : decode cX6_number 9 = .ok (.aload_n 0, 1) := by decide +kernel
theorem dX6_number_10 : decode cX6_number 10 = .ok (.getfield 225, 3) := by decide +kernel
theorem dX6_number_13 : decode cX6_number 13 = .ok (.invokevirtual 228, 3) := by decide +kernel
theorem dX6_number_16 : decode cX6_number 16 = .ok (.invokestatic 234, 3) := by decide +kernel
theorem dX6_number_19 : decode cX6_number 19 = .ok (.istore_n 3, 1) := by decide +kernel
theorem dX6_number_20 : decode cX6_number 20 = .ok (.iconst 0, 1) := by decide +kernel
theorem dX6_number_21 : decode cX6_number 21 = .ok (.istore 4, 2) := by decide +kernel
theorem dX6_number_23 : decode cX6_number 23 = .ok (.aload_n 0, 1) := by decide +kernel
theorem dX6_number_24 : decode cX6_number 24 = .ok (.getfield 225, 3) := by decide +kernel
theorem dX6_number_27 : decode cX6_number 27 = .ok (.istore 5, 2) := by decide +kernel
theorem dX6_number_29 : decode cX6_number 29 = .ok (.iload 5, 2) := by decide +kernel
theorem dX6_number_31 : decode cX6_number 31 = .ok (.aload_n 0, 1) := by decide +kernel
theorem dX6_number_32 : decode cX6_number 32 = .ok (.getfield 222, 3) := by decide +kernel
theorem dX6_number_35 : decode cX6_number 35 = .ok (.if_icmp .ge 44, 3) := by decide +kernel
theorem dX6_number_38 : decode cX6_number 38 = .ok (.iload_n 3, 1) := by decide +kernel
theorem dX6_number_39 : decode cX6_number 39 = .ok (.ifCond .eq 40, 3) := by decide +kernel
theorem dX6_number_42 : decode cX6_number 42 = .ok (.iload 4, 2) := by decide +kernel
theorem dX6_number_44 : decode cX6_number 44 = .ok (.sipush 999, 3) := by decide +kernel
theorem dX6_number_47 : decode cX6_number 47 = .ok (.if_icmp .le 8, 3) := by decide +kernel
theorem dX6_number_50 : decode cX6_number 50 = .ok (.iload 4, 2) := by decide +kernel
theorem dX6_number_52 : decode cX6_number 52 = .ok (.goto 19, 3) := by decide +kernel
theorem dX6_number_55 : decode cX6_number 55 = .ok (.bipush 10, 2) := by decide +kernel
theorem dX6_number_57 : decode cX6_number 57 = .ok (.iload 4, 2) := by decide +kernel
theorem dX6_number_59 : decode cX6_number 59 = .ok (.imul, 1) := by decide +kernel
theorem dX6_number_60 : decode cX6_number 60 = .ok (.aload_n 0, 1) := by decide +kernel
theorem dX6_number_61 : decode cX6_number 61 = .ok (.getfield 34, 3) := by decide +kernel
theorem dX6_number_64 : decode cX6_number 64 = .ok (.iload 5, 2) := by decide +kernel
theorem dX6_number_66 : decode cX6_number 66 = .ok (.iaload, 1) := by decide +kernel
theorem dX6_number_67 : decode cX6_number 67 = .ok (.iadd, 1) := by decide +kernel
theorem dX6_number_68 : decode cX6_number 68 = .ok (.bipush 48, 2) := by decide +kernel
theorem dX6_number_70 : decode cX6_number 70 = .ok (.isub, 1) := by decide +kernel
theorem dX6_number_71 : decode cX6_number 71 = .ok (.istore 4, 2) := by decide +kernel
theorem dX6_number_73 : decode cX6_number 73 = .ok (.iinc 5 1, 3) := by decide +kernel
theorem dX6_number_76 : decode cX6_number 76 = .ok (.goto (-47), 3) := by decide +kernel
theorem dX6_number_79 : decode cX6_number 79 = .ok (.aload_n 0, 1) := by decide +kernel
theorem dX6_number_80 : decode cX6_number 80 = .ok (.iload 4, 2) := by decide +kernel
theorem dX6_number_82 : decode cX6_number 82 = .ok (.putfield 248, 3) := by decide +kernel
theorem dX6_number_85 : decode cX6_number 85 = .ok (.aload_n 0, 1) := by decide +kernel
theorem dX6_number_86 : decode cX6_number 86 = .ok (.iload_n 3, 1) := by decide +kernel
theorem dX6_number_87 : decode cX6_number 87 = .ok (.ifCond .eq 20, 3) := by decide +kernel
theorem dX6_number_90 : decode cX6_number 90 = .ok (.iload 4, 2) := by decide +kernel
theorem dX6_number_92 : decode cX6_number 92 = .ok (.i2l, 1) := by decide +kernel
theorem dX6_number_93 : decode cX6_number 93 = .ok (.iload_n 1, 1) := by decide +kernel
theorem dX6_number_94 : decode cX6_number 94 = .ok (.i2l, 1) := by decide +kernel
theorem dX6_number_95 : decode cX6_number 95 = .ok (.iload_n 2, 1) := by decide +kernel
theorem dX6_number_96 : decode cX6_number 96 = .ok (.i2l, 1) := by decide +kernel
theorem dX6_number_97 : decode cX6_number 97 = .ok (.invokestatic 53, 3) := by decide +kernel
theorem dX6_number_100 : decode cX6_number 100 = .ok (.ifCond .eq 7, 3) := by decide +kernel
theorem dX6_number_103 : decode cX6_number 103 = .ok (.iconst 1, 1) := by decide +kernel
theorem dX6_number_104 : decode cX6_number 104 = .ok (.goto 4, 3) := by decide +kernel
theorem dX6_number_107 : decode cX6_number 107 = .ok (.iconst 0, 1) := by decide +kernel
theorem dX6_number_108 : decode cX6_number 108 = .ok (.invokevirtual 251, 3) := by decide +kernel
theorem dX6_number_111 : decode cX6_number 111 = .ok (.return_, 1) := by decide +kernel
theorem dX6_kindHere_0 : decode cX6_kindHere 0 = .ok (.aload_n 0, 1) := by decide +kernel
theorem dX6_kindHere_1 : decode cX6_kindHere 1 = .ok (.invokevirtual 255, 3) := by decide +kernel
theorem dX6_kindHere_4 : decode cX6_kindHere 4 = .ok (.lstore_n 1, 1) := by decide +kernel
theorem dX6_kindHere_5 : decode cX6_kindHere 5 = .ok (.lload_n 1, 1) := by decide +kernel
theorem dX6_kindHere_6 : decode cX6_kindHere 6 = .ok (.ldc2_w 259, 3) := by decide +kernel
theorem dX6_kindHere_9 : decode cX6_kindHere 9 = .ok (.lcmp, 1) := by decide +kernel
theorem dX6_kindHere_10 : decode cX6_kindHere 10 = .ok (.ifCond .ne 7, 3) := by decide +kernel
theorem dX6_kindHere_13 : decode cX6_kindHere 13 = .ok (.iconst 0, 1) := by decide +kernel
theorem dX6_kindHere_14 : decode cX6_kindHere 14 = .ok (.goto 64, 3) := by decide +kernel
theorem dX6_kindHere_17 : decode cX6_kindHere 17 = .ok (.lload_n 1, 1) := by decide +kernel
theorem dX6_kindHere_18 : decode cX6_kindHere 18 = .ok (.ldc2_w 261, 3) := by decide +kernel
theorem dX6_kindHere_21 : decode cX6_kindHere 21 = .ok (.lcmp, 1) := by decide +kernel
theorem dX6_kindHere_22 : decode cX6_kindHere 22 = .ok (.ifCond .ne 7, 3) := by decide +kernel
theorem dX6_kindHere_25 : decode cX6_kindHere 25 = .ok (.iconst 1, 1) := by decide +kernel
theorem dX6_kindHere_26 : decode cX6_kindHere 26 = .ok (.goto 52, 3) := by decide +kernel
theorem dX6_kindHere_29 : decode cX6_kindHere 29 = .ok (.lload_n 1, 1) := by decide +kernel
theorem dX6_kindHere_30 : decode cX6_kindHere 30 = .ok (.ldc2_w 263, 3) := by decide +kernel
theorem dX6_kindHere_33 : decode cX6_kindHere 33 = .ok (.lcmp, 1) := by decide +kernel
theorem dX6_kindHere_34 : decode cX6_kindHere 34 = .ok (.ifCond .ne 7, 3) := by decide +kernel
theorem dX6_kindHere_37 : decode cX6_kindHere 37 = .ok (.iconst 2, 1) := by decide +kernel
theorem dX6_kindHere_38 : decode cX6_kindHere 38 = .ok (.goto 40, 3) := by decide +kernel
theorem dX6_kindHere_41 : decode cX6_kindHere 41 = .ok (.lload_n 1, 1) := by decide +kernel
theorem dX6_kindHere_42 : decode cX6_kindHere 42 = .ok (.ldc2_w 265, 3) := by decide +kernel
theorem dX6_kindHere_45 : decode cX6_kindHere 45 = .ok (.lcmp, 1) := by decide +kernel
theorem dX6_kindHere_46 : decode cX6_kindHere 46 = .ok (.ifCond .ne 7, 3) := by decide +kernel
theorem dX6_kindHere_49 : decode cX6_kindHere 49 = .ok (.iconst 3, 1) := by decide +kernel
theorem dX6_kindHere_50 : decode cX6_kindHere 50 = .ok (.goto 28, 3) := by decide +kernel
theorem dX6_kindHere_53 : decode cX6_kindHere 53 = .ok (.lload_n 1, 1) := by decide +kernel
theorem dX6_kindHere_54 : decode cX6_kindHere 54 = .ok (.ldc2_w 267, 3) := by decide +kernel
theorem dX6_kindHere_57 : decode cX6_kindHere 57 = .ok (.lcmp, 1) := by decide +kernel
theorem dX6_kindHere_58 : decode cX6_kindHere 58 = .ok (.ifCond .ne 7, 3) := by decide +kernel
theorem dX6_kindHere_61 : decode cX6_kindHere 61 = .ok (.iconst 4, 1) := by decide +kernel
theorem dX6_kindHere_62 : decode cX6_kindHere 62 = .ok (.goto 16, 3) := by decide +kernel
theorem dX6_kindHere_65 : decode cX6_kindHere 65 = .ok (.lload_n 1, 1) := by decide +kernel
theorem dX6_kindHere_66 : decode cX6_kindHere 66 = .ok (.ldc2_w 269, 3) := by decide +kernel
theorem dX6_kindHere_69 : decode cX6_kindHere 69 = .ok (.lcmp, 1) := by decide +kernel
theorem dX6_kindHere_70 : decode cX6_kindHere 70 = .ok (.ifCond .ne 7, 3) := by decide +kernel
theorem dX6_kindHere_73 : decode cX6_kindHere 73 = .ok (.iconst 5, 1) := by decide +kernel
theorem dX6_kindHere_74 : decode cX6_kindHere 74 = .ok (.goto 4, 3) := by decide +kernel
theorem dX6_kindHere_77 : decode cX6_kindHere 77 = .ok (.iconst (-1), 1) := by decide +kernel
theorem dX6_kindHere_78 : decode cX6_kindHere 78 = .ok (.ireturn, 1) := by decide +kernel
theorem dX6_sitterItem_0 : decode cX6_sitterItem 0 = .ok (.aload_n 0, 1) := by decide +kernel
theorem dX6_sitterItem_1 : decode cX6_sitterItem 1 = .ok (.aload_n 0, 1) := by decide +kernel
theorem dX6_sitterItem_2 : decode cX6_sitterItem 2 = .ok (.getfield 7, 3) := by decide +kernel
theorem dX6_sitterItem_5 : decode cX6_sitterItem 5 = .ok (.iconst 0, 1) := by decide +kernel
theorem dX6_sitterItem_6 : decode cX6_sitterItem 6 = .ok (.iaload, 1) := by decide +kernel
theorem dX6_sitterItem_7 : decode cX6_sitterItem 7 = .ok (.bipush 6, 2) := by decide +kernel
theorem dX6_sitterItem_9 : decode cX6_sitterItem 9 = .ok (.if_icmp .ge 7, 3) := by decide +kernel
theorem dX6_sitterItem_12 : decode cX6_sitterItem 12 = .ok (.iconst 1, 1) := by decide +kernel
theorem dX6_sitterItem_13 : decode cX6_sitterItem 13 = .ok (.goto 4, 3) := by decide +kernel
theorem dX6_sitterItem_16 : decode cX6_sitterItem 16 = .ok (.iconst 0, 1) := by decide +kernel
theorem dX6_sitterItem_17 : decode cX6_sitterItem 17 = .ok (.invokevirtual 251, 3) := by decide +kernel
theorem dX6_sitterItem_20 : decode cX6_sitterItem 20 = .ok (.aload_n 0, 1) := by decide +kernel
theorem dX6_sitterItem_21 : decode cX6_sitterItem 21 = .ok (.getfield 237, 3) := by decide +kernel
theorem dX6_sitterItem_24 : decode cX6_sitterItem 24 = .ok (.ifCond .eq 4, 3) := by decide +kernel
theorem dX6_sitterItem_27 : decode cX6_sitterItem 27 = .ok (.return_, 1) := by decide +kernel
theorem dX6_sitterItem_28 : decode cX6_sitterItem 28 = .ok (.aload_n 0, 1) := by decide +kernel
theorem dX6_sitterItem_29 : decode cX6_sitterItem 29 = .ok (.iload_n 1, 1) := by decide +kernel
theorem dX6_sitterItem_30 : decode cX6_sitterItem 30 = .ok (.invokevirtual 118, 3) := by decide +kernel
theorem dX6_sitterItem_33 : decode cX6_sitterItem 33 = .ok (.istore_n 2, 1) := by decide +kernel
theorem dX6_sitterItem_34 : decode cX6_sitterItem 34 = .ok (.aload_n 0, 1) := by decide +kernel
theorem dX6_sitterItem_35 : decode cX6_sitterItem 35 = .ok (.invokevirtual 255, 3) := by decide +kernel
theorem dX6_sitterItem_38 : decode cX6_sitterItem 38 = .ok (.ldc2_w 271, 3) := by decide +kernel
theorem dX6_sitterItem_41 : decode cX6_sitterItem 41 = .ok (.lcmp, 1) := by decide +kernel
theorem dX6_sitterItem_42 : decode cX6_sitterItem 42 = .ok (.ifCond .ne 29, 3) := by decide +kernel
theorem dX6_sitterItem_45 : decode cX6_sitterItem 45 = .ok (.aload_n 0, 1) := by decide +kernel
theorem dX6_sitterItem_46 : decode cX6_sitterItem 46 = .ok (.iconst 1, 1) := by decide +kernel
theorem dX6_sitterItem_47 : decode cX6_sitterItem 47 = .ok (.invokevirtual 251, 3) := by decide +kernel
theorem dX6_sitterItem_50 : decode cX6_sitterItem 50 = .ok (.aload_n 0, 1) := by decide +kernel
theorem dX6_sitterItem_51 : decode cX6_sitterItem 51 = .ok (.iconst 0, 1) := by decide +kernel
theorem dX6_sitterItem_52 : decode cX6_sitterItem 52 = .ok (.bipush 30, 2) := by decide +kernel
theorem dX6_sitterItem_54 : decode cX6_sitterItem 54 = .ok (.invokevirtual 273, 3) := by decide +kernel
theorem dX6_sitterItem_57 : decode cX6_sitterItem 57 = .ok (.aload_n 0, 1) := by decide +kernel
theorem dX6_sitterItem_58 : decode cX6_sitterItem 58 = .ok (.getfield 7, 3) := by decide +kernel
theorem dX6_sitterItem_61 : decode cX6_sitterItem 61 = .ok (.iload_n 2, 1) := by decide +kernel
theorem dX6_sitterItem_62 : decode cX6_sitterItem 62 = .ok (.iconst 1, 1) := by decide +kernel
theorem dX6_sitterItem_63 : decode cX6_sitterItem 63 = .ok (.invokestatic 59, 3) := by decide +kernel
theorem dX6_sitterItem_66 : decode cX6_sitterItem 66 = .ok (.aload_n 0, 1) := by decide +kernel
theorem dX6_sitterItem_67 : decode cX6_sitterItem 67 = .ok (.getfield 248, 3) := by decide +kernel
theorem dX6_sitterItem_70 : decode cX6_sitterItem 70 = .ok (.iastore, 1) := by decide +kernel
theorem dX6_sitterItem_71 : decode cX6_sitterItem 71 = .ok (.aload_n 0, 1) := by decide +kernel
theorem dX6_sitterItem_72 : decode cX6_sitterItem 72 = .ok (.invokevirtual 255, 3) := by decide +kernel
theorem dX6_sitterItem_75 : decode cX6_sitterItem 75 = .ok (.ldc2_w 277, 3) := by decide +kernel
theorem dX6_sitterItem_78 : decode cX6_sitterItem 78 = .ok (.lcmp, 1) := by decide +kernel
theorem dX6_sitterItem_79 : decode cX6_sitterItem 79 = .ok (.ifCond .ne 29, 3) := by decide +kernel
theorem dX6_sitterItem_82 : decode cX6_sitterItem 82 = .ok (.aload_n 0, 1) := by decide +kernel
theorem dX6_sitterItem_83 : decode cX6_sitterItem 83 = .ok (.iconst 1, 1) := by decide +kernel
theorem dX6_sitterItem_84 : decode cX6_sitterItem 84 = .ok (.invokevirtual 251, 3) := by decide +kernel
theorem dX6_sitterItem_87 : decode cX6_sitterItem 87 = .ok (.aload_n 0, 1) := by decide +kernel
theorem dX6_sitterItem_88 : decode cX6_sitterItem 88 = .ok (.iconst 0, 1) := by decide +kernel
theorem dX6_sitterItem_89 : decode cX6_sitterItem 89 = .ok (.bipush 99, 2) := by decide +kernel
theorem dX6_sitterItem_91 : decode cX6_sitterItem 91 = .ok (.invokevirtual 273, 3) := by decide +kernel
theorem dX6_sitterItem_94 : decode cX6_sitterItem 94 = .ok (.aload_n 0, 1) := by decide +kernel
theorem dX6_sitterItem_95 : decode cX6_sitterItem 95 = .ok (.getfield 7, 3) := by decide +kernel
theorem dX6_sitterItem_98 : decode cX6_sitterItem 98 = .ok (.iload_n 2, 1) := by decide +kernel
theorem dX6_sitterItem_99 : decode cX6_sitterItem 99 = .ok (.iconst 2, 1) := by decide +kernel
theorem dX6_sitterItem_100 : decode cX6_sitterItem 100 = .ok (.invokestatic 59, 3) := by decide +kernel
theorem dX6_sitterItem_103 : decode cX6_sitterItem 103 = .ok (.aload_n 0, 1) := by decide +kernel
theorem dX6_sitterItem_104 : decode cX6_sitterItem 104 = .ok (.getfield 248, 3) := by decide +kernel
theorem dX6_sitterItem_107 : decode cX6_sitterItem 107 = .ok (.iastore, 1) := by decide +kernel
theorem dX6_sitterItem_108 : decode cX6_sitterItem 108 = .ok (.return_, 1) := by decide +kernel
theorem dX6_likenessItem_0 : decode cX6_likenessItem 0 = .ok (.aload_n 0, 1) := by decide +kernel
theorem dX6_likenessItem_1 : decode cX6_likenessItem 1 = .ok (.aload_n 0, 1) := by decide +kernel
theorem dX6_likenessItem_2 : decode cX6_likenessItem 2 = .ok (.getfield 7, 3) := by decide +kernel
theorem dX6_likenessItem_5 : decode cX6_likenessItem 5 = .ok (.iconst 1, 1) := by decide +kernel
theorem dX6_likenessItem_6 : decode cX6_likenessItem 6 = .ok (.iaload, 1) := by decide +kernel
theorem dX6_likenessItem_7 : decode cX6_likenessItem 7 = .ok (.bipush 8, 2) := by decide +kernel
theorem dX6_likenessItem_9 : decode cX6_likenessItem 9 = .ok (.if_icmp .ge 7, 3) := by decide +kernel
theorem dX6_likenessItem_12 : decode cX6_likenessItem 12 = .ok (.iconst 1, 1) := by decide +kernel
theorem dX6_likenessItem_13 : decode cX6_likenessItem 13 = .ok (.goto 4, 3) := by decide +kernel
theorem dX6_likenessItem_16 : decode cX6_likenessItem 16 = .ok (.iconst 0, 1) := by decide +kernel
theorem dX6_likenessItem_17 : decode cX6_likenessItem 17 = .ok (.invokevirtual 251, 3) := by decide +kernel
theorem dX6_likenessItem_20 : decode cX6_likenessItem 20 = .ok (.aload_n 0, 1) := by decide +kernel
theorem dX6_likenessItem_21 : decode cX6_likenessItem 21 = .ok (.iconst 0, 1) := by decide +kernel
theorem dX6_likenessItem_22 : decode cX6_likenessItem 22 = .ok (.aload_n 0, 1) := by decide +kernel
theorem dX6_likenessItem_23 : decode cX6_likenessItem 23 = .ok (.getfield 7, 3) := by decide +kernel
theorem dX6_likenessItem_26 : decode cX6_likenessItem 26 = .ok (.iconst 0, 1) := by decide +kernel
theorem dX6_likenessItem_27 : decode cX6_likenessItem 27 = .ok (.iaload, 1) := by decide +kernel
theorem dX6_likenessItem_28 : decode cX6_likenessItem 28 = .ok (.iconst 1, 1) := by decide +kernel
theorem dX6_likenessItem_29 : decode cX6_likenessItem 29 = .ok (.isub, 1) := by decide +kernel
theorem dX6_likenessItem_30 : decode cX6_likenessItem 30 = .ok (.invokevirtual 273, 3) := by decide +kernel
theorem dX6_likenessItem_33 : decode cX6_likenessItem 33 = .ok (.aload_n 0, 1) := by decide +kernel
theorem dX6_likenessItem_34 : decode cX6_likenessItem 34 = .ok (.getfield 248, 3) := by decide +kernel
theorem dX6_likenessItem_37 : decode cX6_likenessItem 37 = .ok (.istore_n 1, 1) := by decide +kernel
theorem dX6_likenessItem_38 : decode cX6_likenessItem 38 = .ok (.aload_n 0, 1) := by decide +kernel
theorem dX6_likenessItem_39 : decode cX6_likenessItem 39 = .ok (.aload_n 0, 1) := by decide +kernel
theorem dX6_likenessItem_40 : decode cX6_likenessItem 40 = .ok (.invokevirtual 255, 3) := by decide +kernel
theorem dX6_likenessItem_43 : decode cX6_likenessItem 43 = .ok (.ldc2_w 279, 3) := by decide +kernel
theorem dX6_likenessItem_46 : decode cX6_likenessItem 46 = .ok (.lcmp, 1) := by decide +kernel
theorem dX6_likenessItem_47 : decode cX6_likenessItem 47 = .ok (.ifCond .ne 7, 3) := by decide +kernel
theorem dX6_likenessItem_50 : decode cX6_likenessItem 50 = .ok (.iconst 1, 1) := by decide +kernel
theorem dX6_likenessItem_51 : decode cX6_likenessItem 51 = .ok (.goto 4, 3) := by decide +kernel
theorem dX6_likenessItem_54 : decode cX6_likenessItem 54 = .ok (.iconst 0, 1) := by decide +kernel
theorem dX6_likenessItem_55 : decode cX6_likenessItem 55 = .ok (.invokevirtual 251, 3) := by decide +kernel
theorem dX6_likenessItem_58 : decode cX6_likenessItem 58 = .ok (.aload_n 0, 1) := by decide +kernel
theorem dX6_likenessItem_59 : decode cX6_likenessItem 59 = .ok (.iconst 0, 1) := by decide +kernel
theorem dX6_likenessItem_60 : decode cX6_likenessItem 60 = .ok (.bipush 47, 2) := by decide +kernel
theorem dX6_likenessItem_62 : decode cX6_likenessItem 62 = .ok (.invokevirtual 273, 3) := by decide +kernel
theorem dX6_likenessItem_65 : decode cX6_likenessItem 65 = .ok (.aload_n 0, 1) := by decide +kernel
theorem dX6_likenessItem_66 : decode cX6_likenessItem 66 = .ok (.getfield 237, 3) := by decide +kernel
theorem dX6_likenessItem_69 : decode cX6_likenessItem 69 = .ok (.ifCond .ne 13, 3) := by decide +kernel
theorem dX6_likenessItem_72 : decode cX6_likenessItem 72 = .ok (.aload_n 0, 1) := by decide +kernel
theorem dX6_likenessItem_73 : decode cX6_likenessItem 73 = .ok (.iload_n 1, 1) := by decide +kernel
theorem dX6_likenessItem_74 : decode cX6_likenessItem 74 = .ok (.aload_n 0, 1) := by decide +kernel
theorem dX6_likenessItem_75 : decode cX6_likenessItem 75 = .ok (.getfield 248, 3) := by decide +kernel
theorem dX6_likenessItem_78 : decode cX6_likenessItem 78 = .ok (.invokevirtual 140, 3) := by decide +kernel
theorem dX6_likenessItem_81 : decode cX6_likenessItem 81 = .ok (.istore_n 2, 1) := by decide +kernel
theorem dX6_likenessItem_82 : decode cX6_likenessItem 82 = .ok (.return_, 1) := by decide +kernel
theorem dX6_wheatItem_0 : decode cX6_wheatItem 0 = .ok (.aload_n 0, 1) := by decide +kernel
theorem dX6_wheatItem_1 : decode cX6_wheatItem 1 = .ok (.iconst 1, 1) := by decide +kernel
theorem dX6_wheatItem_2 : decode cX6_wheatItem 2 = .ok (.invokevirtual 251, 3) := by decide +kernel
theorem dX6_wheatItem_5 : decode cX6_wheatItem 5 = .ok (.aload_n 0, 1) := by decide +kernel
theorem dX6_wheatItem_6 : decode cX6_wheatItem 6 = .ok (.iconst 0, 1) := by decide +kernel
theorem dX6_wheatItem_7 : decode cX6_wheatItem 7 = .ok (.bipush 47, 2) := by decide +kernel
theorem dX6_wheatItem_9 : decode cX6_wheatItem 9 = .ok (.invokevirtual 273, 3) := by decide +kernel
theorem dX6_wheatItem_12 : decode cX6_wheatItem 12 = .ok (.aload_n 0, 1) := by decide +kernel
theorem dX6_wheatItem_13 : decode cX6_wheatItem 13 = .ok (.getfield 248, 3) := by decide +kernel
theorem dX6_wheatItem_16 : decode cX6_wheatItem 16 = .ok (.istore_n 1, 1) := by decide +kernel
theorem dX6_wheatItem_17 : decode cX6_wheatItem 17 = .ok (.aload_n 0, 1) := by decide +kernel
theorem dX6_wheatItem_18 : decode cX6_wheatItem 18 = .ok (.iconst 0, 1) := by decide +kernel
theorem dX6_wheatItem_19 : decode cX6_wheatItem 19 = .ok (.bipush 99, 2) := by decide +kernel
theorem dX6_wheatItem_21 : decode cX6_wheatItem 21 = .ok (.invokevirtual 273, 3) := by decide +kernel
theorem dX6_wheatItem_24 : decode cX6_wheatItem 24 = .ok (.aload_n 0, 1) := by decide +kernel
theorem dX6_wheatItem_25 : decode cX6_wheatItem 25 = .ok (.getfield 248, 3) := by decide +kernel
theorem dX6_wheatItem_28 : decode cX6_wheatItem 28 = .ok (.istore_n 2, 1) := by decide +kernel
theorem dX6_wheatItem_29 : decode cX6_wheatItem 29 = .ok (.iload_n 1, 1) := by decide +kernel
theorem dX6_wheatItem_30 : decode cX6_wheatItem 30 = .ok (.istore_n 3, 1) := by decide +kernel
theorem dX6_wheatItem_31 : decode cX6_wheatItem 31 = .ok (.aload_n 0, 1) := by decide +kernel
theorem dX6_wheatItem_32 : decode cX6_wheatItem 32 = .ok (.invokevirtual 255, 3) := by decide +kernel
theorem dX6_wheatItem_35 : decode cX6_wheatItem 35 = .ok (.ldc2_w 281, 3) := by decide +kernel
theorem dX6_wheatItem_38 : decode cX6_wheatItem 38 = .ok (.lcmp, 1) := by decide +kernel
theorem dX6_wheatItem_39 : decode cX6_wheatItem 39 = .ok (.ifCond .ne 20, 3) := by decide +kernel
theorem dX6_wheatItem_42 : decode cX6_wheatItem 42 = .ok (.aload_n 0, 1) := by decide +kernel
theorem dX6_wheatItem_43 : decode cX6_wheatItem 43 = .ok (.iconst 1, 1) := by decide +kernel
theorem dX6_wheatItem_44 : decode cX6_wheatItem 44 = .ok (.invokevirtual 251, 3) := by decide +kernel
theorem dX6_wheatItem_47 : decode cX6_wheatItem 47 = .ok (.aload_n 0, 1) := by decide +kernel
theorem dX6_wheatItem_48 : decode cX6_wheatItem 48 = .ok (.iload_n 1, 1) := by decide +kernel
theorem dX6_wheatItem_49 : decode cX6_wheatItem 49 = .ok (.bipush 47, 2) := by decide +kernel
theorem dX6_wheatItem_51 : decode cX6_wheatItem 51 = .ok (.invokevirtual 273, 3) := by decide +kernel
theorem dX6_wheatItem_54 : decode cX6_wheatItem 54 = .ok (.aload_n 0, 1) := by decide +kernel
theorem dX6_wheatItem_55 : decode cX6_wheatItem 55 = .ok (.getfield 248, 3) := by decide +kernel
theorem dX6_wheatItem_58 : decode cX6_wheatItem 58 = .ok (.istore_n 3, 1) := by decide +kernel
theorem dX6_wheatItem_59 : decode cX6_wheatItem 59 = .ok (.iload_n 1, 1) := by decide +kernel
theorem dX6_wheatItem_60 : decode cX6_wheatItem 60 = .ok (.istore 4, 2) := by decide +kernel
theorem dX6_wheatItem_62 : decode cX6_wheatItem 62 = .ok (.iload 4, 2) := by decide +kernel
theorem dX6_wheatItem_64 : decode cX6_wheatItem 64 = .ok (.iload_n 3, 1) := by decide +kernel
theorem dX6_wheatItem_65 : decode cX6_wheatItem 65 = .ok (.if_icmp .gt 26, 3) := by decide +kernel
theorem dX6_wheatItem_68 : decode cX6_wheatItem 68 = .ok (.aload_n 0, 1) := by decide +kernel
theorem dX6_wheatItem_69 : decode cX6_wheatItem 69 = .ok (.getfield 237, 3) := by decide +kernel
theorem dX6_wheatItem_72 : decode cX6_wheatItem 72 = .ok (.ifCond .ne 19, 3) := by decide +kernel
theorem dX6_wheatItem_75 : decode cX6_wheatItem 75 = .ok (.aload_n 0, 1) := by decide +kernel
theorem dX6_wheatItem_76 : decode cX6_wheatItem 76 = .ok (.getfield 7, 3) := by decide +kernel
theorem dX6_wheatItem_79 : decode cX6_wheatItem 79 = .ok (.iconst 4, 1) := by decide +kernel
theorem dX6_wheatItem_80 : decode cX6_wheatItem 80 = .ok (.iload 4, 2) := by decide +kernel
theorem dX6_wheatItem_82 : decode cX6_wheatItem 82 = .ok (.iadd, 1) := by decide +kernel
theorem dX6_wheatItem_83 : decode cX6_wheatItem 83 = .ok (.iload_n 2, 1) := by decide +kernel
theorem dX6_wheatItem_84 : decode cX6_wheatItem 84 = .ok (.iastore, 1) := by decide +kernel
theorem dX6_wheatItem_85 : decode cX6_wheatItem 85 = .ok (.iinc 4 1, 3) := by decide +kernel
theorem dX6_wheatItem_88 : decode cX6_wheatItem 88 = .ok (.goto (-26), 3) := by decide +kernel
theorem dX6_wheatItem_91 : decode cX6_wheatItem 91 = .ok (.return_, 1) := by decide +kernel
theorem dX6_item_0 : decode cX6_item 0 = .ok (.aload_n 0, 1) := by decide +kernel
theorem dX6_item_1 : decode cX6_item 1 = .ok (.invokevirtual 283, 3) := by decide +kernel
theorem dX6_item_4 : decode cX6_item 4 = .ok (.istore_n 1, 1) := by decide +kernel
theorem dX6_item_5 : decode cX6_item 5 = .ok (.aload_n 0, 1) := by decide +kernel
theorem dX6_item_6 : decode cX6_item 6 = .ok (.invokevirtual 255, 3) := by decide +kernel
theorem dX6_item_9 : decode cX6_item 9 = .ok (.lstore_n 2, 1) := by decide +kernel
theorem dX6_item_10 : decode cX6_item 10 = .ok (.iload_n 1, 1) := by decide +kernel
theorem dX6_item_11 : decode cX6_item 11 = .ok (.ifCond .lt 11, 3) := by decide +kernel
theorem dX6_item_14 : decode cX6_item 14 = .ok (.aload_n 0, 1) := by decide +kernel
theorem dX6_item_15 : decode cX6_item 15 = .ok (.iload_n 1, 1) := by decide +kernel
theorem dX6_item_16 : decode cX6_item 16 = .ok (.invokevirtual 286, 3) := by decide +kernel
theorem dX6_item_19 : decode cX6_item 19 = .ok (.goto 83, 3) := by decide +kernel
theorem dX6_item_22 : decode cX6_item 22 = .ok (.lload_n 2, 1) := by decide +kernel
theorem dX6_item_23 : decode cX6_item 23 = .ok (.ldc2_w 290, 3) := by decide +kernel
theorem dX6_item_26 : decode cX6_item 26 = .ok (.lcmp, 1) := by decide +kernel
theorem dX6_item_27 : decode cX6_item 27 = .ok (.ifCond .ne 10, 3) := by decide +kernel
theorem dX6_item_30 : decode cX6_item 30 = .ok (.aload_n 0, 1) := by decide +kernel
theorem dX6_item_31 : decode cX6_item 31 = .ok (.invokevirtual 292, 3) := by decide +kernel
theorem dX6_item_34 : decode cX6_item 34 = .ok (.goto 68, 3) := by decide +kernel
theorem dX6_item_37 : decode cX6_item 37 = .ok (.lload_n 2, 1) := by decide +kernel
theorem dX6_item_38 : decode cX6_item 38 = .ok (.ldc2_w 295, 3) := by decide +kernel
theorem dX6_item_41 : decode cX6_item 41 = .ok (.lcmp, 1) := by decide +kernel
theorem dX6_item_42 : decode cX6_item 42 = .ok (.ifCond .ne 10, 3) := by decide +kernel
theorem dX6_item_45 : decode cX6_item 45 = .ok (.aload_n 0, 1) := by decide +kernel
theorem dX6_item_46 : decode cX6_item 46 = .ok (.invokevirtual 297, 3) := by decide +kernel
theorem dX6_item_49 : decode cX6_item 49 = .ok (.goto 53, 3) := by decide +kernel
theorem dX6_item_52 : decode cX6_item 52 = .ok (.aload_n 0, 1) := by decide +kernel
theorem dX6_item_53 : decode cX6_item 53 = .ok (.lload_n 2, 1) := by decide +kernel
theorem dX6_item_54 : decode cX6_item 54 = .ok (.ldc2_w 300, 3) := by decide +kernel
theorem dX6_item_57 : decode cX6_item 57 = .ok (.lcmp, 1) := by decide +kernel
theorem dX6_item_58 : decode cX6_item 58 = .ok (.ifCond .ne 7, 3) := by decide +kernel
theorem dX6_item_61 : decode cX6_item 61 = .ok (.iconst 1, 1) := by decide +kernel
theorem dX6_item_62 : decode cX6_item 62 = .ok (.goto 4, 3) := by decide +kernel
theorem dX6_item_65 : decode cX6_item 65 = .ok (.iconst 0, 1) := by decide +kernel
theorem dX6_item_66 : decode cX6_item 66 = .ok (.invokevirtual 251, 3) := by decide +kernel
theorem dX6_item_69 : decode cX6_item 69 = .ok (.aload_n 0, 1) := by decide +kernel
theorem dX6_item_70 : decode cX6_item 70 = .ok (.iconst 0, 1) := by decide +kernel
theorem dX6_item_71 : decode cX6_item 71 = .ok (.bipush 20, 2) := by decide +kernel
theorem dX6_item_73 : decode cX6_item 73 = .ok (.invokevirtual 273, 3) := by decide +kernel
theorem dX6_item_76 : decode cX6_item 76 = .ok (.aload_n 0, 1) := by decide +kernel
theorem dX6_item_77 : decode cX6_item 77 = .ok (.getfield 7, 3) := by decide +kernel
theorem dX6_item_80 : decode cX6_item 80 = .ok (.iconst 3, 1) := by decide +kernel
theorem dX6_item_81 : decode cX6_item 81 = .ok (.aload_n 0, 1) := by decide +kernel
theorem dX6_item_82 : decode cX6_item 82 = .ok (.getfield 237, 3) := by decide +kernel
theorem dX6_item_85 : decode cX6_item 85 = .ok (.ifCond .eq 12, 3) := by decide +kernel
theorem dX6_item_88 : decode cX6_item 88 = .ok (.aload_n 0, 1) := by decide +kernel
theorem dX6_item_89 : decode cX6_item 89 = .ok (.getfield 7, 3) := by decide +kernel
theorem dX6_item_92 : decode cX6_item 92 = .ok (.iconst 3, 1) := by decide +kernel
theorem dX6_item_93 : decode cX6_item 93 = .ok (.iaload, 1) := by decide +kernel
theorem dX6_item_94 : decode cX6_item 94 = .ok (.goto 7, 3) := by decide +kernel
theorem dX6_item_97 : decode cX6_item 97 = .ok (.aload_n 0, 1) := by decide +kernel
theorem dX6_item_98 : decode cX6_item 98 = .ok (.getfield 248, 3) := by decide +kernel
theorem dX6_item_101 : decode cX6_item 101 = .ok (.iastore, 1) := by decide +kernel
theorem dX6_item_102 : decode cX6_item 102 = .ok (.return_, 1) := by decide +kernel
theorem dX6_plain_0 : decode cX6_plain 0 = .ok (.aload_n 0, 1) := by decide +kernel
theorem dX6_plain_1 : decode cX6_plain 1 = .ok (.invokevirtual 302, 3) := by decide +kernel
theorem dX6_plain_4 : decode cX6_plain 4 = .ok (.aload_n 0, 1) := by decide +kernel
theorem dX6_plain_5 : decode cX6_plain 5 = .ok (.iconst 0, 1) := by decide +kernel
theorem dX6_plain_6 : decode cX6_plain 6 = .ok (.putfield 237, 3) := by decide +kernel
theorem dX6_plain_9 : decode cX6_plain 9 = .ok (.aload_n 0, 1) := by decide +kernel
theorem dX6_plain_10 : decode cX6_plain 10 = .ok (.iconst 0, 1) := by decide +kernel
theorem dX6_plain_11 : decode cX6_plain 11 = .ok (.putfield 222, 3) := by decide +kernel
theorem dX6_plain_14 : decode cX6_plain 14 = .ok (.aload_n 0, 1) := by decide +kernel
theorem dX6_plain_15 : decode cX6_plain 15 = .ok (.invokevirtual 241, 3) := by decide +kernel
theorem dX6_plain_18 : decode cX6_plain 18 = .ok (.iconst 1, 1) := by decide +kernel
theorem dX6_plain_19 : decode cX6_plain 19 = .ok (.istore_n 1, 1) := by decide +kernel
theorem dX6_plain_20 : decode cX6_plain 20 = .ok (.aload_n 0, 1) := by decide +kernel
theorem dX6_plain_21 : decode cX6_plain 21 = .ok (.invokevirtual 305, 3) := by decide +kernel
theorem dX6_plain_24 : decode cX6_plain 24 = .ok (.aload_n 0, 1) := by decide +kernel
theorem dX6_plain_25 : decode cX6_plain 25 = .ok (.getfield 237, 3) := by decide +kernel
theorem dX6_plain_28 : decode cX6_plain 28 = .ok (.ifCond .ne 31, 3) := by decide +kernel
theorem dX6_plain_31 : decode cX6_plain 31 = .ok (.aload_n 0, 1) := by decide +kernel
theorem dX6_plain_32 : decode cX6_plain 32 = .ok (.aload_n 0, 1) := by decide +kernel
theorem dX6_plain_33 : decode cX6_plain 33 = .ok (.getfield 225, 3) := by decide +kernel
theorem dX6_plain_36 : decode cX6_plain 36 = .ok (.invokevirtual 228, 3) := by decide +kernel
theorem dX6_plain_39 : decode cX6_plain 39 = .ok (.bipush 59, 2) := by decide +kernel
theorem dX6_plain_41 : decode cX6_plain 41 = .ok (.if_icmp .ne 18, 3) := by decide +kernel
theorem dX6_plain_44 : decode cX6_plain 44 = .ok (.aload_n 0, 1) := by decide +kernel
theorem dX6_plain_45 : decode cX6_plain 45 = .ok (.iconst 1, 1) := by decide +kernel
theorem dX6_plain_46 : decode cX6_plain 46 = .ok (.invokevirtual 251, 3) := by decide +kernel
theorem dX6_plain_49 : decode cX6_plain 49 = .ok (.aload_n 0, 1) := by decide +kernel
theorem dX6_plain_50 : decode cX6_plain 50 = .ok (.invokevirtual 305, 3) := by decide +kernel
theorem dX6_plain_53 : decode cX6_plain 53 = .ok (.iinc 1 1, 3) := by decide +kernel
theorem dX6_plain_56 : decode cX6_plain 56 = .ok (.goto (-32), 3) := by decide +kernel
theorem dX6_plain_59 : decode cX6_plain 59 = .ok (.aload_n 0, 1) := by decide +kernel
theorem dX6_plain_60 : decode cX6_plain 60 = .ok (.aload_n 0, 1) := by decide +kernel
theorem dX6_plain_61 : decode cX6_plain 61 = .ok (.getfield 237, 3) := by decide +kernel
theorem dX6_plain_64 : decode cX6_plain 64 = .ok (.ifCond .ne 14, 3) := by decide +kernel
theorem dX6_plain_67 : decode cX6_plain 67 = .ok (.aload_n 0, 1) := by decide +kernel
theorem dX6_plain_68 : decode cX6_plain 68 = .ok (.getfield 225, 3) := by decide +kernel
theorem dX6_plain_71 : decode cX6_plain 71 = .ok (.aload_n 0, 1) := by decide +kernel
theorem dX6_plain_72 : decode cX6_plain 72 = .ok (.getfield 211, 3) := by decide +kernel
theorem dX6_plain_75 : decode cX6_plain 75 = .ok (.if_icmp .ge 7, 3) := by decide +kernel
theorem dX6_plain_78 : decode cX6_plain 78 = .ok (.iconst 1, 1) := by decide +kernel
theorem dX6_plain_79 : decode cX6_plain 79 = .ok (.goto 4, 3) := by decide +kernel
theorem dX6_plain_82 : decode cX6_plain 82 = .ok (.iconst 0, 1) := by decide +kernel
theorem dX6_plain_83 : decode cX6_plain 83 = .ok (.putfield 237, 3) := by decide +kernel
theorem dX6_plain_86 : decode cX6_plain 86 = .ok (.aload_n 0, 1) := by decide +kernel
theorem dX6_plain_87 : decode cX6_plain 87 = .ok (.getfield 237, 3) := by decide +kernel
theorem dX6_plain_90 : decode cX6_plain 90 = .ok (.ifCond .eq 7, 3) := by decide +kernel
theorem dX6_plain_93 : decode cX6_plain 93 = .ok (.aload_n 0, 1) := by decide +kernel
theorem dX6_plain_94 : decode cX6_plain 94 = .ok (.invokevirtual 308, 3) := by decide +kernel
theorem dX6_plain_97 : decode cX6_plain 97 = .ok (.aload_n 0, 1) := by decide +kernel
theorem dX6_plain_98 : decode cX6_plain 98 = .ok (.iconst 0, 1) := by decide +kernel
theorem dX6_plain_99 : decode cX6_plain 99 = .ok (.putfield 211, 3) := by decide +kernel
theorem dX6_plain_102 : decode cX6_plain 102 = .ok (.aload_n 0, 1) := by decide +kernel
theorem dX6_plain_103 : decode cX6_plain 103 = .ok (.getfield 237, 3) := by decide +kernel
theorem dX6_plain_106 : decode cX6_plain 106 = .ok (.ifCond .eq 12, 3) := by decide +kernel
theorem dX6_plain_109 : decode cX6_plain 109 = .ok (.iconst (-1), 1) := by decide +kernel
theorem dX6_plain_110 : decode cX6_plain 110 = .ok (.aload_n 0, 1) := by decide +kernel
theorem dX6_plain_111 : decode cX6_plain 111 = .ok (.getfield 225, 3) := by decide +kernel
theorem dX6_plain_114 : decode cX6_plain 114 = .ok (.isub, 1) := by decide +kernel
theorem dX6_plain_115 : decode cX6_plain 115 = .ok (.goto 4, 3) := by decide +kernel
theorem dX6_plain_118 : decode cX6_plain 118 = .ok (.iload_n 1, 1) := by decide +kernel
theorem dX6_plain_119 : decode cX6_plain 119 = .ok (.ireturn, 1) := by decide +kernel
theorem dX6_isOne_0 : decode cX6_isOne 0 = .ok (.iload_n 0, 1) := by decide +kernel
theorem dX6_isOne_1 : decode cX6_isOne 1 = .ok (.i2l, 1) := by decide +kernel
theorem dX6_isOne_2 : decode cX6_isOne 2 = .ok (.lconst 0, 1) := by decide +kernel
theorem dX6_isOne_3 : decode cX6_isOne 3 = .ok (.ldc2_w 311, 3) := by decide +kernel
theorem dX6_isOne_6 : decode cX6_isOne 6 = .ok (.invokestatic 53, 3) := by decide +kernel
theorem dX6_isOne_9 : decode cX6_isOne 9 = .ok (.ireturn, 1) := by decide +kernel
theorem dX6_sheet_0 : decode cX6_sheet 0 = .ok (.iload_n 1, 1) := by decide +kernel
theorem dX6_sheet_1 : decode cX6_sheet 1 = .ok (.invokestatic 313, 3) := by decide +kernel
theorem dX6_sheet_4 : decode cX6_sheet 4 = .ok (.ifCond .eq 25, 3) := by decide +kernel
theorem dX6_sheet_7 : decode cX6_sheet 7 = .ok (.iload_n 2, 1) := by decide +kernel
theorem dX6_sheet_8 : decode cX6_sheet 8 = .ok (.ifCond .eq 28, 3) := by decide +kernel
theorem dX6_sheet_11 : decode cX6_sheet 11 = .ok (.iload_n 2, 1) := by decide +kernel
theorem dX6_sheet_12 : decode cX6_sheet 12 = .ok (.bipush 8, 2) := by decide +kernel
theorem dX6_sheet_14 : decode cX6_sheet 14 = .ok (.if_icmp .eq 22, 3) := by decide +kernel
theorem dX6_sheet_17 : decode cX6_sheet 17 = .ok (.iload_n 2, 1) := by decide +kernel
theorem dX6_sheet_18 : decode cX6_sheet 18 = .ok (.bipush 16, 2) := by decide +kernel
theorem dX6_sheet_20 : decode cX6_sheet 20 = .ok (.if_icmp .eq 16, 3) := by decide +kernel
theorem dX6_sheet_23 : decode cX6_sheet 23 = .ok (.iload_n 2, 1) := by decide +kernel
theorem dX6_sheet_24 : decode cX6_sheet 24 = .ok (.bipush 64, 2) := by decide +kernel
theorem dX6_sheet_26 : decode cX6_sheet 26 = .ok (.if_icmp .eq 10, 3) := by decide +kernel
theorem dX6_sheet_29 : decode cX6_sheet 29 = .ok (.aload_n 0, 1) := by decide +kernel
theorem dX6_sheet_30 : decode cX6_sheet 30 = .ok (.ldc 50, 2) := by decide +kernel
theorem dX6_sheet_32 : decode cX6_sheet 32 = .ok (.invokevirtual 101, 3) := by decide +kernel
theorem dX6_sheet_35 : decode cX6_sheet 35 = .ok (.ireturn, 1) := by decide +kernel
theorem dX6_sheet_36 : decode cX6_sheet 36 = .ok (.iload_n 3, 1) := by decide +kernel
theorem dX6_sheet_37 : decode cX6_sheet 37 = .ok (.ifCond .ge 11, 3) := by decide +kernel
theorem dX6_sheet_40 : decode cX6_sheet 40 = .ok (.aload_n 0, 1) := by decide +kernel
theorem dX6_sheet_41 : decode cX6_sheet 41 = .ok (.ldc_w 316, 3) := by decide +kernel
theorem dX6_sheet_44 : decode cX6_sheet 44 = .ok (.invokevirtual 101, 3) := by decide +kernel
theorem dX6_sheet_47 : decode cX6_sheet 47 = .ok (.ireturn, 1) := by decide +kernel
theorem dX6_sheet_48 : decode cX6_sheet 48 = .ok (.iload_n 3, 1) := by decide +kernel
theorem dX6_sheet_49 : decode cX6_sheet 49 = .ok (.bipush 40, 2) := by decide +kernel
theorem dX6_sheet_51 : decode cX6_sheet 51 = .ok (.if_icmp .le 10, 3) := by decide +kernel
theorem dX6_sheet_54 : decode cX6_sheet 54 = .ok (.aload_n 0, 1) := by decide +kernel
theorem dX6_sheet_55 : decode cX6_sheet 55 = .ok (.ldc 50, 2) := by decide +kernel
theorem dX6_sheet_57 : decode cX6_sheet 57 = .ok (.invokevirtual 101, 3) := by decide +kernel
theorem dX6_sheet_60 : decode cX6_sheet 60 = .ok (.ireturn, 1) := by decide +kernel
theorem dX6_sheet_61 : decode cX6_sheet 61 = .ok (.aload_n 0, 1) := by decide +kernel
theorem dX6_sheet_62 : decode cX6_sheet 62 = .ok (.getfield 37, 3) := by decide +kernel
theorem dX6_sheet_65 : decode cX6_sheet 65 = .ok (.iload_n 1, 1) := by decide +kernel
theorem dX6_sheet_66 : decode cX6_sheet 66 = .ok (.iload_n 2, 1) := by decide +kernel
theorem dX6_sheet_67 : decode cX6_sheet 67 = .ok (.iastore, 1) := by decide +kernel
theorem dX6_sheet_68 : decode cX6_sheet 68 = .ok (.aload_n 0, 1) := by decide +kernel
theorem dX6_sheet_69 : decode cX6_sheet 69 = .ok (.getfield 40, 3) := by decide +kernel
theorem dX6_sheet_72 : decode cX6_sheet 72 = .ok (.iload_n 1, 1) := by decide +kernel
theorem dX6_sheet_73 : decode cX6_sheet 73 = .ok (.iload_n 2, 1) := by decide +kernel
theorem dX6_sheet_74 : decode cX6_sheet 74 = .ok (.ifCond .ne 7, 3) := by decide +kernel
theorem dX6_sheet_77 : decode cX6_sheet 77 = .ok (.iconst 0, 1) := by decide +kernel
theorem dX6_sheet_78 : decode cX6_sheet 78 = .ok (.goto 4, 3) := by decide +kernel
theorem dX6_sheet_81 : decode cX6_sheet 81 = .ok (.iload_n 3, 1) := by decide +kernel
theorem dX6_sheet_82 : decode cX6_sheet 82 = .ok (.iastore, 1) := by decide +kernel
theorem dX6_sheet_83 : decode cX6_sheet 83 = .ok (.iconst 0, 1) := by decide +kernel
theorem dX6_sheet_84 : decode cX6_sheet 84 = .ok (.istore 4, 2) := by decide +kernel
theorem dX6_sheet_86 : decode cX6_sheet 86 = .ok (.iload 4, 2) := by decide +kernel
theorem dX6_sheet_88 : decode cX6_sheet 88 = .ok (.bipush 40, 2) := by decide +kernel
theorem dX6_sheet_90 : decode cX6_sheet 90 = .ok (.if_icmp .ge 22, 3) := by decide +kernel
theorem dX6_sheet_93 : decode cX6_sheet 93 = .ok (.aload_n 0, 1) := by decide +kernel
theorem dX6_sheet_94 : decode cX6_sheet 94 = .ok (.getfield 43, 3) := by decide +kernel
theorem dX6_sheet_97 : decode cX6_sheet 97 = .ok (.bipush 40, 2) := by decide +kernel
theorem dX6_sheet_99 : decode cX6_sheet 99 = .ok (.iload_n 1, 1) := by decide +kernel
theorem dX6_sheet_100 : decode cX6_sheet 100 = .ok (.imul, 1) := by decide +kernel
theorem dX6_sheet_101 : decode cX6_sheet 101 = .ok (.iload 4, 2) := by decide +kernel
theorem dX6_sheet_103 : decode cX6_sheet 103 = .ok (.iadd, 1) := by decide +kernel
theorem dX6_sheet_104 : decode cX6_sheet 104 = .ok (.lconst 0, 1) := by decide +kernel
theorem dX6_sheet_105 : decode cX6_sheet 105 = .ok (.lastore, 1) := by decide +kernel
theorem dX6_sheet_106 : decode cX6_sheet 106 = .ok (.iinc 4 1, 3) := by decide +kernel
theorem dX6_sheet_109 : decode cX6_sheet 109 = .ok (.goto (-23), 3) := by decide +kernel
theorem dX6_sheet_112 : decode cX6_sheet 112 = .ok (.aload_n 0, 1) := by decide +kernel
theorem dX6_sheet_113 : decode cX6_sheet 113 = .ok (.getfield 40, 3) := by decide +kernel
theorem dX6_sheet_116 : decode cX6_sheet 116 = .ok (.iload_n 1, 1) := by decide +kernel
theorem dX6_sheet_117 : decode cX6_sheet 117 = .ok (.iaload, 1) := by decide +kernel
theorem dX6_sheet_118 : decode cX6_sheet 118 = .ok (.ireturn, 1) := by decide +kernel
theorem dX6_narrowed_0 : decode cX6_narrowed 0 = .ok (.iload_n 0, 1) := by decide +kernel
theorem dX6_narrowed_1 : decode cX6_narrowed 1 = .ok (.bipush 8, 2) := by decide +kernel
theorem dX6_narrowed_3 : decode cX6_narrowed 3 = .ok (.if_icmp .ne 10, 3) := by decide +kernel
theorem dX6_narrowed_6 : decode cX6_narrowed 6 = .ok (.lload_n 1, 1) := by decide +kernel
theorem dX6_narrowed_7 : decode cX6_narrowed 7 = .ok (.l2i, 1) := by decide +kernel
theorem dX6_narrowed_8 : decode cX6_narrowed 8 = .ok (.i2b, 1) := by decide +kernel
theorem dX6_narrowed_9 : decode cX6_narrowed 9 = .ok (.i2l, 1) := by decide +kernel
theorem dX6_narrowed_10 : decode cX6_narrowed 10 = .ok (.goto 17, 3) := by decide +kernel
theorem dX6_narrowed_13 : decode cX6_narrowed 13 = .ok (.iload_n 0, 1) := by decide +kernel
theorem dX6_narrowed_14 : decode cX6_narrowed 14 = .ok (.bipush 16, 2) := by decide +kernel
theorem dX6_narrowed_16 : decode cX6_narrowed 16 = .ok (.if_icmp .ne 10, 3) := by decide +kernel
theorem dX6_narrowed_19 : decode cX6_narrowed 19 = .ok (.lload_n 1, 1) := by decide +kernel
theorem dX6_narrowed_20 : decode cX6_narrowed 20 = .ok (.l2i, 1) := by decide +kernel
theorem dX6_narrowed_21 : decode cX6_narrowed 21 = .ok (.i2s, 1) := by decide +kernel
theorem dX6_narrowed_22 : decode cX6_narrowed 22 = .ok (.i2l, 1) := by decide +kernel
theorem dX6_narrowed_23 : decode cX6_narrowed 23 = .ok (.goto 4, 3) := by decide +kernel
theorem dX6_narrowed_26 : decode cX6_narrowed 26 = .ok (.lload_n 1, 1) := by decide +kernel
theorem dX6_narrowed_27 : decode cX6_narrowed 27 = .ok (.lreturn, 1) := by decide +kernel
theorem dX6_wrongSheet_0 : decode cX6_wrongSheet 0 = .ok (.iload_n 1, 1) := by decide +kernel
theorem dX6_wrongSheet_1 : decode cX6_wrongSheet 1 = .ok (.invokestatic 313, 3) := by decide +kernel
theorem dX6_wrongSheet_4 : decode cX6_wrongSheet 4 = .ok (.ifCond .ne 8, 3) := by decide +kernel
theorem dX6_wrongSheet_7 : decode cX6_wrongSheet 7 = .ok (.ldc 50, 2) := by decide +kernel
theorem dX6_wrongSheet_9 : decode cX6_wrongSheet 9 = .ok (.goto 19, 3) := by decide +kernel
theorem dX6_wrongSheet_12 : decode cX6_wrongSheet 12 = .ok (.aload_n 0, 1) := by decide +kernel
theorem dX6_wrongSheet_13 : decode cX6_wrongSheet 13 = .ok (.getfield 37, 3) := by decide +kernel
theorem dX6_wrongSheet_16 : decode cX6_wrongSheet 16 = .ok (.iload_n 1, 1) := by decide +kernel
theorem dX6_wrongSheet_17 : decode cX6_wrongSheet 17 = .ok (.iaload, 1) := by decide +kernel
theorem dX6_wrongSheet_18 : decode cX6_wrongSheet 18 = .ok (.ifCond .ne 9, 3) := by decide +kernel
theorem dX6_wrongSheet_21 : decode cX6_wrongSheet 21 = .ok (.ldc_w 317, 3) := by decide +kernel
theorem dX6_wrongSheet_24 : decode cX6_wrongSheet 24 = .ok (.goto 4, 3) := by decide +kernel
theorem dX6_wrongSheet_27 : decode cX6_wrongSheet 27 = .ok (.iconst 0, 1) := by decide +kernel
theorem dX6_wrongSheet_28 : decode cX6_wrongSheet 28 = .ok (.ireturn, 1) := by decide +kernel
theorem dX6_write_0 : decode cX6_write 0 = .ok (.aload_n 0, 1) := by decide +kernel
theorem dX6_write_1 : decode cX6_write 1 = .ok (.iload_n 1, 1) := by decide +kernel
theorem dX6_write_2 : decode cX6_write 2 = .ok (.invokevirtual 318, 3) := by decide +kernel
theorem dX6_write_5 : decode cX6_write 5 = .ok (.istore 5, 2) := by decide +kernel
theorem dX6_write_7 : decode cX6_write 7 = .ok (.iload 5, 2) := by decide +kernel
theorem dX6_write_9 : decode cX6_write 9 = .ok (.ifCond .eq 11, 3) := by decide +kernel
theorem dX6_write_12 : decode cX6_write 12 = .ok (.aload_n 0, 1) := by decide +kernel
theorem dX6_write_13 : decode cX6_write 13 = .ok (.iload 5, 2) := by decide +kernel
theorem dX6_write_15 : decode cX6_write 15 = .ok (.invokevirtual 101, 3) := by decide +kernel
theorem dX6_write_18 : decode cX6_write 18 = .ok (.i2l, 1) := by decide +kernel
theorem dX6_write_19 : decode cX6_write 19 = .ok (.lreturn, 1) := by decide +kernel
theorem dX6_write_20 : decode cX6_write 20 = .ok (.iload_n 2, 1) := by decide +kernel
theorem dX6_write_21 : decode cX6_write 21 = .ok (.i2l, 1) := by decide +kernel
theorem dX6_write_22 : decode cX6_write 22 = .ok (.lconst 0, 1) := by decide +kernel
theorem dX6_write_23 : decode cX6_write 23 = .ok (.aload_n 0, 1) := by decide +kernel
theorem dX6_write_24 : decode cX6_write 24 = .ok (.getfield 40, 3) := by decide +kernel
theorem dX6_write_27 : decode cX6_write 27 = .ok (.iload_n 1, 1) := by decide +kernel
theorem dX6_write_28 : decode cX6_write 28 = .ok (.iaload, 1) := by decide +kernel
theorem dX6_write_29 : decode cX6_write 29 = .ok (.iconst 1, 1) := by decide +kernel
theorem dX6_write_30 : decode cX6_write 30 = .ok (.isub, 1) := by decide +kernel
theorem dX6_write_31 : decode cX6_write 31 = .ok (.i2l, 1) := by decide +kernel
theorem dX6_write_32 : decode cX6_write 32 = .ok (.invokestatic 53, 3) := by decide +kernel
theorem dX6_write_35 : decode cX6_write 35 = .ok (.ifCond .ne 11, 3) := by decide +kernel
theorem dX6_write_38 : decode cX6_write 38 = .ok (.aload_n 0, 1) := by decide +kernel
theorem dX6_write_39 : decode cX6_write 39 = .ok (.ldc 50, 2) := by decide +kernel
theorem dX6_write_41 : decode cX6_write 41 = .ok (.invokevirtual 101, 3) := by decide +kernel
theorem dX6_write_44 : decode cX6_write 44 = .ok (.i2l, 1) := by decide +kernel
theorem dX6_write_45 : decode cX6_write 45 = .ok (.lreturn, 1) := by decide +kernel
theorem dX6_write_46 : decode cX6_write 46 = .ok (.aload_n 0, 1) := by decide +kernel
theorem dX6_write_47 : decode cX6_write 47 = .ok (.getfield 43, 3) := by decide +kernel
theorem dX6_write_50 : decode cX6_write 50 = .ok (.bipush 40, 2) := by decide +kernel
theorem dX6_write_52 : decode cX6_write 52 = .ok (.iload_n 1, 1) := by decide +kernel
theorem dX6_write_53 : decode cX6_write 53 = .ok (.imul, 1) := by decide +kernel
theorem dX6_write_54 : decode cX6_write 54 = .ok (.iload_n 2, 1) := by decide +kernel
theorem dX6_write_55 : decode cX6_write 55 = .ok (.iadd, 1) := by decide +kernel
theorem dX6_write_56 : decode cX6_write 56 = .ok (.laload, 1) := by decide +kernel
theorem dX6_write_57 : decode cX6_write 57 = .ok (.lstore 6, 2) := by decide +kernel
theorem dX6_write_59 : decode cX6_write 59 = .ok (.aload_n 0, 1) := by decide +kernel
theorem dX6_write_60 : decode cX6_write 60 = .ok (.getfield 43, 3) := by decide +kernel
theorem dX6_write_63 : decode cX6_write 63 = .ok (.bipush 40, 2) := by decide +kernel
theorem dX6_write_65 : decode cX6_write 65 = .ok (.iload_n 1, 1) := by decide +kernel
theorem dX6_write_66 : decode cX6_write 66 = .ok (.imul, 1) := by decide +kernel
theorem dX6_write_67 : decode cX6_write 67 = .ok (.iload_n 2, 1) := by decide +kernel
theorem dX6_write_68 : decode cX6_write 68 = .ok (.iadd, 1) := by decide +kernel
theorem dX6_write_69 : decode cX6_write 69 = .ok (.aload_n 0, 1) := by decide +kernel
theorem dX6_write_70 : decode cX6_write 70 = .ok (.getfield 37, 3) := by decide +kernel
theorem dX6_write_73 : decode cX6_write 73 = .ok (.iload_n 1, 1) := by decide +kernel
theorem dX6_write_74 : decode cX6_write 74 = .ok (.iaload, 1) := by decide +kernel
theorem dX6_write_75 : decode cX6_write 75 = .ok (.lload_n 3, 1) := by decide +kernel
theorem dX6_write_76 : decode cX6_write 76 = .ok (.invokestatic 321, 3) := by decide +kernel
theorem dX6_write_79 : decode cX6_write 79 = .ok (.lastore, 1) := by decide +kernel
theorem dX6_write_80 : decode cX6_write 80 = .ok (.lload 6, 2) := by decide +kernel
theorem dX6_write_82 : decode cX6_write 82 = .ok (.lreturn, 1) := by decide +kernel
theorem dX6_copy_0 : decode cX6_copy 0 = .ok (.iload_n 1, 1) := by decide +kernel
theorem dX6_copy_1 : decode cX6_copy 1 = .ok (.invokestatic 313, 3) := by decide +kernel
theorem dX6_copy_4 : decode cX6_copy 4 = .ok (.ifCond .eq 10, 3) := by decide +kernel
theorem dX6_copy_7 : decode cX6_copy 7 = .ok (.iload_n 3, 1) := by decide +kernel
theorem dX6_copy_8 : decode cX6_copy 8 = .ok (.invokestatic 313, 3) := by decide +kernel
theorem dX6_copy_11 : decode cX6_copy 11 = .ok (.ifCond .ne 10, 3) := by decide +kernel
theorem dX6_copy_14 : decode cX6_copy 14 = .ok (.aload_n 0, 1) := by decide +kernel
theorem dX6_copy_15 : decode cX6_copy 15 = .ok (.ldc 50, 2) := by decide +kernel
theorem dX6_copy_17 : decode cX6_copy 17 = .ok (.invokevirtual 101, 3) := by decide +kernel
theorem dX6_copy_20 : decode cX6_copy 20 = .ok (.ireturn, 1) := by decide +kernel
theorem dX6_copy_21 : decode cX6_copy 21 = .ok (.aload_n 0, 1) := by decide +kernel
theorem dX6_copy_22 : decode cX6_copy 22 = .ok (.getfield 37, 3) := by decide +kernel
theorem dX6_copy_25 : decode cX6_copy 25 = .ok (.iload_n 1, 1) := by decide +kernel
theorem dX6_copy_26 : decode cX6_copy 26 = .ok (.iaload, 1) := by decide +kernel
theorem dX6_copy_27 : decode cX6_copy 27 = .ok (.ifCond .eq 12, 3) := by decide +kernel
theorem dX6_copy_30 : decode cX6_copy 30 = .ok (.aload_n 0, 1) := by decide +kernel
theorem dX6_copy_31 : decode cX6_copy 31 = .ok (.getfield 37, 3) := by decide +kernel
theorem dX6_copy_34 : decode cX6_copy 34 = .ok (.iload_n 3, 1) := by decide +kernel
theorem dX6_copy_35 : decode cX6_copy 35 = .ok (.iaload, 1) := by decide +kernel
theorem dX6_copy_36 : decode cX6_copy 36 = .ok (.ifCond .ne 11, 3) := by decide +kernel
theorem dX6_copy_39 : decode cX6_copy 39 = .ok (.aload_n 0, 1) := by decide +kernel
theorem dX6_copy_40 : decode cX6_copy 40 = .ok (.ldc_w 317, 3) := by decide +kernel
theorem dX6_copy_43 : decode cX6_copy 43 = .ok (.invokevirtual 101, 3) := by decide +kernel
theorem dX6_copy_46 : decode cX6_copy 46 = .ok (.ireturn, 1) := by decide +kernel
theorem dX6_copy_47 : decode cX6_copy 47 = .ok (.aload_n 0, 1) := by decide +kernel
theorem dX6_copy_48 : decode cX6_copy 48 = .ok (.getfield 37, 3) := by decide +kernel
theorem dX6_copy_51 : decode cX6_copy 51 = .ok (.iload_n 1, 1) := by decide +kernel
theorem dX6_copy_52 : decode cX6_copy 52 = .ok (.iaload, 1) := by decide +kernel
theorem dX6_copy_53 : decode cX6_copy 53 = .ok (.aload_n 0, 1) := by decide +kernel
theorem dX6_copy_54 : decode cX6_copy 54 = .ok (.getfield 37, 3) := by decide +kernel
theorem dX6_copy_57 : decode cX6_copy 57 = .ok (.iload_n 3, 1) := by decide +kernel
theorem dX6_copy_58 : decode cX6_copy 58 = .ok (.iaload, 1) := by decide +kernel
theorem dX6_copy_59 : decode cX6_copy 59 = .ok (.if_icmp .eq 10, 3) := by decide +kernel
theorem dX6_copy_62 : decode cX6_copy 62 = .ok (.aload_n 0, 1) := by decide +kernel
theorem dX6_copy_63 : decode cX6_copy 63 = .ok (.ldc 139, 2) := by decide +kernel
theorem dX6_copy_65 : decode cX6_copy 65 = .ok (.invokevirtual 101, 3) := by decide +kernel
theorem dX6_copy_68 : decode cX6_copy 68 = .ok (.ireturn, 1) := by decide +kernel
theorem dX6_copy_69 : decode cX6_copy 69 = .ok (.iload_n 2, 1) := by decide +kernel
theorem dX6_copy_70 : decode cX6_copy 70 = .ok (.ifCond .lt 40, 3) := by decide +kernel
theorem dX6_copy_73 : decode cX6_copy 73 = .ok (.iload 4, 2) := by decide +kernel
theorem dX6_copy_75 : decode cX6_copy 75 = .ok (.ifCond .lt 35, 3) := by decide +kernel
theorem dX6_copy_78 : decode cX6_copy 78 = .ok (.iload 5, 2) := by decide +kernel
theorem dX6_copy_80 : decode cX6_copy 80 = .ok (.ifCond .lt 30, 3) := by decide +kernel
theorem dX6_copy_83 : decode cX6_copy 83 = .ok (.iload 5, 2) := by decide +kernel
theorem dX6_copy_85 : decode cX6_copy 85 = .ok (.aload_n 0, 1) := by decide +kernel
theorem dX6_copy_86 : decode cX6_copy 86 = .ok (.getfield 40, 3) := by decide +kernel
theorem dX6_copy_89 : decode cX6_copy 89 = .ok (.iload_n 1, 1) := by decide +kernel
theorem dX6_copy_90 : decode cX6_copy 90 = .ok (.iaload, 1) := by decide +kernel
theorem dX6_copy_91 : decode cX6_copy 91 = .ok (.iload_n 2, 1) := by decide +kernel
theorem dX6_copy_92 : decode cX6_copy 92 = .ok (.isub, 1) := by decide +kernel
theorem dX6_copy_93 : decode cX6_copy 93 = .ok (.if_icmp .gt 17, 3) := by decide +kernel
theorem dX6_copy_96 : decode cX6_copy 96 = .ok (.iload 5, 2) := by decide +kernel
theorem dX6_copy_98 : decode cX6_copy 98 = .ok (.aload_n 0, 1) := by decide +kernel
theorem dX6_copy_99 : decode cX6_copy 99 = .ok (.getfield 40, 3) := by decide +kernel
theorem dX6_copy_102 : decode cX6_copy 102 = .ok (.iload_n 3, 1) := by decide +kernel
theorem dX6_copy_103 : decode cX6_copy 103 = .ok (.iaload, 1) := by decide +kernel
theorem dX6_copy_104 : decode cX6_copy 104 = .ok (.iload 4, 2) := by decide +kernel
theorem dX6_copy_106 : decode cX6_copy 106 = .ok (.isub, 1) := by decide +kernel
theorem dX6_copy_107 : decode cX6_copy 107 = .ok (.if_icmp .le 10, 3) := by decide +kernel
theorem dX6_copy_110 : decode cX6_copy 110 = .ok (.aload_n 0, 1) := by decide +kernel
theorem dX6_copy_111 : decode cX6_copy 111 = .ok (.ldc 50, 2) := by decide +kernel
theorem dX6_copy_113 : decode cX6_copy 113 = .ok (.invokevirtual 101, 3) := by decide +kernel
theorem dX6_copy_116 : decode cX6_copy 116 = .ok (.ireturn, 1) := by decide +kernel
theorem dX6_copy_117 : decode cX6_copy 117 = .ok (.iconst 0, 1) := by decide +kernel
theorem dX6_copy_118 : decode cX6_copy 118 = .ok (.istore 6, 2) := by decide +kernel
theorem dX6_copy_120 : decode cX6_copy 120 = .ok (.iload 6, 2) := by decide +kernel
theorem dX6_copy_122 : decode cX6_copy 122 = .ok (.iload 5, 2) := by decide +kernel
theorem dX6_copy_124 : decode cX6_copy 124 = .ok (.if_icmp .ge 30, 3) := by decide +kernel
theorem dX6_copy_127 : decode cX6_copy 127 = .ok (.aload_n 0, 1) := by decide +kernel
theorem dX6_copy_128 : decode cX6_copy 128 = .ok (.getfield 47, 3) := by decide +kernel
theorem dX6_copy_131 : decode cX6_copy 131 = .ok (.iload 6, 2) := by decide +kernel
theorem dX6_copy_133 : decode cX6_copy 133 = .ok (.aload_n 0, 1) := by decide +kernel
theorem dX6_copy_134 : decode cX6_copy 134 = .ok (.getfield 43, 3) := by decide +kernel
theorem dX6_copy_137 : decode cX6_copy 137 = .ok (.bipush 40, 2) := by decide +kernel
theorem dX6_copy_139 : decode cX6_copy 139 = .ok (.iload_n 1, 1) := by decide +kernel
theorem dX6_copy_140 : decode cX6_copy 140 = .ok (.imul, 1) := by decide +kernel
theorem dX6_copy_141 : decode cX6_copy 141 = .ok (.iload_n 2, 1) := by decide +kernel
theorem dX6_copy_142 : decode cX6_copy 142 = .ok (.iadd, 1) := by decide +kernel
theorem dX6_copy_143 : decode cX6_copy 143 = .ok (.iload 6, 2) := by decide +kernel
theorem dX6_copy_145 : decode cX6_copy 145 = .ok (.iadd, 1) := by decide +kernel
theorem dX6_copy_146 : decode cX6_copy 146 = .ok (.laload, 1) := by decide +kernel
theorem dX6_copy_147 : decode cX6_copy 147 = .ok (.lastore, 1) := by decide +kernel
theorem dX6_copy_148 : decode cX6_copy 148 = .ok (.iinc 6 1, 3) := by decide +kernel
theorem dX6_copy_151 : decode cX6_copy 151 = .ok (.goto (-31), 3) := by decide +kernel
theorem dX6_copy_154 : decode cX6_copy 154 = .ok (.iconst 0, 1) := by decide +kernel
theorem dX6_copy_155 : decode cX6_copy 155 = .ok (.istore 6, 2) := by decide +kernel
theorem dX6_copy_157 : decode cX6_copy 157 = .ok (.iload 6, 2) := by decide +kernel
theorem dX6_copy_159 : decode cX6_copy 159 = .ok (.iload 5, 2) := by decide +kernel
theorem dX6_copy_161 : decode cX6_copy 161 = .ok (.if_icmp .ge 31, 3) := by decide +kernel
theorem dX6_copy_164 : decode cX6_copy 164 = .ok (.aload_n 0, 1) := by decide +kernel
theorem dX6_copy_165 : decode cX6_copy 165 = .ok (.getfield 43, 3) := by decide +kernel
theorem dX6_copy_168 : decode cX6_copy 168 = .ok (.bipush 40, 2) := by decide +kernel
theorem dX6_copy_170 : decode cX6_copy 170 = .ok (.iload_n 3, 1) := by decide +kernel
theorem dX6_copy_171 : decode cX6_copy 171 = .ok (.imul, 1) := by decide +kernel
theorem dX6_copy_172 : decode cX6_copy 172 = .ok (.iload 4, 2) := by decide +kernel
theorem dX6_copy_174 : decode cX6_copy 174 = .ok (.iadd, 1) := by decide +kernel
theorem dX6_copy_175 : decode cX6_copy 175 = .ok (.iload 6, 2) := by decide +kernel
theorem dX6_copy_177 : decode cX6_copy 177 = .ok (.iadd, 1) := by decide +kernel
theorem dX6_copy_178 : decode cX6_copy 178 = .ok (.aload_n 0, 1) := by decide +kernel
theorem dX6_copy_179 : decode cX6_copy 179 = .ok (.getfield 47, 3) := by decide +kernel
theorem dX6_copy_182 : decode cX6_copy 182 = .ok (.iload 6, 2) := by decide +kernel
theorem dX6_copy_184 : decode cX6_copy 184 = .ok (.laload, 1) := by decide +kernel
theorem dX6_copy_185 : decode cX6_copy 185 = .ok (.lastore, 1) := by decide +kernel
theorem dX6_copy_186 : decode cX6_copy 186 = .ok (.iinc 6 1, 3) := by decide +kernel
theorem dX6_copy_189 : decode cX6_copy 189 = .ok (.goto (-32), 3) := by decide +kernel
theorem dX6_copy_192 : decode cX6_copy 192 = .ok (.iload 5, 2) := by decide +kernel
theorem dX6_copy_194 : decode cX6_copy 194 = .ok (.ireturn, 1) := by decide +kernel
theorem dX6_lays_0 : decode cX6_lays 0 = .ok (.aload_n 0, 1) := by decide +kernel
theorem dX6_lays_1 : decode cX6_lays 1 = .ok (.iload_n 1, 1) := by decide +kernel
theorem dX6_lays_2 : decode cX6_lays 2 = .ok (.invokevirtual 318, 3) := by decide +kernel
theorem dX6_lays_5 : decode cX6_lays 5 = .ok (.istore_n 2, 1) := by decide +kernel
theorem dX6_lays_6 : decode cX6_lays 6 = .ok (.iload_n 2, 1) := by decide +kernel
theorem dX6_lays_7 : decode cX6_lays 7 = .ok (.ifCond .eq 9, 3) := by decide +kernel
theorem dX6_lays_10 : decode cX6_lays 10 = .ok (.aload_n 0, 1) := by decide +kernel
theorem dX6_lays_11 : decode cX6_lays 11 = .ok (.iload_n 2, 1) := by decide +kernel
theorem dX6_lays_12 : decode cX6_lays 12 = .ok (.invokevirtual 101, 3) := by decide +kernel
theorem dX6_lays_15 : decode cX6_lays 15 = .ok (.ireturn, 1) := by decide +kernel
theorem dX6_lays_16 : decode cX6_lays 16 = .ok (.iconst 0, 1) := by decide +kernel
theorem dX6_lays_17 : decode cX6_lays 17 = .ok (.istore_n 3, 1) := by decide +kernel
theorem dX6_lays_18 : decode cX6_lays 18 = .ok (.iconst 0, 1) := by decide +kernel
theorem dX6_lays_19 : decode cX6_lays 19 = .ok (.istore 4, 2) := by decide +kernel
theorem dX6_lays_21 : decode cX6_lays 21 = .ok (.iload 4, 2) := by decide +kernel
theorem dX6_lays_23 : decode cX6_lays 23 = .ok (.aload_n 0, 1) := by decide +kernel
theorem dX6_lays_24 : decode cX6_lays 24 = .ok (.getfield 40, 3) := by decide +kernel
theorem dX6_lays_27 : decode cX6_lays 27 = .ok (.iload_n 1, 1) := by decide +kernel
theorem dX6_lays_28 : decode cX6_lays 28 = .ok (.iaload, 1) := by decide +kernel
theorem dX6_lays_29 : decode cX6_lays 29 = .ok (.if_icmp .ge 82, 3) := by decide +kernel
theorem dX6_lays_32 : decode cX6_lays 32 = .ok (.aload_n 0, 1) := by decide +kernel
theorem dX6_lays_33 : decode cX6_lays 33 = .ok (.getfield 43, 3) := by decide +kernel
theorem dX6_lays_36 : decode cX6_lays 36 = .ok (.bipush 40, 2) := by decide +kernel
theorem dX6_lays_38 : decode cX6_lays 38 = .ok (.iload_n 1, 1) := by decide +kernel
theorem dX6_lays_39 : decode cX6_lays 39 = .ok (.imul, 1) := by decide +kernel
theorem dX6_lays_40 : decode cX6_lays 40 = .ok (.iload 4, 2) := by decide +kernel
theorem dX6_lays_42 : decode cX6_lays 42 = .ok (.iadd, 1) := by decide +kernel
theorem dX6_lays_43 : decode cX6_lays 43 = .ok (.laload, 1) := by decide +kernel
theorem dX6_lays_44 : decode cX6_lays 44 = .ok (.lconst 0, 1) := by decide +kernel
theorem dX6_lays_45 : decode cX6_lays 45 = .ok (.ldc2_w 96, 3) := by decide +kernel
theorem dX6_lays_48 : decode cX6_lays 48 = .ok (.invokestatic 53, 3) := by decide +kernel
theorem dX6_lays_51 : decode cX6_lays 51 = .ok (.istore 5, 2) := by decide +kernel
theorem dX6_lays_53 : decode cX6_lays 53 = .ok (.aload_n 0, 1) := by decide +kernel
theorem dX6_lays_54 : decode cX6_lays 54 = .ok (.getfield 7, 3) := by decide +kernel
theorem dX6_lays_57 : decode cX6_lays 57 = .ok (.iconst 4, 1) := by decide +kernel
theorem dX6_lays_58 : decode cX6_lays 58 = .ok (.iload 4, 2) := by decide +kernel
theorem dX6_lays_60 : decode cX6_lays 60 = .ok (.iadd, 1) := by decide +kernel
theorem dX6_lays_61 : decode cX6_lays 61 = .ok (.iload 5, 2) := by decide +kernel
theorem dX6_lays_63 : decode cX6_lays 63 = .ok (.ifCond .eq 19, 3) := by decide +kernel
theorem dX6_lays_66 : decode cX6_lays 66 = .ok (.aload_n 0, 1) := by decide +kernel
theorem dX6_lays_67 : decode cX6_lays 67 = .ok (.getfield 43, 3) := by decide +kernel
theorem dX6_lays_70 : decode cX6_lays 70 = .ok (.bipush 40, 2) := by decide +kernel
theorem dX6_lays_72 : decode cX6_lays 72 = .ok (.iload_n 1, 1) := by decide +kernel
theorem dX6_lays_73 : decode cX6_lays 73 = .ok (.imul, 1) := by decide +kernel
theorem dX6_lays_74 : decode cX6_lays 74 = .ok (.iload 4, 2) := by decide +kernel
theorem dX6_lays_76 : decode cX6_lays 76 = .ok (.iadd, 1) := by decide +kernel
theorem dX6_lays_77 : decode cX6_lays 77 = .ok (.laload, 1) := by decide +kernel
theorem dX6_lays_78 : decode cX6_lays 78 = .ok (.l2i, 1) := by decide +kernel
theorem dX6_lays_79 : decode cX6_lays 79 = .ok (.goto 12, 3) := by decide +kernel
theorem dX6_lays_82 : decode cX6_lays 82 = .ok (.aload_n 0, 1) := by decide +kernel
theorem dX6_lays_83 : decode cX6_lays 83 = .ok (.getfield 7, 3) := by decide +kernel
theorem dX6_lays_86 : decode cX6_lays 86 = .ok (.iconst 4, 1) := by decide +kernel
theorem dX6_lays_87 : decode cX6_lays 87 = .ok (.iload 4, 2) := by decide +kernel
theorem dX6_lays_89 : decode cX6_lays 89 = .ok (.iadd, 1) := by decide +kernel
theorem dX6_lays_90 : decode cX6_lays 90 = .ok (.iaload, 1) := by decide +kernel
theorem dX6_lays_91 : decode cX6_lays 91 = .ok (.iastore, 1) := by decide +kernel
theorem dX6_lays_92 : decode cX6_lays 92 = .ok (.iload_n 3, 1) := by decide +kernel
theorem dX6_lays_93 : decode cX6_lays 93 = .ok (.iload 5, 2) := by decide +kernel
theorem dX6_lays_95 : decode cX6_lays 95 = .ok (.ifCond .eq 7, 3) := by decide +kernel
theorem dX6_lays_98 : decode cX6_lays 98 = .ok (.iconst 1, 1) := by decide +kernel
theorem dX6_lays_99 : decode cX6_lays 99 = .ok (.goto 4, 3) := by decide +kernel
theorem dX6_lays_102 : decode cX6_lays 102 = .ok (.iconst 0, 1) := by decide +kernel
theorem dX6_lays_103 : decode cX6_lays 103 = .ok (.iadd, 1) := by decide +kernel
theorem dX6_lays_104 : decode cX6_lays 104 = .ok (.istore_n 3, 1) := by decide +kernel
theorem dX6_lays_105 : decode cX6_lays 105 = .ok (.iinc 4 1, 3) := by decide +kernel
theorem dX6_lays_108 : decode cX6_lays 108 = .ok (.goto (-87), 3) := by decide +kernel
theorem dX6_lays_111 : decode cX6_lays 111 = .ok (.iload_n 3, 1) := by decide +kernel
theorem dX6_lays_112 : decode cX6_lays 112 = .ok (.ireturn, 1) := by decide +kernel
theorem dX6_book_0 : decode cX6_book 0 = .ok (.aload_n 0, 1) := by decide +kernel
theorem dX6_book_1 : decode cX6_book 1 = .ok (.iload_n 1, 1) := by decide +kernel
theorem dX6_book_2 : decode cX6_book 2 = .ok (.invokevirtual 318, 3) := by decide +kernel
theorem dX6_book_5 : decode cX6_book 5 = .ok (.istore_n 2, 1) := by decide +kernel
theorem dX6_book_6 : decode cX6_book 6 = .ok (.iload_n 2, 1) := by decide +kernel
theorem dX6_book_7 : decode cX6_book 7 = .ok (.ifCond .eq 9, 3) := by decide +kernel
theorem dX6_book_10 : decode cX6_book 10 = .ok (.aload_n 0, 1) := by decide +kernel
theorem dX6_book_11 : decode cX6_book 11 = .ok (.iload_n 2, 1) := by decide +kernel
theorem dX6_book_12 : decode cX6_book 12 = .ok (.invokevirtual 101, 3) := by decide +kernel
theorem dX6_book_15 : decode cX6_book 15 = .ok (.ireturn, 1) := by decide +kernel
theorem dX6_book_16 : decode cX6_book 16 = .ok (.aload_n 0, 1) := by decide +kernel
theorem dX6_book_17 : decode cX6_book 17 = .ok (.invokevirtual 184, 3) := by decide +kernel
theorem dX6_book_20 : decode cX6_book 20 = .ok (.iconst 0, 1) := by decide +kernel
theorem dX6_book_21 : decode cX6_book 21 = .ok (.istore_n 3, 1) := by decide +kernel
theorem dX6_book_22 : decode cX6_book 22 = .ok (.iload_n 3, 1) := by decide +kernel
theorem dX6_book_23 : decode cX6_book 23 = .ok (.aload_n 0, 1) := by decide +kernel
theorem dX6_book_24 : decode cX6_book 24 = .ok (.getfield 40, 3) := by decide +kernel
theorem dX6_book_27 : decode cX6_book 27 = .ok (.iload_n 1, 1) := by decide +kernel
theorem dX6_book_28 : decode cX6_book 28 = .ok (.iaload, 1) := by decide +kernel
theorem dX6_book_29 : decode cX6_book 29 = .ok (.if_icmp .ge 40, 3) := by decide +kernel
theorem dX6_book_32 : decode cX6_book 32 = .ok (.aload_n 0, 1) := by decide +kernel
theorem dX6_book_33 : decode cX6_book 33 = .ok (.getfield 43, 3) := by decide +kernel
theorem dX6_book_36 : decode cX6_book 36 = .ok (.bipush 40, 2) := by decide +kernel
theorem dX6_book_38 : decode cX6_book 38 = .ok (.iload_n 1, 1) := by decide +kernel
theorem dX6_book_39 : decode cX6_book 39 = .ok (.imul, 1) := by decide +kernel
theorem dX6_book_40 : decode cX6_book 40 = .ok (.iload_n 3, 1) := by decide +kernel
theorem dX6_book_41 : decode cX6_book 41 = .ok (.iadd, 1) := by decide +kernel
theorem dX6_book_42 : decode cX6_book 42 = .ok (.aload_n 0, 1) := by decide +kernel
theorem dX6_book_43 : decode cX6_book 43 = .ok (.getfield 37, 3) := by decide +kernel
theorem dX6_book_46 : decode cX6_book 46 = .ok (.iload_n 1, 1) := by decide +kernel
theorem dX6_book_47 : decode cX6_book 47 = .ok (.iaload, 1) := by decide +kernel
theorem dX6_book_48 : decode cX6_book 48 = .ok (.aload_n 0, 1) := by decide +kernel
theorem dX6_book_49 : decode cX6_book 49 = .ok (.invokevirtual 172, 3) := by decide +kernel
theorem dX6_book_52 : decode cX6_book 52 = .ok (.i2l, 1) := by decide +kernel
theorem dX6_book_53 : decode cX6_book 53 = .ok (.invokestatic 321, 3) := by decide +kernel
theorem dX6_book_56 : decode cX6_book 56 = .ok (.lastore, 1) := by decide +kernel
theorem dX6_book_57 : decode cX6_book 57 = .ok (.aload_n 0, 1) := by decide +kernel
theorem dX6_book_58 : decode cX6_book 58 = .ok (.invokevirtual 163, 3) := by decide +kernel
theorem dX6_book_61 : decode cX6_book 61 = .ok (.istore 4, 2) := by decide +kernel
theorem dX6_book_63 : decode cX6_book 63 = .ok (.iinc 3 1, 3) := by decide +kernel
theorem dX6_book_66 : decode cX6_book 66 = .ok (.goto (-44), 3) := by decide +kernel
theorem dX6_book_69 : decode cX6_book 69 = .ok (.aload_n 0, 1) := by decide +kernel
theorem dX6_book_70 : decode cX6_book 70 = .ok (.aload_n 0, 1) := by decide +kernel
theorem dX6_book_71 : decode cX6_book 71 = .ok (.getfield 40, 3) := by decide +kernel
theorem dX6_book_74 : decode cX6_book 74 = .ok (.iload_n 1, 1) := by decide +kernel
theorem dX6_book_75 : decode cX6_book 75 = .ok (.iaload, 1) := by decide +kernel
theorem dX6_book_76 : decode cX6_book 76 = .ok (.invokevirtual 187, 3) := by decide +kernel
theorem dX6_book_79 : decode cX6_book 79 = .ok (.ireturn, 1) := by decide +kernel
theorem dX6_isBook_0 : decode cX6_isBook 0 = .ok (.iconst 0, 1) := by decide +kernel
theorem dX6_isBook_1 : decode cX6_isBook 1 = .ok (.istore_n 2, 1) := by decide +kernel
theorem dX6_isBook_2 : decode cX6_isBook 2 = .ok (.iload_n 2, 1) := by decide +kernel
theorem dX6_isBook_3 : decode cX6_isBook 3 = .ok (.aload_n 0, 1) := by decide +kernel
theorem dX6_isBook_4 : decode cX6_isBook 4 = .ok (.getfield 40, 3) := by decide +kernel
theorem dX6_isBook_7 : decode cX6_isBook 7 = .ok (.iload_n 1, 1) := by decide +kernel
theorem dX6_isBook_8 : decode cX6_isBook 8 = .ok (.iaload, 1) := by decide +kernel
theorem dX6_isBook_9 : decode cX6_isBook 9 = .ok (.if_icmp .ge 36, 3) := by decide +kernel
theorem dX6_isBook_12 : decode cX6_isBook 12 = .ok (.aload_n 0, 1) := by decide +kernel
theorem dX6_isBook_13 : decode cX6_isBook 13 = .ok (.getfield 43, 3) := by decide +kernel
theorem dX6_isBook_16 : decode cX6_isBook 16 = .ok (.bipush 40, 2) := by decide +kernel
theorem dX6_isBook_18 : decode cX6_isBook 18 = .ok (.iload_n 1, 1) := by decide +kernel
theorem dX6_isBook_19 : decode cX6_isBook 19 = .ok (.imul, 1) := by decide +kernel
theorem dX6_isBook_20 : decode cX6_isBook 20 = .ok (.iload_n 2, 1) := by decide +kernel
theorem dX6_isBook_21 : decode cX6_isBook 21 = .ok (.iadd, 1) := by decide +kernel
theorem dX6_isBook_22 : decode cX6_isBook 22 = .ok (.laload, 1) := by decide +kernel
theorem dX6_isBook_23 : decode cX6_isBook 23 = .ok (.aload_n 0, 1) := by decide +kernel
theorem dX6_isBook_24 : decode cX6_isBook 24 = .ok (.invokevirtual 172, 3) := by decide +kernel
theorem dX6_isBook_27 : decode cX6_isBook 27 = .ok (.i2l, 1) := by decide +kernel
theorem dX6_isBook_28 : decode cX6_isBook 28 = .ok (.lcmp, 1) := by decide +kernel
theorem dX6_isBook_29 : decode cX6_isBook 29 = .ok (.ifCond .eq 5, 3) := by decide +kernel
theorem dX6_isBook_32 : decode cX6_isBook 32 = .ok (.iconst 0, 1) := by decide +kernel
theorem dX6_isBook_33 : decode cX6_isBook 33 = .ok (.ireturn, 1) := by decide +kernel
theorem dX6_isBook_34 : decode cX6_isBook 34 = .ok (.aload_n 0, 1) := by decide +kernel
theorem dX6_isBook_35 : decode cX6_isBook 35 = .ok (.invokevirtual 163, 3) := by decide +kernel
theorem dX6_isBook_38 : decode cX6_isBook 38 = .ok (.istore_n 3, 1) := by decide +kernel
theorem dX6_isBook_39 : decode cX6_isBook 39 = .ok (.iinc 2 1, 3) := by decide +kernel
theorem dX6_isBook_42 : decode cX6_isBook 42 = .ok (.goto (-40), 3) := by decide +kernel
theorem dX6_isBook_45 : decode cX6_isBook 45 = .ok (.iconst 1, 1) := by decide +kernel
theorem dX6_isBook_46 : decode cX6_isBook 46 = .ok (.ireturn, 1) := by decide +kernel
theorem dX6_read_0 : decode cX6_read 0 = .ok (.aload_n 0, 1) := by decide +kernel
theorem dX6_read_1 : decode cX6_read 1 = .ok (.iload_n 1, 1) := by decide +kernel
theorem dX6_read_2 : decode cX6_read 2 = .ok (.invokevirtual 318, 3) := by decide +kernel
theorem dX6_read_5 : decode cX6_read 5 = .ok (.istore_n 3, 1) := by decide +kernel
theorem dX6_read_6 : decode cX6_read 6 = .ok (.iload_n 3, 1) := by decide +kernel
theorem dX6_read_7 : decode cX6_read 7 = .ok (.ifCond .ne 16, 3) := by decide +kernel
theorem dX6_read_10 : decode cX6_read 10 = .ok (.aload_n 0, 1) := by decide +kernel
theorem dX6_read_11 : decode cX6_read 11 = .ok (.iload_n 2, 1) := by decide +kernel
theorem dX6_read_12 : decode cX6_read 12 = .ok (.invokevirtual 143, 3) := by decide +kernel
theorem dX6_read_15 : decode cX6_read 15 = .ok (.ifCond .ne 8, 3) := by decide +kernel
theorem dX6_read_18 : decode cX6_read 18 = .ok (.ldc 50, 2) := by decide +kernel
theorem dX6_read_20 : decode cX6_read 20 = .ok (.goto 4, 3) := by decide +kernel
theorem dX6_read_23 : decode cX6_read 23 = .ok (.iload_n 3, 1) := by decide +kernel
theorem dX6_read_24 : decode cX6_read 24 = .ok (.istore_n 3, 1) := by decide +kernel
theorem dX6_read_25 : decode cX6_read 25 = .ok (.iload_n 3, 1) := by decide +kernel
theorem dX6_read_26 : decode cX6_read 26 = .ok (.ifCond .eq 9, 3) := by decide +kernel
theorem dX6_read_29 : decode cX6_read 29 = .ok (.aload_n 0, 1) := by decide +kernel
theorem dX6_read_30 : decode cX6_read 30 = .ok (.iload_n 3, 1) := by decide +kernel
theorem dX6_read_31 : decode cX6_read 31 = .ok (.invokevirtual 101, 3) := by decide +kernel
theorem dX6_read_34 : decode cX6_read 34 = .ok (.ireturn, 1) := by decide +kernel
theorem dX6_read_35 : decode cX6_read 35 = .ok (.aload_n 0, 1) := by decide +kernel
theorem dX6_read_36 : decode cX6_read 36 = .ok (.invokevirtual 184, 3) := by decide +kernel
theorem dX6_read_39 : decode cX6_read 39 = .ok (.iconst 0, 1) := by decide +kernel
theorem dX6_read_40 : decode cX6_read 40 = .ok (.istore 4, 2) := by decide +kernel
theorem dX6_read_42 : decode cX6_read 42 = .ok (.iconst 0, 1) := by decide +kernel
theorem dX6_read_43 : decode cX6_read 43 = .ok (.istore 5, 2) := by decide +kernel
theorem dX6_read_45 : decode cX6_read 45 = .ok (.iload 5, 2) := by decide +kernel
theorem dX6_read_47 : decode cX6_read 47 = .ok (.aload_n 0, 1) := by decide +kernel
theorem dX6_read_48 : decode cX6_read 48 = .ok (.getfield 7, 3) := by decide +kernel
theorem dX6_read_51 : decode cX6_read 51 = .ok (.iconst 0, 1) := by decide +kernel
theorem dX6_read_52 : decode cX6_read 52 = .ok (.iaload, 1) := by decide +kernel
theorem dX6_read_53 : decode cX6_read 53 = .ok (.bipush 48, 2) := by decide +kernel
theorem dX6_read_55 : decode cX6_read 55 = .ok (.imul, 1) := by decide +kernel
theorem dX6_read_56 : decode cX6_read 56 = .ok (.if_icmp .ge 61, 3) := by decide +kernel
theorem dX6_read_59 : decode cX6_read 59 = .ok (.aload_n 0, 1) := by decide +kernel
theorem dX6_read_60 : decode cX6_read 60 = .ok (.getfield 7, 3) := by decide +kernel
theorem dX6_read_63 : decode cX6_read 63 = .ok (.iload_n 2, 1) := by decide +kernel
theorem dX6_read_64 : decode cX6_read 64 = .ok (.iconst 1, 1) := by decide +kernel
theorem dX6_read_65 : decode cX6_read 65 = .ok (.invokestatic 63, 3) := by decide +kernel
theorem dX6_read_68 : decode cX6_read 68 = .ok (.iload 5, 2) := by decide +kernel
theorem dX6_read_70 : decode cX6_read 70 = .ok (.bipush 48, 2) := by decide +kernel
theorem dX6_read_72 : decode cX6_read 72 = .ok (.idiv, 1) := by decide +kernel
theorem dX6_read_73 : decode cX6_read 73 = .ok (.iastore, 1) := by decide +kernel
theorem dX6_read_74 : decode cX6_read 74 = .ok (.aload_n 0, 1) := by decide +kernel
theorem dX6_read_75 : decode cX6_read 75 = .ok (.getfield 7, 3) := by decide +kernel
theorem dX6_read_78 : decode cX6_read 78 = .ok (.iload_n 2, 1) := by decide +kernel
theorem dX6_read_79 : decode cX6_read 79 = .ok (.iconst 0, 1) := by decide +kernel
theorem dX6_read_80 : decode cX6_read 80 = .ok (.invokestatic 63, 3) := by decide +kernel
theorem dX6_read_83 : decode cX6_read 83 = .ok (.iload 5, 2) := by decide +kernel
theorem dX6_read_85 : decode cX6_read 85 = .ok (.bipush 48, 2) := by decide +kernel
theorem dX6_read_87 : decode cX6_read 87 = .ok (.irem, 1) := by decide +kernel
theorem dX6_read_88 : decode cX6_read 88 = .ok (.iastore, 1) := by decide +kernel
theorem dX6_read_89 : decode cX6_read 89 = .ok (.aload_n 0, 1) := by decide +kernel
theorem dX6_read_90 : decode cX6_read 90 = .ok (.iload 4, 2) := by decide +kernel
theorem dX6_read_92 : decode cX6_read 92 = .ok (.aload_n 0, 1) := by decide +kernel
theorem dX6_read_93 : decode cX6_read 93 = .ok (.iload_n 1, 1) := by decide +kernel
theorem dX6_read_94 : decode cX6_read 94 = .ok (.invokevirtual 325, 3) := by decide +kernel
theorem dX6_read_97 : decode cX6_read 97 = .ok (.ifCond .eq 7, 3) := by decide +kernel
theorem dX6_read_100 : decode cX6_read 100 = .ok (.iconst 1, 1) := by decide +kernel
theorem dX6_read_101 : decode cX6_read 101 = .ok (.goto 4, 3) := by decide +kernel
theorem dX6_read_104 : decode cX6_read 104 = .ok (.iconst 0, 1) := by decide +kernel
theorem dX6_read_105 : decode cX6_read 105 = .ok (.iadd, 1) := by decide +kernel
theorem dX6_read_106 : decode cX6_read 106 = .ok (.invokevirtual 187, 3) := by decide +kernel
theorem dX6_read_109 : decode cX6_read 109 = .ok (.istore 4, 2) := by decide +kernel
theorem dX6_read_111 : decode cX6_read 111 = .ok (.iinc 5 1, 3) := by decide +kernel
theorem dX6_read_114 : decode cX6_read 114 = .ok (.goto (-69), 3) := by decide +kernel
theorem dX6_read_117 : decode cX6_read 117 = .ok (.iload 4, 2) := by decide +kernel
theorem dX6_read_119 : decode cX6_read 119 = .ok (.ireturn, 1) := by decide +kernel
theorem dX6_image_0 : decode cX6_image 0 = .ok (.iconst 0, 1) := by decide +kernel
theorem dX6_image_1 : decode cX6_image 1 = .ok (.istore_n 1, 1) := by decide +kernel
theorem dX6_image_2 : decode cX6_image 2 = .ok (.iload_n 1, 1) := by decide +kernel
theorem dX6_image_3 : decode cX6_image 3 = .ok (.bipush 100, 2) := by decide +kernel
theorem dX6_image_5 : decode cX6_image 5 = .ok (.if_icmp .ge 21, 3) := by decide +kernel
theorem dX6_image_8 : decode cX6_image 8 = .ok (.aload_n 0, 1) := by decide +kernel
theorem dX6_image_9 : decode cX6_image 9 = .ok (.getfield 13, 3) := by decide +kernel
theorem dX6_image_12 : decode cX6_image 12 = .ok (.iload_n 1, 1) := by decide +kernel
theorem dX6_image_13 : decode cX6_image 13 = .ok (.aload_n 0, 1) := by decide +kernel
theorem dX6_image_14 : decode cX6_image 14 = .ok (.getfield 7, 3) := by decide +kernel
theorem dX6_image_17 : decode cX6_image 17 = .ok (.iload_n 1, 1) := by decide +kernel
theorem dX6_image_18 : decode cX6_image 18 = .ok (.iaload, 1) := by decide +kernel
theorem dX6_image_19 : decode cX6_image 19 = .ok (.iastore, 1) := by decide +kernel
theorem dX6_image_20 : decode cX6_image 20 = .ok (.iinc 1 1, 3) := by decide +kernel
theorem dX6_image_23 : decode cX6_image 23 = .ok (.goto (-21), 3) := by decide +kernel
theorem dX6_image_26 : decode cX6_image 26 = .ok (.aload_n 0, 1) := by decide +kernel
theorem dX6_image_27 : decode cX6_image 27 = .ok (.iconst 1, 1) := by decide +kernel
theorem dX6_image_28 : decode cX6_image 28 = .ok (.putfield 328, 3) := by decide +kernel
theorem dX6_image_31 : decode cX6_image 31 = .ok (.iconst 1, 1) := by decide +kernel
theorem dX6_image_32 : decode cX6_image 32 = .ok (.ireturn, 1) := by decide +kernel
theorem dX6_undo_0 : decode cX6_undo 0 = .ok (.aload_n 0, 1) := by decide +kernel
theorem dX6_undo_1 : decode cX6_undo 1 = .ok (.getfield 328, 3) := by decide +kernel
theorem dX6_undo_4 : decode cX6_undo 4 = .ok (.ifCond .ne 10, 3) := by decide +kernel
theorem dX6_undo_7 : decode cX6_undo 7 = .ok (.aload_n 0, 1) := by decide +kernel
theorem dX6_undo_8 : decode cX6_undo 8 = .ok (.ldc 162, 2) := by decide +kernel
theorem dX6_undo_10 : decode cX6_undo 10 = .ok (.invokevirtual 101, 3) := by decide +kernel
theorem dX6_undo_13 : decode cX6_undo 13 = .ok (.ireturn, 1) := by decide +kernel
theorem dX6_undo_14 : decode cX6_undo 14 = .ok (.iconst 0, 1) := by decide +kernel
theorem dX6_undo_15 : decode cX6_undo 15 = .ok (.istore_n 1, 1) := by decide +kernel
theorem dX6_undo_16 : decode cX6_undo 16 = .ok (.iload_n 1, 1) := by decide +kernel
theorem dX6_undo_17 : decode cX6_undo 17 = .ok (.bipush 100, 2) := by decide +kernel
theorem dX6_undo_19 : decode cX6_undo 19 = .ok (.if_icmp .ge 21, 3) := by decide +kernel
theorem dX6_undo_22 : decode cX6_undo 22 = .ok (.aload_n 0, 1) := by decide +kernel
theorem dX6_undo_23 : decode cX6_undo 23 = .ok (.getfield 7, 3) := by decide +kernel
theorem dX6_undo_26 : decode cX6_undo 26 = .ok (.iload_n 1, 1) := by decide +kernel
theorem dX6_undo_27 : decode cX6_undo 27 = .ok (.aload_n 0, 1) := by decide +kernel
theorem dX6_undo_28 : decode cX6_undo 28 = .ok (.getfield 13, 3) := by decide +kernel
theorem dX6_undo_31 : decode cX6_undo 31 = .ok (.iload_n 1, 1) := by decide +kernel
theorem dX6_undo_32 : decode cX6_undo 32 = .ok (.iaload, 1) := by decide +kernel
theorem dX6_undo_33 : decode cX6_undo 33 = .ok (.iastore, 1) := by decide +kernel
theorem dX6_undo_34 : decode cX6_undo 34 = .ok (.iinc 1 1, 3) := by decide +kernel
theorem dX6_undo_37 : decode cX6_undo 37 = .ok (.goto (-21), 3) := by decide +kernel
theorem dX6_undo_40 : decode cX6_undo 40 = .ok (.aload_n 0, 1) := by decide +kernel
theorem dX6_undo_41 : decode cX6_undo 41 = .ok (.getfield 7, 3) := by decide +kernel
theorem dX6_undo_44 : decode cX6_undo 44 = .ok (.iconst 0, 1) := by decide +kernel
theorem dX6_undo_45 : decode cX6_undo 45 = .ok (.iaload, 1) := by decide +kernel
theorem dX6_undo_46 : decode cX6_undo 46 = .ok (.ireturn, 1) := by decide +kernel
theorem dX6_tear_0 : decode cX6_tear 0 = .ok (.aload_n 0, 1) := by decide +kernel
theorem dX6_tear_1 : decode cX6_tear 1 = .ok (.getfield 328, 3) := by decide +kernel
theorem dX6_tear_4 : decode cX6_tear 4 = .ok (.ifCond .eq 7, 3) := by decide +kernel
theorem dX6_tear_7 : decode cX6_tear 7 = .ok (.iconst 1, 1) := by decide +kernel
theorem dX6_tear_8 : decode cX6_tear 8 = .ok (.goto 4, 3) := by decide +kernel
theorem dX6_tear_11 : decode cX6_tear 11 = .ok (.iconst 0, 1) := by decide +kernel
theorem dX6_tear_12 : decode cX6_tear 12 = .ok (.istore_n 1, 1) := by decide +kernel
theorem dX6_tear_13 : decode cX6_tear 13 = .ok (.aload_n 0, 1) := by decide +kernel
theorem dX6_tear_14 : decode cX6_tear 14 = .ok (.iconst 0, 1) := by decide +kernel
theorem dX6_tear_15 : decode cX6_tear 15 = .ok (.putfield 328, 3) := by decide +kernel
theorem dX6_tear_18 : decode cX6_tear 18 = .ok (.iload_n 1, 1) := by decide +kernel
theorem dX6_tear_19 : decode cX6_tear 19 = .ok (.ireturn, 1) := by decide +kernel
theorem dX6_tempers_0 : decode cX6_tempers 0 = .ok (.iconst 0, 1) := by decide +kernel
theorem dX6_tempers_1 : decode cX6_tempers 1 = .ok (.istore_n 1, 1) := by decide +kernel
theorem dX6_tempers_2 : decode cX6_tempers 2 = .ok (.iconst 0, 1) := by decide +kernel
theorem dX6_tempers_3 : decode cX6_tempers 3 = .ok (.istore_n 2, 1) := by decide +kernel
theorem dX6_tempers_4 : decode cX6_tempers 4 = .ok (.iload_n 2, 1) := by decide +kernel
theorem dX6_tempers_5 : decode cX6_tempers 5 = .ok (.aload_n 0, 1) := by decide +kernel
theorem dX6_tempers_6 : decode cX6_tempers 6 = .ok (.getfield 7, 3) := by decide +kernel
theorem dX6_tempers_9 : decode cX6_tempers 9 = .ok (.iconst 0, 1) := by decide +kernel
theorem dX6_tempers_10 : decode cX6_tempers 10 = .ok (.iaload, 1) := by decide +kernel
theorem dX6_tempers_11 : decode cX6_tempers 11 = .ok (.if_icmp .ge 18, 3) := by decide +kernel
theorem dX6_tempers_14 : decode cX6_tempers 14 = .ok (.iload_n 1, 1) := by decide +kernel
theorem dX6_tempers_15 : decode cX6_tempers 15 = .ok (.aload_n 0, 1) := by decide +kernel
theorem dX6_tempers_16 : decode cX6_tempers 16 = .ok (.iload_n 2, 1) := by decide +kernel
theorem dX6_tempers_17 : decode cX6_tempers 17 = .ok (.iconst 1, 1) := by decide +kernel
theorem dX6_tempers_18 : decode cX6_tempers 18 = .ok (.invokevirtual 73, 3) := by decide +kernel
theorem dX6_tempers_21 : decode cX6_tempers 21 = .ok (.iadd, 1) := by decide +kernel
theorem dX6_tempers_22 : decode cX6_tempers 22 = .ok (.istore_n 1, 1) := by decide +kernel
theorem dX6_tempers_23 : decode cX6_tempers 23 = .ok (.iinc 2 1, 3) := by decide +kernel
theorem dX6_tempers_26 : decode cX6_tempers 26 = .ok (.goto (-22), 3) := by decide +kernel
theorem dX6_tempers_29 : decode cX6_tempers 29 = .ok (.iload_n 1, 1) := by decide +kernel
theorem dX6_tempers_30 : decode cX6_tempers 30 = .ok (.ireturn, 1) := by decide +kernel
theorem dX6_count_0 : decode cX6_count 0 = .ok (.iload_n 1, 1) := by decide +kernel
theorem dX6_count_1 : decode cX6_count 1 = .ok (.tableswitch 55 0 3 #[31, 38, 43, 50], 31) := by decide +kernel
theorem dX6_count_32 : decode cX6_count 32 = .ok (.aload_n 0, 1) := by decide +kernel
theorem dX6_count_33 : decode cX6_count 33 = .ok (.getfield 7, 3) := by decide +kernel
theorem dX6_count_36 : decode cX6_count 36 = .ok (.iconst 0, 1) := by decide +kernel
theorem dX6_count_37 : decode cX6_count 37 = .ok (.iaload, 1) := by decide +kernel
theorem dX6_count_38 : decode cX6_count 38 = .ok (.ireturn, 1) := by decide +kernel
theorem dX6_count_39 : decode cX6_count 39 = .ok (.aload_n 0, 1) := by decide +kernel
theorem dX6_count_40 : decode cX6_count 40 = .ok (.getfield 211, 3) := by decide +kernel
theorem dX6_count_43 : decode cX6_count 43 = .ok (.ireturn, 1) := by decide +kernel
theorem dX6_count_44 : decode cX6_count 44 = .ok (.aload_n 0, 1) := by decide +kernel
theorem dX6_count_45 : decode cX6_count 45 = .ok (.getfield 7, 3) := by decide +kernel
theorem dX6_count_48 : decode cX6_count 48 = .ok (.iconst 1, 1) := by decide +kernel
theorem dX6_count_49 : decode cX6_count 49 = .ok (.iaload, 1) := by decide +kernel
theorem dX6_count_50 : decode cX6_count 50 = .ok (.ireturn, 1) := by decide +kernel
theorem dX6_count_51 : decode cX6_count 51 = .ok (.aload_n 0, 1) := by decide +kernel
theorem dX6_count_52 : decode cX6_count 52 = .ok (.invokevirtual 331, 3) := by decide +kernel
theorem dX6_count_55 : decode cX6_count 55 = .ok (.ireturn, 1) := by decide +kernel
theorem dX6_count_56 : decode cX6_count 56 = .ok (.aload_n 0, 1) := by decide +kernel
theorem dX6_count_57 : decode cX6_count 57 = .ok (.ldc 50, 2) := by decide +kernel
theorem dX6_count_59 : decode cX6_count 59 = .ok (.invokevirtual 101, 3) := by decide +kernel
theorem dX6_count_62 : decode cX6_count 62 = .ok (.ireturn, 1) := by decide +kernel
theorem dX6_status_0 : decode cX6_status 0 = .ok (.iload_n 1, 1) := by decide +kernel
theorem dX6_status_1 : decode cX6_status 1 = .ok (.i2l, 1) := by decide +kernel
theorem dX6_status_2 : decode cX6_status 2 = .ok (.ldc2_w 334, 3) := by decide +kernel
theorem dX6_status_5 : decode cX6_status 5 = .ok (.ldc2_w 336, 3) := by decide +kernel
theorem dX6_status_8 : decode cX6_status 8 = .ok (.invokestatic 53, 3) := by decide +kernel
theorem dX6_status_11 : decode cX6_status 11 = .ok (.ifCond .ne 10, 3) := by decide +kernel
theorem dX6_status_14 : decode cX6_status 14 = .ok (.aload_n 0, 1) := by decide +kernel
theorem dX6_status_15 : decode cX6_status 15 = .ok (.ldc 50, 2) := by decide +kernel
theorem dX6_status_17 : decode cX6_status 17 = .ok (.invokevirtual 101, 3) := by decide +kernel
theorem dX6_status_20 : decode cX6_status 20 = .ok (.ireturn, 1) := by decide +kernel
theorem dX6_status_21 : decode cX6_status 21 = .ok (.iconst 0, 1) := by decide +kernel
theorem dX6_status_22 : decode cX6_status 22 = .ok (.istore_n 2, 1) := by decide +kernel
theorem dX6_status_23 : decode cX6_status 23 = .ok (.iconst 0, 1) := by decide +kernel
theorem dX6_status_24 : decode cX6_status 24 = .ok (.istore_n 3, 1) := by decide +kernel
theorem dX6_status_25 : decode cX6_status 25 = .ok (.iload_n 3, 1) := by decide +kernel
theorem dX6_status_26 : decode cX6_status 26 = .ok (.bipush 7, 2) := by decide +kernel
theorem dX6_status_28 : decode cX6_status 28 = .ok (.if_icmp .ge 31, 3) := by decide +kernel
theorem dX6_status_31 : decode cX6_status 31 = .ok (.iload_n 2, 1) := by decide +kernel
theorem dX6_status_32 : decode cX6_status 32 = .ok (.iload_n 1, 1) := by decide +kernel
theorem dX6_status_33 : decode cX6_status 33 = .ok (.ifCond .lt 8, 3) := by decide +kernel
theorem dX6_status_36 : decode cX6_status 36 = .ok (.iload_n 3, 1) := by decide +kernel
theorem dX6_status_37 : decode cX6_status 37 = .ok (.iload_n 1, 1) := by decide +kernel
theorem dX6_status_38 : decode cX6_status 38 = .ok (.if_icmp .ne 12, 3) := by decide +kernel
theorem dX6_status_41 : decode cX6_status 41 = .ok (.aload_n 0, 1) := by decide +kernel
theorem dX6_status_42 : decode cX6_status 42 = .ok (.getfield 22, 3) := by decide +kernel
theorem dX6_status_45 : decode cX6_status 45 = .ok (.iload_n 3, 1) := by decide +kernel
theorem dX6_status_46 : decode cX6_status 46 = .ok (.iaload, 1) := by decide +kernel
theorem dX6_status_47 : decode cX6_status 47 = .ok (.goto 4, 3) := by decide +kernel
theorem dX6_status_50 : decode cX6_status 50 = .ok (.iconst 0, 1) := by decide +kernel
theorem dX6_status_51 : decode cX6_status 51 = .ok (.iadd, 1) := by decide +kernel
theorem dX6_status_52 : decode cX6_status 52 = .ok (.istore_n 2, 1) := by decide +kernel
theorem dX6_status_53 : decode cX6_status 53 = .ok (.iinc 3 1, 3) := by decide +kernel
theorem dX6_status_56 : decode cX6_status 56 = .ok (.goto (-31), 3) := by decide +kernel
theorem dX6_status_59 : decode cX6_status 59 = .ok (.iload_n 2, 1) := by decide +kernel
theorem dX6_status_60 : decode cX6_status 60 = .ok (.ireturn, 1) := by decide +kernel
end
section
theorem dL_law_0 : decode cL_law 0 = .ok (.new 7, 3) := by decide +kernel
theorem dL_law_3 : decode cL_law 3 = .ok (.dup, 1) := by decide +kernel
theorem dL_law_4 : decode cL_law 4 = .ok (.invokespecial 9, 3) := by decide +kernel
theorem dL_law_7 : decode cL_law 7 = .ok (.astore_n 1, 1) := by decide +kernel
theorem dL_law_8 : decode cL_law 8 = .ok (.new 10, 3) := by decide +kernel
theorem dL_law_11 : decode cL_law 11 = .ok (.dup, 1) := by decide +kernel
theorem dL_law_12 : decode cL_law 12 = .ok (.invokespecial 12, 3) := by decide +kernel
theorem dL_law_15 : decode cL_law 15 = .ok (.astore_n 2, 1) := by decide +kernel
theorem dL_law_16 : decode cL_law 16 = .ok (.iconst 0, 1) := by decide +kernel
theorem dL_law_17 : decode cL_law 17 = .ok (.istore_n 3, 1) := by decide +kernel
theorem dL_law_18 : decode cL_law 18 = .ok (.iload_n 3, 1) := by decide +kernel
theorem dL_law_19 : decode cL_law 19 = .ok (.aload_n 0, 1) := by decide +kernel
theorem dL_law_20 : decode cL_law 20 = .ok (.arraylength, 1) := by decide +kernel
theorem dL_law_21 : decode cL_law 21 = .ok (.bipush 6, 2) := by decide +kernel
theorem dL_law_23 : decode cL_law 23 = .ok (.isub, 1) := by decide +kernel
theorem dL_law_24 : decode cL_law 24 = .ok (.if_icmp .gt 1351, 3) := by decide +kernel
theorem dL_law_27 : decode cL_law 27 = .ok (.aload_n 0, 1) := by decide +kernel
theorem dL_law_28 : decode cL_law 28 = .ok (.iload_n 3, 1) := by decide +kernel
theorem dL_law_29 : decode cL_law 29 = .ok (.iaload, 1) := by decide +kernel
theorem dL_law_30 : decode cL_law 30 = .ok (.bipush 63, 2) := by decide +kernel
theorem dL_law_32 : decode cL_law 32 = .ok (.iand, 1) := by decide +kernel
theorem dL_law_33 : decode cL_law 33 = .ok (.tableswitch 1336 0 39 #[175, 208, 241, 264, 287, 320, 363, 396, 429, 462, 495, 538, 571, 584, 607, 630, 663, 686, 709, 742, 775, 808, 841, 864, 887, 910, 933, 966, 979, 992, 1035, 1109, 1172, 1195, 1218, 1251, 1264, 1277, 1290, 1313], 175) := by decide +kernel
theorem dL_law_208 : decode cL_law 208 = .ok (.aload_n 1, 1) := by decide +kernel
theorem dL_law_209 : decode cL_law 209 = .ok (.aload_n 0, 1) := by decide +kernel
theorem dL_law_210 : decode cL_law 210 = .ok (.iload_n 3, 1) := by decide +kernel
theorem dL_law_211 : decode cL_law 211 = .ok (.iconst 1, 1) := by decide +kernel
theorem dL_law_212 : decode cL_law 212 = .ok (.iadd, 1) := by decide +kernel
theorem dL_law_213 : decode cL_law 213 = .ok (.iaload, 1) := by decide +kernel
theorem dL_law_214 : decode cL_law 214 = .ok (.aload_n 0, 1) := by decide +kernel
theorem dL_law_215 : decode cL_law 215 = .ok (.iload_n 3, 1) := by decide +kernel
theorem dL_law_216 : decode cL_law 216 = .ok (.iconst 2, 1) := by decide +kernel
theorem dL_law_217 : decode cL_law 217 = .ok (.iadd, 1) := by decide +kernel
theorem dL_law_218 : decode cL_law 218 = .ok (.iaload, 1) := by decide +kernel
theorem dL_law_219 : decode cL_law 219 = .ok (.invokevirtual 13, 3) := by decide +kernel
theorem dL_law_222 : decode cL_law 222 = .ok (.aload_n 2, 1) := by decide +kernel
theorem dL_law_223 : decode cL_law 223 = .ok (.aload_n 0, 1) := by decide +kernel
theorem dL_law_224 : decode cL_law 224 = .ok (.iload_n 3, 1) := by decide +kernel
theorem dL_law_225 : decode cL_law 225 = .ok (.iconst 1, 1) := by decide +kernel
theorem dL_law_226 : decode cL_law 226 = .ok (.iadd, 1) := by decide +kernel
theorem dL_law_227 : decode cL_law 227 = .ok (.iaload, 1) := by decide +kernel
theorem dL_law_228 : decode cL_law 228 = .ok (.aload_n 0, 1) := by decide +kernel
theorem dL_law_229 : decode cL_law 229 = .ok (.iload_n 3, 1) := by decide +kernel
theorem dL_law_230 : decode cL_law 230 = .ok (.iconst 2, 1) := by decide +kernel
theorem dL_law_231 : decode cL_law 231 = .ok (.iadd, 1) := by decide +kernel
theorem dL_law_232 : decode cL_law 232 = .ok (.iaload, 1) := by decide +kernel
theorem dL_law_233 : decode cL_law 233 = .ok (.invokevirtual 17, 3) := by decide +kernel
theorem dL_law_236 : decode cL_law 236 = .ok (.if_icmp .eq 1133, 3) := by decide +kernel
theorem dL_law_239 : decode cL_law 239 = .ok (.iconst 0, 1) := by decide +kernel
theorem dL_law_240 : decode cL_law 240 = .ok (.ireturn, 1) := by decide +kernel
theorem dL_law_241 : decode cL_law 241 = .ok (.aload_n 1, 1) := by decide +kernel
theorem dL_law_242 : decode cL_law 242 = .ok (.aload_n 0, 1) := by decide +kernel
theorem dL_law_243 : decode cL_law 243 = .ok (.iload_n 3, 1) := by decide +kernel
theorem dL_law_244 : decode cL_law 244 = .ok (.iconst 1, 1) := by decide +kernel
theorem dL_law_245 : decode cL_law 245 = .ok (.iadd, 1) := by decide +kernel
theorem dL_law_246 : decode cL_law 246 = .ok (.iaload, 1) := by decide +kernel
theorem dL_law_247 : decode cL_law 247 = .ok (.aload_n 0, 1) := by decide +kernel
theorem dL_law_248 : decode cL_law 248 = .ok (.iload_n 3, 1) := by decide +kernel
theorem dL_law_249 : decode cL_law 249 = .ok (.iconst 2, 1) := by decide +kernel
theorem dL_law_250 : decode cL_law 250 = .ok (.iadd, 1) := by decide +kernel
theorem dL_law_251 : decode cL_law 251 = .ok (.iaload, 1) := by decide +kernel
theorem dL_law_252 : decode cL_law 252 = .ok (.invokevirtual 18, 3) := by decide +kernel
theorem dL_law_255 : decode cL_law 255 = .ok (.aload_n 2, 1) := by decide +kernel
theorem dL_law_256 : decode cL_law 256 = .ok (.aload_n 0, 1) := by decide +kernel
theorem dL_law_257 : decode cL_law 257 = .ok (.iload_n 3, 1) := by decide +kernel
theorem dL_law_258 : decode cL_law 258 = .ok (.iconst 1, 1) := by decide +kernel
theorem dL_law_259 : decode cL_law 259 = .ok (.iadd, 1) := by decide +kernel
theorem dL_law_260 : decode cL_law 260 = .ok (.iaload, 1) := by decide +kernel
theorem dL_law_261 : decode cL_law 261 = .ok (.aload_n 0, 1) := by decide +kernel
theorem dL_law_262 : decode cL_law 262 = .ok (.iload_n 3, 1) := by decide +kernel
theorem dL_law_263 : decode cL_law 263 = .ok (.iconst 2, 1) := by decide +kernel
theorem dL_law_264 : decode cL_law 264 = .ok (.iadd, 1) := by decide +kernel
theorem dL_law_265 : decode cL_law 265 = .ok (.iaload, 1) := by decide +kernel
theorem dL_law_266 : decode cL_law 266 = .ok (.invokevirtual 21, 3) := by decide +kernel
theorem dL_law_269 : decode cL_law 269 = .ok (.if_icmp .eq 1100, 3) := by decide +kernel
theorem dL_law_272 : decode cL_law 272 = .ok (.iconst 0, 1) := by decide +kernel
theorem dL_law_273 : decode cL_law 273 = .ok (.ireturn, 1) := by decide +kernel
theorem dL_law_274 : decode cL_law 274 = .ok (.aload_n 1, 1) := by decide +kernel
theorem dL_law_275 : decode cL_law 275 = .ok (.aload_n 0, 1) := by decide +kernel
theorem dL_law_276 : decode cL_law 276 = .ok (.iload_n 3, 1) := by decide +kernel
theorem dL_law_277 : decode cL_law 277 = .ok (.iconst 1, 1) := by decide +kernel
theorem dL_law_278 : decode cL_law 278 = .ok (.iadd, 1) := by decide +kernel
theorem dL_law_279 : decode cL_law 279 = .ok (.iaload, 1) := by decide +kernel
theorem dL_law_280 : decode cL_law 280 = .ok (.invokevirtual 22, 3) := by decide +kernel
theorem dL_law_283 : decode cL_law 283 = .ok (.aload_n 2, 1) := by decide +kernel
theorem dL_law_284 : decode cL_law 284 = .ok (.aload_n 0, 1) := by decide +kernel
theorem dL_law_285 : decode cL_law 285 = .ok (.iload_n 3, 1) := by decide +kernel
theorem dL_law_286 : decode cL_law 286 = .ok (.iconst 1, 1) := by decide +kernel
theorem dL_law_287 : decode cL_law 287 = .ok (.iadd, 1) := by decide +kernel
theorem dL_law_288 : decode cL_law 288 = .ok (.iaload, 1) := by decide +kernel
theorem dL_law_289 : decode cL_law 289 = .ok (.invokevirtual 26, 3) := by decide +kernel
theorem dL_law_292 : decode cL_law 292 = .ok (.if_icmp .eq 1077, 3) := by decide +kernel
theorem dL_law_295 : decode cL_law 295 = .ok (.iconst 0, 1) := by decide +kernel
theorem dL_law_296 : decode cL_law 296 = .ok (.ireturn, 1) := by decide +kernel
theorem dL_law_297 : decode cL_law 297 = .ok (.aload_n 1, 1) := by decide +kernel
theorem dL_law_298 : decode cL_law 298 = .ok (.aload_n 0, 1) := by decide +kernel
theorem dL_law_299 : decode cL_law 299 = .ok (.iload_n 3, 1) := by decide +kernel
theorem dL_law_300 : decode cL_law 300 = .ok (.iconst 1, 1) := by decide +kernel
theorem dL_law_301 : decode cL_law 301 = .ok (.iadd, 1) := by decide +kernel
theorem dL_law_302 : decode cL_law 302 = .ok (.iaload, 1) := by decide +kernel
theorem dL_law_303 : decode cL_law 303 = .ok (.invokevirtual 27, 3) := by decide +kernel
theorem dL_law_306 : decode cL_law 306 = .ok (.aload_n 2, 1) := by decide +kernel
theorem dL_law_307 : decode cL_law 307 = .ok (.aload_n 0, 1) := by decide +kernel
theorem dL_law_308 : decode cL_law 308 = .ok (.iload_n 3, 1) := by decide +kernel
theorem dL_law_309 : decode cL_law 309 = .ok (.iconst 1, 1) := by decide +kernel
theorem dL_law_310 : decode cL_law 310 = .ok (.iadd, 1) := by decide +kernel
theorem dL_law_311 : decode cL_law 311 = .ok (.iaload, 1) := by decide +kernel
theorem dL_law_312 : decode cL_law 312 = .ok (.invokevirtual 30, 3) := by decide +kernel
theorem dL_law_315 : decode cL_law 315 = .ok (.if_icmp .eq 1054, 3) := by decide +kernel
theorem dL_law_318 : decode cL_law 318 = .ok (.iconst 0, 1) := by decide +kernel
theorem dL_law_319 : decode cL_law 319 = .ok (.ireturn, 1) := by decide +kernel
theorem dL_law_320 : decode cL_law 320 = .ok (.aload_n 1, 1) := by decide +kernel
theorem dL_law_321 : decode cL_law 321 = .ok (.aload_n 0, 1) := by decide +kernel
theorem dL_law_322 : decode cL_law 322 = .ok (.iload_n 3, 1) := by decide +kernel
theorem dL_law_323 : decode cL_law 323 = .ok (.iconst 1, 1) := by decide +kernel
theorem dL_law_324 : decode cL_law 324 = .ok (.iadd, 1) := by decide +kernel
theorem dL_law_325 : decode cL_law 325 = .ok (.iaload, 1) := by decide +kernel
theorem dL_law_326 : decode cL_law 326 = .ok (.aload_n 0, 1) := by decide +kernel
theorem dL_law_327 : decode cL_law 327 = .ok (.iload_n 3, 1) := by decide +kernel
theorem dL_law_328 : decode cL_law 328 = .ok (.iconst 2, 1) := by decide +kernel
theorem dL_law_329 : decode cL_law 329 = .ok (.iadd, 1) := by decide +kernel
theorem dL_law_330 : decode cL_law 330 = .ok (.iaload, 1) := by decide +kernel
theorem dL_law_331 : decode cL_law 331 = .ok (.invokevirtual 31, 3) := by decide +kernel
theorem dL_law_334 : decode cL_law 334 = .ok (.aload_n 2, 1) := by decide +kernel
theorem dL_law_335 : decode cL_law 335 = .ok (.aload_n 0, 1) := by decide +kernel
theorem dL_law_336 : decode cL_law 336 = .ok (.iload_n 3, 1) := by decide +kernel
theorem dL_law_337 : decode cL_law 337 = .ok (.iconst 1, 1) := by decide +kernel
theorem dL_law_338 : decode cL_law 338 = .ok (.iadd, 1) := by decide +kernel
theorem dL_law_339 : decode cL_law 339 = .ok (.iaload, 1) := by decide +kernel
theorem dL_law_340 : decode cL_law 340 = .ok (.aload_n 0, 1) := by decide +kernel
theorem dL_law_341 : decode cL_law 341 = .ok (.iload_n 3, 1) := by decide +kernel
theorem dL_law_342 : decode cL_law 342 = .ok (.iconst 2, 1) := by decide +kernel
theorem dL_law_343 : decode cL_law 343 = .ok (.iadd, 1) := by decide +kernel
theorem dL_law_344 : decode cL_law 344 = .ok (.iaload, 1) := by decide +kernel
theorem dL_law_345 : decode cL_law 345 = .ok (.invokevirtual 34, 3) := by decide +kernel
theorem dL_law_348 : decode cL_law 348 = .ok (.if_icmp .eq 1021, 3) := by decide +kernel
theorem dL_law_351 : decode cL_law 351 = .ok (.iconst 0, 1) := by decide +kernel
theorem dL_law_352 : decode cL_law 352 = .ok (.ireturn, 1) := by decide +kernel
theorem dL_law_353 : decode cL_law 353 = .ok (.aload_n 1, 1) := by decide +kernel
theorem dL_law_354 : decode cL_law 354 = .ok (.aload_n 0, 1) := by decide +kernel
theorem dL_law_355 : decode cL_law 355 = .ok (.iload_n 3, 1) := by decide +kernel
theorem dL_law_356 : decode cL_law 356 = .ok (.iconst 1, 1) := by decide +kernel
theorem dL_law_357 : decode cL_law 357 = .ok (.iadd, 1) := by decide +kernel
theorem dL_law_358 : decode cL_law 358 = .ok (.iaload, 1) := by decide +kernel
theorem dL_law_359 : decode cL_law 359 = .ok (.aload_n 0, 1) := by decide +kernel
theorem dL_law_360 : decode cL_law 360 = .ok (.iload_n 3, 1) := by decide +kernel
theorem dL_law_361 : decode cL_law 361 = .ok (.iconst 2, 1) := by decide +kernel
theorem dL_law_362 : decode cL_law 362 = .ok (.iadd, 1) := by decide +kernel
theorem dL_law_363 : decode cL_law 363 = .ok (.iaload, 1) := by decide +kernel
theorem dL_law_364 : decode cL_law 364 = .ok (.aload_n 0, 1) := by decide +kernel
theorem dL_law_365 : decode cL_law 365 = .ok (.iload_n 3, 1) := by decide +kernel
theorem dL_law_366 : decode cL_law 366 = .ok (.iconst 3, 1) := by decide +kernel
theorem dL_law_367 : decode cL_law 367 = .ok (.iadd, 1) := by decide +kernel
theorem dL_law_368 : decode cL_law 368 = .ok (.iaload, 1) := by decide +kernel
theorem dL_law_369 : decode cL_law 369 = .ok (.invokevirtual 35, 3) := by decide +kernel
theorem dL_law_372 : decode cL_law 372 = .ok (.aload_n 2, 1) := by decide +kernel
theorem dL_law_373 : decode cL_law 373 = .ok (.aload_n 0, 1) := by decide +kernel
theorem dL_law_374 : decode cL_law 374 = .ok (.iload_n 3, 1) := by decide +kernel
theorem dL_law_375 : decode cL_law 375 = .ok (.iconst 1, 1) := by decide +kernel
theorem dL_law_376 : decode cL_law 376 = .ok (.iadd, 1) := by decide +kernel
theorem dL_law_377 : decode cL_law 377 = .ok (.iaload, 1) := by decide +kernel
theorem dL_law_378 : decode cL_law 378 = .ok (.aload_n 0, 1) := by decide +kernel
theorem dL_law_379 : decode cL_law 379 = .ok (.iload_n 3, 1) := by decide +kernel
theorem dL_law_380 : decode cL_law 380 = .ok (.iconst 2, 1) := by decide +kernel
theorem dL_law_381 : decode cL_law 381 = .ok (.iadd, 1) := by decide +kernel
theorem dL_law_382 : decode cL_law 382 = .ok (.iaload, 1) := by decide +kernel
theorem dL_law_383 : decode cL_law 383 = .ok (.aload_n 0, 1) := by decide +kernel
theorem dL_law_384 : decode cL_law 384 = .ok (.iload_n 3, 1) := by decide +kernel
theorem dL_law_385 : decode cL_law 385 = .ok (.iconst 3, 1) := by decide +kernel
theorem dL_law_386 : decode cL_law 386 = .ok (.iadd, 1) := by decide +kernel
theorem dL_law_387 : decode cL_law 387 = .ok (.iaload, 1) := by decide +kernel
theorem dL_law_388 : decode cL_law 388 = .ok (.invokevirtual 39, 3) := by decide +kernel
theorem dL_law_391 : decode cL_law 391 = .ok (.if_icmp .eq 978, 3) := by decide +kernel
theorem dL_law_394 : decode cL_law 394 = .ok (.iconst 0, 1) := by decide +kernel
theorem dL_law_395 : decode cL_law 395 = .ok (.ireturn, 1) := by decide +kernel
theorem dL_law_396 : decode cL_law 396 = .ok (.aload_n 1, 1) := by decide +kernel
theorem dL_law_397 : decode cL_law 397 = .ok (.aload_n 0, 1) := by decide +kernel
theorem dL_law_398 : decode cL_law 398 = .ok (.iload_n 3, 1) := by decide +kernel
theorem dL_law_399 : decode cL_law 399 = .ok (.iconst 1, 1) := by decide +kernel
theorem dL_law_400 : decode cL_law 400 = .ok (.iadd, 1) := by decide +kernel
theorem dL_law_401 : decode cL_law 401 = .ok (.iaload, 1) := by decide +kernel
theorem dL_law_402 : decode cL_law 402 = .ok (.aload_n 0, 1) := by decide +kernel
theorem dL_law_403 : decode cL_law 403 = .ok (.iload_n 3, 1) := by decide +kernel
theorem dL_law_404 : decode cL_law 404 = .ok (.iconst 2, 1) := by decide +kernel
theorem dL_law_405 : decode cL_law 405 = .ok (.iadd, 1) := by decide +kernel
theorem dL_law_406 : decode cL_law 406 = .ok (.iaload, 1) := by decide +kernel
theorem dL_law_407 : decode cL_law 407 = .ok (.invokevirtual 40, 3) := by decide +kernel
theorem dL_law_410 : decode cL_law 410 = .ok (.aload_n 2, 1) := by decide +kernel
theorem dL_law_411 : decode cL_law 411 = .ok (.aload_n 0, 1) := by decide +kernel
theorem dL_law_412 : decode cL_law 412 = .ok (.iload_n 3, 1) := by decide +kernel
theorem dL_law_413 : decode cL_law 413 = .ok (.iconst 1, 1) := by decide +kernel
theorem dL_law_414 : decode cL_law 414 = .ok (.iadd, 1) := by decide +kernel
theorem dL_law_415 : decode cL_law 415 = .ok (.iaload, 1) := by decide +kernel
theorem dL_law_416 : decode cL_law 416 = .ok (.aload_n 0, 1) := by decide +kernel
theorem dL_law_417 : decode cL_law 417 = .ok (.iload_n 3, 1) := by decide +kernel
theorem dL_law_418 : decode cL_law 418 = .ok (.iconst 2, 1) := by decide +kernel
theorem dL_law_419 : decode cL_law 419 = .ok (.iadd, 1) := by decide +kernel
theorem dL_law_420 : decode cL_law 420 = .ok (.iaload, 1) := by decide +kernel
theorem dL_law_421 : decode cL_law 421 = .ok (.invokevirtual 43, 3) := by decide +kernel
theorem dL_law_424 : decode cL_law 424 = .ok (.if_icmp .eq 945, 3) := by decide +kernel
theorem dL_law_427 : decode cL_law 427 = .ok (.iconst 0, 1) := by decide +kernel
theorem dL_law_428 : decode cL_law 428 = .ok (.ireturn, 1) := by decide +kernel
theorem dL_law_429 : decode cL_law 429 = .ok (.aload_n 1, 1) := by decide +kernel
theorem dL_law_430 : decode cL_law 430 = .ok (.aload_n 0, 1) := by decide +kernel
theorem dL_law_431 : decode cL_law 431 = .ok (.iload_n 3, 1) := by decide +kernel
theorem dL_law_432 : decode cL_law 432 = .ok (.iconst 1, 1) := by decide +kernel
theorem dL_law_433 : decode cL_law 433 = .ok (.iadd, 1) := by decide +kernel
theorem dL_law_434 : decode cL_law 434 = .ok (.iaload, 1) := by decide +kernel
theorem dL_law_435 : decode cL_law 435 = .ok (.aload_n 0, 1) := by decide +kernel
theorem dL_law_436 : decode cL_law 436 = .ok (.iload_n 3, 1) := by decide +kernel
theorem dL_law_437 : decode cL_law 437 = .ok (.iconst 2, 1) := by decide +kernel
theorem dL_law_438 : decode cL_law 438 = .ok (.iadd, 1) := by decide +kernel
theorem dL_law_439 : decode cL_law 439 = .ok (.iaload, 1) := by decide +kernel
theorem dL_law_440 : decode cL_law 440 = .ok (.invokevirtual 44, 3) := by decide +kernel
theorem dL_law_443 : decode cL_law 443 = .ok (.aload_n 2, 1) := by decide +kernel
theorem dL_law_444 : decode cL_law 444 = .ok (.aload_n 0, 1) := by decide +kernel
theorem dL_law_445 : decode cL_law 445 = .ok (.iload_n 3, 1) := by decide +kernel
theorem dL_law_446 : decode cL_law 446 = .ok (.iconst 1, 1) := by decide +kernel
theorem dL_law_447 : decode cL_law 447 = .ok (.iadd, 1) := by decide +kernel
theorem dL_law_448 : decode cL_law 448 = .ok (.iaload, 1) := by decide +kernel
theorem dL_law_449 : decode cL_law 449 = .ok (.aload_n 0, 1) := by decide +kernel
theorem dL_law_450 : decode cL_law 450 = .ok (.iload_n 3, 1) := by decide +kernel
theorem dL_law_451 : decode cL_law 451 = .ok (.iconst 2, 1) := by decide +kernel
theorem dL_law_452 : decode cL_law 452 = .ok (.iadd, 1) := by decide +kernel
theorem dL_law_453 : decode cL_law 453 = .ok (.iaload, 1) := by decide +kernel
theorem dL_law_454 : decode cL_law 454 = .ok (.invokevirtual 47, 3) := by decide +kernel
theorem dL_law_457 : decode cL_law 457 = .ok (.if_icmp .eq 912, 3) := by decide +kernel
theorem dL_law_460 : decode cL_law 460 = .ok (.iconst 0, 1) := by decide +kernel
theorem dL_law_461 : decode cL_law 461 = .ok (.ireturn, 1) := by decide +kernel
theorem dL_law_462 : decode cL_law 462 = .ok (.aload_n 1, 1) := by decide +kernel
theorem dL_law_463 : decode cL_law 463 = .ok (.aload_n 0, 1) := by decide +kernel
theorem dL_law_464 : decode cL_law 464 = .ok (.iload_n 3, 1) := by decide +kernel
theorem dL_law_465 : decode cL_law 465 = .ok (.iconst 1, 1) := by decide +kernel
theorem dL_law_466 : decode cL_law 466 = .ok (.iadd, 1) := by decide +kernel
theorem dL_law_467 : decode cL_law 467 = .ok (.iaload, 1) := by decide +kernel
theorem dL_law_468 : decode cL_law 468 = .ok (.aload_n 0, 1) := by decide +kernel
theorem dL_law_469 : decode cL_law 469 = .ok (.iload_n 3, 1) := by decide +kernel
theorem dL_law_470 : decode cL_law 470 = .ok (.iconst 2, 1) := by decide +kernel
theorem dL_law_471 : decode cL_law 471 = .ok (.iadd, 1) := by decide +kernel
theorem dL_law_472 : decode cL_law 472 = .ok (.iaload, 1) := by decide +kernel
theorem dL_law_473 : decode cL_law 473 = .ok (.invokevirtual 48, 3) := by decide +kernel
theorem dL_law_476 : decode cL_law 476 = .ok (.aload_n 2, 1) := by decide +kernel
theorem dL_law_477 : decode cL_law 477 = .ok (.aload_n 0, 1) := by decide +kernel
theorem dL_law_478 : decode cL_law 478 = .ok (.iload_n 3, 1) := by decide +kernel
theorem dL_law_479 : decode cL_law 479 = .ok (.iconst 1, 1) := by decide +kernel
theorem dL_law_480 : decode cL_law 480 = .ok (.iadd, 1) := by decide +kernel
theorem dL_law_481 : decode cL_law 481 = .ok (.iaload, 1) := by decide +kernel
theorem dL_law_482 : decode cL_law 482 = .ok (.aload_n 0, 1) := by decide +kernel
theorem dL_law_483 : decode cL_law 483 = .ok (.iload_n 3, 1) := by decide +kernel
theorem dL_law_484 : decode cL_law 484 = .ok (.iconst 2, 1) := by decide +kernel
theorem dL_law_485 : decode cL_law 485 = .ok (.iadd, 1) := by decide +kernel
theorem dL_law_486 : decode cL_law 486 = .ok (.iaload, 1) := by decide +kernel
theorem dL_law_487 : decode cL_law 487 = .ok (.invokevirtual 51, 3) := by decide +kernel
theorem dL_law_490 : decode cL_law 490 = .ok (.if_icmp .eq 879, 3) := by decide +kernel
theorem dL_law_493 : decode cL_law 493 = .ok (.iconst 0, 1) := by decide +kernel
theorem dL_law_494 : decode cL_law 494 = .ok (.ireturn, 1) := by decide +kernel
theorem dL_law_495 : decode cL_law 495 = .ok (.aload_n 1, 1) := by decide +kernel
theorem dL_law_496 : decode cL_law 496 = .ok (.aload_n 0, 1) := by decide +kernel
theorem dL_law_497 : decode cL_law 497 = .ok (.iload_n 3, 1) := by decide +kernel
theorem dL_law_498 : decode cL_law 498 = .ok (.iconst 1, 1) := by decide +kernel
theorem dL_law_499 : decode cL_law 499 = .ok (.iadd, 1) := by decide +kernel
theorem dL_law_500 : decode cL_law 500 = .ok (.iaload, 1) := by decide +kernel
theorem dL_law_501 : decode cL_law 501 = .ok (.aload_n 0, 1) := by decide +kernel
theorem dL_law_502 : decode cL_law 502 = .ok (.iload_n 3, 1) := by decide +kernel
theorem dL_law_503 : decode cL_law 503 = .ok (.iconst 2, 1) := by decide +kernel
theorem dL_law_504 : decode cL_law 504 = .ok (.iadd, 1) := by decide +kernel
theorem dL_law_505 : decode cL_law 505 = .ok (.iaload, 1) := by decide +kernel
theorem dL_law_506 : decode cL_law 506 = .ok (.invokevirtual 52, 3) := by decide +kernel
theorem dL_law_509 : decode cL_law 509 = .ok (.aload_n 2, 1) := by decide +kernel
theorem dL_law_510 : decode cL_law 510 = .ok (.aload_n 0, 1) := by decide +kernel
theorem dL_law_511 : decode cL_law 511 = .ok (.iload_n 3, 1) := by decide +kernel
theorem dL_law_512 : decode cL_law 512 = .ok (.iconst 1, 1) := by decide +kernel
theorem dL_law_513 : decode cL_law 513 = .ok (.iadd, 1) := by decide +kernel
theorem dL_law_514 : decode cL_law 514 = .ok (.iaload, 1) := by decide +kernel
theorem dL_law_515 : decode cL_law 515 = .ok (.aload_n 0, 1) := by decide +kernel
theorem dL_law_516 : decode cL_law 516 = .ok (.iload_n 3, 1) := by decide +kernel
theorem dL_law_517 : decode cL_law 517 = .ok (.iconst 2, 1) := by decide +kernel
theorem dL_law_518 : decode cL_law 518 = .ok (.iadd, 1) := by decide +kernel
theorem dL_law_519 : decode cL_law 519 = .ok (.iaload, 1) := by decide +kernel
theorem dL_law_520 : decode cL_law 520 = .ok (.invokevirtual 55, 3) := by decide +kernel
theorem dL_law_523 : decode cL_law 523 = .ok (.if_icmp .eq 846, 3) := by decide +kernel
theorem dL_law_526 : decode cL_law 526 = .ok (.iconst 0, 1) := by decide +kernel
theorem dL_law_527 : decode cL_law 527 = .ok (.ireturn, 1) := by decide +kernel
theorem dL_law_528 : decode cL_law 528 = .ok (.aload_n 1, 1) := by decide +kernel
theorem dL_law_529 : decode cL_law 529 = .ok (.aload_n 0, 1) := by decide +kernel
theorem dL_law_530 : decode cL_law 530 = .ok (.iload_n 3, 1) := by decide +kernel
theorem dL_law_531 : decode cL_law 531 = .ok (.iconst 1, 1) := by decide +kernel
theorem dL_law_532 : decode cL_law 532 = .ok (.iadd, 1) := by decide +kernel
theorem dL_law_533 : decode cL_law 533 = .ok (.iaload, 1) := by decide +kernel
theorem dL_law_534 : decode cL_law 534 = .ok (.aload_n 0, 1) := by decide +kernel
theorem dL_law_535 : decode cL_law 535 = .ok (.iload_n 3, 1) := by decide +kernel
theorem dL_law_536 : decode cL_law 536 = .ok (.iconst 2, 1) := by decide +kernel
theorem dL_law_537 : decode cL_law 537 = .ok (.iadd, 1) := by decide +kernel
theorem dL_law_538 : decode cL_law 538 = .ok (.iaload, 1) := by decide +kernel
theorem dL_law_539 : decode cL_law 539 = .ok (.aload_n 0, 1) := by decide +kernel
theorem dL_law_540 : decode cL_law 540 = .ok (.iload_n 3, 1) := by decide +kernel
theorem dL_law_541 : decode cL_law 541 = .ok (.iconst 3, 1) := by decide +kernel
theorem dL_law_542 : decode cL_law 542 = .ok (.iadd, 1) := by decide +kernel
theorem dL_law_543 : decode cL_law 543 = .ok (.iaload, 1) := by decide +kernel
theorem dL_law_544 : decode cL_law 544 = .ok (.invokevirtual 56, 3) := by decide +kernel
theorem dL_law_547 : decode cL_law 547 = .ok (.aload_n 2, 1) := by decide +kernel
theorem dL_law_548 : decode cL_law 548 = .ok (.aload_n 0, 1) := by decide +kernel
theorem dL_law_549 : decode cL_law 549 = .ok (.iload_n 3, 1) := by decide +kernel
theorem dL_law_550 : decode cL_law 550 = .ok (.iconst 1, 1) := by decide +kernel
theorem dL_law_551 : decode cL_law 551 = .ok (.iadd, 1) := by decide +kernel
theorem dL_law_552 : decode cL_law 552 = .ok (.iaload, 1) := by decide +kernel
theorem dL_law_553 : decode cL_law 553 = .ok (.aload_n 0, 1) := by decide +kernel
theorem dL_law_554 : decode cL_law 554 = .ok (.iload_n 3, 1) := by decide +kernel
theorem dL_law_555 : decode cL_law 555 = .ok (.iconst 2, 1) := by decide +kernel
theorem dL_law_556 : decode cL_law 556 = .ok (.iadd, 1) := by decide +kernel
theorem dL_law_557 : decode cL_law 557 = .ok (.iaload, 1) := by decide +kernel
theorem dL_law_558 : decode cL_law 558 = .ok (.aload_n 0, 1) := by decide +kernel
theorem dL_law_559 : decode cL_law 559 = .ok (.iload_n 3, 1) := by decide +kernel
theorem dL_law_560 : decode cL_law 560 = .ok (.iconst 3, 1) := by decide +kernel
theorem dL_law_561 : decode cL_law 561 = .ok (.iadd, 1) := by decide +kernel
theorem dL_law_562 : decode cL_law 562 = .ok (.iaload, 1) := by decide +kernel
theorem dL_law_563 : decode cL_law 563 = .ok (.invokevirtual 59, 3) := by decide +kernel
theorem dL_law_566 : decode cL_law 566 = .ok (.if_icmp .eq 803, 3) := by decide +kernel
theorem dL_law_569 : decode cL_law 569 = .ok (.iconst 0, 1) := by decide +kernel
theorem dL_law_570 : decode cL_law 570 = .ok (.ireturn, 1) := by decide +kernel
theorem dL_law_571 : decode cL_law 571 = .ok (.aload_n 1, 1) := by decide +kernel
theorem dL_law_572 : decode cL_law 572 = .ok (.aload_n 0, 1) := by decide +kernel
theorem dL_law_573 : decode cL_law 573 = .ok (.iload_n 3, 1) := by decide +kernel
theorem dL_law_574 : decode cL_law 574 = .ok (.iconst 1, 1) := by decide +kernel
theorem dL_law_575 : decode cL_law 575 = .ok (.iadd, 1) := by decide +kernel
theorem dL_law_576 : decode cL_law 576 = .ok (.iaload, 1) := by decide +kernel
theorem dL_law_577 : decode cL_law 577 = .ok (.aload_n 0, 1) := by decide +kernel
theorem dL_law_578 : decode cL_law 578 = .ok (.iload_n 3, 1) := by decide +kernel
theorem dL_law_579 : decode cL_law 579 = .ok (.iconst 2, 1) := by decide +kernel
theorem dL_law_580 : decode cL_law 580 = .ok (.iadd, 1) := by decide +kernel
theorem dL_law_581 : decode cL_law 581 = .ok (.iaload, 1) := by decide +kernel
theorem dL_law_582 : decode cL_law 582 = .ok (.invokevirtual 60, 3) := by decide +kernel
theorem dL_law_585 : decode cL_law 585 = .ok (.aload_n 2, 1) := by decide +kernel
theorem dL_law_586 : decode cL_law 586 = .ok (.aload_n 0, 1) := by decide +kernel
theorem dL_law_587 : decode cL_law 587 = .ok (.iload_n 3, 1) := by decide +kernel
theorem dL_law_588 : decode cL_law 588 = .ok (.iconst 1, 1) := by decide +kernel
theorem dL_law_589 : decode cL_law 589 = .ok (.iadd, 1) := by decide +kernel
theorem dL_law_590 : decode cL_law 590 = .ok (.iaload, 1) := by decide +kernel
theorem dL_law_591 : decode cL_law 591 = .ok (.aload_n 0, 1) := by decide +kernel
theorem dL_law_592 : decode cL_law 592 = .ok (.iload_n 3, 1) := by decide +kernel
theorem dL_law_593 : decode cL_law 593 = .ok (.iconst 2, 1) := by decide +kernel
theorem dL_law_594 : decode cL_law 594 = .ok (.iadd, 1) := by decide +kernel
theorem dL_law_595 : decode cL_law 595 = .ok (.iaload, 1) := by decide +kernel
theorem dL_law_596 : decode cL_law 596 = .ok (.invokevirtual 63, 3) := by decide +kernel
theorem dL_law_599 : decode cL_law 599 = .ok (.if_icmp .eq 770, 3) := by decide +kernel
theorem dL_law_602 : decode cL_law 602 = .ok (.iconst 0, 1) := by decide +kernel
theorem dL_law_603 : decode cL_law 603 = .ok (.ireturn, 1) := by decide +kernel
theorem dL_law_604 : decode cL_law 604 = .ok (.aload_n 1, 1) := by decide +kernel
theorem dL_law_605 : decode cL_law 605 = .ok (.invokevirtual 64, 3) := by decide +kernel
theorem dL_law_608 : decode cL_law 608 = .ok (.aload_n 2, 1) := by decide +kernel
theorem dL_law_609 : decode cL_law 609 = .ok (.invokevirtual 68, 3) := by decide +kernel
theorem dL_law_612 : decode cL_law 612 = .ok (.if_icmp .eq 757, 3) := by decide +kernel
theorem dL_law_615 : decode cL_law 615 = .ok (.iconst 0, 1) := by decide +kernel
theorem dL_law_616 : decode cL_law 616 = .ok (.ireturn, 1) := by decide +kernel
theorem dL_law_617 : decode cL_law 617 = .ok (.aload_n 1, 1) := by decide +kernel
theorem dL_law_618 : decode cL_law 618 = .ok (.aload_n 0, 1) := by decide +kernel
theorem dL_law_619 : decode cL_law 619 = .ok (.iload_n 3, 1) := by decide +kernel
theorem dL_law_620 : decode cL_law 620 = .ok (.iconst 1, 1) := by decide +kernel
theorem dL_law_621 : decode cL_law 621 = .ok (.iadd, 1) := by decide +kernel
theorem dL_law_622 : decode cL_law 622 = .ok (.iaload, 1) := by decide +kernel
theorem dL_law_623 : decode cL_law 623 = .ok (.invokevirtual 69, 3) := by decide +kernel
theorem dL_law_626 : decode cL_law 626 = .ok (.aload_n 2, 1) := by decide +kernel
theorem dL_law_627 : decode cL_law 627 = .ok (.aload_n 0, 1) := by decide +kernel
theorem dL_law_628 : decode cL_law 628 = .ok (.iload_n 3, 1) := by decide +kernel
theorem dL_law_629 : decode cL_law 629 = .ok (.iconst 1, 1) := by decide +kernel
theorem dL_law_630 : decode cL_law 630 = .ok (.iadd, 1) := by decide +kernel
theorem dL_law_631 : decode cL_law 631 = .ok (.iaload, 1) := by decide +kernel
theorem dL_law_632 : decode cL_law 632 = .ok (.invokevirtual 72, 3) := by decide +kernel
theorem dL_law_635 : decode cL_law 635 = .ok (.if_icmp .eq 734, 3) := by decide +kernel
theorem dL_law_638 : decode cL_law 638 = .ok (.iconst 0, 1) := by decide +kernel
theorem dL_law_639 : decode cL_law 639 = .ok (.ireturn, 1) := by decide +kernel
theorem dL_law_640 : decode cL_law 640 = .ok (.aload_n 1, 1) := by decide +kernel
theorem dL_law_641 : decode cL_law 641 = .ok (.aload_n 0, 1) := by decide +kernel
theorem dL_law_642 : decode cL_law 642 = .ok (.iload_n 3, 1) := by decide +kernel
theorem dL_law_643 : decode cL_law 643 = .ok (.iconst 1, 1) := by decide +kernel
theorem dL_law_644 : decode cL_law 644 = .ok (.iadd, 1) := by decide +kernel
theorem dL_law_645 : decode cL_law 645 = .ok (.iaload, 1) := by decide +kernel
theorem dL_law_646 : decode cL_law 646 = .ok (.invokevirtual 73, 3) := by decide +kernel
theorem dL_law_649 : decode cL_law 649 = .ok (.aload_n 2, 1) := by decide +kernel
theorem dL_law_650 : decode cL_law 650 = .ok (.aload_n 0, 1) := by decide +kernel
theorem dL_law_651 : decode cL_law 651 = .ok (.iload_n 3, 1) := by decide +kernel
theorem dL_law_652 : decode cL_law 652 = .ok (.iconst 1, 1) := by decide +kernel
theorem dL_law_653 : decode cL_law 653 = .ok (.iadd, 1) := by decide +kernel
theorem dL_law_654 : decode cL_law 654 = .ok (.iaload, 1) := by decide +kernel
theorem dL_law_655 : decode cL_law 655 = .ok (.invokevirtual 76, 3) := by decide +kernel
theorem dL_law_658 : decode cL_law 658 = .ok (.if_icmp .eq 711, 3) := by decide +kernel
theorem dL_law_661 : decode cL_law 661 = .ok (.iconst 0, 1) := by decide +kernel
theorem dL_law_662 : decode cL_law 662 = .ok (.ireturn, 1) := by decide +kernel
theorem dL_law_663 : decode cL_law 663 = .ok (.aload_n 1, 1) := by decide +kernel
theorem dL_law_664 : decode cL_law 664 = .ok (.aload_n 0, 1) := by decide +kernel
theorem dL_law_665 : decode cL_law 665 = .ok (.iload_n 3, 1) := by decide +kernel
theorem dL_law_666 : decode cL_law 666 = .ok (.iconst 1, 1) := by decide +kernel
theorem dL_law_667 : decode cL_law 667 = .ok (.iadd, 1) := by decide +kernel
theorem dL_law_668 : decode cL_law 668 = .ok (.iaload, 1) := by decide +kernel
theorem dL_law_669 : decode cL_law 669 = .ok (.aload_n 0, 1) := by decide +kernel
theorem dL_law_670 : decode cL_law 670 = .ok (.iload_n 3, 1) := by decide +kernel
theorem dL_law_671 : decode cL_law 671 = .ok (.iconst 2, 1) := by decide +kernel
theorem dL_law_672 : decode cL_law 672 = .ok (.iadd, 1) := by decide +kernel
theorem dL_law_673 : decode cL_law 673 = .ok (.iaload, 1) := by decide +kernel
theorem dL_law_674 : decode cL_law 674 = .ok (.invokevirtual 77, 3) := by decide +kernel
theorem dL_law_677 : decode cL_law 677 = .ok (.aload_n 2, 1) := by decide +kernel
theorem dL_law_678 : decode cL_law 678 = .ok (.aload_n 0, 1) := by decide +kernel
theorem dL_law_679 : decode cL_law 679 = .ok (.iload_n 3, 1) := by decide +kernel
theorem dL_law_680 : decode cL_law 680 = .ok (.iconst 1, 1) := by decide +kernel
theorem dL_law_681 : decode cL_law 681 = .ok (.iadd, 1) := by decide +kernel
theorem dL_law_682 : decode cL_law 682 = .ok (.iaload, 1) := by decide +kernel
theorem dL_law_683 : decode cL_law 683 = .ok (.aload_n 0, 1) := by decide +kernel
theorem dL_law_684 : decode cL_law 684 = .ok (.iload_n 3, 1) := by decide +kernel
theorem dL_law_685 : decode cL_law 685 = .ok (.iconst 2, 1) := by decide +kernel
theorem dL_law_686 : decode cL_law 686 = .ok (.iadd, 1) := by decide +kernel
theorem dL_law_687 : decode cL_law 687 = .ok (.iaload, 1) := by decide +kernel
theorem dL_law_688 : decode cL_law 688 = .ok (.invokevirtual 80, 3) := by decide +kernel
theorem dL_law_691 : decode cL_law 691 = .ok (.if_icmp .eq 678, 3) := by decide +kernel
theorem dL_law_694 : decode cL_law 694 = .ok (.iconst 0, 1) := by decide +kernel
theorem dL_law_695 : decode cL_law 695 = .ok (.ireturn, 1) := by decide +kernel
theorem dL_law_696 : decode cL_law 696 = .ok (.aload_n 1, 1) := by decide +kernel
theorem dL_law_697 : decode cL_law 697 = .ok (.aload_n 0, 1) := by decide +kernel
theorem dL_law_698 : decode cL_law 698 = .ok (.iload_n 3, 1) := by decide +kernel
theorem dL_law_699 : decode cL_law 699 = .ok (.iconst 1, 1) := by decide +kernel
theorem dL_law_700 : decode cL_law 700 = .ok (.iadd, 1) := by decide +kernel
theorem dL_law_701 : decode cL_law 701 = .ok (.iaload, 1) := by decide +kernel
theorem dL_law_702 : decode cL_law 702 = .ok (.invokevirtual 81, 3) := by decide +kernel
theorem dL_law_705 : decode cL_law 705 = .ok (.aload_n 2, 1) := by decide +kernel
theorem dL_law_706 : decode cL_law 706 = .ok (.aload_n 0, 1) := by decide +kernel
theorem dL_law_707 : decode cL_law 707 = .ok (.iload_n 3, 1) := by decide +kernel
theorem dL_law_708 : decode cL_law 708 = .ok (.iconst 1, 1) := by decide +kernel
theorem dL_law_709 : decode cL_law 709 = .ok (.iadd, 1) := by decide +kernel
theorem dL_law_710 : decode cL_law 710 = .ok (.iaload, 1) := by decide +kernel
theorem dL_law_711 : decode cL_law 711 = .ok (.invokevirtual 84, 3) := by decide +kernel
theorem dL_law_714 : decode cL_law 714 = .ok (.if_icmp .eq 655, 3) := by decide +kernel
theorem dL_law_717 : decode cL_law 717 = .ok (.iconst 0, 1) := by decide +kernel
theorem dL_law_718 : decode cL_law 718 = .ok (.ireturn, 1) := by decide +kernel
theorem dL_law_719 : decode cL_law 719 = .ok (.aload_n 1, 1) := by decide +kernel
theorem dL_law_720 : decode cL_law 720 = .ok (.aload_n 0, 1) := by decide +kernel
theorem dL_law_721 : decode cL_law 721 = .ok (.iload_n 3, 1) := by decide +kernel
theorem dL_law_722 : decode cL_law 722 = .ok (.iconst 1, 1) := by decide +kernel
theorem dL_law_723 : decode cL_law 723 = .ok (.iadd, 1) := by decide +kernel
theorem dL_law_724 : decode cL_law 724 = .ok (.iaload, 1) := by decide +kernel
theorem dL_law_725 : decode cL_law 725 = .ok (.invokevirtual 85, 3) := by decide +kernel
theorem dL_law_728 : decode cL_law 728 = .ok (.aload_n 2, 1) := by decide +kernel
theorem dL_law_729 : decode cL_law 729 = .ok (.aload_n 0, 1) := by decide +kernel
theorem dL_law_730 : decode cL_law 730 = .ok (.iload_n 3, 1) := by decide +kernel
theorem dL_law_731 : decode cL_law 731 = .ok (.iconst 1, 1) := by decide +kernel
theorem dL_law_732 : decode cL_law 732 = .ok (.iadd, 1) := by decide +kernel
theorem dL_law_733 : decode cL_law 733 = .ok (.iaload, 1) := by decide +kernel
theorem dL_law_734 : decode cL_law 734 = .ok (.invokevirtual 88, 3) := by decide +kernel
theorem dL_law_737 : decode cL_law 737 = .ok (.if_icmp .eq 632, 3) := by decide +kernel
theorem dL_law_740 : decode cL_law 740 = .ok (.iconst 0, 1) := by decide +kernel
theorem dL_law_741 : decode cL_law 741 = .ok (.ireturn, 1) := by decide +kernel
theorem dL_law_742 : decode cL_law 742 = .ok (.aload_n 1, 1) := by decide +kernel
theorem dL_law_743 : decode cL_law 743 = .ok (.aload_n 0, 1) := by decide +kernel
theorem dL_law_744 : decode cL_law 744 = .ok (.iload_n 3, 1) := by decide +kernel
theorem dL_law_745 : decode cL_law 745 = .ok (.iconst 1, 1) := by decide +kernel
theorem dL_law_746 : decode cL_law 746 = .ok (.iadd, 1) := by decide +kernel
theorem dL_law_747 : decode cL_law 747 = .ok (.iaload, 1) := by decide +kernel
theorem dL_law_748 : decode cL_law 748 = .ok (.aload_n 0, 1) := by decide +kernel
theorem dL_law_749 : decode cL_law 749 = .ok (.iload_n 3, 1) := by decide +kernel
theorem dL_law_750 : decode cL_law 750 = .ok (.iconst 2, 1) := by decide +kernel
theorem dL_law_751 : decode cL_law 751 = .ok (.iadd, 1) := by decide +kernel
theorem dL_law_752 : decode cL_law 752 = .ok (.iaload, 1) := by decide +kernel
theorem dL_law_753 : decode cL_law 753 = .ok (.invokevirtual 89, 3) := by decide +kernel
theorem dL_law_756 : decode cL_law 756 = .ok (.aload_n 2, 1) := by decide +kernel
theorem dL_law_757 : decode cL_law 757 = .ok (.aload_n 0, 1) := by decide +kernel
theorem dL_law_758 : decode cL_law 758 = .ok (.iload_n 3, 1) := by decide +kernel
theorem dL_law_759 : decode cL_law 759 = .ok (.iconst 1, 1) := by decide +kernel
theorem dL_law_760 : decode cL_law 760 = .ok (.iadd, 1) := by decide +kernel
theorem dL_law_761 : decode cL_law 761 = .ok (.iaload, 1) := by decide +kernel
theorem dL_law_762 : decode cL_law 762 = .ok (.aload_n 0, 1) := by decide +kernel
theorem dL_law_763 : decode cL_law 763 = .ok (.iload_n 3, 1) := by decide +kernel
theorem dL_law_764 : decode cL_law 764 = .ok (.iconst 2, 1) := by decide +kernel
theorem dL_law_765 : decode cL_law 765 = .ok (.iadd, 1) := by decide +kernel
theorem dL_law_766 : decode cL_law 766 = .ok (.iaload, 1) := by decide +kernel
theorem dL_law_767 : decode cL_law 767 = .ok (.invokevirtual 92, 3) := by decide +kernel
theorem dL_law_770 : decode cL_law 770 = .ok (.if_icmp .eq 599, 3) := by decide +kernel
theorem dL_law_773 : decode cL_law 773 = .ok (.iconst 0, 1) := by decide +kernel
theorem dL_law_774 : decode cL_law 774 = .ok (.ireturn, 1) := by decide +kernel
theorem dL_law_775 : decode cL_law 775 = .ok (.aload_n 1, 1) := by decide +kernel
theorem dL_law_776 : decode cL_law 776 = .ok (.aload_n 0, 1) := by decide +kernel
theorem dL_law_777 : decode cL_law 777 = .ok (.iload_n 3, 1) := by decide +kernel
theorem dL_law_778 : decode cL_law 778 = .ok (.iconst 1, 1) := by decide +kernel
theorem dL_law_779 : decode cL_law 779 = .ok (.iadd, 1) := by decide +kernel
theorem dL_law_780 : decode cL_law 780 = .ok (.iaload, 1) := by decide +kernel
theorem dL_law_781 : decode cL_law 781 = .ok (.aload_n 0, 1) := by decide +kernel
theorem dL_law_782 : decode cL_law 782 = .ok (.iload_n 3, 1) := by decide +kernel
theorem dL_law_783 : decode cL_law 783 = .ok (.iconst 2, 1) := by decide +kernel
theorem dL_law_784 : decode cL_law 784 = .ok (.iadd, 1) := by decide +kernel
theorem dL_law_785 : decode cL_law 785 = .ok (.iaload, 1) := by decide +kernel
theorem dL_law_786 : decode cL_law 786 = .ok (.invokevirtual 93, 3) := by decide +kernel
theorem dL_law_789 : decode cL_law 789 = .ok (.aload_n 2, 1) := by decide +kernel
theorem dL_law_790 : decode cL_law 790 = .ok (.aload_n 0, 1) := by decide +kernel
theorem dL_law_791 : decode cL_law 791 = .ok (.iload_n 3, 1) := by decide +kernel
theorem dL_law_792 : decode cL_law 792 = .ok (.iconst 1, 1) := by decide +kernel
theorem dL_law_793 : decode cL_law 793 = .ok (.iadd, 1) := by decide +kernel
theorem dL_law_794 : decode cL_law 794 = .ok (.iaload, 1) := by decide +kernel
theorem dL_law_795 : decode cL_law 795 = .ok (.aload_n 0, 1) := by decide +kernel
theorem dL_law_796 : decode cL_law 796 = .ok (.iload_n 3, 1) := by decide +kernel
theorem dL_law_797 : decode cL_law 797 = .ok (.iconst 2, 1) := by decide +kernel
theorem dL_law_798 : decode cL_law 798 = .ok (.iadd, 1) := by decide +kernel
theorem dL_law_799 : decode cL_law 799 = .ok (.iaload, 1) := by decide +kernel
theorem dL_law_800 : decode cL_law 800 = .ok (.invokevirtual 96, 3) := by decide +kernel
theorem dL_law_803 : decode cL_law 803 = .ok (.if_icmp .eq 566, 3) := by decide +kernel
theorem dL_law_806 : decode cL_law 806 = .ok (.iconst 0, 1) := by decide +kernel
theorem dL_law_807 : decode cL_law 807 = .ok (.ireturn, 1) := by decide +kernel
theorem dL_law_808 : decode cL_law 808 = .ok (.aload_n 1, 1) := by decide +kernel
theorem dL_law_809 : decode cL_law 809 = .ok (.aload_n 0, 1) := by decide +kernel
theorem dL_law_810 : decode cL_law 810 = .ok (.iload_n 3, 1) := by decide +kernel
theorem dL_law_811 : decode cL_law 811 = .ok (.iconst 1, 1) := by decide +kernel
theorem dL_law_812 : decode cL_law 812 = .ok (.iadd, 1) := by decide +kernel
theorem dL_law_813 : decode cL_law 813 = .ok (.iaload, 1) := by decide +kernel
theorem dL_law_814 : decode cL_law 814 = .ok (.aload_n 0, 1) := by decide +kernel
theorem dL_law_815 : decode cL_law 815 = .ok (.iload_n 3, 1) := by decide +kernel
theorem dL_law_816 : decode cL_law 816 = .ok (.iconst 2, 1) := by decide +kernel
theorem dL_law_817 : decode cL_law 817 = .ok (.iadd, 1) := by decide +kernel
theorem dL_law_818 : decode cL_law 818 = .ok (.iaload, 1) := by decide +kernel
theorem dL_law_819 : decode cL_law 819 = .ok (.invokevirtual 97, 3) := by decide +kernel
theorem dL_law_822 : decode cL_law 822 = .ok (.aload_n 2, 1) := by decide +kernel
theorem dL_law_823 : decode cL_law 823 = .ok (.aload_n 0, 1) := by decide +kernel
theorem dL_law_824 : decode cL_law 824 = .ok (.iload_n 3, 1) := by decide +kernel
theorem dL_law_825 : decode cL_law 825 = .ok (.iconst 1, 1) := by decide +kernel
theorem dL_law_826 : decode cL_law 826 = .ok (.iadd, 1) := by decide +kernel
theorem dL_law_827 : decode cL_law 827 = .ok (.iaload, 1) := by decide +kernel
theorem dL_law_828 : decode cL_law 828 = .ok (.aload_n 0, 1) := by decide +kernel
theorem dL_law_829 : decode cL_law 829 = .ok (.iload_n 3, 1) := by decide +kernel
theorem dL_law_830 : decode cL_law 830 = .ok (.iconst 2, 1) := by decide +kernel
theorem dL_law_831 : decode cL_law 831 = .ok (.iadd, 1) := by decide +kernel
theorem dL_law_832 : decode cL_law 832 = .ok (.iaload, 1) := by decide +kernel
theorem dL_law_833 : decode cL_law 833 = .ok (.invokevirtual 100, 3) := by decide +kernel
theorem dL_law_836 : decode cL_law 836 = .ok (.if_icmp .eq 533, 3) := by decide +kernel
theorem dL_law_839 : decode cL_law 839 = .ok (.iconst 0, 1) := by decide +kernel
theorem dL_law_840 : decode cL_law 840 = .ok (.ireturn, 1) := by decide +kernel
theorem dL_law_841 : decode cL_law 841 = .ok (.aload_n 1, 1) := by decide +kernel
theorem dL_law_842 : decode cL_law 842 = .ok (.aload_n 0, 1) := by decide +kernel
theorem dL_law_843 : decode cL_law 843 = .ok (.iload_n 3, 1) := by decide +kernel
theorem dL_law_844 : decode cL_law 844 = .ok (.iconst 1, 1) := by decide +kernel
theorem dL_law_845 : decode cL_law 845 = .ok (.iadd, 1) := by decide +kernel
theorem dL_law_846 : decode cL_law 846 = .ok (.iaload, 1) := by decide +kernel
theorem dL_law_847 : decode cL_law 847 = .ok (.aload_n 0, 1) := by decide +kernel
theorem dL_law_848 : decode cL_law 848 = .ok (.iload_n 3, 1) := by decide +kernel
theorem dL_law_849 : decode cL_law 849 = .ok (.iconst 2, 1) := by decide +kernel
theorem dL_law_850 : decode cL_law 850 = .ok (.iadd, 1) := by decide +kernel
theorem dL_law_851 : decode cL_law 851 = .ok (.iaload, 1) := by decide +kernel
theorem dL_law_852 : decode cL_law 852 = .ok (.invokevirtual 101, 3) := by decide +kernel
theorem dL_law_855 : decode cL_law 855 = .ok (.aload_n 2, 1) := by decide +kernel
theorem dL_law_856 : decode cL_law 856 = .ok (.aload_n 0, 1) := by decide +kernel
theorem dL_law_857 : decode cL_law 857 = .ok (.iload_n 3, 1) := by decide +kernel
theorem dL_law_858 : decode cL_law 858 = .ok (.iconst 1, 1) := by decide +kernel
theorem dL_law_859 : decode cL_law 859 = .ok (.iadd, 1) := by decide +kernel
theorem dL_law_860 : decode cL_law 860 = .ok (.iaload, 1) := by decide +kernel
theorem dL_law_861 : decode cL_law 861 = .ok (.aload_n 0, 1) := by decide +kernel
theorem dL_law_862 : decode cL_law 862 = .ok (.iload_n 3, 1) := by decide +kernel
theorem dL_law_863 : decode cL_law 863 = .ok (.iconst 2, 1) := by decide +kernel
theorem dL_law_864 : decode cL_law 864 = .ok (.iadd, 1) := by decide +kernel
theorem dL_law_865 : decode cL_law 865 = .ok (.iaload, 1) := by decide +kernel
theorem dL_law_866 : decode cL_law 866 = .ok (.invokevirtual 104, 3) := by decide +kernel
theorem dL_law_869 : decode cL_law 869 = .ok (.if_icmp .eq 500, 3) := by decide +kernel
theorem dL_law_872 : decode cL_law 872 = .ok (.iconst 0, 1) := by decide +kernel
theorem dL_law_873 : decode cL_law 873 = .ok (.ireturn, 1) := by decide +kernel
theorem dL_law_874 : decode cL_law 874 = .ok (.aload_n 1, 1) := by decide +kernel
theorem dL_law_875 : decode cL_law 875 = .ok (.aload_n 0, 1) := by decide +kernel
theorem dL_law_876 : decode cL_law 876 = .ok (.iload_n 3, 1) := by decide +kernel
theorem dL_law_877 : decode cL_law 877 = .ok (.iconst 1, 1) := by decide +kernel
theorem dL_law_878 : decode cL_law 878 = .ok (.iadd, 1) := by decide +kernel
theorem dL_law_879 : decode cL_law 879 = .ok (.iaload, 1) := by decide +kernel
theorem dL_law_880 : decode cL_law 880 = .ok (.invokevirtual 105, 3) := by decide +kernel
theorem dL_law_883 : decode cL_law 883 = .ok (.aload_n 2, 1) := by decide +kernel
theorem dL_law_884 : decode cL_law 884 = .ok (.aload_n 0, 1) := by decide +kernel
theorem dL_law_885 : decode cL_law 885 = .ok (.iload_n 3, 1) := by decide +kernel
theorem dL_law_886 : decode cL_law 886 = .ok (.iconst 1, 1) := by decide +kernel
theorem dL_law_887 : decode cL_law 887 = .ok (.iadd, 1) := by decide +kernel
theorem dL_law_888 : decode cL_law 888 = .ok (.iaload, 1) := by decide +kernel
theorem dL_law_889 : decode cL_law 889 = .ok (.invokevirtual 108, 3) := by decide +kernel
theorem dL_law_892 : decode cL_law 892 = .ok (.if_icmp .eq 477, 3) := by decide +kernel
theorem dL_law_895 : decode cL_law 895 = .ok (.iconst 0, 1) := by decide +kernel
theorem dL_law_896 : decode cL_law 896 = .ok (.ireturn, 1) := by decide +kernel
theorem dL_law_897 : decode cL_law 897 = .ok (.aload_n 1, 1) := by decide +kernel
theorem dL_law_898 : decode cL_law 898 = .ok (.aload_n 0, 1) := by decide +kernel
theorem dL_law_899 : decode cL_law 899 = .ok (.iload_n 3, 1) := by decide +kernel
theorem dL_law_900 : decode cL_law 900 = .ok (.iconst 1, 1) := by decide +kernel
theorem dL_law_901 : decode cL_law 901 = .ok (.iadd, 1) := by decide +kernel
theorem dL_law_902 : decode cL_law 902 = .ok (.iaload, 1) := by decide +kernel
theorem dL_law_903 : decode cL_law 903 = .ok (.invokevirtual 109, 3) := by decide +kernel
theorem dL_law_906 : decode cL_law 906 = .ok (.aload_n 2, 1) := by decide +kernel
theorem dL_law_907 : decode cL_law 907 = .ok (.aload_n 0, 1) := by decide +kernel
theorem dL_law_908 : decode cL_law 908 = .ok (.iload_n 3, 1) := by decide +kernel
theorem dL_law_909 : decode cL_law 909 = .ok (.iconst 1, 1) := by decide +kernel
theorem dL_law_910 : decode cL_law 910 = .ok (.iadd, 1) := by decide +kernel
theorem dL_law_911 : decode cL_law 911 = .ok (.iaload, 1) := by decide +kernel
theorem dL_law_912 : decode cL_law 912 = .ok (.invokevirtual 112, 3) := by decide +kernel
theorem dL_law_915 : decode cL_law 915 = .ok (.if_icmp .eq 454, 3) := by decide +kernel
theorem dL_law_918 : decode cL_law 918 = .ok (.iconst 0, 1) := by decide +kernel
theorem dL_law_919 : decode cL_law 919 = .ok (.ireturn, 1) := by decide +kernel
theorem dL_law_920 : decode cL_law 920 = .ok (.aload_n 1, 1) := by decide +kernel
theorem dL_law_921 : decode cL_law 921 = .ok (.aload_n 0, 1) := by decide +kernel
theorem dL_law_922 : decode cL_law 922 = .ok (.iload_n 3, 1) := by decide +kernel
theorem dL_law_923 : decode cL_law 923 = .ok (.iconst 1, 1) := by decide +kernel
theorem dL_law_924 : decode cL_law 924 = .ok (.iadd, 1) := by decide +kernel
theorem dL_law_925 : decode cL_law 925 = .ok (.iaload, 1) := by decide +kernel
theorem dL_law_926 : decode cL_law 926 = .ok (.invokevirtual 113, 3) := by decide +kernel
theorem dL_law_929 : decode cL_law 929 = .ok (.aload_n 2, 1) := by decide +kernel
theorem dL_law_930 : decode cL_law 930 = .ok (.aload_n 0, 1) := by decide +kernel
theorem dL_law_931 : decode cL_law 931 = .ok (.iload_n 3, 1) := by decide +kernel
theorem dL_law_932 : decode cL_law 932 = .ok (.iconst 1, 1) := by decide +kernel
theorem dL_law_933 : decode cL_law 933 = .ok (.iadd, 1) := by decide +kernel
theorem dL_law_934 : decode cL_law 934 = .ok (.iaload, 1) := by decide +kernel
theorem dL_law_935 : decode cL_law 935 = .ok (.invokevirtual 116, 3) := by decide +kernel
theorem dL_law_938 : decode cL_law 938 = .ok (.if_icmp .eq 431, 3) := by decide +kernel
theorem dL_law_941 : decode cL_law 941 = .ok (.iconst 0, 1) := by decide +kernel
theorem dL_law_942 : decode cL_law 942 = .ok (.ireturn, 1) := by decide +kernel
theorem dL_law_943 : decode cL_law 943 = .ok (.aload_n 1, 1) := by decide +kernel
theorem dL_law_944 : decode cL_law 944 = .ok (.aload_n 0, 1) := by decide +kernel
theorem dL_law_945 : decode cL_law 945 = .ok (.iload_n 3, 1) := by decide +kernel
theorem dL_law_946 : decode cL_law 946 = .ok (.iconst 1, 1) := by decide +kernel
theorem dL_law_947 : decode cL_law 947 = .ok (.iadd, 1) := by decide +kernel
theorem dL_law_948 : decode cL_law 948 = .ok (.iaload, 1) := by decide +kernel
theorem dL_law_949 : decode cL_law 949 = .ok (.invokevirtual 117, 3) := by decide +kernel
theorem dL_law_952 : decode cL_law 952 = .ok (.aload_n 2, 1) := by decide +kernel
theorem dL_law_953 : decode cL_law 953 = .ok (.aload_n 0, 1) := by decide +kernel
theorem dL_law_954 : decode cL_law 954 = .ok (.iload_n 3, 1) := by decide +kernel
theorem dL_law_955 : decode cL_law 955 = .ok (.iconst 1, 1) := by decide +kernel
theorem dL_law_956 : decode cL_law 956 = .ok (.iadd, 1) := by decide +kernel
theorem dL_law_957 : decode cL_law 957 = .ok (.iaload, 1) := by decide +kernel
theorem dL_law_958 : decode cL_law 958 = .ok (.invokevirtual 120, 3) := by decide +kernel
theorem dL_law_961 : decode cL_law 961 = .ok (.if_icmp .eq 408, 3) := by decide +kernel
theorem dL_law_964 : decode cL_law 964 = .ok (.iconst 0, 1) := by decide +kernel
theorem dL_law_965 : decode cL_law 965 = .ok (.ireturn, 1) := by decide +kernel
theorem dL_law_966 : decode cL_law 966 = .ok (.aload_n 1, 1) := by decide +kernel
theorem dL_law_967 : decode cL_law 967 = .ok (.aload_n 0, 1) := by decide +kernel
theorem dL_law_968 : decode cL_law 968 = .ok (.iload_n 3, 1) := by decide +kernel
theorem dL_law_969 : decode cL_law 969 = .ok (.iconst 1, 1) := by decide +kernel
theorem dL_law_970 : decode cL_law 970 = .ok (.iadd, 1) := by decide +kernel
theorem dL_law_971 : decode cL_law 971 = .ok (.iaload, 1) := by decide +kernel
theorem dL_law_972 : decode cL_law 972 = .ok (.aload_n 0, 1) := by decide +kernel
theorem dL_law_973 : decode cL_law 973 = .ok (.iload_n 3, 1) := by decide +kernel
theorem dL_law_974 : decode cL_law 974 = .ok (.iconst 2, 1) := by decide +kernel
theorem dL_law_975 : decode cL_law 975 = .ok (.iadd, 1) := by decide +kernel
theorem dL_law_976 : decode cL_law 976 = .ok (.iaload, 1) := by decide +kernel
theorem dL_law_977 : decode cL_law 977 = .ok (.invokevirtual 121, 3) := by decide +kernel
theorem dL_law_980 : decode cL_law 980 = .ok (.aload_n 2, 1) := by decide +kernel
theorem dL_law_981 : decode cL_law 981 = .ok (.aload_n 0, 1) := by decide +kernel
theorem dL_law_982 : decode cL_law 982 = .ok (.iload_n 3, 1) := by decide +kernel
theorem dL_law_983 : decode cL_law 983 = .ok (.iconst 1, 1) := by decide +kernel
theorem dL_law_984 : decode cL_law 984 = .ok (.iadd, 1) := by decide +kernel
theorem dL_law_985 : decode cL_law 985 = .ok (.iaload, 1) := by decide +kernel
theorem dL_law_986 : decode cL_law 986 = .ok (.aload_n 0, 1) := by decide +kernel
theorem dL_law_987 : decode cL_law 987 = .ok (.iload_n 3, 1) := by decide +kernel
theorem dL_law_988 : decode cL_law 988 = .ok (.iconst 2, 1) := by decide +kernel
theorem dL_law_989 : decode cL_law 989 = .ok (.iadd, 1) := by decide +kernel
theorem dL_law_990 : decode cL_law 990 = .ok (.iaload, 1) := by decide +kernel
theorem dL_law_991 : decode cL_law 991 = .ok (.invokevirtual 124, 3) := by decide +kernel
theorem dL_law_994 : decode cL_law 994 = .ok (.if_icmp .eq 375, 3) := by decide +kernel
theorem dL_law_997 : decode cL_law 997 = .ok (.iconst 0, 1) := by decide +kernel
theorem dL_law_998 : decode cL_law 998 = .ok (.ireturn, 1) := by decide +kernel
theorem dL_law_999 : decode cL_law 999 = .ok (.aload_n 1, 1) := by decide +kernel
theorem dL_law_1000 : decode cL_law 1000 = .ok (.invokevirtual 125, 3) := by decide +kernel
theorem dL_law_1003 : decode cL_law 1003 = .ok (.aload_n 2, 1) := by decide +kernel
theorem dL_law_1004 : decode cL_law 1004 = .ok (.invokevirtual 128, 3) := by decide +kernel
theorem dL_law_1007 : decode cL_law 1007 = .ok (.if_icmp .eq 362, 3) := by decide +kernel
theorem dL_law_1010 : decode cL_law 1010 = .ok (.iconst 0, 1) := by decide +kernel
theorem dL_law_1011 : decode cL_law 1011 = .ok (.ireturn, 1) := by decide +kernel
theorem dL_law_1012 : decode cL_law 1012 = .ok (.aload_n 1, 1) := by decide +kernel
theorem dL_law_1013 : decode cL_law 1013 = .ok (.invokevirtual 129, 3) := by decide +kernel
theorem dL_law_1016 : decode cL_law 1016 = .ok (.aload_n 2, 1) := by decide +kernel
theorem dL_law_1017 : decode cL_law 1017 = .ok (.invokevirtual 132, 3) := by decide +kernel
theorem dL_law_1020 : decode cL_law 1020 = .ok (.if_icmp .eq 349, 3) := by decide +kernel
theorem dL_law_1023 : decode cL_law 1023 = .ok (.iconst 0, 1) := by decide +kernel
theorem dL_law_1024 : decode cL_law 1024 = .ok (.ireturn, 1) := by decide +kernel
theorem dL_law_1025 : decode cL_law 1025 = .ok (.aload_n 1, 1) := by decide +kernel
theorem dL_law_1026 : decode cL_law 1026 = .ok (.aload_n 0, 1) := by decide +kernel
theorem dL_law_1027 : decode cL_law 1027 = .ok (.iload_n 3, 1) := by decide +kernel
theorem dL_law_1028 : decode cL_law 1028 = .ok (.iconst 1, 1) := by decide +kernel
theorem dL_law_1029 : decode cL_law 1029 = .ok (.iadd, 1) := by decide +kernel
theorem dL_law_1030 : decode cL_law 1030 = .ok (.iaload, 1) := by decide +kernel
theorem dL_law_1031 : decode cL_law 1031 = .ok (.aload_n 0, 1) := by decide +kernel
theorem dL_law_1032 : decode cL_law 1032 = .ok (.iload_n 3, 1) := by decide +kernel
theorem dL_law_1033 : decode cL_law 1033 = .ok (.iconst 2, 1) := by decide +kernel
theorem dL_law_1034 : decode cL_law 1034 = .ok (.iadd, 1) := by decide +kernel
theorem dL_law_1035 : decode cL_law 1035 = .ok (.iaload, 1) := by decide +kernel
theorem dL_law_1036 : decode cL_law 1036 = .ok (.aload_n 0, 1) := by decide +kernel
theorem dL_law_1037 : decode cL_law 1037 = .ok (.iload_n 3, 1) := by decide +kernel
theorem dL_law_1038 : decode cL_law 1038 = .ok (.iconst 3, 1) := by decide +kernel
theorem dL_law_1039 : decode cL_law 1039 = .ok (.iadd, 1) := by decide +kernel
theorem dL_law_1040 : decode cL_law 1040 = .ok (.iaload, 1) := by decide +kernel
theorem dL_law_1041 : decode cL_law 1041 = .ok (.invokevirtual 133, 3) := by decide +kernel
theorem dL_law_1044 : decode cL_law 1044 = .ok (.aload_n 2, 1) := by decide +kernel
theorem dL_law_1045 : decode cL_law 1045 = .ok (.aload_n 0, 1) := by decide +kernel
theorem dL_law_1046 : decode cL_law 1046 = .ok (.iload_n 3, 1) := by decide +kernel
theorem dL_law_1047 : decode cL_law 1047 = .ok (.iconst 1, 1) := by decide +kernel
theorem dL_law_1048 : decode cL_law 1048 = .ok (.iadd, 1) := by decide +kernel
theorem dL_law_1049 : decode cL_law 1049 = .ok (.iaload, 1) := by decide +kernel
theorem dL_law_1050 : decode cL_law 1050 = .ok (.aload_n 0, 1) := by decide +kernel
theorem dL_law_1051 : decode cL_law 1051 = .ok (.iload_n 3, 1) := by decide +kernel
theorem dL_law_1052 : decode cL_law 1052 = .ok (.iconst 2, 1) := by decide +kernel
theorem dL_law_1053 : decode cL_law 1053 = .ok (.iadd, 1) := by decide +kernel
theorem dL_law_1054 : decode cL_law 1054 = .ok (.iaload, 1) := by decide +kernel
theorem dL_law_1055 : decode cL_law 1055 = .ok (.aload_n 0, 1) := by decide +kernel
theorem dL_law_1056 : decode cL_law 1056 = .ok (.iload_n 3, 1) := by decide +kernel
theorem dL_law_1057 : decode cL_law 1057 = .ok (.iconst 3, 1) := by decide +kernel
theorem dL_law_1058 : decode cL_law 1058 = .ok (.iadd, 1) := by decide +kernel
theorem dL_law_1059 : decode cL_law 1059 = .ok (.iaload, 1) := by decide +kernel
theorem dL_law_1060 : decode cL_law 1060 = .ok (.invokevirtual 136, 3) := by decide +kernel
theorem dL_law_1063 : decode cL_law 1063 = .ok (.if_icmp .eq 306, 3) := by decide +kernel
theorem dL_law_1066 : decode cL_law 1066 = .ok (.iconst 0, 1) := by decide +kernel
theorem dL_law_1067 : decode cL_law 1067 = .ok (.ireturn, 1) := by decide +kernel
theorem dL_law_1068 : decode cL_law 1068 = .ok (.aload_n 1, 1) := by decide +kernel
theorem dL_law_1069 : decode cL_law 1069 = .ok (.aload_n 0, 1) := by decide +kernel
theorem dL_law_1070 : decode cL_law 1070 = .ok (.iload_n 3, 1) := by decide +kernel
theorem dL_law_1071 : decode cL_law 1071 = .ok (.iconst 1, 1) := by decide +kernel
theorem dL_law_1072 : decode cL_law 1072 = .ok (.iadd, 1) := by decide +kernel
theorem dL_law_1073 : decode cL_law 1073 = .ok (.iaload, 1) := by decide +kernel
theorem dL_law_1074 : decode cL_law 1074 = .ok (.aload_n 0, 1) := by decide +kernel
theorem dL_law_1075 : decode cL_law 1075 = .ok (.iload_n 3, 1) := by decide +kernel
theorem dL_law_1076 : decode cL_law 1076 = .ok (.iconst 2, 1) := by decide +kernel
theorem dL_law_1077 : decode cL_law 1077 = .ok (.iadd, 1) := by decide +kernel
theorem dL_law_1078 : decode cL_law 1078 = .ok (.iaload, 1) := by decide +kernel
theorem dL_law_1079 : decode cL_law 1079 = .ok (.aload_n 0, 1) := by decide +kernel
theorem dL_law_1080 : decode cL_law 1080 = .ok (.iload_n 3, 1) := by decide +kernel
theorem dL_law_1081 : decode cL_law 1081 = .ok (.iconst 3, 1) := by decide +kernel
theorem dL_law_1082 : decode cL_law 1082 = .ok (.iadd, 1) := by decide +kernel
theorem dL_law_1083 : decode cL_law 1083 = .ok (.iaload, 1) := by decide +kernel
theorem dL_law_1084 : decode cL_law 1084 = .ok (.i2l, 1) := by decide +kernel
theorem dL_law_1085 : decode cL_law 1085 = .ok (.bipush 32, 2) := by decide +kernel
theorem dL_law_1087 : decode cL_law 1087 = .ok (.lshl, 1) := by decide +kernel
theorem dL_law_1088 : decode cL_law 1088 = .ok (.aload_n 0, 1) := by decide +kernel
theorem dL_law_1089 : decode cL_law 1089 = .ok (.iload_n 3, 1) := by decide +kernel
theorem dL_law_1090 : decode cL_law 1090 = .ok (.iconst 4, 1) := by decide +kernel
theorem dL_law_1091 : decode cL_law 1091 = .ok (.iadd, 1) := by decide +kernel
theorem dL_law_1092 : decode cL_law 1092 = .ok (.iaload, 1) := by decide +kernel
theorem dL_law_1093 : decode cL_law 1093 = .ok (.i2l, 1) := by decide +kernel
theorem dL_law_1094 : decode cL_law 1094 = .ok (.ldc2_w 137, 3) := by decide +kernel
theorem dL_law_1097 : decode cL_law 1097 = .ok (.land, 1) := by decide +kernel
theorem dL_law_1098 : decode cL_law 1098 = .ok (.lor, 1) := by decide +kernel
theorem dL_law_1099 : decode cL_law 1099 = .ok (.invokevirtual 139, 3) := by decide +kernel
theorem dL_law_1102 : decode cL_law 1102 = .ok (.aload_n 2, 1) := by decide +kernel
theorem dL_law_1103 : decode cL_law 1103 = .ok (.aload_n 0, 1) := by decide +kernel
theorem dL_law_1104 : decode cL_law 1104 = .ok (.iload_n 3, 1) := by decide +kernel
theorem dL_law_1105 : decode cL_law 1105 = .ok (.iconst 1, 1) := by decide +kernel
theorem dL_law_1106 : decode cL_law 1106 = .ok (.iadd, 1) := by decide +kernel
theorem dL_law_1107 : decode cL_law 1107 = .ok (.iaload, 1) := by decide +kernel
theorem dL_law_1108 : decode cL_law 1108 = .ok (.aload_n 0, 1) := by decide +kernel
theorem dL_law_1109 : decode cL_law 1109 = .ok (.iload_n 3, 1) := by decide +kernel
theorem dL_law_1110 : decode cL_law 1110 = .ok (.iconst 2, 1) := by decide +kernel
theorem dL_law_1111 : decode cL_law 1111 = .ok (.iadd, 1) := by decide +kernel
theorem dL_law_1112 : decode cL_law 1112 = .ok (.iaload, 1) := by decide +kernel
theorem dL_law_1113 : decode cL_law 1113 = .ok (.aload_n 0, 1) := by decide +kernel
theorem dL_law_1114 : decode cL_law 1114 = .ok (.iload_n 3, 1) := by decide +kernel
theorem dL_law_1115 : decode cL_law 1115 = .ok (.iconst 3, 1) := by decide +kernel
theorem dL_law_1116 : decode cL_law 1116 = .ok (.iadd, 1) := by decide +kernel
theorem dL_law_1117 : decode cL_law 1117 = .ok (.iaload, 1) := by decide +kernel
theorem dL_law_1118 : decode cL_law 1118 = .ok (.i2l, 1) := by decide +kernel
theorem dL_law_1119 : decode cL_law 1119 = .ok (.bipush 32, 2) := by decide +kernel
theorem dL_law_1121 : decode cL_law 1121 = .ok (.lshl, 1) := by decide +kernel
theorem dL_law_1122 : decode cL_law 1122 = .ok (.aload_n 0, 1) := by decide +kernel
theorem dL_law_1123 : decode cL_law 1123 = .ok (.iload_n 3, 1) := by decide +kernel
theorem dL_law_1124 : decode cL_law 1124 = .ok (.iconst 4, 1) := by decide +kernel
theorem dL_law_1125 : decode cL_law 1125 = .ok (.iadd, 1) := by decide +kernel
theorem dL_law_1126 : decode cL_law 1126 = .ok (.iaload, 1) := by decide +kernel
theorem dL_law_1127 : decode cL_law 1127 = .ok (.i2l, 1) := by decide +kernel
theorem dL_law_1128 : decode cL_law 1128 = .ok (.ldc2_w 137, 3) := by decide +kernel
theorem dL_law_1131 : decode cL_law 1131 = .ok (.land, 1) := by decide +kernel
theorem dL_law_1132 : decode cL_law 1132 = .ok (.lor, 1) := by decide +kernel
theorem dL_law_1133 : decode cL_law 1133 = .ok (.invokevirtual 143, 3) := by decide +kernel
theorem dL_law_1136 : decode cL_law 1136 = .ok (.lcmp, 1) := by decide +kernel
theorem dL_law_1137 : decode cL_law 1137 = .ok (.ifCond .eq 232, 3) := by decide +kernel
theorem dL_law_1140 : decode cL_law 1140 = .ok (.iconst 0, 1) := by decide +kernel
theorem dL_law_1141 : decode cL_law 1141 = .ok (.ireturn, 1) := by decide +kernel
theorem dL_law_1142 : decode cL_law 1142 = .ok (.aload_n 1, 1) := by decide +kernel
theorem dL_law_1143 : decode cL_law 1143 = .ok (.aload_n 0, 1) := by decide +kernel
theorem dL_law_1144 : decode cL_law 1144 = .ok (.iload_n 3, 1) := by decide +kernel
theorem dL_law_1145 : decode cL_law 1145 = .ok (.iconst 1, 1) := by decide +kernel
theorem dL_law_1146 : decode cL_law 1146 = .ok (.iadd, 1) := by decide +kernel
theorem dL_law_1147 : decode cL_law 1147 = .ok (.iaload, 1) := by decide +kernel
theorem dL_law_1148 : decode cL_law 1148 = .ok (.aload_n 0, 1) := by decide +kernel
theorem dL_law_1149 : decode cL_law 1149 = .ok (.iload_n 3, 1) := by decide +kernel
theorem dL_law_1150 : decode cL_law 1150 = .ok (.iconst 2, 1) := by decide +kernel
theorem dL_law_1151 : decode cL_law 1151 = .ok (.iadd, 1) := by decide +kernel
theorem dL_law_1152 : decode cL_law 1152 = .ok (.iaload, 1) := by decide +kernel
theorem dL_law_1153 : decode cL_law 1153 = .ok (.aload_n 0, 1) := by decide +kernel
theorem dL_law_1154 : decode cL_law 1154 = .ok (.iload_n 3, 1) := by decide +kernel
theorem dL_law_1155 : decode cL_law 1155 = .ok (.iconst 3, 1) := by decide +kernel
theorem dL_law_1156 : decode cL_law 1156 = .ok (.iadd, 1) := by decide +kernel
theorem dL_law_1157 : decode cL_law 1157 = .ok (.iaload, 1) := by decide +kernel
theorem dL_law_1158 : decode cL_law 1158 = .ok (.aload_n 0, 1) := by decide +kernel
theorem dL_law_1159 : decode cL_law 1159 = .ok (.iload_n 3, 1) := by decide +kernel
theorem dL_law_1160 : decode cL_law 1160 = .ok (.iconst 4, 1) := by decide +kernel
theorem dL_law_1161 : decode cL_law 1161 = .ok (.iadd, 1) := by decide +kernel
theorem dL_law_1162 : decode cL_law 1162 = .ok (.iaload, 1) := by decide +kernel
theorem dL_law_1163 : decode cL_law 1163 = .ok (.aload_n 0, 1) := by decide +kernel
theorem dL_law_1164 : decode cL_law 1164 = .ok (.iload_n 3, 1) := by decide +kernel
theorem dL_law_1165 : decode cL_law 1165 = .ok (.iconst 5, 1) := by decide +kernel
theorem dL_law_1166 : decode cL_law 1166 = .ok (.iadd, 1) := by decide +kernel
theorem dL_law_1167 : decode cL_law 1167 = .ok (.iaload, 1) := by decide +kernel
theorem dL_law_1168 : decode cL_law 1168 = .ok (.invokevirtual 144, 3) := by decide +kernel
theorem dL_law_1171 : decode cL_law 1171 = .ok (.aload_n 2, 1) := by decide +kernel
theorem dL_law_1172 : decode cL_law 1172 = .ok (.aload_n 0, 1) := by decide +kernel
theorem dL_law_1173 : decode cL_law 1173 = .ok (.iload_n 3, 1) := by decide +kernel
theorem dL_law_1174 : decode cL_law 1174 = .ok (.iconst 1, 1) := by decide +kernel
theorem dL_law_1175 : decode cL_law 1175 = .ok (.iadd, 1) := by decide +kernel
theorem dL_law_1176 : decode cL_law 1176 = .ok (.iaload, 1) := by decide +kernel
theorem dL_law_1177 : decode cL_law 1177 = .ok (.aload_n 0, 1) := by decide +kernel
theorem dL_law_1178 : decode cL_law 1178 = .ok (.iload_n 3, 1) := by decide +kernel
theorem dL_law_1179 : decode cL_law 1179 = .ok (.iconst 2, 1) := by decide +kernel
theorem dL_law_1180 : decode cL_law 1180 = .ok (.iadd, 1) := by decide +kernel
theorem dL_law_1181 : decode cL_law 1181 = .ok (.iaload, 1) := by decide +kernel
theorem dL_law_1182 : decode cL_law 1182 = .ok (.aload_n 0, 1) := by decide +kernel
theorem dL_law_1183 : decode cL_law 1183 = .ok (.iload_n 3, 1) := by decide +kernel
theorem dL_law_1184 : decode cL_law 1184 = .ok (.iconst 3, 1) := by decide +kernel
theorem dL_law_1185 : decode cL_law 1185 = .ok (.iadd, 1) := by decide +kernel
theorem dL_law_1186 : decode cL_law 1186 = .ok (.iaload, 1) := by decide +kernel
theorem dL_law_1187 : decode cL_law 1187 = .ok (.aload_n 0, 1) := by decide +kernel
theorem dL_law_1188 : decode cL_law 1188 = .ok (.iload_n 3, 1) := by decide +kernel
theorem dL_law_1189 : decode cL_law 1189 = .ok (.iconst 4, 1) := by decide +kernel
theorem dL_law_1190 : decode cL_law 1190 = .ok (.iadd, 1) := by decide +kernel
theorem dL_law_1191 : decode cL_law 1191 = .ok (.iaload, 1) := by decide +kernel
theorem dL_law_1192 : decode cL_law 1192 = .ok (.aload_n 0, 1) := by decide +kernel
theorem dL_law_1193 : decode cL_law 1193 = .ok (.iload_n 3, 1) := by decide +kernel
theorem dL_law_1194 : decode cL_law 1194 = .ok (.iconst 5, 1) := by decide +kernel
theorem dL_law_1195 : decode cL_law 1195 = .ok (.iadd, 1) := by decide +kernel
theorem dL_law_1196 : decode cL_law 1196 = .ok (.iaload, 1) := by decide +kernel
theorem dL_law_1197 : decode cL_law 1197 = .ok (.invokevirtual 148, 3) := by decide +kernel
theorem dL_law_1200 : decode cL_law 1200 = .ok (.if_icmp .eq 169, 3) := by decide +kernel
theorem dL_law_1203 : decode cL_law 1203 = .ok (.iconst 0, 1) := by decide +kernel
theorem dL_law_1204 : decode cL_law 1204 = .ok (.ireturn, 1) := by decide +kernel
theorem dL_law_1205 : decode cL_law 1205 = .ok (.aload_n 1, 1) := by decide +kernel
theorem dL_law_1206 : decode cL_law 1206 = .ok (.aload_n 0, 1) := by decide +kernel
theorem dL_law_1207 : decode cL_law 1207 = .ok (.iload_n 3, 1) := by decide +kernel
theorem dL_law_1208 : decode cL_law 1208 = .ok (.iconst 1, 1) := by decide +kernel
theorem dL_law_1209 : decode cL_law 1209 = .ok (.iadd, 1) := by decide +kernel
theorem dL_law_1210 : decode cL_law 1210 = .ok (.iaload, 1) := by decide +kernel
theorem dL_law_1211 : decode cL_law 1211 = .ok (.invokevirtual 149, 3) := by decide +kernel
theorem dL_law_1214 : decode cL_law 1214 = .ok (.aload_n 2, 1) := by decide +kernel
theorem dL_law_1215 : decode cL_law 1215 = .ok (.aload_n 0, 1) := by decide +kernel
theorem dL_law_1216 : decode cL_law 1216 = .ok (.iload_n 3, 1) := by decide +kernel
theorem dL_law_1217 : decode cL_law 1217 = .ok (.iconst 1, 1) := by decide +kernel
theorem dL_law_1218 : decode cL_law 1218 = .ok (.iadd, 1) := by decide +kernel
theorem dL_law_1219 : decode cL_law 1219 = .ok (.iaload, 1) := by decide +kernel
theorem dL_law_1220 : decode cL_law 1220 = .ok (.invokevirtual 152, 3) := by decide +kernel
theorem dL_law_1223 : decode cL_law 1223 = .ok (.if_icmp .eq 146, 3) := by decide +kernel
theorem dL_law_1226 : decode cL_law 1226 = .ok (.iconst 0, 1) := by decide +kernel
theorem dL_law_1227 : decode cL_law 1227 = .ok (.ireturn, 1) := by decide +kernel
theorem dL_law_1228 : decode cL_law 1228 = .ok (.aload_n 1, 1) := by decide +kernel
theorem dL_law_1229 : decode cL_law 1229 = .ok (.aload_n 0, 1) := by decide +kernel
theorem dL_law_1230 : decode cL_law 1230 = .ok (.iload_n 3, 1) := by decide +kernel
theorem dL_law_1231 : decode cL_law 1231 = .ok (.iconst 1, 1) := by decide +kernel
theorem dL_law_1232 : decode cL_law 1232 = .ok (.iadd, 1) := by decide +kernel
theorem dL_law_1233 : decode cL_law 1233 = .ok (.iaload, 1) := by decide +kernel
theorem dL_law_1234 : decode cL_law 1234 = .ok (.invokevirtual 153, 3) := by decide +kernel
theorem dL_law_1237 : decode cL_law 1237 = .ok (.aload_n 2, 1) := by decide +kernel
theorem dL_law_1238 : decode cL_law 1238 = .ok (.aload_n 0, 1) := by decide +kernel
theorem dL_law_1239 : decode cL_law 1239 = .ok (.iload_n 3, 1) := by decide +kernel
theorem dL_law_1240 : decode cL_law 1240 = .ok (.iconst 1, 1) := by decide +kernel
theorem dL_law_1241 : decode cL_law 1241 = .ok (.iadd, 1) := by decide +kernel
theorem dL_law_1242 : decode cL_law 1242 = .ok (.iaload, 1) := by decide +kernel
theorem dL_law_1243 : decode cL_law 1243 = .ok (.invokevirtual 156, 3) := by decide +kernel
theorem dL_law_1246 : decode cL_law 1246 = .ok (.if_icmp .eq 123, 3) := by decide +kernel
theorem dL_law_1249 : decode cL_law 1249 = .ok (.iconst 0, 1) := by decide +kernel
theorem dL_law_1250 : decode cL_law 1250 = .ok (.ireturn, 1) := by decide +kernel
theorem dL_law_1251 : decode cL_law 1251 = .ok (.aload_n 1, 1) := by decide +kernel
theorem dL_law_1252 : decode cL_law 1252 = .ok (.aload_n 0, 1) := by decide +kernel
theorem dL_law_1253 : decode cL_law 1253 = .ok (.iload_n 3, 1) := by decide +kernel
theorem dL_law_1254 : decode cL_law 1254 = .ok (.iconst 1, 1) := by decide +kernel
theorem dL_law_1255 : decode cL_law 1255 = .ok (.iadd, 1) := by decide +kernel
theorem dL_law_1256 : decode cL_law 1256 = .ok (.iaload, 1) := by decide +kernel
theorem dL_law_1257 : decode cL_law 1257 = .ok (.aload_n 0, 1) := by decide +kernel
theorem dL_law_1258 : decode cL_law 1258 = .ok (.iload_n 3, 1) := by decide +kernel
theorem dL_law_1259 : decode cL_law 1259 = .ok (.iconst 2, 1) := by decide +kernel
theorem dL_law_1260 : decode cL_law 1260 = .ok (.iadd, 1) := by decide +kernel
theorem dL_law_1261 : decode cL_law 1261 = .ok (.iaload, 1) := by decide +kernel
theorem dL_law_1262 : decode cL_law 1262 = .ok (.invokevirtual 157, 3) := by decide +kernel
theorem dL_law_1265 : decode cL_law 1265 = .ok (.aload_n 2, 1) := by decide +kernel
theorem dL_law_1266 : decode cL_law 1266 = .ok (.aload_n 0, 1) := by decide +kernel
theorem dL_law_1267 : decode cL_law 1267 = .ok (.iload_n 3, 1) := by decide +kernel
theorem dL_law_1268 : decode cL_law 1268 = .ok (.iconst 1, 1) := by decide +kernel
theorem dL_law_1269 : decode cL_law 1269 = .ok (.iadd, 1) := by decide +kernel
theorem dL_law_1270 : decode cL_law 1270 = .ok (.iaload, 1) := by decide +kernel
theorem dL_law_1271 : decode cL_law 1271 = .ok (.aload_n 0, 1) := by decide +kernel
theorem dL_law_1272 : decode cL_law 1272 = .ok (.iload_n 3, 1) := by decide +kernel
theorem dL_law_1273 : decode cL_law 1273 = .ok (.iconst 2, 1) := by decide +kernel
theorem dL_law_1274 : decode cL_law 1274 = .ok (.iadd, 1) := by decide +kernel
theorem dL_law_1275 : decode cL_law 1275 = .ok (.iaload, 1) := by decide +kernel
theorem dL_law_1276 : decode cL_law 1276 = .ok (.invokevirtual 160, 3) := by decide +kernel
theorem dL_law_1279 : decode cL_law 1279 = .ok (.if_icmp .eq 90, 3) := by decide +kernel
theorem dL_law_1282 : decode cL_law 1282 = .ok (.iconst 0, 1) := by decide +kernel
theorem dL_law_1283 : decode cL_law 1283 = .ok (.ireturn, 1) := by decide +kernel
theorem dL_law_1284 : decode cL_law 1284 = .ok (.aload_n 1, 1) := by decide +kernel
theorem dL_law_1285 : decode cL_law 1285 = .ok (.invokevirtual 161, 3) := by decide +kernel
theorem dL_law_1288 : decode cL_law 1288 = .ok (.aload_n 2, 1) := by decide +kernel
theorem dL_law_1289 : decode cL_law 1289 = .ok (.invokevirtual 164, 3) := by decide +kernel
theorem dL_law_1292 : decode cL_law 1292 = .ok (.if_icmp .eq 77, 3) := by decide +kernel
theorem dL_law_1295 : decode cL_law 1295 = .ok (.iconst 0, 1) := by decide +kernel
theorem dL_law_1296 : decode cL_law 1296 = .ok (.ireturn, 1) := by decide +kernel
theorem dL_law_1297 : decode cL_law 1297 = .ok (.aload_n 1, 1) := by decide +kernel
theorem dL_law_1298 : decode cL_law 1298 = .ok (.invokevirtual 165, 3) := by decide +kernel
theorem dL_law_1301 : decode cL_law 1301 = .ok (.aload_n 2, 1) := by decide +kernel
theorem dL_law_1302 : decode cL_law 1302 = .ok (.invokevirtual 168, 3) := by decide +kernel
theorem dL_law_1305 : decode cL_law 1305 = .ok (.if_icmp .eq 64, 3) := by decide +kernel
theorem dL_law_1308 : decode cL_law 1308 = .ok (.iconst 0, 1) := by decide +kernel
theorem dL_law_1309 : decode cL_law 1309 = .ok (.ireturn, 1) := by decide +kernel
theorem dL_law_1310 : decode cL_law 1310 = .ok (.aload_n 1, 1) := by decide +kernel
theorem dL_law_1311 : decode cL_law 1311 = .ok (.invokevirtual 169, 3) := by decide +kernel
theorem dL_law_1314 : decode cL_law 1314 = .ok (.aload_n 2, 1) := by decide +kernel
theorem dL_law_1315 : decode cL_law 1315 = .ok (.invokevirtual 172, 3) := by decide +kernel
theorem dL_law_1318 : decode cL_law 1318 = .ok (.if_icmp .eq 51, 3) := by decide +kernel
theorem dL_law_1321 : decode cL_law 1321 = .ok (.iconst 0, 1) := by decide +kernel
theorem dL_law_1322 : decode cL_law 1322 = .ok (.ireturn, 1) := by decide +kernel
theorem dL_law_1323 : decode cL_law 1323 = .ok (.aload_n 1, 1) := by decide +kernel
theorem dL_law_1324 : decode cL_law 1324 = .ok (.aload_n 0, 1) := by decide +kernel
theorem dL_law_1325 : decode cL_law 1325 = .ok (.iload_n 3, 1) := by decide +kernel
theorem dL_law_1326 : decode cL_law 1326 = .ok (.iconst 1, 1) := by decide +kernel
theorem dL_law_1327 : decode cL_law 1327 = .ok (.iadd, 1) := by decide +kernel
theorem dL_law_1328 : decode cL_law 1328 = .ok (.iaload, 1) := by decide +kernel
theorem dL_law_1329 : decode cL_law 1329 = .ok (.invokevirtual 173, 3) := by decide +kernel
theorem dL_law_1332 : decode cL_law 1332 = .ok (.aload_n 2, 1) := by decide +kernel
theorem dL_law_1333 : decode cL_law 1333 = .ok (.aload_n 0, 1) := by decide +kernel
theorem dL_law_1334 : decode cL_law 1334 = .ok (.iload_n 3, 1) := by decide +kernel
theorem dL_law_1335 : decode cL_law 1335 = .ok (.iconst 1, 1) := by decide +kernel
theorem dL_law_1336 : decode cL_law 1336 = .ok (.iadd, 1) := by decide +kernel
theorem dL_law_1337 : decode cL_law 1337 = .ok (.iaload, 1) := by decide +kernel
theorem dL_law_1338 : decode cL_law 1338 = .ok (.invokevirtual 176, 3) := by decide +kernel
theorem dL_law_1341 : decode cL_law 1341 = .ok (.if_icmp .eq 28, 3) := by decide +kernel
theorem dL_law_1344 : decode cL_law 1344 = .ok (.iconst 0, 1) := by decide +kernel
theorem dL_law_1345 : decode cL_law 1345 = .ok (.ireturn, 1) := by decide +kernel
theorem dL_law_1346 : decode cL_law 1346 = .ok (.aload_n 1, 1) := by decide +kernel
theorem dL_law_1347 : decode cL_law 1347 = .ok (.aload_n 0, 1) := by decide +kernel
theorem dL_law_1348 : decode cL_law 1348 = .ok (.iload_n 3, 1) := by decide +kernel
theorem dL_law_1349 : decode cL_law 1349 = .ok (.iconst 1, 1) := by decide +kernel
theorem dL_law_1350 : decode cL_law 1350 = .ok (.iadd, 1) := by decide +kernel
theorem dL_law_1351 : decode cL_law 1351 = .ok (.iaload, 1) := by decide +kernel
theorem dL_law_1352 : decode cL_law 1352 = .ok (.invokevirtual 177, 3) := by decide +kernel
theorem dL_law_1355 : decode cL_law 1355 = .ok (.aload_n 2, 1) := by decide +kernel
theorem dL_law_1356 : decode cL_law 1356 = .ok (.aload_n 0, 1) := by decide +kernel
theorem dL_law_1357 : decode cL_law 1357 = .ok (.iload_n 3, 1) := by decide +kernel
theorem dL_law_1358 : decode cL_law 1358 = .ok (.iconst 1, 1) := by decide +kernel
theorem dL_law_1359 : decode cL_law 1359 = .ok (.iadd, 1) := by decide +kernel
theorem dL_law_1360 : decode cL_law 1360 = .ok (.iaload, 1) := by decide +kernel
theorem dL_law_1361 : decode cL_law 1361 = .ok (.invokevirtual 180, 3) := by decide +kernel
theorem dL_law_1364 : decode cL_law 1364 = .ok (.if_icmp .eq 5, 3) := by decide +kernel
theorem dL_law_1367 : decode cL_law 1367 = .ok (.iconst 0, 1) := by decide +kernel
theorem dL_law_1368 : decode cL_law 1368 = .ok (.ireturn, 1) := by decide +kernel
theorem dL_law_1369 : decode cL_law 1369 = .ok (.iinc 3 6, 3) := by decide +kernel
theorem dL_law_1372 : decode cL_law 1372 = .ok (.goto (-1354), 3) := by decide +kernel
theorem dL_law_1375 : decode cL_law 1375 = .ok (.iconst 1, 1) := by decide +kernel
theorem dL_law_1376 : decode cL_law 1376 = .ok (.ireturn, 1) := by decide +kernel
end
section
/-! the mathematics of the plain: P 0 = numbers (1 crows, 2 day, 3 sitters, 8 likenesses), P 1 wheat, P 2 kinds, P 3 tempers, P 4 fees, P 5 sinces, P 6 cells, P 7 owners, P 8 ages -/
def sm (f : Int → Int) : Nat → Int
  | 0 => 0
  | n + 1 => sm f n + f n
theorem sm_congr {f g : Int → Int} : ∀ {n : Nat}, (∀ i : Nat, i < n → f i = g i) → sm f n = sm g n
  | 0, _ => rfl
  | n + 1, h => by
    show sm f n + f n = sm g n + g n
    rw [sm_congr (fun i hi => h i (by omega)), h n (by omega)]
theorem sm_bd {f : Int → Int} {lo hi : Int} : ∀ {n : Nat}, (∀ i : Nat, i < n → lo ≤ f i ∧ f i ≤ hi) → n * lo ≤ sm f n ∧ sm f n ≤ n * hi
  | 0, _ => by simp [sm]
  | n + 1, h => by
    have h1 := sm_bd (n := n) (fun i hi => h i (by omega))
    have h2 := h n (by omega)
    show ((n + 1 : Nat) : Int) * lo ≤ sm f n + f n ∧ sm f n + f n ≤ ((n + 1 : Nat) : Int) * hi
    have e1 : ((n + 1 : Nat) : Int) * lo = n * lo + lo := by rw [Int.natCast_add, Int.add_mul]; simp
    have e2 : ((n + 1 : Nat) : Int) * hi = n * hi + hi := by rw [Int.natCast_add, Int.add_mul]; simp
    omega
def sp_fade (kind temper age : Int) : Int :=
  if kind = 1 then max 0 (temper - age / 4) + 5
  else if kind = 2 then max 0 (temper - age / 4) / 2
  else if kind = 3 then (if age < 365 then temper else 0)
  else if kind = 4 then -(max 0 (temper - age / 4) / 2)
  else if kind = 5 then (if age < 7 then temper else 0)
  else max 0 (temper - age / 4)
def sp_scare (kind f d : Int) : Int :=
  if kind = 1 then max 0 (f - d)
  else if kind = 2 then max 0 (max 0 (f - 3 * d) - 1)
  else if kind = 4 then min 0 (f + 2 * d)
  else if kind = 5 then (if d ≤ 1 then 2 * max 0 (f - 3 * d) else max 0 (f - 3 * d))
  else max 0 (f - 3 * d)
theorem sp_fade_bd {kind temper age : Int} (ht : 0 ≤ temper ∧ temper ≤ 30) (ha : 0 ≤ age) : -15 ≤ sp_fade kind temper age ∧ sp_fade kind temper age ≤ 35 := by
  unfold sp_fade
  repeat' split
  all_goals omega
theorem sp_scare_bd {kind f d : Int} (hf : -15 ≤ f ∧ f ≤ 35) (hd : 0 ≤ d) : -15 ≤ sp_scare kind f d ∧ sp_scare kind f d ≤ 70 := by
  unfold sp_scare
  repeat' split
  all_goals omega
def sp_abs (x : Int) : Int := max x (-x)
def sp_dist (a c : Int) : Int := sp_abs (a / 8 - c / 8) + sp_abs (a % 8 - c % 8)
theorem sp_dist_bd {a c : Int} (ha : 0 ≤ a ∧ a < 48) (hc : 0 ≤ c ∧ c < 48) : 0 ≤ sp_dist a c ∧ sp_dist a c < 13 := by
  unfold sp_dist sp_abs
  omega
theorem sp_dist_comm (a c : Int) : sp_dist a c = sp_dist c a := by
  unfold sp_dist sp_abs
  omega
def cnt (P : ev_M) (l : Int) : Int := sp_fade (P 2 (P 7 l)) (P 3 (P 7 l)) (P 8 l)
def scr (P : ev_M) (l d : Int) : Int := sp_scare (P 2 (P 7 l)) (cnt P l) d
/-- the most that likenesses of k scare at c, out of a table -/
def mst (P : ev_M) (pr : Int → Bool) (tb : Int → Int → Int) (c k s : Int) : Nat → Int
  | 0 => s
  | n + 1 => if P 7 n = k ∧ pr n = true then max (mst P pr tb c k s n) (tb n (sp_dist (P 6 n) c)) else mst P pr tb c k s n
def fearT (P : ev_M) (pr : Int → Bool) (tb : Int → Int → Int) (s c : Int) : Int := sm (fun k => if mst P pr tb c k s (P 0 8).toNat = s then 0 else mst P pr tb c k s (P 0 8).toNat) (P 0 3).toNat
def fear (P : ev_M) (pr : Int → Bool) (c : Int) : Int := fearT P pr (scr P) (-1000000) c
def lnd (w f : Int → Int) : Nat → Int
  | 0 => -1
  | n + 1 => if 0 < w n ∧ f n < 20 ∧ (lnd w f n < 0 ∨ w (lnd w f n) - f (lnd w f n) < w n - f n) then (n : Int) else lnd w f n
theorem lnd_bd (w f : Int → Int) : ∀ n : Nat, -1 ≤ lnd w f n ∧ lnd w f n < n
  | 0 => by simp [lnd]
  | n + 1 => by
    have := lnd_bd w f n
    unfold lnd
    split <;> omega
theorem lnd_ok (w f : Int → Int) : ∀ n : Nat, 0 ≤ lnd w f n → 0 < w (lnd w f n)
  | 0 => fun h => absurd h (by simp [lnd])
  | n + 1 => by
    have := lnd_ok w f n
    unfold lnd
    split
    · rename_i h; intro _; exact h.1
    · exact this
def upw (w : Int → Int) (c v : Int) : Int → Int := fun i => if i = c then v else w i
/-- behind k crows: the wheat and what was eaten -/
def eatc (f w : Int → Int) : Nat → (Int → Int) × Int
  | 0 => (w, 0)
  | k + 1 => if lnd (eatc f w k).1 f 48 < 0 then eatc f w k else (upw (eatc f w k).1 (lnd (eatc f w k).1 f 48) ((eatc f w k).1 (lnd (eatc f w k).1 f 48) - min 2 ((eatc f w k).1 (lnd (eatc f w k).1 f 48))), (eatc f w k).2 + min 2 ((eatc f w k).1 (lnd (eatc f w k).1 f 48)))
def metB (P : ev_M) (a o : Int) : Prop := P 6 a / 8 = P 6 o / 8 ∨ P 6 a % 8 = P 6 o % 8
/-- one pair of likenesses of k that meet -/
def mpr (P : ev_M) (pr : Int → Bool) (k a o : Int) : Int := if P 7 a = k ∧ P 7 o = k ∧ (P 6 a / 8 = P 6 o / 8 ∨ P 6 a % 8 = P 6 o % 8) ∧ pr a = true ∧ pr o = true then 1 else 0
theorem mpr_comm (P : ev_M) (pr : Int → Bool) (k a o : Int) : mpr P pr k a o = mpr P pr k o a := by
  unfold mpr
  congr 1
  apply propext
  constructor
  · rintro ⟨h1, h2, h3, h4, h5⟩; exact ⟨h2, h1, by omega, h5, h4⟩
  · rintro ⟨h1, h2, h3, h4, h5⟩; exact ⟨h2, h1, by omega, h5, h4⟩
/-- how many pairs of likenesses of k meet -/
def mts (P : ev_M) (pr : Int → Bool) (k : Int) (n : Nat) : Int := sm (fun l => sm (fun o => mpr P pr k l o) l.toNat) n
def dayW (P : ev_M) (pr : Int → Bool) : (Int → Int) × Int := eatc (fear P pr) (P 1) (P 0 1).toNat
def dayE (P : ev_M) (pr : Int → Bool) : Int := (dayW P pr).2
def dayM (P : ev_M) (pr : Int → Bool) : ev_M := fun j i =>
  if j = 1 then (dayW P pr).1 i
  else if j = 3 then (if 0 ≤ i ∧ i < P 0 3 then max 0 (P 3 i - mts P pr i (P 0 8).toNat) else P 3 i)
  else if j = 8 then (if 0 ≤ i ∧ i < P 0 8 then min 9999 (P 8 i + 1) else P 8 i)
  else if j = 0 ∧ i = 2 then P 0 2 + 1
  else P j i
def dayN (P : ev_M) (pr : Int → Bool) : Nat → ev_M
  | 0 => P
  | n + 1 => dayM (dayN P pr n) pr
def eatN (P : ev_M) (pr : Int → Bool) (n : Nat) : Int := sm (fun i => dayE (dayN P pr i.toNat) pr) n
def allp : Int → Bool := fun _ => true
/-- what holds of every plain -/
def okP (P : ev_M) : Prop := (0 ≤ P 0 1 ∧ P 0 1 ≤ 20) ∧ (0 ≤ P 0 2 ∧ P 0 2 ≤ 1000000) ∧ (0 ≤ P 0 3 ∧ P 0 3 ≤ 6) ∧ (0 ≤ P 0 8 ∧ P 0 8 ≤ 8) ∧ (∀ c : Int, 0 ≤ c ∧ c < 48 → 0 ≤ P 1 c ∧ P 1 c ≤ 99) ∧
  (∀ k : Int, 0 ≤ k ∧ k < P 0 3 → (0 ≤ P 2 k ∧ P 2 k ≤ 5) ∧ (0 ≤ P 3 k ∧ P 3 k ≤ 30) ∧ (0 ≤ P 4 k ∧ P 4 k ≤ 99) ∧ (0 ≤ P 5 k ∧ P 5 k ≤ 1000000)) ∧
  (∀ l : Int, 0 ≤ l ∧ l < P 0 8 → (0 ≤ P 6 l ∧ P 6 l < 48) ∧ (0 ≤ P 7 l ∧ P 7 l < P 0 3) ∧ (0 ≤ P 8 l ∧ P 8 l ≤ 9999))
/-- a plain of the class: its cells -/
def wn (σ : ev_M) (p : Nat) : ev_M := fun j i => σ (p + j) i
def isP (p : Nat) : Prop := p = 1 ∨ p = 10 ∨ p = 19
theorem pk0 {p : Nat} (h : isP p) : ev_kds[p]? = some (.inl (1, [some (p + 1), none, none, none, some (p + 2), some (p + 3), some (p + 4), some (p + 5), none, some (p + 6), some (p + 7), some (p + 8)])) := by
  rcases h with rfl | rfl | rfl <;> rfl
theorem pk1 {p : Nat} (h : isP p) : ev_kds[p + 1]? = some (.inr (0, 48)) := by
  rcases h with rfl | rfl | rfl <;> rfl
theorem pk2 {p : Nat} (h : isP p) : ev_kds[p + 2]? = some (.inr (0, 6)) := by
  rcases h with rfl | rfl | rfl <;> rfl
theorem pk3 {p : Nat} (h : isP p) : ev_kds[p + 3]? = some (.inr (0, 6)) := by
  rcases h with rfl | rfl | rfl <;> rfl
theorem pk4 {p : Nat} (h : isP p) : ev_kds[p + 4]? = some (.inr (0, 6)) := by
  rcases h with rfl | rfl | rfl <;> rfl
theorem pk5 {p : Nat} (h : isP p) : ev_kds[p + 5]? = some (.inr (0, 6)) := by
  rcases h with rfl | rfl | rfl <;> rfl
theorem pk6 {p : Nat} (h : isP p) : ev_kds[p + 6]? = some (.inr (0, 8)) := by
  rcases h with rfl | rfl | rfl <;> rfl
theorem pk7 {p : Nat} (h : isP p) : ev_kds[p + 7]? = some (.inr (0, 8)) := by
  rcases h with rfl | rfl | rfl <;> rfl
theorem pk8 {p : Nat} (h : isP p) : ev_kds[p + 8]? = some (.inr (0, 8)) := by
  rcases h with rfl | rfl | rfl <;> rfl
def isS (q : Nat) : Prop := q = 37 ∨ q = 39 ∨ q = 41 ∨ q = 43
theorem sk0 {q : Nat} (h : isS q) : ev_kds[q]? = some (.inl (2, [some (q + 1), none, none])) := by
  rcases h with rfl | rfl | rfl | rfl <;> rfl
theorem sk1 {q : Nat} (h : isS q) : ev_kds[q + 1]? = some (.inr (1, 40)) := by
  rcases h with rfl | rfl | rfl | rfl <;> rfl
end
section
/-! the class's leaves -/
theorem c_X5_isWithin {b : ev_B} {σ : ev_M} {v lo hi : Int} (h1 : (-2147483648 ≤ v ∧ v < 2147483648)) (h2 : (-2147483648 ≤ lo ∧ lo < 2147483648)) (h3 : (-2147483648 ≤ hi ∧ hi < 2147483648)) : CF b mX5_isWithin [vI v, vI lo, vI hi] σ (some (vI (if lo ≤ v ∧ v ≤ hi then 1 else 0))) σ := by
  refine ev_enter okX5_isWithin.1 (Nat.le_of_ble_eq_true rfl) ?_
  refine ev_iload_n dX5_isWithin_0 rfl ?_
  refine ev_iload_n dX5_isWithin_1 rfl ?_
  refine ev_icmp_lt (tgt := 14) dX5_isWithin_2 (by decide) (by omega) (by omega) (fun c2 => ?_) (fun c2 => ?_)
  · refine ev_iconst dX5_isWithin_14 ?_
    refine ev_iret dX5_isWithin_15 rfl (by first | rfl | exact ev_nb) ?_
    exact ⟨by first | rw [if_pos (by omega)] | rw [if_neg (by omega)], rfl⟩
  · refine ev_iload_n dX5_isWithin_5 rfl ?_
    refine ev_iload_n dX5_isWithin_6 rfl ?_
    refine ev_icmp_gt (tgt := 14) dX5_isWithin_7 (by decide) (by omega) (by omega) (fun c7 => ?_) (fun c7 => ?_)
    · refine ev_iconst dX5_isWithin_14 ?_
      refine ev_iret dX5_isWithin_15 rfl (by first | rfl | exact ev_nb) ?_
      exact ⟨by first | rw [if_pos (by omega)] | rw [if_neg (by omega)], rfl⟩
    · refine ev_iconst dX5_isWithin_10 ?_
      refine ev_goto (tgt := 15) dX5_isWithin_11 (by decide) ?_
      refine ev_iret dX5_isWithin_15 rfl (by first | rfl | exact ev_nb) ?_
      exact ⟨by first | rw [if_pos (by omega)] | rw [if_neg (by omega)], rfl⟩
theorem c_X5_isCell {b : ev_B} {σ : ev_M} {v : Int} (h1 : (-2147483648 ≤ v ∧ v < 2147483648)) : CF b mX5_isCell [vI v] σ (some (vI (if 0 ≤ v ∧ v ≤ 47 then 1 else 0))) σ := by
  refine ev_enter okX5_isCell.1 (Nat.le_of_ble_eq_true rfl) ?_
  refine ev_iload_n dX5_isCell_0 rfl ?_
  refine ev_iconst dX5_isCell_1 ?_
  refine ev_bipush dX5_isCell_2 (by decide) ?_
  refine ev_S1 (c_X5_isWithin (by omega) (by omega) (by omega)) okX5_isWithin dX5_isCell_4 mlX5_51 ⟨by decide, by decide⟩ rfl (Nat.le_of_ble_eq_true rfl) ?_
  refine ev_iret dX5_isCell_7 rfl (by first | rfl | exact ev_nb) ?_
  exact ⟨rfl, rfl⟩
theorem c_X5_isKind {b : ev_B} {σ : ev_M} {v : Int} (h1 : (-2147483648 ≤ v ∧ v < 2147483648)) : CF b mX5_isKind [vI v] σ (some (vI (if 0 ≤ v ∧ v ≤ 5 then 1 else 0))) σ := by
  refine ev_enter okX5_isKind.1 (Nat.le_of_ble_eq_true rfl) ?_
  refine ev_iload_n dX5_isKind_0 rfl ?_
  refine ev_iconst dX5_isKind_1 ?_
  refine ev_iconst dX5_isKind_2 ?_
  refine ev_S1 (c_X5_isWithin (by omega) (by omega) (by omega)) okX5_isWithin dX5_isKind_3 mlX5_51 ⟨by decide, by decide⟩ rfl (Nat.le_of_ble_eq_true rfl) ?_
  refine ev_iret dX5_isKind_6 rfl (by first | rfl | exact ev_nb) ?_
  exact ⟨rfl, rfl⟩
theorem c_X5_isSheet {b : ev_B} {σ : ev_M} {v : Int} (h1 : (-2147483648 ≤ v ∧ v < 2147483648)) : CF b mX5_isSheet [vI v] σ (some (vI (if 0 ≤ v ∧ v ≤ 3 then 1 else 0))) σ := by
  refine ev_enter okX5_isSheet.1 (Nat.le_of_ble_eq_true rfl) ?_
  refine ev_iload_n dX5_isSheet_0 rfl ?_
  refine ev_iconst dX5_isSheet_1 ?_
  refine ev_iconst dX5_isSheet_2 ?_
  refine ev_S1 (c_X5_isWithin (by omega) (by omega) (by omega)) okX5_isWithin dX5_isSheet_3 mlX5_51 ⟨by decide, by decide⟩ rfl (Nat.le_of_ble_eq_true rfl) ?_
  refine ev_iret dX5_isSheet_6 rfl (by first | rfl | exact ev_nb) ?_
  exact ⟨rfl, rfl⟩
theorem c_X5_isSitter {b : ev_B} {σ : ev_M} {v : Int} (h1 : (-2147483648 ≤ v ∧ v < 2147483648)) (h2 : 0 ≤ σ 1 3 ∧ σ 1 3 ≤ 6) : CF b mX5_isSitter [vR 0, vI v] σ (some (vI (if 0 ≤ v ∧ v ≤ σ 1 3 - 1 then 1 else 0))) σ := by
  refine ev_enter okX5_isSitter.1 (Nat.le_of_ble_eq_true rfl) ?_
  refine ev_iload_n dX5_isSitter_0 rfl ?_
  refine ev_iconst dX5_isSitter_1 ?_
  refine ev_aload_n dX5_isSitter_2 rfl ?_
  refine ev_getr 0 dX5_isSitter_3 rfl rfl flX5_10 iwX5 (by decide) rfl ?_
  refine ev_geti 3 3 dX5_isSitter_6 rfl rfl flX5_79 iwX2 (by decide) rfl rfl ?_
  refine ev_iconst dX5_isSitter_9 ?_
  refine ev_isub dX5_isSitter_10 ?_
  refine ev_S1 (c_X5_isWithin (by omega) (by omega) (by omega)) okX5_isWithin dX5_isSitter_11 mlX5_51 ⟨by decide, by decide⟩ rfl (Nat.le_of_ble_eq_true rfl) ?_
  refine ev_iret dX5_isSitter_14 rfl (by first | rfl | exact ev_nb) ?_
  exact ⟨rfl, rfl⟩
theorem c_X5_isLikeness {b : ev_B} {σ : ev_M} {v : Int} (h1 : (-2147483648 ≤ v ∧ v < 2147483648)) (h2 : 0 ≤ σ 1 8 ∧ σ 1 8 ≤ 8) : CF b mX5_isLikeness [vR 0, vI v] σ (some (vI (if 0 ≤ v ∧ v ≤ σ 1 8 - 1 then 1 else 0))) σ := by
  refine ev_enter okX5_isLikeness.1 (Nat.le_of_ble_eq_true rfl) ?_
  refine ev_iload_n dX5_isLikeness_0 rfl ?_
  refine ev_iconst dX5_isLikeness_1 ?_
  refine ev_aload_n dX5_isLikeness_2 rfl ?_
  refine ev_getr 0 dX5_isLikeness_3 rfl rfl flX5_10 iwX5 (by decide) rfl ?_
  refine ev_geti 8 8 dX5_isLikeness_6 rfl rfl flX5_121 iwX2 (by decide) rfl rfl ?_
  refine ev_iconst dX5_isLikeness_9 ?_
  refine ev_isub dX5_isLikeness_10 ?_
  refine ev_S1 (c_X5_isWithin (by omega) (by omega) (by omega)) okX5_isWithin dX5_isLikeness_11 mlX5_51 ⟨by decide, by decide⟩ rfl (Nat.le_of_ble_eq_true rfl) ?_
  refine ev_iret dX5_isLikeness_14 rfl (by first | rfl | exact ev_nb) ?_
  exact ⟨rfl, rfl⟩
theorem c_X5_exchange {b : ev_B} {σ : ev_M} {r n : Nat} {i v : Int} (hr : ev_kds[r]? = some (.inr (0, n))) (hi : 0 ≤ i ∧ i < n) : CF b mX5_exchange [vR r, vI i, vI v] σ (some (vI (σ r i))) (mup σ r i v) := by
  refine ev_enter okX5_exchange.1 (Nat.le_of_ble_eq_true rfl) ?_
  refine ev_aload_n dX5_exchange_0 rfl ?_
  refine ev_iload_n dX5_exchange_1 rfl ?_
  refine ev_iald dX5_exchange_2 hr (by omega) ?_
  refine ev_istore_n dX5_exchange_3 (by decide) rfl ?_
  refine ev_aload_n dX5_exchange_4 rfl ?_
  refine ev_iload_n dX5_exchange_5 rfl ?_
  refine ev_iload_n dX5_exchange_6 rfl ?_
  refine ev_iast dX5_exchange_7 hr (by omega) ?_
  refine ev_iload_n dX5_exchange_8 rfl ?_
  refine ev_iret dX5_exchange_9 rfl rfl ?_
  exact ⟨rfl, rfl⟩
theorem c_X5_finding {b : ev_B} {σ : ev_M} {i : Int} (hi : 0 ≤ i ∧ i < 7) : CF b mX5_finding [vR 0, vI i] σ (some (vI (-1000000001 - i))) (mup σ 45 i (σ 45 i + 1)) := by
  refine ev_enter okX5_finding.1 (Nat.le_of_ble_eq_true rfl) ?_
  refine ev_aload_n dX5_finding_0 rfl ?_
  refine ev_getr 6 dX5_finding_1 rfl rfl flX5_42 iwX5 (by decide) rfl ?_
  refine ev_iload_n dX5_finding_4 rfl ?_
  refine ev_dup2 dX5_finding_5 rfl rfl ?_
  refine ev_iald dX5_finding_6 rfl (by omega) ?_
  refine ev_iconst dX5_finding_7 ?_
  refine ev_iadd dX5_finding_8 ?_
  refine ev_iast dX5_finding_9 rfl (by omega) ?_
  refine ev_ldcw (z := -1000000001) dX5_finding_10 kcX5_259 (by decide) ?_
  refine ev_iload_n dX5_finding_13 rfl ?_
  refine ev_isub dX5_finding_14 ?_
  refine ev_iret dX5_finding_15 rfl rfl ?_
  exact ⟨rfl, rfl⟩
theorem c_X5_sumOf {b : ev_B} {σ : ev_M} {r n N : Nat} (hr : ev_kds[r]? = some (.inr (0, n))) (hN : N ≤ n) : CF b mX5_sumOf [vR r, vI N] σ (some (vI (sm (σ r) N))) σ := by
  refine ev_enter okX5_sumOf.1 (Nat.le_of_ble_eq_true rfl) ?_
  have hn := ev_small _ _ _ hr
  have loop : ∀ (m i : Nat), i + m = N → Ev b mX5_sumOf 4 [(0, vR r), (1, vI N), (2, vI (sm (σ r) i)), (3, vI i)] [] σ (fun r' τ' => r' = some (vI (sm (σ r) N)) ∧ τ' = σ) := by
    intro m
    induction m with
    | zero =>
      intro i h
      refine ev_iload_n dX5_sumOf_4 rfl ?_
      refine ev_iload_n dX5_sumOf_5 rfl ?_
      refine ev_icmp_ge (tgt := 21) dX5_sumOf_6 (by decide) (by omega) (by omega) (fun c6 => ?_) (fun c6 => ?_)
      · refine ev_iload_n dX5_sumOf_21 rfl ?_
        refine ev_iret dX5_sumOf_22 rfl rfl ?_
        have e : i = N := by omega
        subst e
        exact ⟨rfl, rfl⟩
      · exact absurd c6 (by omega)
    | succ m ih =>
      intro i h
      refine ev_iload_n dX5_sumOf_4 rfl ?_
      refine ev_iload_n dX5_sumOf_5 rfl ?_
      refine ev_icmp_ge (tgt := 21) dX5_sumOf_6 (by decide) (by omega) (by omega) (fun c6 => ?_) (fun c6 => ?_)
      · exact absurd c6 (by omega)
      · refine ev_iload_n dX5_sumOf_9 rfl ?_
        refine ev_aload_n dX5_sumOf_10 rfl ?_
        refine ev_iload_n dX5_sumOf_11 rfl ?_
        refine ev_iald dX5_sumOf_12 hr (by omega) ?_
        refine ev_iadd dX5_sumOf_13 ?_
        refine ev_istore_n dX5_sumOf_14 (by decide) rfl ?_
        refine ev_iinc dX5_sumOf_15 rfl (by decide) rfl ?_
        refine ev_goto (tgt := 4) dX5_sumOf_18 (by decide) ?_
        exact ih (i + 1) (by omega)
  refine ev_iconst dX5_sumOf_0 ?_
  refine ev_istore_n dX5_sumOf_1 (by decide) rfl ?_
  refine ev_iconst dX5_sumOf_2 ?_
  refine ev_istore_n dX5_sumOf_3 (by decide) rfl ?_
  exact loop N 0 (by omega)
theorem c_X5_distanceOf {b : ev_B} {σ : ev_M} {a c : Int} (ha : 0 ≤ a ∧ a < 48) (hc : 0 ≤ c ∧ c < 48) : CF b mX5_distanceOf [vI a, vI c] σ (some (vI (sp_dist a c))) σ := by
  refine ev_enter okX5_distanceOf.1 (Nat.le_of_ble_eq_true rfl) ?_
  refine ev_iload_n dX5_distanceOf_0 rfl ?_
  refine ev_bipush dX5_distanceOf_1 (by decide) ?_
  refine ev_idiv dX5_distanceOf_3 (by omega) (by omega) ?_
  refine ev_iload_n dX5_distanceOf_4 rfl ?_
  refine ev_bipush dX5_distanceOf_5 (by decide) ?_
  refine ev_idiv dX5_distanceOf_7 (by omega) (by omega) ?_
  refine ev_isub dX5_distanceOf_8 ?_
  refine ev_mabs dX5_distanceOf_9 mlX5_263 ma_abs (by omega) ⟨by decide, by decide⟩ ?_
  refine ev_istore_n dX5_distanceOf_12 (by decide) rfl ?_
  refine ev_iload_n dX5_distanceOf_13 rfl ?_
  refine ev_bipush dX5_distanceOf_14 (by decide) ?_
  refine ev_irem dX5_distanceOf_16 (by omega) (by omega) ?_
  refine ev_iload_n dX5_distanceOf_17 rfl ?_
  refine ev_bipush dX5_distanceOf_18 (by decide) ?_
  refine ev_irem dX5_distanceOf_20 (by omega) (by omega) ?_
  refine ev_isub dX5_distanceOf_21 ?_
  refine ev_mabs dX5_distanceOf_22 mlX5_263 ma_abs (by omega) ⟨by decide, by decide⟩ ?_
  refine ev_istore_n dX5_distanceOf_25 (by decide) rfl ?_
  refine ev_iload_n dX5_distanceOf_26 rfl ?_
  refine ev_iload_n dX5_distanceOf_27 rfl ?_
  refine ev_iadd dX5_distanceOf_28 ?_
  refine ev_iret dX5_distanceOf_29 rfl rfl ?_
  exact ⟨rfl, rfl⟩
end
