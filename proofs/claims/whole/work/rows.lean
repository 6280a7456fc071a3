section
-- ===== PART A: goes FIRST, ahead of the names: the tables' words, and 'selects' of the private methods out of them =====
/-- a private method of a class that the tables say can be made, by its rows of tables_1 -/
def lw_okq (q : MethodName × Nat) : Prop := (q.1.cls ≠ "java/lang/invoke/MethodHandle" ∧ q.1.cls ≠ "java/lang/invoke/VarHandle") ∧ Cond.instantiable q.1.cls q.2 ∈ tables_1 ∧ Cond.privateMethod q.1 ∈ tables_1 ∧ Cond.instanceMethod q.1 ∈ tables_1
theorem lw_p0 : lw_okq (⟨"SandMarch", "adopt", "(LSandMarch$Draft;)V"⟩, 16) := ⟨⟨by decide +kernel, by decide +kernel⟩, List.mem_of_getElem? (i := 21) (by decide +kernel), List.mem_of_getElem? (i := 357) (by decide +kernel), List.mem_of_getElem? (i := 358) (by decide +kernel)⟩
theorem lw_p1 : lw_okq (⟨"SandMarch$Land", "numberCells", "()V"⟩, 11) := ⟨⟨by decide +kernel, by decide +kernel⟩, List.mem_of_getElem? (i := 162) (by decide +kernel), List.mem_of_getElem? (i := 365) (by decide +kernel), List.mem_of_getElem? (i := 366) (by decide +kernel)⟩
theorem lw_p2 : lw_okq (⟨"SandMarch$Land", "joinCells", "()V"⟩, 11) := ⟨⟨by decide +kernel, by decide +kernel⟩, List.mem_of_getElem? (i := 162) (by decide +kernel), List.mem_of_getElem? (i := 369) (by decide +kernel), List.mem_of_getElem? (i := 370) (by decide +kernel)⟩
theorem lw_p3 : lw_okq (⟨"SandMarch$Storm", "firstSteep", "()I"⟩, 5) := ⟨⟨by decide +kernel, by decide +kernel⟩, List.mem_of_getElem? (i := 247) (by decide +kernel), List.mem_of_getElem? (i := 389) (by decide +kernel), List.mem_of_getElem? (i := 390) (by decide +kernel)⟩
theorem lw_p4 : lw_okq (⟨"SandMarch$Storm", "wayDown", "(I)I"⟩, 5) := ⟨⟨by decide +kernel, by decide +kernel⟩, List.mem_of_getElem? (i := 247) (by decide +kernel), List.mem_of_getElem? (i := 393) (by decide +kernel), List.mem_of_getElem? (i := 394) (by decide +kernel)⟩
theorem lw_p5 : lw_okq (⟨"SandMarch$Storm", "slide", "(II)V"⟩, 5) := ⟨⟨by decide +kernel, by decide +kernel⟩, List.mem_of_getElem? (i := 247) (by decide +kernel), List.mem_of_getElem? (i := 401) (by decide +kernel), List.mem_of_getElem? (i := 402) (by decide +kernel)⟩
theorem lw_p6 : lw_okq (⟨"SandMarch$Storm", "cross", "(III)V"⟩, 5) := ⟨⟨by decide +kernel, by decide +kernel⟩, List.mem_of_getElem? (i := 247) (by decide +kernel), List.mem_of_getElem? (i := 405) (by decide +kernel), List.mem_of_getElem? (i := 406) (by decide +kernel)⟩
theorem lw_p7 : lw_okq (⟨"SandMarch$Tape", "scanToken", "(II)V"⟩, 6) := ⟨⟨by decide +kernel, by decide +kernel⟩, List.mem_of_getElem? (i := 29) (by decide +kernel), List.mem_of_getElem? (i := 495) (by decide +kernel), List.mem_of_getElem? (i := 496) (by decide +kernel)⟩
theorem lw_p8 : lw_okq (⟨"SandMarch$Tape", "scanWord", "(I)V"⟩, 6) := ⟨⟨by decide +kernel, by decide +kernel⟩, List.mem_of_getElem? (i := 29) (by decide +kernel), List.mem_of_getElem? (i := 502) (by decide +kernel), List.mem_of_getElem? (i := 503) (by decide +kernel)⟩
theorem lw_p9 : lw_okq (⟨"SandMarch$Tape", "wordNumber", "(I)I"⟩, 6) := ⟨⟨by decide +kernel, by decide +kernel⟩, List.mem_of_getElem? (i := 29) (by decide +kernel), List.mem_of_getElem? (i := 506) (by decide +kernel), List.mem_of_getElem? (i := 507) (by decide +kernel)⟩
theorem lw_p10 : lw_okq (⟨"SandMarch$Tape", "scanNumber", "(I)V"⟩, 6) := ⟨⟨by decide +kernel, by decide +kernel⟩, List.mem_of_getElem? (i := 29) (by decide +kernel), List.mem_of_getElem? (i := 562) (by decide +kernel), List.mem_of_getElem? (i := 563) (by decide +kernel)⟩
theorem lw_p11 : lw_okq (⟨"SandMarch$Reader", "kind", "()I"⟩, 5) := ⟨⟨by decide +kernel, by decide +kernel⟩, List.mem_of_getElem? (i := 59) (by decide +kernel), List.mem_of_getElem? (i := 566) (by decide +kernel), List.mem_of_getElem? (i := 567) (by decide +kernel)⟩
theorem lw_p12 : lw_okq (⟨"SandMarch$Reader", "readLineWord", "(I)I"⟩, 5) := ⟨⟨by decide +kernel, by decide +kernel⟩, List.mem_of_getElem? (i := 59) (by decide +kernel), List.mem_of_getElem? (i := 570) (by decide +kernel), List.mem_of_getElem? (i := 571) (by decide +kernel)⟩
theorem lw_p13 : lw_okq (⟨"SandMarch$Reader", "value", "()I"⟩, 5) := ⟨⟨by decide +kernel, by decide +kernel⟩, List.mem_of_getElem? (i := 59) (by decide +kernel), List.mem_of_getElem? (i := 574) (by decide +kernel), List.mem_of_getElem? (i := 575) (by decide +kernel)⟩
theorem lw_p14 : lw_okq (⟨"SandMarch$Reader", "refuseToken", "()V"⟩, 5) := ⟨⟨by decide +kernel, by decide +kernel⟩, List.mem_of_getElem? (i := 59) (by decide +kernel), List.mem_of_getElem? (i := 578) (by decide +kernel), List.mem_of_getElem? (i := 579) (by decide +kernel)⟩
theorem lw_p15 : lw_okq (⟨"SandMarch$Reader", "refuse", "(II)V"⟩, 5) := ⟨⟨by decide +kernel, by decide +kernel⟩, List.mem_of_getElem? (i := 59) (by decide +kernel), List.mem_of_getElem? (i := 582) (by decide +kernel), List.mem_of_getElem? (i := 583) (by decide +kernel)⟩
def lw_privs_1 : List (MethodName × Nat) := [(⟨"SandMarch", "adopt", "(LSandMarch$Draft;)V"⟩, 16), (⟨"SandMarch$Land", "numberCells", "()V"⟩, 11), (⟨"SandMarch$Land", "joinCells", "()V"⟩, 11), (⟨"SandMarch$Storm", "firstSteep", "()I"⟩, 5), (⟨"SandMarch$Storm", "wayDown", "(I)I"⟩, 5), (⟨"SandMarch$Storm", "slide", "(II)V"⟩, 5), (⟨"SandMarch$Storm", "cross", "(III)V"⟩, 5), (⟨"SandMarch$Tape", "scanToken", "(II)V"⟩, 6), (⟨"SandMarch$Tape", "scanWord", "(I)V"⟩, 6), (⟨"SandMarch$Tape", "wordNumber", "(I)I"⟩, 6), (⟨"SandMarch$Tape", "scanNumber", "(I)V"⟩, 6), (⟨"SandMarch$Reader", "kind", "()I"⟩, 5), (⟨"SandMarch$Reader", "readLineWord", "(I)I"⟩, 5), (⟨"SandMarch$Reader", "value", "()I"⟩, 5), (⟨"SandMarch$Reader", "refuseToken", "()V"⟩, 5), (⟨"SandMarch$Reader", "refuse", "(II)V"⟩, 5)]
theorem lw_r1 : ∀ q ∈ lw_privs_1, lw_okq q := List.forall_mem_cons.mpr ⟨lw_p0, List.forall_mem_cons.mpr ⟨lw_p1, List.forall_mem_cons.mpr ⟨lw_p2, List.forall_mem_cons.mpr ⟨lw_p3, List.forall_mem_cons.mpr ⟨lw_p4, List.forall_mem_cons.mpr ⟨lw_p5, List.forall_mem_cons.mpr ⟨lw_p6, List.forall_mem_cons.mpr ⟨lw_p7, List.forall_mem_cons.mpr ⟨lw_p8, List.forall_mem_cons.mpr ⟨lw_p9, List.forall_mem_cons.mpr ⟨lw_p10, List.forall_mem_cons.mpr ⟨lw_p11, List.forall_mem_cons.mpr ⟨lw_p12, List.forall_mem_cons.mpr ⟨lw_p13, List.forall_mem_cons.mpr ⟨lw_p14, List.forall_mem_cons.mpr ⟨lw_p15, fun _ h => absurd h List.not_mem_nil⟩⟩⟩⟩⟩⟩⟩⟩⟩⟩⟩⟩⟩⟩⟩⟩
theorem lw_p16 : lw_okq (⟨"SandMarch$Reader", "advance", "()V"⟩, 5) := ⟨⟨by decide +kernel, by decide +kernel⟩, List.mem_of_getElem? (i := 59) (by decide +kernel), List.mem_of_getElem? (i := 590) (by decide +kernel), List.mem_of_getElem? (i := 591) (by decide +kernel)⟩
theorem lw_p17 : lw_okq (⟨"SandMarch$Reader", "readRest", "(I)V"⟩, 5) := ⟨⟨by decide +kernel, by decide +kernel⟩, List.mem_of_getElem? (i := 59) (by decide +kernel), List.mem_of_getElem? (i := 598) (by decide +kernel), List.mem_of_getElem? (i := 599) (by decide +kernel)⟩
theorem lw_p18 : lw_okq (⟨"SandMarch$Reader", "readSize", "()V"⟩, 5) := ⟨⟨by decide +kernel, by decide +kernel⟩, List.mem_of_getElem? (i := 59) (by decide +kernel), List.mem_of_getElem? (i := 602) (by decide +kernel), List.mem_of_getElem? (i := 603) (by decide +kernel)⟩
theorem lw_p19 : lw_okq (⟨"SandMarch$Reader", "readNumber", "(II)I"⟩, 5) := ⟨⟨by decide +kernel, by decide +kernel⟩, List.mem_of_getElem? (i := 59) (by decide +kernel), List.mem_of_getElem? (i := 606) (by decide +kernel), List.mem_of_getElem? (i := 607) (by decide +kernel)⟩
theorem lw_p20 : lw_okq (⟨"SandMarch$Reader", "expect", "(Z)V"⟩, 5) := ⟨⟨by decide +kernel, by decide +kernel⟩, List.mem_of_getElem? (i := 59) (by decide +kernel), List.mem_of_getElem? (i := 610) (by decide +kernel), List.mem_of_getElem? (i := 611) (by decide +kernel)⟩
theorem lw_p21 : lw_okq (⟨"SandMarch$Reader", "readHeap", "()V"⟩, 5) := ⟨⟨by decide +kernel, by decide +kernel⟩, List.mem_of_getElem? (i := 59) (by decide +kernel), List.mem_of_getElem? (i := 614) (by decide +kernel), List.mem_of_getElem? (i := 615) (by decide +kernel)⟩
theorem lw_p22 : lw_okq (⟨"SandMarch$Reader", "readGrass", "()V"⟩, 5) := ⟨⟨by decide +kernel, by decide +kernel⟩, List.mem_of_getElem? (i := 59) (by decide +kernel), List.mem_of_getElem? (i := 618) (by decide +kernel), List.mem_of_getElem? (i := 619) (by decide +kernel)⟩
theorem lw_p23 : lw_okq (⟨"SandMarch$Reader", "readWind", "()V"⟩, 5) := ⟨⟨by decide +kernel, by decide +kernel⟩, List.mem_of_getElem? (i := 59) (by decide +kernel), List.mem_of_getElem? (i := 622) (by decide +kernel), List.mem_of_getElem? (i := 623) (by decide +kernel)⟩
theorem lw_p24 : lw_okq (⟨"SandMarch$Reader", "readRule", "(I)V"⟩, 5) := ⟨⟨by decide +kernel, by decide +kernel⟩, List.mem_of_getElem? (i := 59) (by decide +kernel), List.mem_of_getElem? (i := 626) (by decide +kernel), List.mem_of_getElem? (i := 627) (by decide +kernel)⟩
theorem lw_p25 : lw_okq (⟨"SandMarch", "windNow", "()I"⟩, 16) := ⟨⟨by decide +kernel, by decide +kernel⟩, List.mem_of_getElem? (i := 21) (by decide +kernel), List.mem_of_getElem? (i := 647) (by decide +kernel), List.mem_of_getElem? (i := 648) (by decide +kernel)⟩
theorem lw_p26 : lw_okq (⟨"SandMarch", "steepness", "(I)I"⟩, 16) := ⟨⟨by decide +kernel, by decide +kernel⟩, List.mem_of_getElem? (i := 21) (by decide +kernel), List.mem_of_getElem? (i := 663) (by decide +kernel), List.mem_of_getElem? (i := 664) (by decide +kernel)⟩
theorem lw_p27 : lw_okq (⟨"SandMarch$Storm", "tryOnce", "()Z"⟩, 5) := ⟨⟨by decide +kernel, by decide +kernel⟩, List.mem_of_getElem? (i := 247) (by decide +kernel), List.mem_of_getElem? (i := 691) (by decide +kernel), List.mem_of_getElem? (i := 692) (by decide +kernel)⟩
theorem lw_p28 : lw_okq (⟨"SandMarch$Storm", "wayUp", "(I)I"⟩, 5) := ⟨⟨by decide +kernel, by decide +kernel⟩, List.mem_of_getElem? (i := 247) (by decide +kernel), List.mem_of_getElem? (i := 709) (by decide +kernel), List.mem_of_getElem? (i := 710) (by decide +kernel)⟩
theorem lw_p29 : lw_okq (⟨"SandMarch$Storm", "carry", "(II)I"⟩, 5) := ⟨⟨by decide +kernel, by decide +kernel⟩, List.mem_of_getElem? (i := 247) (by decide +kernel), List.mem_of_getElem? (i := 713) (by decide +kernel), List.mem_of_getElem? (i := 714) (by decide +kernel)⟩
theorem lw_p30 : lw_okq (⟨"SandMarch$History", "dropOldest", "()V"⟩, 3) := ⟨⟨by decide +kernel, by decide +kernel⟩, List.mem_of_getElem? (i := 272) (by decide +kernel), List.mem_of_getElem? (i := 733) (by decide +kernel), List.mem_of_getElem? (i := 734) (by decide +kernel)⟩
theorem lw_p31 : lw_okq (⟨"SandMarch", "grassy", "()I"⟩, 16) := ⟨⟨by decide +kernel, by decide +kernel⟩, List.mem_of_getElem? (i := 21) (by decide +kernel), List.mem_of_getElem? (i := 751) (by decide +kernel), List.mem_of_getElem? (i := 752) (by decide +kernel)⟩
def lw_privs_2 : List (MethodName × Nat) := [(⟨"SandMarch$Reader", "advance", "()V"⟩, 5), (⟨"SandMarch$Reader", "readRest", "(I)V"⟩, 5), (⟨"SandMarch$Reader", "readSize", "()V"⟩, 5), (⟨"SandMarch$Reader", "readNumber", "(II)I"⟩, 5), (⟨"SandMarch$Reader", "expect", "(Z)V"⟩, 5), (⟨"SandMarch$Reader", "readHeap", "()V"⟩, 5), (⟨"SandMarch$Reader", "readGrass", "()V"⟩, 5), (⟨"SandMarch$Reader", "readWind", "()V"⟩, 5), (⟨"SandMarch$Reader", "readRule", "(I)V"⟩, 5), (⟨"SandMarch", "windNow", "()I"⟩, 16), (⟨"SandMarch", "steepness", "(I)I"⟩, 16), (⟨"SandMarch$Storm", "tryOnce", "()Z"⟩, 5), (⟨"SandMarch$Storm", "wayUp", "(I)I"⟩, 5), (⟨"SandMarch$Storm", "carry", "(II)I"⟩, 5), (⟨"SandMarch$History", "dropOldest", "()V"⟩, 3), (⟨"SandMarch", "grassy", "()I"⟩, 16)]
theorem lw_r2 : ∀ q ∈ lw_privs_2, lw_okq q := List.forall_mem_cons.mpr ⟨lw_p16, List.forall_mem_cons.mpr ⟨lw_p17, List.forall_mem_cons.mpr ⟨lw_p18, List.forall_mem_cons.mpr ⟨lw_p19, List.forall_mem_cons.mpr ⟨lw_p20, List.forall_mem_cons.mpr ⟨lw_p21, List.forall_mem_cons.mpr ⟨lw_p22, List.forall_mem_cons.mpr ⟨lw_p23, List.forall_mem_cons.mpr ⟨lw_p24, List.forall_mem_cons.mpr ⟨lw_p25, List.forall_mem_cons.mpr ⟨lw_p26, List.forall_mem_cons.mpr ⟨lw_p27, List.forall_mem_cons.mpr ⟨lw_p28, List.forall_mem_cons.mpr ⟨lw_p29, List.forall_mem_cons.mpr ⟨lw_p30, List.forall_mem_cons.mpr ⟨lw_p31, fun _ h => absurd h List.not_mem_nil⟩⟩⟩⟩⟩⟩⟩⟩⟩⟩⟩⟩⟩⟩⟩⟩
theorem lw_p32 : lw_okq (⟨"SandMarch", "shadedCells", "()I"⟩, 16) := ⟨⟨by decide +kernel, by decide +kernel⟩, List.mem_of_getElem? (i := 21) (by decide +kernel), List.mem_of_getElem? (i := 794) (by decide +kernel), List.mem_of_getElem? (i := 795) (by decide +kernel)⟩
theorem lw_p33 : lw_okq (⟨"SandMarch", "greatestDifference", "()I"⟩, 16) := ⟨⟨by decide +kernel, by decide +kernel⟩, List.mem_of_getElem? (i := 21) (by decide +kernel), List.mem_of_getElem? (i := 798) (by decide +kernel), List.mem_of_getElem? (i := 799) (by decide +kernel)⟩
theorem lw_p34 : lw_okq (⟨"SandMarch", "allDifferences", "()I"⟩, 16) := ⟨⟨by decide +kernel, by decide +kernel⟩, List.mem_of_getElem? (i := 21) (by decide +kernel), List.mem_of_getElem? (i := 802) (by decide +kernel), List.mem_of_getElem? (i := 803) (by decide +kernel)⟩
theorem lw_p35 : lw_okq (⟨"SandMarch", "yieldingCells", "()I"⟩, 16) := ⟨⟨by decide +kernel, by decide +kernel⟩, List.mem_of_getElem? (i := 21) (by decide +kernel), List.mem_of_getElem? (i := 809) (by decide +kernel), List.mem_of_getElem? (i := 810) (by decide +kernel)⟩
theorem lw_p36 : lw_okq (⟨"SandMarch$Lumps", "join", "(Z)V"⟩, 6) := ⟨⟨by decide +kernel, by decide +kernel⟩, List.mem_of_getElem? (i := 329) (by decide +kernel), List.mem_of_getElem? (i := 838) (by decide +kernel), List.mem_of_getElem? (i := 839) (by decide +kernel)⟩
theorem lw_p37 : lw_okq (⟨"SandMarch$Lumps", "spread", "(IZ)V"⟩, 6) := ⟨⟨by decide +kernel, by decide +kernel⟩, List.mem_of_getElem? (i := 329) (by decide +kernel), List.mem_of_getElem? (i := 843) (by decide +kernel), List.mem_of_getElem? (i := 844) (by decide +kernel)⟩
theorem lw_p38 : lw_okq (⟨"SandMarch$Lumps", "reach", "(I)V"⟩, 6) := ⟨⟨by decide +kernel, by decide +kernel⟩, List.mem_of_getElem? (i := 329) (by decide +kernel), List.mem_of_getElem? (i := 847) (by decide +kernel), List.mem_of_getElem? (i := 848) (by decide +kernel)⟩
theorem lw_p39 : lw_okq (⟨"SandMarch", "slabsOf", "(I)I"⟩, 16) := ⟨⟨by decide +kernel, by decide +kernel⟩, List.mem_of_getElem? (i := 21) (by decide +kernel), List.mem_of_getElem? (i := 864) (by decide +kernel), List.mem_of_getElem? (i := 865) (by decide +kernel)⟩
theorem lw_p40 : lw_okq (⟨"SandMarch", "peakOf", "(I)I"⟩, 16) := ⟨⟨by decide +kernel, by decide +kernel⟩, List.mem_of_getElem? (i := 21) (by decide +kernel), List.mem_of_getElem? (i := 868) (by decide +kernel), List.mem_of_getElem? (i := 869) (by decide +kernel)⟩
theorem lw_p41 : lw_okq (⟨"SandMarch", "linesOf", "(I[I)I"⟩, 16) := ⟨⟨by decide +kernel, by decide +kernel⟩, List.mem_of_getElem? (i := 21) (by decide +kernel), List.mem_of_getElem? (i := 872) (by decide +kernel), List.mem_of_getElem? (i := 873) (by decide +kernel)⟩
theorem lw_p42 : lw_okq (⟨"SandMarch", "leastFrom", "(I)I"⟩, 16) := ⟨⟨by decide +kernel, by decide +kernel⟩, List.mem_of_getElem? (i := 21) (by decide +kernel), List.mem_of_getElem? (i := 885) (by decide +kernel), List.mem_of_getElem? (i := 886) (by decide +kernel)⟩
theorem lw_p43 : lw_okq (⟨"SandMarch", "greatestBelow", "(I)I"⟩, 16) := ⟨⟨by decide +kernel, by decide +kernel⟩, List.mem_of_getElem? (i := 21) (by decide +kernel), List.mem_of_getElem? (i := 896) (by decide +kernel), List.mem_of_getElem? (i := 897) (by decide +kernel)⟩
theorem lw_p44 : lw_okq (⟨"SandMarch", "isKept", "(I)Z"⟩, 16) := ⟨⟨by decide +kernel, by decide +kernel⟩, List.mem_of_getElem? (i := 21) (by decide +kernel), List.mem_of_getElem? (i := 913) (by decide +kernel), List.mem_of_getElem? (i := 914) (by decide +kernel)⟩
theorem lw_p45 : lw_okq (⟨"SandMarch", "joinBoth", "(II)V"⟩, 16) := ⟨⟨by decide +kernel, by decide +kernel⟩, List.mem_of_getElem? (i := 21) (by decide +kernel), List.mem_of_getElem? (i := 917) (by decide +kernel), List.mem_of_getElem? (i := 918) (by decide +kernel)⟩
theorem lw_p46 : lw_okq (⟨"SandMarch", "meetingMany", "(LSandMarch$Lumps;LSandMarch$Lumps;)I"⟩, 16) := ⟨⟨by decide +kernel, by decide +kernel⟩, List.mem_of_getElem? (i := 21) (by decide +kernel), List.mem_of_getElem? (i := 925) (by decide +kernel), List.mem_of_getElem? (i := 926) (by decide +kernel)⟩
theorem lw_p47 : lw_okq (⟨"SandMarch", "meetingNone", "(LSandMarch$Lumps;LSandMarch$Lumps;)I"⟩, 16) := ⟨⟨by decide +kernel, by decide +kernel⟩, List.mem_of_getElem? (i := 21) (by decide +kernel), List.mem_of_getElem? (i := 929) (by decide +kernel), List.mem_of_getElem? (i := 930) (by decide +kernel)⟩
def lw_privs_3 : List (MethodName × Nat) := [(⟨"SandMarch", "shadedCells", "()I"⟩, 16), (⟨"SandMarch", "greatestDifference", "()I"⟩, 16), (⟨"SandMarch", "allDifferences", "()I"⟩, 16), (⟨"SandMarch", "yieldingCells", "()I"⟩, 16), (⟨"SandMarch$Lumps", "join", "(Z)V"⟩, 6), (⟨"SandMarch$Lumps", "spread", "(IZ)V"⟩, 6), (⟨"SandMarch$Lumps", "reach", "(I)V"⟩, 6), (⟨"SandMarch", "slabsOf", "(I)I"⟩, 16), (⟨"SandMarch", "peakOf", "(I)I"⟩, 16), (⟨"SandMarch", "linesOf", "(I[I)I"⟩, 16), (⟨"SandMarch", "leastFrom", "(I)I"⟩, 16), (⟨"SandMarch", "greatestBelow", "(I)I"⟩, 16), (⟨"SandMarch", "isKept", "(I)Z"⟩, 16), (⟨"SandMarch", "joinBoth", "(II)V"⟩, 16), (⟨"SandMarch", "meetingMany", "(LSandMarch$Lumps;LSandMarch$Lumps;)I"⟩, 16), (⟨"SandMarch", "meetingNone", "(LSandMarch$Lumps;LSandMarch$Lumps;)I"⟩, 16)]
theorem lw_r3 : ∀ q ∈ lw_privs_3, lw_okq q := List.forall_mem_cons.mpr ⟨lw_p32, List.forall_mem_cons.mpr ⟨lw_p33, List.forall_mem_cons.mpr ⟨lw_p34, List.forall_mem_cons.mpr ⟨lw_p35, List.forall_mem_cons.mpr ⟨lw_p36, List.forall_mem_cons.mpr ⟨lw_p37, List.forall_mem_cons.mpr ⟨lw_p38, List.forall_mem_cons.mpr ⟨lw_p39, List.forall_mem_cons.mpr ⟨lw_p40, List.forall_mem_cons.mpr ⟨lw_p41, List.forall_mem_cons.mpr ⟨lw_p42, List.forall_mem_cons.mpr ⟨lw_p43, List.forall_mem_cons.mpr ⟨lw_p44, List.forall_mem_cons.mpr ⟨lw_p45, List.forall_mem_cons.mpr ⟨lw_p46, List.forall_mem_cons.mpr ⟨lw_p47, fun _ h => absurd h List.not_mem_nil⟩⟩⟩⟩⟩⟩⟩⟩⟩⟩⟩⟩⟩⟩⟩⟩
theorem lw_p48 : lw_okq (⟨"SandMarch", "overlap", "([III)I"⟩, 16) := ⟨⟨by decide +kernel, by decide +kernel⟩, List.mem_of_getElem? (i := 21) (by decide +kernel), List.mem_of_getElem? (i := 937) (by decide +kernel), List.mem_of_getElem? (i := 938) (by decide +kernel)⟩
theorem lw_p49 : lw_okq (⟨"SandMarch", "runTrial", "(II)I"⟩, 16) := ⟨⟨by decide +kernel, by decide +kernel⟩, List.mem_of_getElem? (i := 21) (by decide +kernel), List.mem_of_getElem? (i := 946) (by decide +kernel), List.mem_of_getElem? (i := 947) (by decide +kernel)⟩
theorem lw_p50 : lw_okq (⟨"SandMarch$Sightings", "alike", "(IIJ)I"⟩, 9) := ⟨⟨by decide +kernel, by decide +kernel⟩, List.mem_of_getElem? (i := 293) (by decide +kernel), List.mem_of_getElem? (i := 1035) (by decide +kernel), List.mem_of_getElem? (i := 1036) (by decide +kernel)⟩
theorem lw_p51 : lw_okq (⟨"SandMarchModel", "begins", "()V"⟩, 46) := ⟨⟨by decide +kernel, by decide +kernel⟩, List.mem_of_getElem? (i := 1052) (by decide +kernel), List.mem_of_getElem? (i := 1058) (by decide +kernel), List.mem_of_getElem? (i := 1059) (by decide +kernel)⟩
theorem lw_p52 : lw_okq (⟨"SandMarchModel", "takesOver", "()V"⟩, 46) := ⟨⟨by decide +kernel, by decide +kernel⟩, List.mem_of_getElem? (i := 1052) (by decide +kernel), List.mem_of_getElem? (i := 1062) (by decide +kernel), List.mem_of_getElem? (i := 1063) (by decide +kernel)⟩
theorem lw_p53 : lw_okq (⟨"SandMarchModel", "cells", "()I"⟩, 46) := ⟨⟨by decide +kernel, by decide +kernel⟩, List.mem_of_getElem? (i := 1052) (by decide +kernel), List.mem_of_getElem? (i := 1069) (by decide +kernel), List.mem_of_getElem? (i := 1070) (by decide +kernel)⟩
theorem lw_p54 : lw_okq (⟨"SandMarchModel", "columns", "()I"⟩, 46) := ⟨⟨by decide +kernel, by decide +kernel⟩, List.mem_of_getElem? (i := 1052) (by decide +kernel), List.mem_of_getElem? (i := 1073) (by decide +kernel), List.mem_of_getElem? (i := 1074) (by decide +kernel)⟩
theorem lw_p55 : lw_okq (⟨"SandMarchModel", "rows", "()I"⟩, 46) := ⟨⟨by decide +kernel, by decide +kernel⟩, List.mem_of_getElem? (i := 1052) (by decide +kernel), List.mem_of_getElem? (i := 1077) (by decide +kernel), List.mem_of_getElem? (i := 1078) (by decide +kernel)⟩
theorem lw_p56 : lw_okq (⟨"SandMarchModel", "settles", "()V"⟩, 46) := ⟨⟨by decide +kernel, by decide +kernel⟩, List.mem_of_getElem? (i := 1052) (by decide +kernel), List.mem_of_getElem? (i := 1081) (by decide +kernel), List.mem_of_getElem? (i := 1082) (by decide +kernel)⟩
theorem lw_p57 : lw_okq (⟨"SandMarchModel", "wayTo", "(IZ)I"⟩, 46) := ⟨⟨by decide +kernel, by decide +kernel⟩, List.mem_of_getElem? (i := 1052) (by decide +kernel), List.mem_of_getElem? (i := 1085) (by decide +kernel), List.mem_of_getElem? (i := 1086) (by decide +kernel)⟩
theorem lw_p58 : lw_okq (⟨"SandMarchModel", "along", "(III)I"⟩, 46) := ⟨⟨by decide +kernel, by decide +kernel⟩, List.mem_of_getElem? (i := 1052) (by decide +kernel), List.mem_of_getElem? (i := 1089) (by decide +kernel), List.mem_of_getElem? (i := 1090) (by decide +kernel)⟩
theorem lw_p59 : lw_okq (⟨"SandMarchModel", "slides", "(II)V"⟩, 46) := ⟨⟨by decide +kernel, by decide +kernel⟩, List.mem_of_getElem? (i := 1052) (by decide +kernel), List.mem_of_getElem? (i := 1093) (by decide +kernel), List.mem_of_getElem? (i := 1094) (by decide +kernel)⟩
theorem lw_p60 : lw_okq (⟨"SandMarchModel", "crosses", "(III)V"⟩, 46) := ⟨⟨by decide +kernel, by decide +kernel⟩, List.mem_of_getElem? (i := 1052) (by decide +kernel), List.mem_of_getElem? (i := 1097) (by decide +kernel), List.mem_of_getElem? (i := 1098) (by decide +kernel)⟩
theorem lw_p61 : lw_okq (⟨"SandMarchModel", "asTold", "(I)V"⟩, 46) := ⟨⟨by decide +kernel, by decide +kernel⟩, List.mem_of_getElem? (i := 1052) (by decide +kernel), List.mem_of_getElem? (i := 1101) (by decide +kernel), List.mem_of_getElem? (i := 1102) (by decide +kernel)⟩
theorem lw_p62 : lw_okq (⟨"SandMarchModel", "four", "(I)V"⟩, 46) := ⟨⟨by decide +kernel, by decide +kernel⟩, List.mem_of_getElem? (i := 1052) (by decide +kernel), List.mem_of_getElem? (i := 1248) (by decide +kernel), List.mem_of_getElem? (i := 1249) (by decide +kernel)⟩
theorem lw_p63 : lw_okq (⟨"SandMarchModel", "goOn", "()V"⟩, 46) := ⟨⟨by decide +kernel, by decide +kernel⟩, List.mem_of_getElem? (i := 1052) (by decide +kernel), List.mem_of_getElem? (i := 1263) (by decide +kernel), List.mem_of_getElem? (i := 1264) (by decide +kernel)⟩
def lw_privs_4 : List (MethodName × Nat) := [(⟨"SandMarch", "overlap", "([III)I"⟩, 16), (⟨"SandMarch", "runTrial", "(II)I"⟩, 16), (⟨"SandMarch$Sightings", "alike", "(IIJ)I"⟩, 9), (⟨"SandMarchModel", "begins", "()V"⟩, 46), (⟨"SandMarchModel", "takesOver", "()V"⟩, 46), (⟨"SandMarchModel", "cells", "()I"⟩, 46), (⟨"SandMarchModel", "columns", "()I"⟩, 46), (⟨"SandMarchModel", "rows", "()I"⟩, 46), (⟨"SandMarchModel", "settles", "()V"⟩, 46), (⟨"SandMarchModel", "wayTo", "(IZ)I"⟩, 46), (⟨"SandMarchModel", "along", "(III)I"⟩, 46), (⟨"SandMarchModel", "slides", "(II)V"⟩, 46), (⟨"SandMarchModel", "crosses", "(III)V"⟩, 46), (⟨"SandMarchModel", "asTold", "(I)V"⟩, 46), (⟨"SandMarchModel", "four", "(I)V"⟩, 46), (⟨"SandMarchModel", "goOn", "()V"⟩, 46)]
theorem lw_r4 : ∀ q ∈ lw_privs_4, lw_okq q := List.forall_mem_cons.mpr ⟨lw_p48, List.forall_mem_cons.mpr ⟨lw_p49, List.forall_mem_cons.mpr ⟨lw_p50, List.forall_mem_cons.mpr ⟨lw_p51, List.forall_mem_cons.mpr ⟨lw_p52, List.forall_mem_cons.mpr ⟨lw_p53, List.forall_mem_cons.mpr ⟨lw_p54, List.forall_mem_cons.mpr ⟨lw_p55, List.forall_mem_cons.mpr ⟨lw_p56, List.forall_mem_cons.mpr ⟨lw_p57, List.forall_mem_cons.mpr ⟨lw_p58, List.forall_mem_cons.mpr ⟨lw_p59, List.forall_mem_cons.mpr ⟨lw_p60, List.forall_mem_cons.mpr ⟨lw_p61, List.forall_mem_cons.mpr ⟨lw_p62, List.forall_mem_cons.mpr ⟨lw_p63, fun _ h => absurd h List.not_mem_nil⟩⟩⟩⟩⟩⟩⟩⟩⟩⟩⟩⟩⟩⟩⟩⟩
theorem lw_p64 : lw_okq (⟨"SandMarchModel", "here", "(I)I"⟩, 46) := ⟨⟨by decide +kernel, by decide +kernel⟩, List.mem_of_getElem? (i := 1052) (by decide +kernel), List.mem_of_getElem? (i := 1267) (by decide +kernel), List.mem_of_getElem? (i := 1268) (by decide +kernel)⟩
theorem lw_p65 : lw_okq (⟨"SandMarchModel", "isGood", "()Z"⟩, 46) := ⟨⟨by decide +kernel, by decide +kernel⟩, List.mem_of_getElem? (i := 1052) (by decide +kernel), List.mem_of_getElem? (i := 1277) (by decide +kernel), List.mem_of_getElem? (i := 1278) (by decide +kernel)⟩
theorem lw_p66 : lw_okq (⟨"SandMarchModel", "isWord", "(J)Z"⟩, 46) := ⟨⟨by decide +kernel, by decide +kernel⟩, List.mem_of_getElem? (i := 1052) (by decide +kernel), List.mem_of_getElem? (i := 1282) (by decide +kernel), List.mem_of_getElem? (i := 1283) (by decide +kernel)⟩
theorem lw_p67 : lw_okq (⟨"SandMarchModel", "sizeLine", "()V"⟩, 46) := ⟨⟨by decide +kernel, by decide +kernel⟩, List.mem_of_getElem? (i := 1052) (by decide +kernel), List.mem_of_getElem? (i := 1286) (by decide +kernel), List.mem_of_getElem? (i := 1287) (by decide +kernel)⟩
theorem lw_p68 : lw_okq (⟨"SandMarchModel", "wrong", "(I)V"⟩, 46) := ⟨⟨by decide +kernel, by decide +kernel⟩, List.mem_of_getElem? (i := 1052) (by decide +kernel), List.mem_of_getElem? (i := 1290) (by decide +kernel), List.mem_of_getElem? (i := 1291) (by decide +kernel)⟩
theorem lw_p69 : lw_okq (⟨"SandMarchModel", "once", "(I)Z"⟩, 46) := ⟨⟨by decide +kernel, by decide +kernel⟩, List.mem_of_getElem? (i := 1052) (by decide +kernel), List.mem_of_getElem? (i := 1294) (by decide +kernel), List.mem_of_getElem? (i := 1295) (by decide +kernel)⟩
theorem lw_p70 : lw_okq (⟨"SandMarchModel", "number", "(II)I"⟩, 46) := ⟨⟨by decide +kernel, by decide +kernel⟩, List.mem_of_getElem? (i := 1052) (by decide +kernel), List.mem_of_getElem? (i := 1298) (by decide +kernel), List.mem_of_getElem? (i := 1299) (by decide +kernel)⟩
theorem lw_p71 : lw_okq (⟨"SandMarchModel", "numberHere", "(II)I"⟩, 46) := ⟨⟨by decide +kernel, by decide +kernel⟩, List.mem_of_getElem? (i := 1052) (by decide +kernel), List.mem_of_getElem? (i := 1302) (by decide +kernel), List.mem_of_getElem? (i := 1303) (by decide +kernel)⟩
theorem lw_p72 : lw_okq (⟨"SandMarchModel", "otherLine", "()V"⟩, 46) := ⟨⟨by decide +kernel, by decide +kernel⟩, List.mem_of_getElem? (i := 1052) (by decide +kernel), List.mem_of_getElem? (i := 1307) (by decide +kernel), List.mem_of_getElem? (i := 1308) (by decide +kernel)⟩
theorem lw_p73 : lw_okq (⟨"SandMarchModel", "simple", "(IIII)V"⟩, 46) := ⟨⟨by decide +kernel, by decide +kernel⟩, List.mem_of_getElem? (i := 1052) (by decide +kernel), List.mem_of_getElem? (i := 1312) (by decide +kernel), List.mem_of_getElem? (i := 1313) (by decide +kernel)⟩
theorem lw_p74 : lw_okq (⟨"SandMarchModel", "heapLine", "()V"⟩, 46) := ⟨⟨by decide +kernel, by decide +kernel⟩, List.mem_of_getElem? (i := 1052) (by decide +kernel), List.mem_of_getElem? (i := 1317) (by decide +kernel), List.mem_of_getElem? (i := 1318) (by decide +kernel)⟩
theorem lw_p75 : lw_okq (⟨"SandMarchModel", "grassLine", "()V"⟩, 46) := ⟨⟨by decide +kernel, by decide +kernel⟩, List.mem_of_getElem? (i := 1052) (by decide +kernel), List.mem_of_getElem? (i := 1322) (by decide +kernel), List.mem_of_getElem? (i := 1323) (by decide +kernel)⟩
theorem lw_p76 : lw_okq (⟨"SandMarchModel", "windLine", "()V"⟩, 46) := ⟨⟨by decide +kernel, by decide +kernel⟩, List.mem_of_getElem? (i := 1052) (by decide +kernel), List.mem_of_getElem? (i := 1327) (by decide +kernel), List.mem_of_getElem? (i := 1328) (by decide +kernel)⟩
theorem lw_p77 : lw_okq (⟨"SandMarchModel", "wayHere", "()I"⟩, 46) := ⟨⟨by decide +kernel, by decide +kernel⟩, List.mem_of_getElem? (i := 1052) (by decide +kernel), List.mem_of_getElem? (i := 1331) (by decide +kernel), List.mem_of_getElem? (i := 1332) (by decide +kernel)⟩
theorem lw_p78 : lw_okq (⟨"SandMarchModel", "stickLine", "()V"⟩, 46) := ⟨⟨by decide +kernel, by decide +kernel⟩, List.mem_of_getElem? (i := 1052) (by decide +kernel), List.mem_of_getElem? (i := 1343) (by decide +kernel), List.mem_of_getElem? (i := 1344) (by decide +kernel)⟩
theorem lw_p79 : lw_okq (⟨"SandMarchModel", "exchanges", "(I)V"⟩, 46) := ⟨⟨by decide +kernel, by decide +kernel⟩, List.mem_of_getElem? (i := 1052) (by decide +kernel), List.mem_of_getElem? (i := 1356) (by decide +kernel), List.mem_of_getElem? (i := 1357) (by decide +kernel)⟩
def lw_privs_5 : List (MethodName × Nat) := [(⟨"SandMarchModel", "here", "(I)I"⟩, 46), (⟨"SandMarchModel", "isGood", "()Z"⟩, 46), (⟨"SandMarchModel", "isWord", "(J)Z"⟩, 46), (⟨"SandMarchModel", "sizeLine", "()V"⟩, 46), (⟨"SandMarchModel", "wrong", "(I)V"⟩, 46), (⟨"SandMarchModel", "once", "(I)Z"⟩, 46), (⟨"SandMarchModel", "number", "(II)I"⟩, 46), (⟨"SandMarchModel", "numberHere", "(II)I"⟩, 46), (⟨"SandMarchModel", "otherLine", "()V"⟩, 46), (⟨"SandMarchModel", "simple", "(IIII)V"⟩, 46), (⟨"SandMarchModel", "heapLine", "()V"⟩, 46), (⟨"SandMarchModel", "grassLine", "()V"⟩, 46), (⟨"SandMarchModel", "windLine", "()V"⟩, 46), (⟨"SandMarchModel", "wayHere", "()I"⟩, 46), (⟨"SandMarchModel", "stickLine", "()V"⟩, 46), (⟨"SandMarchModel", "exchanges", "(I)V"⟩, 46)]
theorem lw_r5 : ∀ q ∈ lw_privs_5, lw_okq q := List.forall_mem_cons.mpr ⟨lw_p64, List.forall_mem_cons.mpr ⟨lw_p65, List.forall_mem_cons.mpr ⟨lw_p66, List.forall_mem_cons.mpr ⟨lw_p67, List.forall_mem_cons.mpr ⟨lw_p68, List.forall_mem_cons.mpr ⟨lw_p69, List.forall_mem_cons.mpr ⟨lw_p70, List.forall_mem_cons.mpr ⟨lw_p71, List.forall_mem_cons.mpr ⟨lw_p72, List.forall_mem_cons.mpr ⟨lw_p73, List.forall_mem_cons.mpr ⟨lw_p74, List.forall_mem_cons.mpr ⟨lw_p75, List.forall_mem_cons.mpr ⟨lw_p76, List.forall_mem_cons.mpr ⟨lw_p77, List.forall_mem_cons.mpr ⟨lw_p78, List.forall_mem_cons.mpr ⟨lw_p79, fun _ h => absurd h List.not_mem_nil⟩⟩⟩⟩⟩⟩⟩⟩⟩⟩⟩⟩⟩⟩⟩⟩
theorem lw_p80 : lw_okq (⟨"SandMarchModel", "act", "()V"⟩, 46) := ⟨⟨by decide +kernel, by decide +kernel⟩, List.mem_of_getElem? (i := 1052) (by decide +kernel), List.mem_of_getElem? (i := 1368) (by decide +kernel), List.mem_of_getElem? (i := 1369) (by decide +kernel)⟩
theorem lw_p81 : lw_okq (⟨"SandMarchModel", "goesOn", "()V"⟩, 46) := ⟨⟨by decide +kernel, by decide +kernel⟩, List.mem_of_getElem? (i := 1052) (by decide +kernel), List.mem_of_getElem? (i := 1372) (by decide +kernel), List.mem_of_getElem? (i := 1373) (by decide +kernel)⟩
theorem lw_p82 : lw_okq (⟨"SandMarchModel", "blows", "(I)I"⟩, 46) := ⟨⟨by decide +kernel, by decide +kernel⟩, List.mem_of_getElem? (i := 1052) (by decide +kernel), List.mem_of_getElem? (i := 1376) (by decide +kernel), List.mem_of_getElem? (i := 1377) (by decide +kernel)⟩
theorem lw_p83 : lw_okq (⟨"SandMarchModel", "tries", "()Z"⟩, 46) := ⟨⟨by decide +kernel, by decide +kernel⟩, List.mem_of_getElem? (i := 1052) (by decide +kernel), List.mem_of_getElem? (i := 1380) (by decide +kernel), List.mem_of_getElem? (i := 1381) (by decide +kernel)⟩
theorem lw_p84 : lw_okq (⟨"SandMarchModel", "draw", "(I)I"⟩, 46) := ⟨⟨by decide +kernel, by decide +kernel⟩, List.mem_of_getElem? (i := 1052) (by decide +kernel), List.mem_of_getElem? (i := 1384) (by decide +kernel), List.mem_of_getElem? (i := 1385) (by decide +kernel)⟩
theorem lw_p85 : lw_okq (⟨"SandMarchModel", "gives", "(I)Z"⟩, 46) := ⟨⟨by decide +kernel, by decide +kernel⟩, List.mem_of_getElem? (i := 1052) (by decide +kernel), List.mem_of_getElem? (i := 1388) (by decide +kernel), List.mem_of_getElem? (i := 1389) (by decide +kernel)⟩
theorem lw_p86 : lw_okq (⟨"SandMarchModel", "isShadow", "(I)Z"⟩, 46) := ⟨⟨by decide +kernel, by decide +kernel⟩, List.mem_of_getElem? (i := 1052) (by decide +kernel), List.mem_of_getElem? (i := 1392) (by decide +kernel), List.mem_of_getElem? (i := 1393) (by decide +kernel)⟩
theorem lw_p87 : lw_okq (⟨"SandMarchModel", "windNow", "()I"⟩, 46) := ⟨⟨by decide +kernel, by decide +kernel⟩, List.mem_of_getElem? (i := 1052) (by decide +kernel), List.mem_of_getElem? (i := 1396) (by decide +kernel), List.mem_of_getElem? (i := 1397) (by decide +kernel)⟩
theorem lw_p88 : lw_okq (⟨"SandMarchModel", "windOf", "(I)I"⟩, 46) := ⟨⟨by decide +kernel, by decide +kernel⟩, List.mem_of_getElem? (i := 1052) (by decide +kernel), List.mem_of_getElem? (i := 1400) (by decide +kernel), List.mem_of_getElem? (i := 1401) (by decide +kernel)⟩
theorem lw_p89 : lw_okq (⟨"SandMarchModel", "roundOf", "(I)I"⟩, 46) := ⟨⟨by decide +kernel, by decide +kernel⟩, List.mem_of_getElem? (i := 1052) (by decide +kernel), List.mem_of_getElem? (i := 1404) (by decide +kernel), List.mem_of_getElem? (i := 1405) (by decide +kernel)⟩
theorem lw_p90 : lw_okq (⟨"SandMarchModel", "fills", "(I)V"⟩, 46) := ⟨⟨by decide +kernel, by decide +kernel⟩, List.mem_of_getElem? (i := 1052) (by decide +kernel), List.mem_of_getElem? (i := 1411) (by decide +kernel), List.mem_of_getElem? (i := 1412) (by decide +kernel)⟩
theorem lw_p91 : lw_okq (⟨"SandMarchModel", "flies", "(I)I"⟩, 46) := ⟨⟨by decide +kernel, by decide +kernel⟩, List.mem_of_getElem? (i := 1052) (by decide +kernel), List.mem_of_getElem? (i := 1415) (by decide +kernel), List.mem_of_getElem? (i := 1416) (by decide +kernel)⟩
theorem lw_p92 : lw_okq (⟨"SandMarchModel", "spills", "(I)V"⟩, 46) := ⟨⟨by decide +kernel, by decide +kernel⟩, List.mem_of_getElem? (i := 1052) (by decide +kernel), List.mem_of_getElem? (i := 1419) (by decide +kernel), List.mem_of_getElem? (i := 1420) (by decide +kernel)⟩
theorem lw_p93 : lw_okq (⟨"SandMarchModel", "keepsRow", "()V"⟩, 46) := ⟨⟨by decide +kernel, by decide +kernel⟩, List.mem_of_getElem? (i := 1052) (by decide +kernel), List.mem_of_getElem? (i := 1426) (by decide +kernel), List.mem_of_getElem? (i := 1427) (by decide +kernel)⟩
theorem lw_p94 : lw_okq (⟨"SandMarchModel", "isCell", "(I)Z"⟩, 46) := ⟨⟨by decide +kernel, by decide +kernel⟩, List.mem_of_getElem? (i := 1052) (by decide +kernel), List.mem_of_getElem? (i := 1434) (by decide +kernel), List.mem_of_getElem? (i := 1435) (by decide +kernel)⟩
theorem lw_p95 : lw_okq (⟨"SandMarchModel", "sownMany", "()I"⟩, 46) := ⟨⟨by decide +kernel, by decide +kernel⟩, List.mem_of_getElem? (i := 1052) (by decide +kernel), List.mem_of_getElem? (i := 1446) (by decide +kernel), List.mem_of_getElem? (i := 1447) (by decide +kernel)⟩
def lw_privs_6 : List (MethodName × Nat) := [(⟨"SandMarchModel", "act", "()V"⟩, 46), (⟨"SandMarchModel", "goesOn", "()V"⟩, 46), (⟨"SandMarchModel", "blows", "(I)I"⟩, 46), (⟨"SandMarchModel", "tries", "()Z"⟩, 46), (⟨"SandMarchModel", "draw", "(I)I"⟩, 46), (⟨"SandMarchModel", "gives", "(I)Z"⟩, 46), (⟨"SandMarchModel", "isShadow", "(I)Z"⟩, 46), (⟨"SandMarchModel", "windNow", "()I"⟩, 46), (⟨"SandMarchModel", "windOf", "(I)I"⟩, 46), (⟨"SandMarchModel", "roundOf", "(I)I"⟩, 46), (⟨"SandMarchModel", "fills", "(I)V"⟩, 46), (⟨"SandMarchModel", "flies", "(I)I"⟩, 46), (⟨"SandMarchModel", "spills", "(I)V"⟩, 46), (⟨"SandMarchModel", "keepsRow", "()V"⟩, 46), (⟨"SandMarchModel", "isCell", "(I)Z"⟩, 46), (⟨"SandMarchModel", "sownMany", "()I"⟩, 46)]
theorem lw_r6 : ∀ q ∈ lw_privs_6, lw_okq q := List.forall_mem_cons.mpr ⟨lw_p80, List.forall_mem_cons.mpr ⟨lw_p81, List.forall_mem_cons.mpr ⟨lw_p82, List.forall_mem_cons.mpr ⟨lw_p83, List.forall_mem_cons.mpr ⟨lw_p84, List.forall_mem_cons.mpr ⟨lw_p85, List.forall_mem_cons.mpr ⟨lw_p86, List.forall_mem_cons.mpr ⟨lw_p87, List.forall_mem_cons.mpr ⟨lw_p88, List.forall_mem_cons.mpr ⟨lw_p89, List.forall_mem_cons.mpr ⟨lw_p90, List.forall_mem_cons.mpr ⟨lw_p91, List.forall_mem_cons.mpr ⟨lw_p92, List.forall_mem_cons.mpr ⟨lw_p93, List.forall_mem_cons.mpr ⟨lw_p94, List.forall_mem_cons.mpr ⟨lw_p95, fun _ h => absurd h List.not_mem_nil⟩⟩⟩⟩⟩⟩⟩⟩⟩⟩⟩⟩⟩⟩⟩⟩
theorem lw_p96 : lw_okq (⟨"SandMarchModel", "lowestBeside", "(I)I"⟩, 46) := ⟨⟨by decide +kernel, by decide +kernel⟩, List.mem_of_getElem? (i := 1052) (by decide +kernel), List.mem_of_getElem? (i := 1461) (by decide +kernel), List.mem_of_getElem? (i := 1462) (by decide +kernel)⟩
theorem lw_p97 : lw_okq (⟨"SandMarchModel", "isCrest", "(I)Z"⟩, 46) := ⟨⟨by decide +kernel, by decide +kernel⟩, List.mem_of_getElem? (i := 1052) (by decide +kernel), List.mem_of_getElem? (i := 1468) (by decide +kernel), List.mem_of_getElem? (i := 1469) (by decide +kernel)⟩
theorem lw_p98 : lw_okq (⟨"SandMarchModel", "slabs", "()I"⟩, 46) := ⟨⟨by decide +kernel, by decide +kernel⟩, List.mem_of_getElem? (i := 1052) (by decide +kernel), List.mem_of_getElem? (i := 1484) (by decide +kernel), List.mem_of_getElem? (i := 1485) (by decide +kernel)⟩
theorem lw_p99 : lw_okq (⟨"SandMarchModel", "highest", "()I"⟩, 46) := ⟨⟨by decide +kernel, by decide +kernel⟩, List.mem_of_getElem? (i := 1052) (by decide +kernel), List.mem_of_getElem? (i := 1488) (by decide +kernel), List.mem_of_getElem? (i := 1489) (by decide +kernel)⟩
theorem lw_p100 : lw_okq (⟨"SandMarchModel", "bare", "()I"⟩, 46) := ⟨⟨by decide +kernel, by decide +kernel⟩, List.mem_of_getElem? (i := 1052) (by decide +kernel), List.mem_of_getElem? (i := 1492) (by decide +kernel), List.mem_of_getElem? (i := 1493) (by decide +kernel)⟩
theorem lw_p101 : lw_okq (⟨"SandMarchModel", "shadows", "()I"⟩, 46) := ⟨⟨by decide +kernel, by decide +kernel⟩, List.mem_of_getElem? (i := 1052) (by decide +kernel), List.mem_of_getElem? (i := 1496) (by decide +kernel), List.mem_of_getElem? (i := 1497) (by decide +kernel)⟩
theorem lw_p102 : lw_okq (⟨"SandMarchModel", "steepest", "()I"⟩, 46) := ⟨⟨by decide +kernel, by decide +kernel⟩, List.mem_of_getElem? (i := 1052) (by decide +kernel), List.mem_of_getElem? (i := 1500) (by decide +kernel), List.mem_of_getElem? (i := 1501) (by decide +kernel)⟩
theorem lw_p103 : lw_okq (⟨"SandMarchModel", "rough", "()I"⟩, 46) := ⟨⟨by decide +kernel, by decide +kernel⟩, List.mem_of_getElem? (i := 1052) (by decide +kernel), List.mem_of_getElem? (i := 1507) (by decide +kernel), List.mem_of_getElem? (i := 1508) (by decide +kernel)⟩
theorem lw_p104 : lw_okq (⟨"SandMarchModel", "givers", "()I"⟩, 46) := ⟨⟨by decide +kernel, by decide +kernel⟩, List.mem_of_getElem? (i := 1052) (by decide +kernel), List.mem_of_getElem? (i := 1511) (by decide +kernel), List.mem_of_getElem? (i := 1512) (by decide +kernel)⟩
theorem lw_p105 : lw_okq (⟨"SandMarchModel", "dunesNow", "(I)I"⟩, 46) := ⟨⟨by decide +kernel, by decide +kernel⟩, List.mem_of_getElem? (i := 1052) (by decide +kernel), List.mem_of_getElem? (i := 1532) (by decide +kernel), List.mem_of_getElem? (i := 1533) (by decide +kernel)⟩
theorem lw_p106 : lw_okq (⟨"SandMarchModel", "laysDunes", "([III[I)I"⟩, 46) := ⟨⟨by decide +kernel, by decide +kernel⟩, List.mem_of_getElem? (i := 1052) (by decide +kernel), List.mem_of_getElem? (i := 1536) (by decide +kernel), List.mem_of_getElem? (i := 1537) (by decide +kernel)⟩
theorem lw_p107 : lw_okq (⟨"SandMarchModel", "piles", "(II[I)V"⟩, 46) := ⟨⟨by decide +kernel, by decide +kernel⟩, List.mem_of_getElem? (i := 1052) (by decide +kernel), List.mem_of_getElem? (i := 1540) (by decide +kernel), List.mem_of_getElem? (i := 1541) (by decide +kernel)⟩
theorem lw_p108 : lw_okq (⟨"SandMarchModel", "spanOf", "(IZ)I"⟩, 46) := ⟨⟨by decide +kernel, by decide +kernel⟩, List.mem_of_getElem? (i := 1052) (by decide +kernel), List.mem_of_getElem? (i := 1548) (by decide +kernel), List.mem_of_getElem? (i := 1549) (by decide +kernel)⟩
theorem lw_p109 : lw_okq (⟨"SandMarchModel", "hasIn", "(IIZ)Z"⟩, 46) := ⟨⟨by decide +kernel, by decide +kernel⟩, List.mem_of_getElem? (i := 1052) (by decide +kernel), List.mem_of_getElem? (i := 1552) (by decide +kernel), List.mem_of_getElem? (i := 1553) (by decide +kernel)⟩
theorem lw_p110 : lw_okq (⟨"SandMarchModel", "areOne", "(III)Z"⟩, 46) := ⟨⟨by decide +kernel, by decide +kernel⟩, List.mem_of_getElem? (i := 1052) (by decide +kernel), List.mem_of_getElem? (i := 1571) (by decide +kernel), List.mem_of_getElem? (i := 1572) (by decide +kernel)⟩
theorem lw_p111 : lw_okq (⟨"SandMarchModel", "laysCrests", "()I"⟩, 46) := ⟨⟨by decide +kernel, by decide +kernel⟩, List.mem_of_getElem? (i := 1052) (by decide +kernel), List.mem_of_getElem? (i := 1579) (by decide +kernel), List.mem_of_getElem? (i := 1580) (by decide +kernel)⟩
def lw_privs_7 : List (MethodName × Nat) := [(⟨"SandMarchModel", "lowestBeside", "(I)I"⟩, 46), (⟨"SandMarchModel", "isCrest", "(I)Z"⟩, 46), (⟨"SandMarchModel", "slabs", "()I"⟩, 46), (⟨"SandMarchModel", "highest", "()I"⟩, 46), (⟨"SandMarchModel", "bare", "()I"⟩, 46), (⟨"SandMarchModel", "shadows", "()I"⟩, 46), (⟨"SandMarchModel", "steepest", "()I"⟩, 46), (⟨"SandMarchModel", "rough", "()I"⟩, 46), (⟨"SandMarchModel", "givers", "()I"⟩, 46), (⟨"SandMarchModel", "dunesNow", "(I)I"⟩, 46), (⟨"SandMarchModel", "laysDunes", "([III[I)I"⟩, 46), (⟨"SandMarchModel", "piles", "(II[I)V"⟩, 46), (⟨"SandMarchModel", "spanOf", "(IZ)I"⟩, 46), (⟨"SandMarchModel", "hasIn", "(IIZ)Z"⟩, 46), (⟨"SandMarchModel", "areOne", "(III)Z"⟩, 46), (⟨"SandMarchModel", "laysCrests", "()I"⟩, 46)]
theorem lw_r7 : ∀ q ∈ lw_privs_7, lw_okq q := List.forall_mem_cons.mpr ⟨lw_p96, List.forall_mem_cons.mpr ⟨lw_p97, List.forall_mem_cons.mpr ⟨lw_p98, List.forall_mem_cons.mpr ⟨lw_p99, List.forall_mem_cons.mpr ⟨lw_p100, List.forall_mem_cons.mpr ⟨lw_p101, List.forall_mem_cons.mpr ⟨lw_p102, List.forall_mem_cons.mpr ⟨lw_p103, List.forall_mem_cons.mpr ⟨lw_p104, List.forall_mem_cons.mpr ⟨lw_p105, List.forall_mem_cons.mpr ⟨lw_p106, List.forall_mem_cons.mpr ⟨lw_p107, List.forall_mem_cons.mpr ⟨lw_p108, List.forall_mem_cons.mpr ⟨lw_p109, List.forall_mem_cons.mpr ⟨lw_p110, List.forall_mem_cons.mpr ⟨lw_p111, fun _ h => absurd h List.not_mem_nil⟩⟩⟩⟩⟩⟩⟩⟩⟩⟩⟩⟩⟩⟩⟩⟩
theorem lw_p112 : lw_okq (⟨"SandMarchModel", "sidled", "(III)I"⟩, 46) := ⟨⟨by decide +kernel, by decide +kernel⟩, List.mem_of_getElem? (i := 1052) (by decide +kernel), List.mem_of_getElem? (i := 1583) (by decide +kernel), List.mem_of_getElem? (i := 1584) (by decide +kernel)⟩
theorem lw_p113 : lw_okq (⟨"SandMarchModel", "isKept", "(I)Z"⟩, 46) := ⟨⟨by decide +kernel, by decide +kernel⟩, List.mem_of_getElem? (i := 1052) (by decide +kernel), List.mem_of_getElem? (i := 1591) (by decide +kernel), List.mem_of_getElem? (i := 1592) (by decide +kernel)⟩
theorem lw_p114 : lw_okq (⟨"SandMarchModel", "isBox", "(I)Z"⟩, 46) := ⟨⟨by decide +kernel, by decide +kernel⟩, List.mem_of_getElem? (i := 1052) (by decide +kernel), List.mem_of_getElem? (i := 1595) (by decide +kernel), List.mem_of_getElem? (i := 1596) (by decide +kernel)⟩
theorem lw_p115 : lw_okq (⟨"SandMarchModel", "inCommon", "(II)I"⟩, 46) := ⟨⟨by decide +kernel, by decide +kernel⟩, List.mem_of_getElem? (i := 1052) (by decide +kernel), List.mem_of_getElem? (i := 1599) (by decide +kernel), List.mem_of_getElem? (i := 1600) (by decide +kernel)⟩
theorem lw_p116 : lw_okq (⟨"SandMarchModel", "meets", "(IIZ)I"⟩, 46) := ⟨⟨by decide +kernel, by decide +kernel⟩, List.mem_of_getElem? (i := 1052) (by decide +kernel), List.mem_of_getElem? (i := 1607) (by decide +kernel), List.mem_of_getElem? (i := 1608) (by decide +kernel)⟩
theorem lw_p117 : lw_okq (⟨"SandMarchModel", "overlap", "(III)I"⟩, 46) := ⟨⟨by decide +kernel, by decide +kernel⟩, List.mem_of_getElem? (i := 1052) (by decide +kernel), List.mem_of_getElem? (i := 1615) (by decide +kernel), List.mem_of_getElem? (i := 1616) (by decide +kernel)⟩
theorem lw_p118 : lw_okq (⟨"SandMarchModel", "laysFits", "(I)I"⟩, 46) := ⟨⟨by decide +kernel, by decide +kernel⟩, List.mem_of_getElem? (i := 1052) (by decide +kernel), List.mem_of_getElem? (i := 1657) (by decide +kernel), List.mem_of_getElem? (i := 1658) (by decide +kernel)⟩
theorem lw_p119 : lw_okq (⟨"SandMarchModel", "fitsBy", "(II)Z"⟩, 46) := ⟨⟨by decide +kernel, by decide +kernel⟩, List.mem_of_getElem? (i := 1052) (by decide +kernel), List.mem_of_getElem? (i := 1661) (by decide +kernel), List.mem_of_getElem? (i := 1662) (by decide +kernel)⟩
theorem lw_p120 : lw_okq (⟨"SandMarchModel", "lastSeen", "(I)I"⟩, 46) := ⟨⟨by decide +kernel, by decide +kernel⟩, List.mem_of_getElem? (i := 1052) (by decide +kernel), List.mem_of_getElem? (i := 1665) (by decide +kernel), List.mem_of_getElem? (i := 1666) (by decide +kernel)⟩
theorem lw_p121 : lw_okq (⟨"SandMarchModel", "doesCount", "(II)Z"⟩, 46) := ⟨⟨by decide +kernel, by decide +kernel⟩, List.mem_of_getElem? (i := 1052) (by decide +kernel), List.mem_of_getElem? (i := 1669) (by decide +kernel), List.mem_of_getElem? (i := 1670) (by decide +kernel)⟩
theorem lw_p122 : lw_okq (⟨"SandMarchModel", "isSoAfter", "(II)Z"⟩, 46) := ⟨⟨by decide +kernel, by decide +kernel⟩, List.mem_of_getElem? (i := 1052) (by decide +kernel), List.mem_of_getElem? (i := 1673) (by decide +kernel), List.mem_of_getElem? (i := 1674) (by decide +kernel)⟩
theorem lw_p123 : lw_okq (⟨"SandMarchModel", "leftBy", "(I)I"⟩, 46) := ⟨⟨by decide +kernel, by decide +kernel⟩, List.mem_of_getElem? (i := 1052) (by decide +kernel), List.mem_of_getElem? (i := 1685) (by decide +kernel), List.mem_of_getElem? (i := 1686) (by decide +kernel)⟩
theorem lw_p124 : lw_okq (⟨"SandMarchModel", "roundTries", "()I"⟩, 46) := ⟨⟨by decide +kernel, by decide +kernel⟩, List.mem_of_getElem? (i := 1052) (by decide +kernel), List.mem_of_getElem? (i := 1702) (by decide +kernel), List.mem_of_getElem? (i := 1703) (by decide +kernel)⟩
def lw_privs_8 : List (MethodName × Nat) := [(⟨"SandMarchModel", "sidled", "(III)I"⟩, 46), (⟨"SandMarchModel", "isKept", "(I)Z"⟩, 46), (⟨"SandMarchModel", "isBox", "(I)Z"⟩, 46), (⟨"SandMarchModel", "inCommon", "(II)I"⟩, 46), (⟨"SandMarchModel", "meets", "(IIZ)I"⟩, 46), (⟨"SandMarchModel", "overlap", "(III)I"⟩, 46), (⟨"SandMarchModel", "laysFits", "(I)I"⟩, 46), (⟨"SandMarchModel", "fitsBy", "(II)Z"⟩, 46), (⟨"SandMarchModel", "lastSeen", "(I)I"⟩, 46), (⟨"SandMarchModel", "doesCount", "(II)Z"⟩, 46), (⟨"SandMarchModel", "isSoAfter", "(II)Z"⟩, 46), (⟨"SandMarchModel", "leftBy", "(I)I"⟩, 46), (⟨"SandMarchModel", "roundTries", "()I"⟩, 46)]
theorem lw_r8 : ∀ q ∈ lw_privs_8, lw_okq q := List.forall_mem_cons.mpr ⟨lw_p112, List.forall_mem_cons.mpr ⟨lw_p113, List.forall_mem_cons.mpr ⟨lw_p114, List.forall_mem_cons.mpr ⟨lw_p115, List.forall_mem_cons.mpr ⟨lw_p116, List.forall_mem_cons.mpr ⟨lw_p117, List.forall_mem_cons.mpr ⟨lw_p118, List.forall_mem_cons.mpr ⟨lw_p119, List.forall_mem_cons.mpr ⟨lw_p120, List.forall_mem_cons.mpr ⟨lw_p121, List.forall_mem_cons.mpr ⟨lw_p122, List.forall_mem_cons.mpr ⟨lw_p123, List.forall_mem_cons.mpr ⟨lw_p124, fun _ h => absurd h List.not_mem_nil⟩⟩⟩⟩⟩⟩⟩⟩⟩⟩⟩⟩⟩
def lw_privs : List (MethodName × Nat) := lw_privs_1 ++ (lw_privs_2 ++ (lw_privs_3 ++ (lw_privs_4 ++ (lw_privs_5 ++ (lw_privs_6 ++ (lw_privs_7 ++ (lw_privs_8)))))))
def lw_tbl : List Cond := k2_sels lw_privs ++ tables_1
theorem lw_privs_ok : ∀ q ∈ lw_privs, lw_okq q := by
  show ∀ q ∈ lw_privs_1 ++ (lw_privs_2 ++ (lw_privs_3 ++ (lw_privs_4 ++ (lw_privs_5 ++ (lw_privs_6 ++ (lw_privs_7 ++ (lw_privs_8))))))), lw_okq q
  exact List.forall_mem_append.mpr ⟨lw_r1, List.forall_mem_append.mpr ⟨lw_r2, List.forall_mem_append.mpr ⟨lw_r3, List.forall_mem_append.mpr ⟨lw_r4, List.forall_mem_append.mpr ⟨lw_r5, List.forall_mem_append.mpr ⟨lw_r6, List.forall_mem_append.mpr ⟨lw_r7, lw_r8⟩⟩⟩⟩⟩⟩⟩
end
section
def RX0 : String := "SandMarch$Draft"
def TX0 : u_T := fun k => match k with
  | 0 => ("SandMarch$Draft", "columns", "I", false)
  | 1 => ("SandMarch$Draft", "rows", "I", false)
  | 2 => ("SandMarch$Draft", "base", "I", false)
  | 3 => ("SandMarch$Draft", "slope", "I", false)
  | 4 => ("SandMarch$Draft", "seed", "I", false)
  | 5 => ("SandMarch$Draft", "heaps", "I", false)
  | 6 => ("SandMarch$Draft", "winds", "I", false)
  | 7 => ("SandMarch$Draft", "linesTold", "I", false)
  | 8 => ("SandMarch$Draft", "rules", "[I", true)
  | 9 => ("SandMarch$Draft", "added", "[I", true)
  | 10 => ("SandMarch$Draft", "grass", "[I", true)
  | 11 => ("SandMarch$Draft", "ways", "[I", true)
  | _ => ("SandMarch$Draft", "spans", "[I", true)
def tyX0 : Nat → FieldType := fun k => match k with
  | 0 => .int
  | 1 => .int
  | 2 => .int
  | 3 => .int
  | 4 => .int
  | 5 => .int
  | 6 => .int
  | 7 => .int
  | 8 => .array .int
  | 9 => .array .int
  | 10 => .array .int
  | 11 => .array .int
  | _ => .array .int
theorem nmX0 : ∀ a, a < 13 → ∀ b, b < 13 → a ≠ b → (TX0 a).2.1 ≠ (TX0 b).2.1 := by decide +kernel
theorem tyX0_ok : ∀ k, k < 13 → parseFieldDescriptor (TX0 k).2.2.1 = some (tyX0 k) := by decide +kernel
abbrev cX0_init : ByteArray := prog_2_method_1_code
def yX0_init : MethodName := ⟨RX0, "<init>", "()V"⟩
abbrev cX0_clear : ByteArray := prog_2_method_2_code
def yX0_clear : MethodName := ⟨RX0, "clear", "()V"⟩
abbrev cX0_isTold : ByteArray := prog_2_method_3_code
def yX0_isTold : MethodName := ⟨RX0, "isTold", "(I)Z"⟩
abbrev cX0_setTold : ByteArray := prog_2_method_4_code
def yX0_setTold : MethodName := ⟨RX0, "setTold", "(I)V"⟩
def RX1 : String := "SandMarch$History"
def TX1 : u_T := fun k => match k with
  | 0 => ("SandMarch$History", "states", "[LSandMarch$Sand;", true)
  | 1 => ("SandMarch$History", "done", "I", false)
  | _ => ("SandMarch$History", "undone", "I", false)
def tyX1 : Nat → FieldType := fun k => match k with
  | 0 => .array (.object "SandMarch$Sand")
  | 1 => .int
  | _ => .int
theorem nmX1 : ∀ a, a < 3 → ∀ b, b < 3 → a ≠ b → (TX1 a).2.1 ≠ (TX1 b).2.1 := by decide +kernel
theorem tyX1_ok : ∀ k, k < 3 → parseFieldDescriptor (TX1 k).2.2.1 = some (tyX1 k) := by decide +kernel
abbrev cX1_init : ByteArray := prog_3_method_1_code
def yX1_init : MethodName := ⟨RX1, "<init>", "()V"⟩
abbrev cX1_forget : ByteArray := prog_3_method_2_code
def yX1_forget : MethodName := ⟨RX1, "forget", "(LSandMarch$Sand;)V"⟩
abbrev cX1_add : ByteArray := prog_3_method_3_code
def yX1_add : MethodName := ⟨RX1, "add", "(LSandMarch$Sand;)V"⟩
abbrev cX1_dropOldest : ByteArray := prog_3_method_4_code
def yX1_dropOldest : MethodName := ⟨RX1, "dropOldest", "()V"⟩
abbrev cX1_goBack : ByteArray := prog_3_method_5_code
def yX1_goBack : MethodName := ⟨RX1, "goBack", "(LSandMarch$Sand;)Z"⟩
abbrev cX1_goOn : ByteArray := prog_3_method_6_code
def yX1_goOn : MethodName := ⟨RX1, "goOn", "(LSandMarch$Sand;)Z"⟩
def RX2 : String := "SandMarch$Land"
def TX2 : u_T := fun k => match k with
  | 0 => ("SandMarch$Land", "columns", "I", false)
  | 1 => ("SandMarch$Land", "rows", "I", false)
  | 2 => ("SandMarch$Land", "cells", "I", false)
  | 3 => ("SandMarch$Land", "slope", "I", false)
  | 4 => ("SandMarch$Land", "winds", "I", false)
  | 5 => ("SandMarch$Land", "round", "I", false)
  | 6 => ("SandMarch$Land", "columnOf", "[I", true)
  | 7 => ("SandMarch$Land", "rowOf", "[I", true)
  | 8 => ("SandMarch$Land", "near", "[I", true)
  | 9 => ("SandMarch$Land", "ways", "[I", true)
  | _ => ("SandMarch$Land", "spans", "[I", true)
def tyX2 : Nat → FieldType := fun k => match k with
  | 0 => .int
  | 1 => .int
  | 2 => .int
  | 3 => .int
  | 4 => .int
  | 5 => .int
  | 6 => .array .int
  | 7 => .array .int
  | 8 => .array .int
  | 9 => .array .int
  | _ => .array .int
theorem nmX2 : ∀ a, a < 11 → ∀ b, b < 11 → a ≠ b → (TX2 a).2.1 ≠ (TX2 b).2.1 := by decide +kernel
theorem tyX2_ok : ∀ k, k < 11 → parseFieldDescriptor (TX2 k).2.2.1 = some (tyX2 k) := by decide +kernel
abbrev cX2_init : ByteArray := prog_4_method_1_code
def yX2_init : MethodName := ⟨RX2, "<init>", "()V"⟩
abbrev cX2_shape : ByteArray := prog_4_method_2_code
def yX2_shape : MethodName := ⟨RX2, "shape", "(LSandMarch$Draft;)V"⟩
abbrev cX2_numberCells : ByteArray := prog_4_method_3_code
def yX2_numberCells : MethodName := ⟨RX2, "numberCells", "()V"⟩
abbrev cX2_joinCells : ByteArray := prog_4_method_4_code
def yX2_joinCells : MethodName := ⟨RX2, "joinCells", "()V"⟩
abbrev cX2_moved : ByteArray := prog_4_method_5_code
def yX2_moved : MethodName := ⟨RX2, "moved", "(III)I"⟩
abbrev cX2_has : ByteArray := prog_4_method_6_code
def yX2_has : MethodName := ⟨RX2, "has", "(I)Z"⟩
abbrev cX2_neighbour : ByteArray := prog_4_method_7_code
def yX2_neighbour : MethodName := ⟨RX2, "neighbour", "(II)I"⟩
abbrev cX2_roundOf : ByteArray := prog_4_method_8_code
def yX2_roundOf : MethodName := ⟨RX2, "roundOf", "(I)I"⟩
abbrev cX2_windAt : ByteArray := prog_4_method_9_code
def yX2_windAt : MethodName := ⟨RX2, "windAt", "(I)I"⟩
def RX3 : String := "SandMarch$Lumps"
def TX3 : u_T := fun k => match k with
  | 0 => ("SandMarch$Lumps", "land", "LSandMarch$Land;", true)
  | 1 => ("SandMarch$Lumps", "in", "[Z", true)
  | 2 => ("SandMarch$Lumps", "reached", "[I", true)
  | 3 => ("SandMarch$Lumps", "reachedCount", "I", false)
  | 4 => ("SandMarch$Lumps", "label", "[I", true)
  | _ => ("SandMarch$Lumps", "count", "I", false)
def tyX3 : Nat → FieldType := fun k => match k with
  | 0 => .object "SandMarch$Land"
  | 1 => .array .boolean
  | 2 => .array .int
  | 3 => .int
  | 4 => .array .int
  | _ => .int
theorem nmX3 : ∀ a, a < 6 → ∀ b, b < 6 → a ≠ b → (TX3 a).2.1 ≠ (TX3 b).2.1 := by decide +kernel
theorem tyX3_ok : ∀ k, k < 6 → parseFieldDescriptor (TX3 k).2.2.1 = some (tyX3 k) := by decide +kernel
abbrev cX3_init : ByteArray := prog_5_method_1_code
def yX3_init : MethodName := ⟨RX3, "<init>", "(LSandMarch$Land;)V"⟩
abbrev cX3_joinLevel : ByteArray := prog_5_method_2_code
def yX3_joinLevel : MethodName := ⟨RX3, "joinLevel", "([II)V"⟩
abbrev cX3_joinCrests : ByteArray := prog_5_method_3_code
def yX3_joinCrests : MethodName := ⟨RX3, "joinCrests", "(LSandMarch$Storm;I)V"⟩
abbrev cX3_join : ByteArray := prog_5_method_4_code
def yX3_join : MethodName := ⟨RX3, "join", "(Z)V"⟩
abbrev cX3_spread : ByteArray := prog_5_method_5_code
def yX3_spread : MethodName := ⟨RX3, "spread", "(IZ)V"⟩
abbrev cX3_reach : ByteArray := prog_5_method_6_code
def yX3_reach : MethodName := ⟨RX3, "reach", "(I)V"⟩
abbrev cX3_firstCell : ByteArray := prog_5_method_7_code
def yX3_firstCell : MethodName := ⟨RX3, "firstCell", "(I)I"⟩
abbrev cX3_size : ByteArray := prog_5_method_8_code
def yX3_size : MethodName := ⟨RX3, "size", "(I)I"⟩
def RX4 : String := "SandMarch$Reader"
def TX4 : u_T := fun k => match k with
  | 0 => ("SandMarch$Reader", "tape", "LSandMarch$Tape;", true)
  | 1 => ("SandMarch$Reader", "draft", "LSandMarch$Draft;", true)
  | 2 => ("SandMarch$Reader", "wrong", "I", false)
  | 3 => ("SandMarch$Reader", "wrongPlace", "I", false)
  | _ => ("SandMarch$Reader", "token", "I", false)
def tyX4 : Nat → FieldType := fun k => match k with
  | 0 => .object "SandMarch$Tape"
  | 1 => .object "SandMarch$Draft"
  | 2 => .int
  | 3 => .int
  | _ => .int
theorem nmX4 : ∀ a, a < 5 → ∀ b, b < 5 → a ≠ b → (TX4 a).2.1 ≠ (TX4 b).2.1 := by decide +kernel
theorem tyX4_ok : ∀ k, k < 5 → parseFieldDescriptor (TX4 k).2.2.1 = some (tyX4 k) := by decide +kernel
abbrev cX4_init : ByteArray := prog_6_method_1_code
def yX4_init : MethodName := ⟨RX4, "<init>", "(LSandMarch$Tape;)V"⟩
abbrev cX4_read : ByteArray := prog_6_method_2_code
def yX4_read : MethodName := ⟨RX4, "read", "()Z"⟩
abbrev cX4_kind : ByteArray := prog_6_method_3_code
def yX4_kind : MethodName := ⟨RX4, "kind", "()I"⟩
abbrev cX4_value : ByteArray := prog_6_method_4_code
def yX4_value : MethodName := ⟨RX4, "value", "()I"⟩
abbrev cX4_advance : ByteArray := prog_6_method_5_code
def yX4_advance : MethodName := ⟨RX4, "advance", "()V"⟩
abbrev cX4_refuse : ByteArray := prog_6_method_6_code
def yX4_refuse : MethodName := ⟨RX4, "refuse", "(II)V"⟩
abbrev cX4_refuseToken : ByteArray := prog_6_method_7_code
def yX4_refuseToken : MethodName := ⟨RX4, "refuseToken", "()V"⟩
abbrev cX4_readLineWord : ByteArray := prog_6_method_8_code
def yX4_readLineWord : MethodName := ⟨RX4, "readLineWord", "(I)I"⟩
abbrev cX4_readRest : ByteArray := prog_6_method_9_code
def yX4_readRest : MethodName := ⟨RX4, "readRest", "(I)V"⟩
abbrev cX4_readSize : ByteArray := prog_6_method_10_code
def yX4_readSize : MethodName := ⟨RX4, "readSize", "()V"⟩
abbrev cX4_readHeap : ByteArray := prog_6_method_11_code
def yX4_readHeap : MethodName := ⟨RX4, "readHeap", "()V"⟩
abbrev cX4_readGrass : ByteArray := prog_6_method_12_code
def yX4_readGrass : MethodName := ⟨RX4, "readGrass", "()V"⟩
abbrev cX4_readWind : ByteArray := prog_6_method_13_code
def yX4_readWind : MethodName := ⟨RX4, "readWind", "()V"⟩
abbrev cX4_readRule : ByteArray := prog_6_method_14_code
def yX4_readRule : MethodName := ⟨RX4, "readRule", "(I)V"⟩
abbrev cX4_expect : ByteArray := prog_6_method_15_code
def yX4_expect : MethodName := ⟨RX4, "expect", "(Z)V"⟩
abbrev cX4_readNumber : ByteArray := prog_6_method_16_code
def yX4_readNumber : MethodName := ⟨RX4, "readNumber", "(II)I"⟩
def RX5 : String := "SandMarch$Sand"
def TX5 : u_T := fun k => match k with
  | 0 => ("SandMarch$Sand", "heights", "[I", true)
  | 1 => ("SandMarch$Sand", "grass", "[I", true)
  | 2 => ("SandMarch$Sand", "rules", "[I", true)
  | 3 => ("SandMarch$Sand", "seed", "I", false)
  | _ => ("SandMarch$Sand", "tries", "I", false)
def tyX5 : Nat → FieldType := fun k => match k with
  | 0 => .array .int
  | 1 => .array .int
  | 2 => .array .int
  | 3 => .int
  | _ => .int
theorem nmX5 : ∀ a, a < 5 → ∀ b, b < 5 → a ≠ b → (TX5 a).2.1 ≠ (TX5 b).2.1 := by decide +kernel
theorem tyX5_ok : ∀ k, k < 5 → parseFieldDescriptor (TX5 k).2.2.1 = some (tyX5 k) := by decide +kernel
abbrev cX5_init : ByteArray := prog_7_method_1_code
def yX5_init : MethodName := ⟨RX5, "<init>", "()V"⟩
abbrev cX5_begin : ByteArray := prog_7_method_2_code
def yX5_begin : MethodName := ⟨RX5, "begin", "(LSandMarch$Draft;)V"⟩
abbrev cX5_copy : ByteArray := prog_7_method_3_code
def yX5_copy : MethodName := ⟨RX5, "copy", "(LSandMarch$Sand;)V"⟩
abbrev cX5_slabs : ByteArray := prog_7_method_4_code
def yX5_slabs : MethodName := ⟨RX5, "slabs", "()I"⟩
abbrev cX5_highest : ByteArray := prog_7_method_5_code
def yX5_highest : MethodName := ⟨RX5, "highest", "()I"⟩
abbrev cX5_bareCells : ByteArray := prog_7_method_6_code
def yX5_bareCells : MethodName := ⟨RX5, "bareCells", "(I)I"⟩
abbrev cX5_stickAt : ByteArray := prog_7_method_7_code
def yX5_stickAt : MethodName := ⟨RX5, "stickAt", "(I)I"⟩
abbrev cX5_drawOf : ByteArray := prog_7_method_8_code
def yX5_drawOf : MethodName := ⟨RX5, "drawOf", "(I)I"⟩
def RX6 : String := "SandMarch$Sightings"
def TX6 : u_T := fun k => match k with
  | 0 => ("SandMarch$Sightings", "land", "LSandMarch$Land;", true)
  | 1 => ("SandMarch$Sightings", "told", "LSandMarch$Sand;", true)
  | 2 => ("SandMarch$Sightings", "probe", "LSandMarch$Sand;", true)
  | 3 => ("SandMarch$Sightings", "trial", "LSandMarch$Storm;", true)
  | 4 => ("SandMarch$Sightings", "toldAt", "[I", true)
  | 5 => ("SandMarch$Sightings", "untoldAt", "[I", true)
  | 6 => ("SandMarch$Sightings", "seeds", "[J", true)
  | 7 => ("SandMarch$Sightings", "surveyed", "[I", true)
  | _ => ("SandMarch$Sightings", "count", "I", false)
def tyX6 : Nat → FieldType := fun k => match k with
  | 0 => .object "SandMarch$Land"
  | 1 => .object "SandMarch$Sand"
  | 2 => .object "SandMarch$Sand"
  | 3 => .object "SandMarch$Storm"
  | 4 => .array .int
  | 5 => .array .int
  | 6 => .array .long
  | 7 => .array .int
  | _ => .int
theorem nmX6 : ∀ a, a < 9 → ∀ b, b < 9 → a ≠ b → (TX6 a).2.1 ≠ (TX6 b).2.1 := by decide +kernel
theorem tyX6_ok : ∀ k, k < 9 → parseFieldDescriptor (TX6 k).2.2.1 = some (tyX6 k) := by decide +kernel
abbrev cX6_init : ByteArray := prog_8_method_1_code
def yX6_init : MethodName := ⟨RX6, "<init>", "(LSandMarch$Land;LSandMarch$Sand;LSandMarch$Sand;LSandMarch$Storm;)V"⟩
abbrev cX6_tell : ByteArray := prog_8_method_2_code
def yX6_tell : MethodName := ⟨RX6, "tell", "(JI)I"⟩
abbrev cX6_takeBack : ByteArray := prog_8_method_3_code
def yX6_takeBack : MethodName := ⟨RX6, "takeBack", "(II)Z"⟩
abbrev cX6_seedsFor : ByteArray := prog_8_method_4_code
def yX6_seedsFor : MethodName := ⟨RX6, "seedsFor", "(IIIZ)J"⟩
abbrev cX6_fitting : ByteArray := prog_8_method_5_code
def yX6_fitting : MethodName := ⟨RX6, "fitting", "(I)J"⟩
abbrev cX6_survey : ByteArray := prog_8_method_6_code
def yX6_survey : MethodName := ⟨RX6, "survey", "(IJ)V"⟩
abbrev cX6_mostAlike : ByteArray := prog_8_method_7_code
def yX6_mostAlike : MethodName := ⟨RX6, "mostAlike", "(IJ)I"⟩
abbrev cX6_alike : ByteArray := prog_8_method_8_code
def yX6_alike : MethodName := ⟨RX6, "alike", "(IIJ)I"⟩
abbrev cX6_holds : ByteArray := prog_8_method_9_code
def yX6_holds : MethodName := ⟨RX6, "holds", "(JI)Z"⟩
def RX7 : String := "SandMarch$Storm"
def TX7 : u_T := fun k => match k with
  | 0 => ("SandMarch$Storm", "land", "LSandMarch$Land;", true)
  | 1 => ("SandMarch$Storm", "sand", "LSandMarch$Sand;", true)
  | 2 => ("SandMarch$Storm", "crossings", "[I", true)
  | 3 => ("SandMarch$Storm", "hops", "I", false)
  | _ => ("SandMarch$Storm", "slides", "I", false)
def tyX7 : Nat → FieldType := fun k => match k with
  | 0 => .object "SandMarch$Land"
  | 1 => .object "SandMarch$Sand"
  | 2 => .array .int
  | 3 => .int
  | _ => .int
theorem nmX7 : ∀ a, a < 5 → ∀ b, b < 5 → a ≠ b → (TX7 a).2.1 ≠ (TX7 b).2.1 := by decide +kernel
theorem tyX7_ok : ∀ k, k < 5 → parseFieldDescriptor (TX7 k).2.2.1 = some (tyX7 k) := by decide +kernel
abbrev cX7_init : ByteArray := prog_9_method_1_code
def yX7_init : MethodName := ⟨RX7, "<init>", "(LSandMarch$Land;LSandMarch$Sand;)V"⟩
abbrev cX7_startFrom : ByteArray := prog_9_method_2_code
def yX7_startFrom : MethodName := ⟨RX7, "startFrom", "(LSandMarch$Sand;I)V"⟩
abbrev cX7_blowOn : ByteArray := prog_9_method_3_code
def yX7_blowOn : MethodName := ⟨RX7, "blowOn", "(I)I"⟩
abbrev cX7_tryOnce : ByteArray := prog_9_method_4_code
def yX7_tryOnce : MethodName := ⟨RX7, "tryOnce", "()Z"⟩
abbrev cX7_yields : ByteArray := prog_9_method_5_code
def yX7_yields : MethodName := ⟨RX7, "yields", "(II)Z"⟩
abbrev cX7_carry : ByteArray := prog_9_method_6_code
def yX7_carry : MethodName := ⟨RX7, "carry", "(II)I"⟩
abbrev cX7_hopOn : ByteArray := prog_9_method_7_code
def yX7_hopOn : MethodName := ⟨RX7, "hopOn", "(II)I"⟩
abbrev cX7_shaded : ByteArray := prog_9_method_8_code
def yX7_shaded : MethodName := ⟨RX7, "shaded", "(II)Z"⟩
abbrev cX7_isCrest : ByteArray := prog_9_method_9_code
def yX7_isCrest : MethodName := ⟨RX7, "isCrest", "(II)Z"⟩
abbrev cX7_lift : ByteArray := prog_9_method_10_code
def yX7_lift : MethodName := ⟨RX7, "lift", "(I)V"⟩
abbrev cX7_drop : ByteArray := prog_9_method_11_code
def yX7_drop : MethodName := ⟨RX7, "drop", "(I)V"⟩
abbrev cX7_settle : ByteArray := prog_9_method_12_code
def yX7_settle : MethodName := ⟨RX7, "settle", "()V"⟩
abbrev cX7_firstSteep : ByteArray := prog_9_method_13_code
def yX7_firstSteep : MethodName := ⟨RX7, "firstSteep", "()I"⟩
abbrev cX7_wayUp : ByteArray := prog_9_method_14_code
def yX7_wayUp : MethodName := ⟨RX7, "wayUp", "(I)I"⟩
abbrev cX7_wayDown : ByteArray := prog_9_method_15_code
def yX7_wayDown : MethodName := ⟨RX7, "wayDown", "(I)I"⟩
abbrev cX7_slide : ByteArray := prog_9_method_16_code
def yX7_slide : MethodName := ⟨RX7, "slide", "(II)V"⟩
abbrev cX7_cross : ByteArray := prog_9_method_17_code
def yX7_cross : MethodName := ⟨RX7, "cross", "(III)V"⟩
def RX8 : String := "SandMarch$Tape"
def TX8 : u_T := fun k => match k with
  | 0 => ("SandMarch$Tape", "bytes", "[I", true)
  | 1 => ("SandMarch$Tape", "length", "I", false)
  | 2 => ("SandMarch$Tape", "kinds", "[I", true)
  | 3 => ("SandMarch$Tape", "places", "[I", true)
  | 4 => ("SandMarch$Tape", "values", "[I", true)
  | _ => ("SandMarch$Tape", "at", "I", false)
def tyX8 : Nat → FieldType := fun k => match k with
  | 0 => .array .int
  | 1 => .int
  | 2 => .array .int
  | 3 => .array .int
  | 4 => .array .int
  | _ => .int
theorem nmX8 : ∀ a, a < 6 → ∀ b, b < 6 → a ≠ b → (TX8 a).2.1 ≠ (TX8 b).2.1 := by decide +kernel
theorem tyX8_ok : ∀ k, k < 6 → parseFieldDescriptor (TX8 k).2.2.1 = some (tyX8 k) := by decide +kernel
abbrev cX8_init : ByteArray := prog_10_method_1_code
def yX8_init : MethodName := ⟨RX8, "<init>", "()V"⟩
abbrev cX8_append : ByteArray := prog_10_method_2_code
def yX8_append : MethodName := ⟨RX8, "append", "(I)V"⟩
abbrev cX8_scan : ByteArray := prog_10_method_3_code
def yX8_scan : MethodName := ⟨RX8, "scan", "()V"⟩
abbrev cX8_scanToken : ByteArray := prog_10_method_4_code
def yX8_scanToken : MethodName := ⟨RX8, "scanToken", "(II)V"⟩
abbrev cX8_scanWord : ByteArray := prog_10_method_5_code
def yX8_scanWord : MethodName := ⟨RX8, "scanWord", "(I)V"⟩
abbrev cX8_scanNumber : ByteArray := prog_10_method_6_code
def yX8_scanNumber : MethodName := ⟨RX8, "scanNumber", "(I)V"⟩
abbrev cX8_wordNumber : ByteArray := prog_10_method_7_code
def yX8_wordNumber : MethodName := ⟨RX8, "wordNumber", "(I)I"⟩
abbrev cX8_isBlank : ByteArray := prog_10_method_8_code
def yX8_isBlank : MethodName := ⟨RX8, "isBlank", "(I)Z"⟩
abbrev cX8_isLetter : ByteArray := prog_10_method_9_code
def yX8_isLetter : MethodName := ⟨RX8, "isLetter", "(I)Z"⟩
abbrev cX8_isDigit : ByteArray := prog_10_method_10_code
def yX8_isDigit : MethodName := ⟨RX8, "isDigit", "(I)Z"⟩
def RX9 : String := "SandMarch"
def TX9 : u_T := fun k => match k with
  | 0 => ("SandMarch", "tape", "LSandMarch$Tape;", true)
  | 1 => ("SandMarch", "reader", "LSandMarch$Reader;", true)
  | 2 => ("SandMarch", "land", "LSandMarch$Land;", true)
  | 3 => ("SandMarch", "told", "LSandMarch$Sand;", true)
  | 4 => ("SandMarch", "now", "LSandMarch$Sand;", true)
  | 5 => ("SandMarch", "probe", "LSandMarch$Sand;", true)
  | 6 => ("SandMarch", "weather", "LSandMarch$Storm;", true)
  | 7 => ("SandMarch", "trial", "LSandMarch$Storm;", true)
  | 8 => ("SandMarch", "history", "LSandMarch$History;", true)
  | 9 => ("SandMarch", "sightings", "LSandMarch$Sightings;", true)
  | 10 => ("SandMarch", "lumps", "LSandMarch$Lumps;", true)
  | 11 => ("SandMarch", "lumpsThen", "LSandMarch$Lumps;", true)
  | 12 => ("SandMarch", "boxes", "[LSandMarch$Sand;", true)
  | 13 => ("SandMarch", "kept", "[Z", true)
  | 14 => ("SandMarch", "tally", "[I", true)
  | _ => ("SandMarch", "time", "I", false)
def tyX9 : Nat → FieldType := fun k => match k with
  | 0 => .object "SandMarch$Tape"
  | 1 => .object "SandMarch$Reader"
  | 2 => .object "SandMarch$Land"
  | 3 => .object "SandMarch$Sand"
  | 4 => .object "SandMarch$Sand"
  | 5 => .object "SandMarch$Sand"
  | 6 => .object "SandMarch$Storm"
  | 7 => .object "SandMarch$Storm"
  | 8 => .object "SandMarch$History"
  | 9 => .object "SandMarch$Sightings"
  | 10 => .object "SandMarch$Lumps"
  | 11 => .object "SandMarch$Lumps"
  | 12 => .array (.object "SandMarch$Sand")
  | 13 => .array .boolean
  | 14 => .array .int
  | _ => .int
theorem nmX9 : ∀ a, a < 16 → ∀ b, b < 16 → a ≠ b → (TX9 a).2.1 ≠ (TX9 b).2.1 := by decide +kernel
theorem tyX9_ok : ∀ k, k < 16 → parseFieldDescriptor (TX9 k).2.2.1 = some (tyX9 k) := by decide +kernel
abbrev cX9_init : ByteArray := prog_1_method_1_code
def yX9_init : MethodName := ⟨RX9, "<init>", "()V"⟩
abbrev cX9_feed : ByteArray := prog_1_method_2_code
def yX9_feed : MethodName := ⟨RX9, "feed", "(IIIII)I"⟩
abbrev cX9_end : ByteArray := prog_1_method_3_code
def yX9_end : MethodName := ⟨RX9, "end", "(I)I"⟩
abbrev cX9_field : ByteArray := prog_1_method_4_code
def yX9_field : MethodName := ⟨RX9, "field", "()I"⟩
abbrev cX9_fault : ByteArray := prog_1_method_5_code
def yX9_fault : MethodName := ⟨RX9, "fault", "(I)I"⟩
abbrev cX9_adopt : ByteArray := prog_1_method_6_code
def yX9_adopt : MethodName := ⟨RX9, "adopt", "(LSandMarch$Draft;)V"⟩
abbrev cX9_cell : ByteArray := prog_1_method_7_code
def yX9_cell : MethodName := ⟨RX9, "cell", "(II)I"⟩
abbrev cX9_beside : ByteArray := prog_1_method_8_code
def yX9_beside : MethodName := ⟨RX9, "beside", "(II)I"⟩
abbrev cX9_wind : ByteArray := prog_1_method_9_code
def yX9_wind : MethodName := ⟨RX9, "wind", "(I)I"⟩
abbrev cX9_windNow : ByteArray := prog_1_method_10_code
def yX9_windNow : MethodName := ⟨RX9, "windNow", "()I"⟩
abbrev cX9_steepness : ByteArray := prog_1_method_11_code
def yX9_steepness : MethodName := ⟨RX9, "steepness", "(I)I"⟩
abbrev cX9_blow : ByteArray := prog_1_method_12_code
def yX9_blow : MethodName := ⟨RX9, "blow", "(I)I"⟩
abbrev cX9_put : ByteArray := prog_1_method_13_code
def yX9_put : MethodName := ⟨RX9, "put", "(II)I"⟩
abbrev cX9_take : ByteArray := prog_1_method_14_code
def yX9_take : MethodName := ⟨RX9, "take", "(I)I"⟩
abbrev cX9_sow : ByteArray := prog_1_method_15_code
def yX9_sow : MethodName := ⟨RX9, "sow", "(IZ)I"⟩
abbrev cX9_turn : ByteArray := prog_1_method_16_code
def yX9_turn : MethodName := ⟨RX9, "turn", "(II)I"⟩
abbrev cX9_undo : ByteArray := prog_1_method_17_code
def yX9_undo : MethodName := ⟨RX9, "undo", "()Z"⟩
abbrev cX9_redo : ByteArray := prog_1_method_18_code
def yX9_redo : MethodName := ⟨RX9, "redo", "()Z"⟩
abbrev cX9_grassy : ByteArray := prog_1_method_19_code
def yX9_grassy : MethodName := ⟨RX9, "grassy", "()I"⟩
abbrev cX9_all : ByteArray := prog_1_method_20_code
def yX9_all : MethodName := ⟨RX9, "all", "(I)I"⟩
abbrev cX9_shadedCells : ByteArray := prog_1_method_21_code
def yX9_shadedCells : MethodName := ⟨RX9, "shadedCells", "()I"⟩
abbrev cX9_greatestDifference : ByteArray := prog_1_method_22_code
def yX9_greatestDifference : MethodName := ⟨RX9, "greatestDifference", "()I"⟩
abbrev cX9_allDifferences : ByteArray := prog_1_method_23_code
def yX9_allDifferences : MethodName := ⟨RX9, "allDifferences", "()I"⟩
abbrev cX9_yieldingCells : ByteArray := prog_1_method_24_code
def yX9_yieldingCells : MethodName := ⟨RX9, "yieldingCells", "()I"⟩
abbrev cX9_skyline : ByteArray := prog_1_method_25_code
def yX9_skyline : MethodName := ⟨RX9, "skyline", "(II)I"⟩
abbrev cX9_lands : ByteArray := prog_1_method_26_code
def yX9_lands : MethodName := ⟨RX9, "lands", "(IIII)J"⟩
abbrev cX9_lowestTerms : ByteArray := prog_1_method_27_code
def yX9_lowestTerms : MethodName := ⟨RX9, "lowestTerms", "(JJI)J"⟩
abbrev cX9_dunes : ByteArray := prog_1_method_28_code
def yX9_dunes : MethodName := ⟨RX9, "dunes", "(I)I"⟩
abbrev cX9_dune : ByteArray := prog_1_method_29_code
def yX9_dune : MethodName := ⟨RX9, "dune", "(III)I"⟩
abbrev cX9_duneOf : ByteArray := prog_1_method_30_code
def yX9_duneOf : MethodName := ⟨RX9, "duneOf", "(II)I"⟩
abbrev cX9_slabsOf : ByteArray := prog_1_method_31_code
def yX9_slabsOf : MethodName := ⟨RX9, "slabsOf", "(I)I"⟩
abbrev cX9_peakOf : ByteArray := prog_1_method_32_code
def yX9_peakOf : MethodName := ⟨RX9, "peakOf", "(I)I"⟩
abbrev cX9_linesOf : ByteArray := prog_1_method_33_code
def yX9_linesOf : MethodName := ⟨RX9, "linesOf", "(I[I)I"⟩
abbrev cX9_parts : ByteArray := prog_1_method_34_code
def yX9_parts : MethodName := ⟨RX9, "parts", "(I)I"⟩
abbrev cX9_leastFrom : ByteArray := prog_1_method_35_code
def yX9_leastFrom : MethodName := ⟨RX9, "leastFrom", "(I)I"⟩
abbrev cX9_saddle : ByteArray := prog_1_method_36_code
def yX9_saddle : MethodName := ⟨RX9, "saddle", "(II)I"⟩
abbrev cX9_greatestBelow : ByteArray := prog_1_method_37_code
def yX9_greatestBelow : MethodName := ⟨RX9, "greatestBelow", "(I)I"⟩
abbrev cX9_crests : ByteArray := prog_1_method_38_code
def yX9_crests : MethodName := ⟨RX9, "crests", "(I)I"⟩
abbrev cX9_follows : ByteArray := prog_1_method_39_code
def yX9_follows : MethodName := ⟨RX9, "follows", "(III)I"⟩
abbrev cX9_fates : ByteArray := prog_1_method_40_code
def yX9_fates : MethodName := ⟨RX9, "fates", "(III)I"⟩
abbrev cX9_isKept : ByteArray := prog_1_method_41_code
def yX9_isKept : MethodName := ⟨RX9, "isKept", "(I)Z"⟩
abbrev cX9_joinBoth : ByteArray := prog_1_method_42_code
def yX9_joinBoth : MethodName := ⟨RX9, "joinBoth", "(II)V"⟩
abbrev cX9_meetingMany : ByteArray := prog_1_method_43_code
def yX9_meetingMany : MethodName := ⟨RX9, "meetingMany", "(LSandMarch$Lumps;LSandMarch$Lumps;)I"⟩
abbrev cX9_meetingNone : ByteArray := prog_1_method_44_code
def yX9_meetingNone : MethodName := ⟨RX9, "meetingNone", "(LSandMarch$Lumps;LSandMarch$Lumps;)I"⟩
abbrev cX9_shift : ByteArray := prog_1_method_45_code
def yX9_shift : MethodName := ⟨RX9, "shift", "(II)I"⟩
abbrev cX9_overlap : ByteArray := prog_1_method_46_code
def yX9_overlap : MethodName := ⟨RX9, "overlap", "([III)I"⟩
abbrev cX9_would : ByteArray := prog_1_method_47_code
def yX9_would : MethodName := ⟨RX9, "would", "(II)I"⟩
abbrev cX9_next : ByteArray := prog_1_method_48_code
def yX9_next : MethodName := ⟨RX9, "next", "(II)I"⟩
abbrev cX9_flux : ByteArray := prog_1_method_49_code
def yX9_flux : MethodName := ⟨RX9, "flux", "(II)I"⟩
abbrev cX9_game : ByteArray := prog_1_method_50_code
def yX9_game : MethodName := ⟨RX9, "game", "(III)I"⟩
abbrev cX9_tallest : ByteArray := prog_1_method_51_code
def yX9_tallest : MethodName := ⟨RX9, "tallest", "(II)I"⟩
abbrev cX9_runTrial : ByteArray := prog_1_method_52_code
def yX9_runTrial : MethodName := ⟨RX9, "runTrial", "(II)I"⟩
abbrev cX9_seen : ByteArray := prog_1_method_53_code
def yX9_seen : MethodName := ⟨RX9, "seen", "(IIIZ)I"⟩
abbrev cX9_untell : ByteArray := prog_1_method_54_code
def yX9_untell : MethodName := ⟨RX9, "untell", "(I)Z"⟩
abbrev cX9_later : ByteArray := prog_1_method_55_code
def yX9_later : MethodName := ⟨RX9, "later", "(I)I"⟩
abbrev cX9_fits : ByteArray := prog_1_method_56_code
def yX9_fits : MethodName := ⟨RX9, "fits", "(I)I"⟩
abbrev cX9_fit : ByteArray := prog_1_method_57_code
def yX9_fit : MethodName := ⟨RX9, "fit", "(II)I"⟩
abbrev cX9_ask : ByteArray := prog_1_method_58_code
def yX9_ask : MethodName := ⟨RX9, "ask", "(III)I"⟩
abbrev cX9_image : ByteArray := prog_1_method_59_code
def yX9_image : MethodName := ⟨RX9, "image", "(I)I"⟩
abbrev cX9_back : ByteArray := prog_1_method_60_code
def yX9_back : MethodName := ⟨RX9, "back", "(I)I"⟩
abbrev cX9_about : ByteArray := prog_1_method_61_code
def yX9_about : MethodName := ⟨RX9, "about", "(I)I"⟩
def RX10 : String := "SandMarchModel"
def TX10 : u_T := fun k => match k with
  | 0 => ("SandMarchModel", "tape", "[I", true)
  | 1 => ("SandMarchModel", "taped", "I", false)
  | 2 => ("SandMarchModel", "size", "I", false)
  | 3 => ("SandMarchModel", "at", "I", false)
  | 4 => ("SandMarchModel", "place", "I", false)
  | 5 => ("SandMarchModel", "sort", "I", false)
  | 6 => ("SandMarchModel", "value", "I", false)
  | 7 => ("SandMarchModel", "fault", "I", false)
  | 8 => ("SandMarchModel", "faultPlace", "I", false)
  | 9 => ("SandMarchModel", "toldFault", "I", false)
  | 10 => ("SandMarchModel", "toldPlace", "I", false)
  | 11 => ("SandMarchModel", "word", "J", false)
  | 12 => ("SandMarchModel", "told", "[I", true)
  | 13 => ("SandMarchModel", "way", "[I", true)
  | 14 => ("SandMarchModel", "tries", "[I", true)
  | 15 => ("SandMarchModel", "heaped", "[I", true)
  | 16 => ("SandMarchModel", "sown", "[I", true)
  | 17 => ("SandMarchModel", "first", "[I", true)
  | 18 => ("SandMarchModel", "has", "[Z", true)
  | 19 => ("SandMarchModel", "hasOther", "Z", false)
  | 20 => ("SandMarchModel", "heaps", "I", false)
  | 21 => ("SandMarchModel", "now", "[I", true)
  | 22 => ("SandMarchModel", "row", "[I", true)
  | 23 => ("SandMarchModel", "hops", "I", false)
  | 24 => ("SandMarchModel", "slides", "I", false)
  | 25 => ("SandMarchModel", "crossed", "I", false)
  | 26 => ("SandMarchModel", "line", "I", false)
  | 27 => ("SandMarchModel", "past", "[I", true)
  | 28 => ("SandMarchModel", "acts", "I", false)
  | 29 => ("SandMarchModel", "undone", "I", false)
  | 30 => ("SandMarchModel", "of", "[I", true)
  | 31 => ("SandMarchModel", "beforeOf", "[I", true)
  | 32 => ("SandMarchModel", "pile", "[I", true)
  | 33 => ("SandMarchModel", "piles", "I", false)
  | 34 => ("SandMarchModel", "boxes", "[I", true)
  | 35 => ("SandMarchModel", "isThere", "[Z", true)
  | 36 => ("SandMarchModel", "seenAfter", "[I", true)
  | 37 => ("SandMarchModel", "seenCell", "[I", true)
  | 38 => ("SandMarchModel", "seenHigh", "[I", true)
  | 39 => ("SandMarchModel", "seenIs", "[I", true)
  | 40 => ("SandMarchModel", "toldAt", "[I", true)
  | 41 => ("SandMarchModel", "untoldAt", "[I", true)
  | 42 => ("SandMarchModel", "seens", "I", false)
  | 43 => ("SandMarchModel", "time", "I", false)
  | 44 => ("SandMarchModel", "isFit", "[Z", true)
  | _ => ("SandMarchModel", "heightsBy", "[I", true)
def tyX10 : Nat → FieldType := fun k => match k with
  | 0 => .array .int
  | 1 => .int
  | 2 => .int
  | 3 => .int
  | 4 => .int
  | 5 => .int
  | 6 => .int
  | 7 => .int
  | 8 => .int
  | 9 => .int
  | 10 => .int
  | 11 => .long
  | 12 => .array .int
  | 13 => .array .int
  | 14 => .array .int
  | 15 => .array .int
  | 16 => .array .int
  | 17 => .array .int
  | 18 => .array .boolean
  | 19 => .boolean
  | 20 => .int
  | 21 => .array .int
  | 22 => .array .int
  | 23 => .int
  | 24 => .int
  | 25 => .int
  | 26 => .int
  | 27 => .array .int
  | 28 => .int
  | 29 => .int
  | 30 => .array .int
  | 31 => .array .int
  | 32 => .array .int
  | 33 => .int
  | 34 => .array .int
  | 35 => .array .boolean
  | 36 => .array .int
  | 37 => .array .int
  | 38 => .array .int
  | 39 => .array .int
  | 40 => .array .int
  | 41 => .array .int
  | 42 => .int
  | 43 => .int
  | 44 => .array .boolean
  | _ => .array .int
theorem nmX10 : ∀ a, a < 46 → ∀ b, b < 46 → a ≠ b → (TX10 a).2.1 ≠ (TX10 b).2.1 := by decide +kernel
theorem tyX10_ok : ∀ k, k < 46 → parseFieldDescriptor (TX10 k).2.2.1 = some (tyX10 k) := by decide +kernel
abbrev cX10_init : ByteArray := prog_12_method_1_code
def yX10_init : MethodName := ⟨RX10, "<init>", "()V"⟩
abbrev cX10_isIn : ByteArray := prog_12_method_2_code
def yX10_isIn : MethodName := ⟨RX10, "isIn", "(III)Z"⟩
abbrev cX10_greater : ByteArray := prog_12_method_3_code
def yX10_greater : MethodName := ⟨RX10, "greater", "(II)I"⟩
abbrev cX10_lesser : ByteArray := prog_12_method_4_code
def yX10_lesser : MethodName := ⟨RX10, "lesser", "(II)I"⟩
abbrev cX10_truth : ByteArray := prog_12_method_5_code
def yX10_truth : MethodName := ⟨RX10, "truth", "(Z)I"⟩
abbrev cX10_off : ByteArray := prog_12_method_6_code
def yX10_off : MethodName := ⟨RX10, "off", "(II)I"⟩
abbrev cX10_feed : ByteArray := prog_12_method_7_code
def yX10_feed : MethodName := ⟨RX10, "feed", "(IIIII)I"⟩
abbrev cX10_four : ByteArray := prog_12_method_8_code
def yX10_four : MethodName := ⟨RX10, "four", "(I)V"⟩
abbrev cX10_end : ByteArray := prog_12_method_9_code
def yX10_end : MethodName := ⟨RX10, "end", "(I)I"⟩
abbrev cX10_here : ByteArray := prog_12_method_10_code
def yX10_here : MethodName := ⟨RX10, "here", "(I)I"⟩
abbrev cX10_isLetter : ByteArray := prog_12_method_11_code
def yX10_isLetter : MethodName := ⟨RX10, "isLetter", "(I)Z"⟩
abbrev cX10_isDigit : ByteArray := prog_12_method_12_code
def yX10_isDigit : MethodName := ⟨RX10, "isDigit", "(I)Z"⟩
abbrev cX10_goOn : ByteArray := prog_12_method_13_code
def yX10_goOn : MethodName := ⟨RX10, "goOn", "()V"⟩
abbrev cX10_wrong : ByteArray := prog_12_method_14_code
def yX10_wrong : MethodName := ⟨RX10, "wrong", "(I)V"⟩
abbrev cX10_isGood : ByteArray := prog_12_method_15_code
def yX10_isGood : MethodName := ⟨RX10, "isGood", "()Z"⟩
abbrev cX10_isWord : ByteArray := prog_12_method_16_code
def yX10_isWord : MethodName := ⟨RX10, "isWord", "(J)Z"⟩
abbrev cX10_numberHere : ByteArray := prog_12_method_17_code
def yX10_numberHere : MethodName := ⟨RX10, "numberHere", "(II)I"⟩
abbrev cX10_number : ByteArray := prog_12_method_18_code
def yX10_number : MethodName := ⟨RX10, "number", "(II)I"⟩
abbrev cX10_begins : ByteArray := prog_12_method_19_code
def yX10_begins : MethodName := ⟨RX10, "begins", "()V"⟩
abbrev cX10_once : ByteArray := prog_12_method_20_code
def yX10_once : MethodName := ⟨RX10, "once", "(I)Z"⟩
abbrev cX10_sizeLine : ByteArray := prog_12_method_21_code
def yX10_sizeLine : MethodName := ⟨RX10, "sizeLine", "()V"⟩
abbrev cX10_simple : ByteArray := prog_12_method_22_code
def yX10_simple : MethodName := ⟨RX10, "simple", "(IIII)V"⟩
abbrev cX10_heapLine : ByteArray := prog_12_method_23_code
def yX10_heapLine : MethodName := ⟨RX10, "heapLine", "()V"⟩
abbrev cX10_grassLine : ByteArray := prog_12_method_24_code
def yX10_grassLine : MethodName := ⟨RX10, "grassLine", "()V"⟩
abbrev cX10_wayHere : ByteArray := prog_12_method_25_code
def yX10_wayHere : MethodName := ⟨RX10, "wayHere", "()I"⟩
abbrev cX10_windLine : ByteArray := prog_12_method_26_code
def yX10_windLine : MethodName := ⟨RX10, "windLine", "()V"⟩
abbrev cX10_stickLine : ByteArray := prog_12_method_27_code
def yX10_stickLine : MethodName := ⟨RX10, "stickLine", "()V"⟩
abbrev cX10_otherLine : ByteArray := prog_12_method_28_code
def yX10_otherLine : MethodName := ⟨RX10, "otherLine", "()V"⟩
abbrev cX10_takesHalf : ByteArray := prog_12_method_29_code
def yX10_takesHalf : MethodName := ⟨RX10, "takesHalf", "([I)V"⟩
abbrev cX10_takesOver : ByteArray := prog_12_method_30_code
def yX10_takesOver : MethodName := ⟨RX10, "takesOver", "()V"⟩
abbrev cX10_asTold : ByteArray := prog_12_method_31_code
def yX10_asTold : MethodName := ⟨RX10, "asTold", "(I)V"⟩
abbrev cX10_field : ByteArray := prog_12_method_32_code
def yX10_field : MethodName := ⟨RX10, "field", "()I"⟩
abbrev cX10_fault : ByteArray := prog_12_method_33_code
def yX10_fault : MethodName := ⟨RX10, "fault", "(I)I"⟩
abbrev cX10_columns : ByteArray := prog_12_method_34_code
def yX10_columns : MethodName := ⟨RX10, "columns", "()I"⟩
abbrev cX10_rows : ByteArray := prog_12_method_35_code
def yX10_rows : MethodName := ⟨RX10, "rows", "()I"⟩
abbrev cX10_cells : ByteArray := prog_12_method_36_code
def yX10_cells : MethodName := ⟨RX10, "cells", "()I"⟩
abbrev cX10_isCell : ByteArray := prog_12_method_37_code
def yX10_isCell : MethodName := ⟨RX10, "isCell", "(I)Z"⟩
abbrev cX10_goesOn : ByteArray := prog_12_method_38_code
def yX10_goesOn : MethodName := ⟨RX10, "goesOn", "()V"⟩
abbrev cX10_keepsRow : ByteArray := prog_12_method_39_code
def yX10_keepsRow : MethodName := ⟨RX10, "keepsRow", "()V"⟩
abbrev cX10_along : ByteArray := prog_12_method_40_code
def yX10_along : MethodName := ⟨RX10, "along", "(III)I"⟩
abbrev cX10_roundOf : ByteArray := prog_12_method_41_code
def yX10_roundOf : MethodName := ⟨RX10, "roundOf", "(I)I"⟩
abbrev cX10_against : ByteArray := prog_12_method_42_code
def yX10_against : MethodName := ⟨RX10, "against", "(I)I"⟩
abbrev cX10_windOf : ByteArray := prog_12_method_43_code
def yX10_windOf : MethodName := ⟨RX10, "windOf", "(I)I"⟩
abbrev cX10_windNow : ByteArray := prog_12_method_44_code
def yX10_windNow : MethodName := ⟨RX10, "windNow", "()I"⟩
abbrev cX10_isShadow : ByteArray := prog_12_method_45_code
def yX10_isShadow : MethodName := ⟨RX10, "isShadow", "(I)Z"⟩
abbrev cX10_gives : ByteArray := prog_12_method_46_code
def yX10_gives : MethodName := ⟨RX10, "gives", "(I)Z"⟩
abbrev cX10_wayTo : ByteArray := prog_12_method_47_code
def yX10_wayTo : MethodName := ⟨RX10, "wayTo", "(IZ)I"⟩
abbrev cX10_slides : ByteArray := prog_12_method_48_code
def yX10_slides : MethodName := ⟨RX10, "slides", "(II)V"⟩
abbrev cX10_crosses : ByteArray := prog_12_method_49_code
def yX10_crosses : MethodName := ⟨RX10, "crosses", "(III)V"⟩
abbrev cX10_fills : ByteArray := prog_12_method_50_code
def yX10_fills : MethodName := ⟨RX10, "fills", "(I)V"⟩
abbrev cX10_spills : ByteArray := prog_12_method_51_code
def yX10_spills : MethodName := ⟨RX10, "spills", "(I)V"⟩
abbrev cX10_settles : ByteArray := prog_12_method_52_code
def yX10_settles : MethodName := ⟨RX10, "settles", "()V"⟩
abbrev cX10_draw : ByteArray := prog_12_method_53_code
def yX10_draw : MethodName := ⟨RX10, "draw", "(I)I"⟩
abbrev cX10_flies : ByteArray := prog_12_method_54_code
def yX10_flies : MethodName := ⟨RX10, "flies", "(I)I"⟩
abbrev cX10_tries : ByteArray := prog_12_method_55_code
def yX10_tries : MethodName := ⟨RX10, "tries", "()Z"⟩
abbrev cX10_blows : ByteArray := prog_12_method_56_code
def yX10_blows : MethodName := ⟨RX10, "blows", "(I)I"⟩
abbrev cX10_act : ByteArray := prog_12_method_57_code
def yX10_act : MethodName := ⟨RX10, "act", "()V"⟩
abbrev cX10_exchanges : ByteArray := prog_12_method_58_code
def yX10_exchanges : MethodName := ⟨RX10, "exchanges", "(I)V"⟩
abbrev cX10_undo : ByteArray := prog_12_method_59_code
def yX10_undo : MethodName := ⟨RX10, "undo", "()Z"⟩
abbrev cX10_redo : ByteArray := prog_12_method_60_code
def yX10_redo : MethodName := ⟨RX10, "redo", "()Z"⟩
abbrev cX10_blow : ByteArray := prog_12_method_61_code
def yX10_blow : MethodName := ⟨RX10, "blow", "(I)I"⟩
abbrev cX10_put : ByteArray := prog_12_method_62_code
def yX10_put : MethodName := ⟨RX10, "put", "(II)I"⟩
abbrev cX10_take : ByteArray := prog_12_method_63_code
def yX10_take : MethodName := ⟨RX10, "take", "(I)I"⟩
abbrev cX10_sownMany : ByteArray := prog_12_method_64_code
def yX10_sownMany : MethodName := ⟨RX10, "sownMany", "()I"⟩
abbrev cX10_sow : ByteArray := prog_12_method_65_code
def yX10_sow : MethodName := ⟨RX10, "sow", "(IZ)I"⟩
abbrev cX10_isRule : ByteArray := prog_12_method_66_code
def yX10_isRule : MethodName := ⟨RX10, "isRule", "(II)Z"⟩
abbrev cX10_turn : ByteArray := prog_12_method_67_code
def yX10_turn : MethodName := ⟨RX10, "turn", "(II)I"⟩
abbrev cX10_lowestBeside : ByteArray := prog_12_method_68_code
def yX10_lowestBeside : MethodName := ⟨RX10, "lowestBeside", "(I)I"⟩
abbrev cX10_isCrest : ByteArray := prog_12_method_69_code
def yX10_isCrest : MethodName := ⟨RX10, "isCrest", "(I)Z"⟩
abbrev cX10_cell : ByteArray := prog_12_method_70_code
def yX10_cell : MethodName := ⟨RX10, "cell", "(II)I"⟩
abbrev cX10_beside : ByteArray := prog_12_method_71_code
def yX10_beside : MethodName := ⟨RX10, "beside", "(II)I"⟩
abbrev cX10_wind : ByteArray := prog_12_method_72_code
def yX10_wind : MethodName := ⟨RX10, "wind", "(I)I"⟩
abbrev cX10_slabs : ByteArray := prog_12_method_73_code
def yX10_slabs : MethodName := ⟨RX10, "slabs", "()I"⟩
abbrev cX10_highest : ByteArray := prog_12_method_74_code
def yX10_highest : MethodName := ⟨RX10, "highest", "()I"⟩
abbrev cX10_bare : ByteArray := prog_12_method_75_code
def yX10_bare : MethodName := ⟨RX10, "bare", "()I"⟩
abbrev cX10_steepest : ByteArray := prog_12_method_76_code
def yX10_steepest : MethodName := ⟨RX10, "steepest", "()I"⟩
abbrev cX10_rough : ByteArray := prog_12_method_77_code
def yX10_rough : MethodName := ⟨RX10, "rough", "()I"⟩
abbrev cX10_shadows : ByteArray := prog_12_method_78_code
def yX10_shadows : MethodName := ⟨RX10, "shadows", "()I"⟩
abbrev cX10_givers : ByteArray := prog_12_method_79_code
def yX10_givers : MethodName := ⟨RX10, "givers", "()I"⟩
abbrev cX10_all : ByteArray := prog_12_method_80_code
def yX10_all : MethodName := ⟨RX10, "all", "(I)I"⟩
abbrev cX10_skyline : ByteArray := prog_12_method_81_code
def yX10_skyline : MethodName := ⟨RX10, "skyline", "(II)I"⟩
abbrev cX10_common : ByteArray := prog_12_method_82_code
def yX10_common : MethodName := ⟨RX10, "common", "(JJ)J"⟩
abbrev cX10_lands : ByteArray := prog_12_method_83_code
def yX10_lands : MethodName := ⟨RX10, "lands", "(IIII)J"⟩
abbrev cX10_piles : ByteArray := prog_12_method_84_code
def yX10_piles : MethodName := ⟨RX10, "piles", "(II[I)V"⟩
abbrev cX10_laysDunes : ByteArray := prog_12_method_85_code
def yX10_laysDunes : MethodName := ⟨RX10, "laysDunes", "([III[I)I"⟩
abbrev cX10_dunesNow : ByteArray := prog_12_method_86_code
def yX10_dunesNow : MethodName := ⟨RX10, "dunesNow", "(I)I"⟩
abbrev cX10_dunes : ByteArray := prog_12_method_87_code
def yX10_dunes : MethodName := ⟨RX10, "dunes", "(I)I"⟩
abbrev cX10_hasIn : ByteArray := prog_12_method_88_code
def yX10_hasIn : MethodName := ⟨RX10, "hasIn", "(IIZ)Z"⟩
abbrev cX10_spanOf : ByteArray := prog_12_method_89_code
def yX10_spanOf : MethodName := ⟨RX10, "spanOf", "(IZ)I"⟩
abbrev cX10_dune : ByteArray := prog_12_method_90_code
def yX10_dune : MethodName := ⟨RX10, "dune", "(III)I"⟩
abbrev cX10_duneOf : ByteArray := prog_12_method_91_code
def yX10_duneOf : MethodName := ⟨RX10, "duneOf", "(II)I"⟩
abbrev cX10_parts : ByteArray := prog_12_method_92_code
def yX10_parts : MethodName := ⟨RX10, "parts", "(I)I"⟩
abbrev cX10_areOne : ByteArray := prog_12_method_93_code
def yX10_areOne : MethodName := ⟨RX10, "areOne", "(III)Z"⟩
abbrev cX10_saddle : ByteArray := prog_12_method_94_code
def yX10_saddle : MethodName := ⟨RX10, "saddle", "(II)I"⟩
abbrev cX10_sidled : ByteArray := prog_12_method_95_code
def yX10_sidled : MethodName := ⟨RX10, "sidled", "(III)I"⟩
abbrev cX10_laysCrests : ByteArray := prog_12_method_96_code
def yX10_laysCrests : MethodName := ⟨RX10, "laysCrests", "()I"⟩
abbrev cX10_crests : ByteArray := prog_12_method_97_code
def yX10_crests : MethodName := ⟨RX10, "crests", "(I)I"⟩
abbrev cX10_isBox : ByteArray := prog_12_method_98_code
def yX10_isBox : MethodName := ⟨RX10, "isBox", "(I)Z"⟩
abbrev cX10_isKept : ByteArray := prog_12_method_99_code
def yX10_isKept : MethodName := ⟨RX10, "isKept", "(I)Z"⟩
abbrev cX10_inCommon : ByteArray := prog_12_method_100_code
def yX10_inCommon : MethodName := ⟨RX10, "inCommon", "(II)I"⟩
abbrev cX10_follows : ByteArray := prog_12_method_101_code
def yX10_follows : MethodName := ⟨RX10, "follows", "(III)I"⟩
abbrev cX10_meets : ByteArray := prog_12_method_102_code
def yX10_meets : MethodName := ⟨RX10, "meets", "(IIZ)I"⟩
abbrev cX10_fates : ByteArray := prog_12_method_103_code
def yX10_fates : MethodName := ⟨RX10, "fates", "(III)I"⟩
abbrev cX10_overlap : ByteArray := prog_12_method_104_code
def yX10_overlap : MethodName := ⟨RX10, "overlap", "(III)I"⟩
abbrev cX10_shift : ByteArray := prog_12_method_105_code
def yX10_shift : MethodName := ⟨RX10, "shift", "(II)I"⟩
abbrev cX10_would : ByteArray := prog_12_method_106_code
def yX10_would : MethodName := ⟨RX10, "would", "(II)I"⟩
abbrev cX10_next : ByteArray := prog_12_method_107_code
def yX10_next : MethodName := ⟨RX10, "next", "(II)I"⟩
abbrev cX10_flux : ByteArray := prog_12_method_108_code
def yX10_flux : MethodName := ⟨RX10, "flux", "(II)I"⟩
abbrev cX10_game : ByteArray := prog_12_method_109_code
def yX10_game : MethodName := ⟨RX10, "game", "(III)I"⟩
abbrev cX10_tallest : ByteArray := prog_12_method_110_code
def yX10_tallest : MethodName := ⟨RX10, "tallest", "(II)I"⟩
abbrev cX10_seen : ByteArray := prog_12_method_111_code
def yX10_seen : MethodName := ⟨RX10, "seen", "(IIIZ)I"⟩
abbrev cX10_untell : ByteArray := prog_12_method_112_code
def yX10_untell : MethodName := ⟨RX10, "untell", "(I)Z"⟩
abbrev cX10_later : ByteArray := prog_12_method_113_code
def yX10_later : MethodName := ⟨RX10, "later", "(I)I"⟩
abbrev cX10_doesCount : ByteArray := prog_12_method_114_code
def yX10_doesCount : MethodName := ⟨RX10, "doesCount", "(II)Z"⟩
abbrev cX10_isSoAfter : ByteArray := prog_12_method_115_code
def yX10_isSoAfter : MethodName := ⟨RX10, "isSoAfter", "(II)Z"⟩
abbrev cX10_lastSeen : ByteArray := prog_12_method_116_code
def yX10_lastSeen : MethodName := ⟨RX10, "lastSeen", "(I)I"⟩
abbrev cX10_fitsBy : ByteArray := prog_12_method_117_code
def yX10_fitsBy : MethodName := ⟨RX10, "fitsBy", "(II)Z"⟩
abbrev cX10_laysFits : ByteArray := prog_12_method_118_code
def yX10_laysFits : MethodName := ⟨RX10, "laysFits", "(I)I"⟩
abbrev cX10_fits : ByteArray := prog_12_method_119_code
def yX10_fits : MethodName := ⟨RX10, "fits", "(I)I"⟩
abbrev cX10_fit : ByteArray := prog_12_method_120_code
def yX10_fit : MethodName := ⟨RX10, "fit", "(II)I"⟩
abbrev cX10_leftBy : ByteArray := prog_12_method_121_code
def yX10_leftBy : MethodName := ⟨RX10, "leftBy", "(I)I"⟩
abbrev cX10_ask : ByteArray := prog_12_method_122_code
def yX10_ask : MethodName := ⟨RX10, "ask", "(III)I"⟩
abbrev cX10_image : ByteArray := prog_12_method_123_code
def yX10_image : MethodName := ⟨RX10, "image", "(I)I"⟩
abbrev cX10_back : ByteArray := prog_12_method_124_code
def yX10_back : MethodName := ⟨RX10, "back", "(I)I"⟩
abbrev cX10_roundTries : ByteArray := prog_12_method_125_code
def yX10_roundTries : MethodName := ⟨RX10, "roundTries", "()I"⟩
abbrev cX10_about : ByteArray := prog_12_method_126_code
def yX10_about : MethodName := ⟨RX10, "about", "(I)I"⟩
def RJx145de : String := "java/io/Serializable"
def TJx145de : u_T := fun k => match k with
  | _ => ("", "", "", false)
def tyJx145de : Nat → FieldType := fun k => match k with
  | _ => .int
theorem nmJx145de : ∀ a, a < 0 → ∀ b, b < 0 → a ≠ b → (TJx145de a).2.1 ≠ (TJx145de b).2.1 := by decide +kernel
theorem tyJx145de_ok : ∀ k, k < 0 → parseFieldDescriptor (TJx145de k).2.2.1 = some (tyJx145de k) := by decide +kernel
def RJx9f9b0 : String := "java/lang/CharSequence"
def TJx9f9b0 : u_T := fun k => match k with
  | _ => ("", "", "", false)
def tyJx9f9b0 : Nat → FieldType := fun k => match k with
  | _ => .int
theorem nmJx9f9b0 : ∀ a, a < 0 → ∀ b, b < 0 → a ≠ b → (TJx9f9b0 a).2.1 ≠ (TJx9f9b0 b).2.1 := by decide +kernel
theorem tyJx9f9b0_ok : ∀ k, k < 0 → parseFieldDescriptor (TJx9f9b0 k).2.2.1 = some (tyJx9f9b0 k) := by decide +kernel
def RJxb160c : String := "java/lang/Comparable"
def TJxb160c : u_T := fun k => match k with
  | _ => ("", "", "", false)
def tyJxb160c : Nat → FieldType := fun k => match k with
  | _ => .int
theorem nmJxb160c : ∀ a, a < 0 → ∀ b, b < 0 → a ≠ b → (TJxb160c a).2.1 ≠ (TJxb160c b).2.1 := by decide +kernel
theorem tyJxb160c_ok : ∀ k, k < 0 → parseFieldDescriptor (TJxb160c k).2.2.1 = some (tyJxb160c k) := by decide +kernel
def RJ13 : String := "java/lang/Long"
def TJ13 : u_T := fun k => match k with
  | _ => ("", "", "", false)
def tyJ13 : Nat → FieldType := fun k => match k with
  | _ => .int
theorem nmJ13 : ∀ a, a < 0 → ∀ b, b < 0 → a ≠ b → (TJ13 a).2.1 ≠ (TJ13 b).2.1 := by decide +kernel
theorem tyJ13_ok : ∀ k, k < 0 → parseFieldDescriptor (TJ13 k).2.2.1 = some (tyJ13 k) := by decide +kernel
abbrev cJ13_bitCount_95d88 : ByteArray := prog_13_method_50_code
def yJ13_bitCount_95d88 : MethodName := ⟨RJ13, "bitCount", "(J)I"⟩
def RJ9 : String := "java/lang/Math"
def TJ9 : u_T := fun k => match k with
  | _ => ("", "", "", false)
def tyJ9 : Nat → FieldType := fun k => match k with
  | _ => .int
theorem nmJ9 : ∀ a, a < 0 → ∀ b, b < 0 → a ≠ b → (TJ9 a).2.1 ≠ (TJ9 b).2.1 := by decide +kernel
theorem tyJ9_ok : ∀ k, k < 0 → parseFieldDescriptor (TJ9 k).2.2.1 = some (tyJ9 k) := by decide +kernel
abbrev cJ9_abs_0f7a4 : ByteArray := prog_14_method_59_code
def yJ9_abs_0f7a4 : MethodName := ⟨RJ9, "abs", "(I)I"⟩
abbrev cJ9_max_7cf53 : ByteArray := prog_14_method_65_code
def yJ9_max_7cf53 : MethodName := ⟨RJ9, "max", "(II)I"⟩
abbrev cJ9_min_7cf53 : ByteArray := prog_14_method_69_code
def yJ9_min_7cf53 : MethodName := ⟨RJ9, "min", "(II)I"⟩
def RJ0 : String := "java/lang/String"
def TJ0 : u_T := fun k => match k with
  | _ => ("", "", "", false)
def tyJ0 : Nat → FieldType := fun k => match k with
  | _ => .int
theorem nmJ0 : ∀ a, a < 0 → ∀ b, b < 0 → a ≠ b → (TJ0 a).2.1 ≠ (TJ0 b).2.1 := by decide +kernel
theorem tyJ0_ok : ∀ k, k < 0 → parseFieldDescriptor (TJ0 k).2.2.1 = some (tyJ0 k) := by decide +kernel
abbrev cJ0_length_8abf5 : ByteArray := prog_15_method_54_code
def yJ0_length_8abf5 : MethodName := ⟨RJ0, "length", "()I"⟩
abbrev cJ0_charAt_5068e : ByteArray := prog_15_method_56_code
def yJ0_charAt_5068e : MethodName := ⟨RJ0, "charAt", "(I)C"⟩
abbrev cJ0_coder_7d493 : ByteArray := prog_15_method_152_code
def yJ0_coder_7d493 : MethodName := ⟨RJ0, "coder", "()B"⟩
abbrev cJ0_isLatin1_aae02 : ByteArray := prog_15_method_154_code
def yJ0_isLatin1_aae02 : MethodName := ⟨RJ0, "isLatin1", "()Z"⟩
abbrev cJ0_checkIndex_df160 : ByteArray := prog_15_method_155_code
def yJ0_checkIndex_df160 : MethodName := ⟨RJ0, "checkIndex", "(II)V"⟩
def RJ1 : String := "java/lang/StringLatin1"
def TJ1 : u_T := fun k => match k with
  | _ => ("", "", "", false)
def tyJ1 : Nat → FieldType := fun k => match k with
  | _ => .int
theorem nmJ1 : ∀ a, a < 0 → ∀ b, b < 0 → a ≠ b → (TJ1 a).2.1 ≠ (TJ1 b).2.1 := by decide +kernel
theorem tyJ1_ok : ∀ k, k < 0 → parseFieldDescriptor (TJ1 k).2.2.1 = some (tyJ1 k) := by decide +kernel
abbrev cJ1_charAt_3b067 : ByteArray := prog_16_method_2_code
def yJ1_charAt_3b067 : MethodName := ⟨RJ1, "charAt", "([BI)C"⟩
def RJ2 : String := "java/lang/StringUTF16"
def TJ2 : u_T := fun k => match k with
  | _ => ("", "", "", false)
def tyJ2 : Nat → FieldType := fun k => match k with
  | _ => .int
theorem nmJ2 : ∀ a, a < 0 → ∀ b, b < 0 → a ≠ b → (TJ2 a).2.1 ≠ (TJ2 b).2.1 := by decide +kernel
theorem tyJ2_ok : ∀ k, k < 0 → parseFieldDescriptor (TJ2 k).2.2.1 = some (tyJ2 k) := by decide +kernel
abbrev cJ2_getChar_3b067 : ByteArray := prog_17_method_5_code
def yJ2_getChar_3b067 : MethodName := ⟨RJ2, "getChar", "([BI)C"⟩
abbrev cJ2_length_9d52b : ByteArray := prog_17_method_6_code
def yJ2_length_9d52b : MethodName := ⟨RJ2, "length", "([B)I"⟩
abbrev cJ2_charAt_3b067 : ByteArray := prog_17_method_83_code
def yJ2_charAt_3b067 : MethodName := ⟨RJ2, "charAt", "([BI)C"⟩
abbrev cJ2_checkIndex_2214a : ByteArray := prog_17_method_91_code
def yJ2_checkIndex_2214a : MethodName := ⟨RJ2, "checkIndex", "(I[B)V"⟩
def RJ10 : String := "java/lang/System"
def TJ10 : u_T := fun k => match k with
  | _ => ("", "", "", false)
def tyJ10 : Nat → FieldType := fun k => match k with
  | _ => .int
theorem nmJ10 : ∀ a, a < 0 → ∀ b, b < 0 → a ≠ b → (TJ10 a).2.1 ≠ (TJ10 b).2.1 := by decide +kernel
theorem tyJ10_ok : ∀ k, k < 0 → parseFieldDescriptor (TJ10 k).2.2.1 = some (tyJ10 k) := by decide +kernel
def RJxfd54e : String := "java/lang/constant/Constable"
def TJxfd54e : u_T := fun k => match k with
  | _ => ("", "", "", false)
def tyJxfd54e : Nat → FieldType := fun k => match k with
  | _ => .int
theorem nmJxfd54e : ∀ a, a < 0 → ∀ b, b < 0 → a ≠ b → (TJxfd54e a).2.1 ≠ (TJxfd54e b).2.1 := by decide +kernel
theorem tyJxfd54e_ok : ∀ k, k < 0 → parseFieldDescriptor (TJxfd54e k).2.2.1 = some (tyJxfd54e k) := by decide +kernel
def RJx3cf43 : String := "java/lang/constant/ConstantDesc"
def TJx3cf43 : u_T := fun k => match k with
  | _ => ("", "", "", false)
def tyJx3cf43 : Nat → FieldType := fun k => match k with
  | _ => .int
theorem nmJx3cf43 : ∀ a, a < 0 → ∀ b, b < 0 → a ≠ b → (TJx3cf43 a).2.1 ≠ (TJx3cf43 b).2.1 := by decide +kernel
theorem tyJx3cf43_ok : ∀ k, k < 0 → parseFieldDescriptor (TJx3cf43 k).2.2.1 = some (tyJx3cf43 k) := by decide +kernel
def RJ7 : String := "java/util/Arrays"
def TJ7 : u_T := fun k => match k with
  | _ => ("", "", "", false)
def tyJ7 : Nat → FieldType := fun k => match k with
  | _ => .int
theorem nmJ7 : ∀ a, a < 0 → ∀ b, b < 0 → a ≠ b → (TJ7 a).2.1 ≠ (TJ7 b).2.1 := by decide +kernel
theorem tyJ7_ok : ∀ k, k < 0 → parseFieldDescriptor (TJ7 k).2.2.1 = some (tyJ7 k) := by decide +kernel
abbrev cJ7_fill_53178 : ByteArray := prog_19_method_103_code
def yJ7_fill_53178 : MethodName := ⟨RJ7, "fill", "([II)V"⟩
def RJ3 : String := "jdk/internal/util/Preconditions"
def TJ3 : u_T := fun k => match k with
  | _ => ("", "", "", false)
def tyJ3 : Nat → FieldType := fun k => match k with
  | _ => .int
theorem nmJ3 : ∀ a, a < 0 → ∀ b, b < 0 → a ≠ b → (TJ3 a).2.1 ≠ (TJ3 b).2.1 := by decide +kernel
theorem tyJ3_ok : ∀ k, k < 0 → parseFieldDescriptor (TJ3 k).2.2.1 = some (tyJ3 k) := by decide +kernel
abbrev cJ3_checkIndex_8e157 : ByteArray := prog_20_method_11_code
def yJ3_checkIndex_8e157 : MethodName := ⟨RJ3, "checkIndex", "(IILjava/util/function/BiFunction;)I"⟩
def RL : String := "SandMarchLaw"
abbrev cL_law : ByteArray := code
def yL_law : MethodName := ⟨RL, "law", "([I)Z"⟩
abbrev zcls : List vw_C := [(RX0, TX0, 13), (RX1, TX1, 3), (RX2, TX2, 11), (RX3, TX3, 6), (RX4, TX4, 5), (RX5, TX5, 5), (RX6, TX6, 9), (RX7, TX7, 5), (RX8, TX8, 6), (RX9, TX9, 16), (RX10, TX10, 46)]
/-- the kind of a field: 0 int, 1 long, 2 a reference, 3 boolean -/
def zfk (c k : Nat) : Nat := match c with
  | 0 => [0, 0, 0, 0, 0, 0, 0, 0, 2, 2, 2, 2, 2].getD k 0
  | 1 => [2, 0, 0].getD k 0
  | 2 => [0, 0, 0, 0, 0, 0, 2, 2, 2, 2, 2].getD k 0
  | 3 => [2, 2, 2, 0, 2, 0].getD k 0
  | 4 => [2, 2, 0, 0, 0].getD k 0
  | 5 => [2, 2, 2, 0, 0].getD k 0
  | 6 => [2, 2, 2, 2, 2, 2, 2, 2, 0].getD k 0
  | 7 => [2, 2, 2, 0, 0].getD k 0
  | 8 => [2, 0, 2, 2, 2, 0].getD k 0
  | 9 => [2, 2, 2, 2, 2, 2, 2, 2, 2, 2, 2, 2, 2, 2, 2, 0].getD k 0
  | 10 => [2, 0, 0, 0, 0, 0, 0, 0, 0, 0, 0, 1, 2, 2, 2, 2, 2, 2, 2, 3, 0, 2, 2, 0, 0, 0, 0, 2, 0, 0, 2, 2, 2, 0, 2, 2, 2, 2, 2, 2, 2, 2, 0, 0, 2, 2].getD k 0
  | _ => 0
def ztx : String := "size sand heap grass wind hop shadow slope stick draw east south west north by "
def ztb : List Int32 := [115, 105, 122, 101, 32, 115, 97, 110, 100, 32, 104, 101, 97, 112, 32, 103, 114, 97, 115, 115, 32, 119, 105, 110, 100, 32, 104, 111, 112, 32, 115, 104, 97, 100, 111, 119, 32, 115, 108, 111, 112, 101, 32, 115, 116, 105, 99, 107, 32, 100, 114, 97, 119, 32, 101, 97, 115, 116, 32, 115, 111, 117, 116, 104, 32, 119, 101, 115, 116, 32, 110, 111, 114, 116, 104, 32, 98, 121, 32]
end
section
/-! worlds of Ints: an address a stands for the cell g.1 + a; zh: its kind (0 object of a class, 1 ints, 2 booleans, 3 longs, 4 Sands; 9 none) and class or length; references of fields in the signature, all else in the memory -/
abbrev zG : Type := Nat × va_G × (Nat → ClassId) × (Nat → Nat)
abbrev zM : Type := Nat → Int → Int
abbrev zS : Type := Bool × List (Nat × Nat) × (Nat → Nat → Nat)
/-- a method: name, code, locals, what it returns, frames and words below it -/
abbrev zD : Type := MethodName × ByteArray × Nat × Option FieldType × Nat × Nat
def zI (x : Int) : Value := .int (Int32.ofInt x)
def zL (x : Int) : Value := .long (Int64.ofInt x)
def zA (g : zG) (a : Nat) : Value := .ref (g.1 + a)
def zN (g : zG) (a : Nat) : Value := if a = 0 then .null else .ref (g.1 + a)
def zh (σ : zS) (a : Nat) : Nat × Nat := match a with
  | 0 => (9, 0)
  | k + 1 => σ.2.1.getD k (9, 0)
def zfv (g : zG) (kd F : Nat) (x : Int) : Value := match kd with
  | 0 => zI x
  | 1 => zL x
  | 3 => zI x
  | _ => zN g F
def zev (g : zG) (kd : Nat) (x : Int) : Value := match kd with
  | 1 => zI x
  | 2 => zI x
  | 3 => zL x
  | _ => zN g x.toNat
def zcell (g : zG) (σ : zS) (M : zM) (a : Nat) (H : Heap) : Prop :=
  if (zh σ a).1 = 0 then ∃ r : vw_C, zcls[(zh σ a).2]? = some r ∧ t_OB (g.1 + a) (g.2.1.1 (zh σ a).2) r.2.2 (g.2.1.2 (zh σ a).2) H (fun k => zfv g (zfk (zh σ a).2 k) (σ.2.2 a k) (M a (k : Int)))
  else if (zh σ a).1 = 9 then True else H[g.1 + a]? = some (arrV (g.2.2.1 (zh σ a).1) (zh σ a).2 (fun j => zev g (zh σ a).1 (M a (j : Int))))
def zH (g : zG) (σ : zS) (M : zM) (H : Heap) : Prop := (∀ a, zcell g σ M a H) ∧ (σ.1 = true → H.size = g.1 + σ.2.1.length + 1)
def zAg (g : zG) (σ : zS) : Nat → Prop := fun q => g.1 < q ∧ (σ.1 = true ∨ q ≤ g.1 + σ.2.1.length)
def zu (M : zM) (a : Nat) (i x : Int) : zM := fun b j => if b = a ∧ j = i then x else M b j
def ztys (g : zG) : List (ClassId × FieldType) := [(g.2.2.1 1, .int), (g.2.2.1 2, .boolean), (g.2.2.1 3, .long), (g.2.2.1 4, .object "SandMarch$Sand")]
def zty (kd : Nat) : FieldType := match kd with
  | 1 => .int
  | 2 => .boolean
  | 3 => .long
  | _ => .object "SandMarch$Sand"
def znm : List (String × Nat × MethodName) := [(RX9, 9, yX8_init), (RX9, 27, yX2_init), (RX9, 34, yX5_init), (RX1, 24, yX5_init)]
def znf : List (String × Nat × String) := [(RX4, 141, "RULE_LEAST"), (RX4, 144, "RULE_MOST")]
/-- what is old and stays: static arrays, the text of the words -/
def zX (g : zG) (U : State) : Prop :=
  va_Z "SandMarch" "RULE_LEAST" "[I" (.ref (g.2.2.2 0)) (fun q => g.1 < q) U U.heap ∧ va_T .int (g.2.2.2 0) 4 (fun j => zI ([1, 1, 0, 0].getD j 0)) (fun q => g.1 < q) U U.heap ∧
  va_Z "SandMarch" "RULE_MOST" "[I" (.ref (g.2.2.2 1)) (fun q => g.1 < q) U U.heap ∧ va_T .int (g.2.2.2 1) 4 (fun j => zI ([6, 9, 16, 16].getD j 0)) (fun q => g.1 < q) U U.heap ∧
  va_Z "java/lang/String" "COMPACT_STRINGS" "Z" (.int 1) (fun q => g.1 < q) U U.heap ∧ va_Zq "jdk/internal/util/Preconditions" "SIOOBE_FORMATTER" "Ljava/util/function/BiFunction;" (fun q => g.1 < q) U U.heap ∧
  vk_R "SandMarch$Tape" 56 ztx (g.2.2.2 2) U ∧ vk_S 1 [ztb.length] [ztb] (fun _ => g.2.2.2 2) (fun _ => g.2.2.2 3) (fun q => g.1 < q) U U.heap ∧
  va_AO "SandMarch$Sand" U ∧ (∀ w ∈ znm, va_Nw (.methodLinkNest w.1 w.2.1 w.2.2 "SandMarch") U) ∧ ∀ w ∈ znf, va_Nw (.fieldLinkNest w.1 w.2.1 "SandMarch" w.2.2 "[I" "SandMarch") U
/-- the tables' words that last -/
def zt : List Cond := lw_tbl.filter goodWord
theorem zm {w : Cond} (i : Nat) (h : lw_tbl[i]? = some w) (hg : goodWord w = true) : w ∈ zt := List.mem_filter.mpr ⟨List.mem_of_getElem? h, hg⟩
def zw (d : zD) : List Cond := Cond.code d.1 d.2.1 d.2.2.1 d.2.2.2.1 :: zt
def zrm (d : zD) (mm : Nat × Nat) : Room := { frames := d.2.2.2.2.1, cells := mm.1, slots := mm.2, locals := d.2.2.2.2.2 }
def zWd (g : zG) (σ : zS) (M : zM) (U : State) : Prop := zH g σ M U.heap ∧ va_K g.2.1 zcls (ztys g) U ∧ zX g U ∧ g.1 < U.heap.size
abbrev zP : Type := Option Value → zS → zM → Prop
def zQ (g : zG) (σ : zS) (Q : zP) : Array Value → State → Outcome → State → Prop := fun _ st oc t => (∃ (v : Option Value) (σ' : zS) (M' : zM), oc = .returned v ∧ Q v σ' M' ∧ zH g σ' M' t.heap ∧ zAg g σ' = zAg g σ) ∧ va_F (zAg g σ) st t
/-- a call: from every machine that holds the world, the method returns, and Q -/
def zC (g : zG) (d : zD) (mm : Nat × Nat) (as : List Value) (σ : zS) (M : zM) (Q : zP) : Prop := ∀ l : Launch, Met l d.1 (zw d) (zrm d mm) (va_Pc as (zWd g σ M)) (zQ g σ Q) mm.1 mm.2 (zAg g σ)
def zB (g : zG) (d : zD) (p : Program) (s : State) (m : MethodId) (args : Array Value) (meth : Method) (c : Code) : Prop :=
  p.tables.exec = Jvm.exec ∧ c.code = d.2.1 ∧ c.maxLocals = d.2.2.1 ∧ meth.sig.returnType = d.2.2.2.1 ∧ meth.locks = false ∧ s.vm.findClass d.1.cls = some m.cls ∧ (∀ w ∈ zt, w.before args s = true) ∧ meth.name = d.1.name ∧ va_K g.2.1 zcls (ztys g) s ∧ zX g s ∧ g.1 < s.heap.size
/-- the machine inside a method: at pc, these locals known, this stack, this world: it returns, and Q -/
def zR (g : zG) (d : zD) (mm : Nat × Nat) (σ0 : zS) (Q : zP) (pc : Nat) (l : List (Nat × Value)) (st : List Value) (kw : Nat × Nat) (σ : zS) (M : zM) : Prop :=
  ∀ (la : Launch) (p : Program) (e : Env) (s : State) (m : MethodId) (args : Array Value) (below : List Frame) (meth : Method) (c : Code), zB g d p s m args meth c →
  ∀ (H : Heap) (locs : List Loc) (ls : Array Slot), zAg g σ = zAg g σ0 → va_S (zAg g σ0) s.heap H locs → zH g σ M H → lv_has ls d.2.2.1 l →
  W p la e (zrm d mm) s m args below meth c H locs kw.1 kw.2 (MQ below (zQ g σ0 Q) args s mm.1 mm.2 (zAg g σ0)) (F0 m pc ls st)
section ZR
variable {g : zG} {d : zD} {mm kw : Nat × Nat} {σ0 σ : zS} {Q : zP} {pc pc' : Nat} {l l' : List (Nat × Value)} {st st' : List Value} {M : zM}
/-- fewer known locals -/
theorem zr_sub (ks : List Nat) (h : lv_pick l ks = l') (k : zR g d mm σ0 Q pc l' st kw σ M) : zR g d mm σ0 Q pc l st kw σ M :=
  fun la p e s m args below meth c B H locs ls hA hS hH hl => k la p e s m args below meth c B H locs ls hA hS hH (lv_sub hl ks h)
/-- an instruction that changes the stack alone -/
theorem zr_st (h : ∀ {p : Program} {la : Launch} {e : Env} {R : Room} {s : State} {m : MethodId} {args : Array Value} {below : List Frame} {meth : Method} {c : Code} {H : Heap} {locs : List Loc} {cells slots : Nat} {Q : State → Prop} {ls : Array Slot}, zB g d p s m args meth c → lv_has ls d.2.2.1 l → W p la e R s m args below meth c H locs cells slots Q (F0 m pc' ls st') → W p la e R s m args below meth c H locs cells slots Q (F0 m pc ls st))
    (k : zR g d mm σ0 Q pc' l st' kw σ M) : zR g d mm σ0 Q pc l st kw σ M :=
  fun la p e s m args below meth c B H locs ls hA hS hH hl => h B hl (k la p e s m args below meth c B H locs ls hA hS hH hl)
theorem zr_iconst {n : Int} (hd : decode d.2.1 pc = .ok (.iconst n, 1)) (k : zR g d mm σ0 Q (pc + 1) l (zI n :: st) kw σ M) : zR g d mm σ0 Q pc l st kw σ M :=
  zr_st (fun B hl k => lv_iconst B.1 B.2.1 hd rfl k) k
theorem zr_bipush {n : Int} (hd : decode d.2.1 pc = .ok (.bipush n, 2)) (hn : (Int8.ofInt n).toInt32 = Int32.ofInt n) (k : zR g d mm σ0 Q (pc + 2) l (zI n :: st) kw σ M) : zR g d mm σ0 Q pc l st kw σ M :=
  zr_st (fun B hl k => lv_bipush B.1 B.2.1 hd hn k) k
theorem zr_sipush {n : Int} (hd : decode d.2.1 pc = .ok (.sipush n, 3)) (hn : (Int16.ofInt n).toInt32 = Int32.ofInt n) (k : zR g d mm σ0 Q (pc + 3) l (zI n :: st) kw σ M) : zR g d mm σ0 Q pc l st kw σ M :=
  zr_st (fun B hl k => lv_sipush B.1 B.2.1 hd hn k) k
theorem zr_iload_n {j : Fin 4} {x : Int} (q : Nat) (hd : decode d.2.1 pc = .ok (.iload_n j, 1)) (hl : l[q]? = some ((j : Nat), zI x)) (k : zR g d mm σ0 Q (pc + 1) l (zI x :: st) kw σ M) : zR g d mm σ0 Q pc l st kw σ M :=
  zr_st (fun B hv k => lv_iload_n B.1 B.2.1 hd rfl (lv_at hv q hl) k) k
theorem zr_iload {j : Nat} {x : Int} (q : Nat) (hd : decode d.2.1 pc = .ok (.iload j, 2)) (hl : l[q]? = some (j, zI x)) (k : zR g d mm σ0 Q (pc + 2) l (zI x :: st) kw σ M) : zR g d mm σ0 Q pc l st kw σ M :=
  zr_st (fun B hv k => lv_iload B.1 B.2.1 hd (lv_at hv q hl) k) k
theorem zr_lload_n {j : Fin 4} {x : Int} (q : Nat) (hd : decode d.2.1 pc = .ok (.lload_n j, 1)) (hl : l[q]? = some ((j : Nat), zL x)) (k : zR g d mm σ0 Q (pc + 1) l (zL x :: st) kw σ M) : zR g d mm σ0 Q pc l st kw σ M :=
  zr_st (fun B hv k => lv_lload_n B.1 B.2.1 hd rfl (lv_at hv q hl) k) k
theorem zr_lload {j : Nat} {x : Int} (q : Nat) (hd : decode d.2.1 pc = .ok (.lload j, 2)) (hl : l[q]? = some (j, zL x)) (k : zR g d mm σ0 Q (pc + 2) l (zL x :: st) kw σ M) : zR g d mm σ0 Q pc l st kw σ M :=
  zr_st (fun B hv k => lv_lload B.1 B.2.1 hd (lv_at hv q hl) k) k
theorem zr_aload_n {j : Fin 4} {x : Nat} (q : Nat) (hd : decode d.2.1 pc = .ok (.aload_n j, 1)) (hl : l[q]? = some ((j : Nat), zA g x)) (k : zR g d mm σ0 Q (pc + 1) l (zA g x :: st) kw σ M) : zR g d mm σ0 Q pc l st kw σ M :=
  zr_st (fun B hv k => lv_aload_n B.1 B.2.1 hd rfl (lv_at hv q hl) k) k
theorem zr_aload {j : Nat} {x : Nat} (q : Nat) (hd : decode d.2.1 pc = .ok (.aload j, 2)) (hl : l[q]? = some (j, zA g x)) (k : zR g d mm σ0 Q (pc + 2) l (zA g x :: st) kw σ M) : zR g d mm σ0 Q pc l st kw σ M :=
  zr_st (fun B hv k => lv_aload B.1 B.2.1 hd (lv_at hv q hl) k) k
theorem zr_iadd {x y : Int} (hd : decode d.2.1 pc = .ok (.iadd, 1)) (k : zR g d mm σ0 Q (pc + 1) l (zI (x + y) :: st) kw σ M) : zR g d mm σ0 Q pc l (zI y :: zI x :: st) kw σ M :=
  zr_st (fun B hl k => lv_iadd B.1 B.2.1 hd (by rw [← Int32.ofInt_add]; exact k)) k
theorem zr_isub {x y : Int} (hd : decode d.2.1 pc = .ok (.isub, 1)) (k : zR g d mm σ0 Q (pc + 1) l (zI (x - y) :: st) kw σ M) : zR g d mm σ0 Q pc l (zI y :: zI x :: st) kw σ M :=
  zr_st (fun B hl k => lv_isub B.1 B.2.1 hd (by rw [← Int32.ofInt_sub]; exact k)) k
theorem zr_imul {x y : Int} (hd : decode d.2.1 pc = .ok (.imul, 1)) (k : zR g d mm σ0 Q (pc + 1) l (zI (x * y) :: st) kw σ M) : zR g d mm σ0 Q pc l (zI y :: zI x :: st) kw σ M :=
  zr_st (fun B hl k => lv_imul B.1 B.2.1 hd (by rw [← Int32.ofInt_mul]; exact k)) k
theorem zr_goto {off : Int} {tgt : Nat} (hd : decode d.2.1 pc = .ok (.goto off, 3)) (ht : (pc : Int) + off = (tgt : Int)) (k : zR g d mm σ0 Q tgt l st kw σ M) : zR g d mm σ0 Q pc l st kw σ M :=
  zr_st (fun B hl k => lv_goto B.1 B.2.1 hd ht k) k
end ZR
end
section
def zin (x : Int) : Prop := -2147483648 ≤ x ∧ x ≤ 2147483647
theorem zi_to {x : Int} (h : zin x) : (Int32.ofInt x).toInt = x := Int32.toInt_ofInt_of_le (by have := h.1; omega) (by have := h.2; omega)
theorem zi_lt {x y : Int} (hx : zin x) (hy : zin y) : Int32.ofInt x < Int32.ofInt y ↔ x < y := by rw [Int32.lt_iff_toInt_lt, zi_to hx, zi_to hy]
theorem zi_le {x y : Int} (hx : zin x) (hy : zin y) : Int32.ofInt x ≤ Int32.ofInt y ↔ x ≤ y := by rw [Int32.le_iff_toInt_le, zi_to hx, zi_to hy]
theorem zi_eq {x y : Int} (hx : zin x) (hy : zin y) : Int32.ofInt x = Int32.ofInt y ↔ x = y := by rw [← Int32.toInt_inj, zi_to hx, zi_to hy]
theorem zin0 : zin 0 := ⟨by decide, by decide⟩
theorem zi_nn {x : Int} (hx : zin x) (h0 : 0 ≤ x) : (Int32.ofInt x).toNatClampNeg = x.toNat := by
  show (Int32.ofInt x).toInt.toNat = x.toNat
  rw [zi_to hx]
theorem zi_in {x : Int} {n : Nat} (h0 : 0 ≤ x) (h1 : x < n) (hn : n ≤ 100000) : vp_in (Int32.ofInt x) n := by
  have hx : zin x := ⟨by omega, by omega⟩
  rintro (h | h)
  · have h' : Int32.ofInt x < Int32.ofInt 0 := h
    rw [zi_lt hx zin0] at h'; omega
  · rw [zi_nn hx h0] at h; omega
section ZA
variable {g : zG} {σ : zS} {M M' : zM} {a b ci n kd : Nat} {H H1 : Heap}
theorem zc_obj (h : zcell g σ M a H) (hs : zh σ a = (0, ci)) : ∃ r : vw_C, zcls[ci]? = some r ∧ t_OB (g.1 + a) (g.2.1.1 ci) r.2.2 (g.2.1.2 ci) H (fun k => zfv g (zfk ci k) (σ.2.2 a k) (M a (k : Int))) := by
  unfold zcell at h; rw [hs] at h; exact h
theorem zc_arr (h : zcell g σ M a H) (hs : zh σ a = (kd, n)) (h0 : kd ≠ 0) (h9 : kd ≠ 9) : H[g.1 + a]? = some (arrV (g.2.2.1 kd) n (fun j => zev g kd (M a (j : Int)))) := by
  unfold zcell at h; rw [hs] at h; simp only [h0, h9, if_false] at h; exact h
theorem zc_kept (h : zcell g σ M b H) (hq : H1[g.1 + b]? = H[g.1 + b]?) (hM : ∀ j, M' b j = M b j) : zcell g σ M' b H1 := by
  unfold zcell at h ⊢
  simp only [hM]
  split at h
  · rename_i h0
    rw [if_pos h0]
    obtain ⟨r, h1, h2⟩ := h
    exact ⟨r, h1, h2.kept hq⟩
  · rename_i h0
    rw [if_neg h0]
    split at h
    · rename_i h9
      rw [if_pos h9]; trivial
    · rename_i h9
      rw [if_neg h9, hq]; exact h
/-- a cell of the world is written: the others stay -/
theorem zH.put (h : zH g σ M H) (hz : H1.size = H.size) (oq : ∀ q : Nat, q ≠ g.1 + a → H1[q]? = H[q]?) (hM : ∀ b j, b ≠ a → M' b j = M b j) (ha : zcell g σ M' a H1) : zH g σ M' H1 := by
  refine ⟨fun b => ?_, fun ho => hz.trans (h.2 ho)⟩
  by_cases hb : b = a
  · subst hb; exact ha
  · exact zc_kept (h.1 b) (oq _ (by omega)) (fun j => hM b j hb)
theorem zh_le {q : Nat × Nat} (hs : zh σ a = q) (h9 : q.1 ≠ 9) : 0 < a ∧ a ≤ σ.2.1.length := by
  cases a with
  | zero => subst hs; exact absurd rfl h9
  | succ k =>
    refine ⟨Nat.succ_pos k, ?_⟩
    rcases Nat.lt_or_ge k σ.2.1.length with h | h
    · exact h
    · have : zh σ (k + 1) = (9, 0) := by show σ.2.1.getD k (9, 0) = _; simp [List.getD_eq_getElem?_getD, List.getElem?_eq_none h]
      rw [this] at hs; subst hs; exact absurd rfl h9
theorem zAg_in {q : Nat × Nat} (hs : zh σ a = q) (h9 : q.1 ≠ 9) : zAg g σ (g.1 + a) := by
  have := zh_le hs h9
  exact ⟨by omega, Or.inr (by omega)⟩
theorem zu_ne {x i j : Int} (h : b ≠ a) : zu M a i x b j = M b j := by simp [zu, h]
theorem zu_at (M : zM) (a : Nat) (i x : Int) : zu M a i x a i = x := by simp [zu]
theorem zu_row (M : zM) (a : Nat) (i x j : Int) : zu M a i x a j = if j = i then x else M a j := by simp [zu]
/-- ints and booleans -/
theorem zc_ist {i x : Int} (h0 : 0 ≤ i) (hk : kd = 1 ∨ kd = 2) (hs : zh σ a = (kd, n)) (he : H1[g.1 + a]? = some (arrV (g.2.2.1 kd) n (updV (fun j => zev g kd (M a (j : Int))) i.toNat (zI x)))) : zcell g σ (zu M a i x) a H1 := by
  unfold zcell
  rw [hs]
  have hk0 : kd ≠ 0 := by omega
  have h9 : kd ≠ 9 := by omega
  simp only [hk0, h9, if_false]
  rw [he]
  congr 2
  funext j
  simp only [updV, zu_row]
  by_cases hj : j = i.toNat
  · rw [if_pos hj, if_pos (by omega)]
    rcases hk with rfl | rfl <;> rfl
  · rw [if_neg hj, if_neg (by omega)]
theorem zc_lst {i x : Int} (h0 : 0 ≤ i) (hs : zh σ a = (3, n)) (he : H1[g.1 + a]? = some (arrV (g.2.2.1 3) n (updV (fun j => zev g 3 (M a (j : Int))) i.toNat (zL x)))) : zcell g σ (zu M a i x) a H1 := by
  unfold zcell
  rw [hs]
  simp only [show (3 : Nat) ≠ 0 by decide, show (3 : Nat) ≠ 9 by decide, if_false]
  rw [he]
  congr 2
  funext j
  simp only [updV, zu_row]
  by_cases hj : j = i.toNat
  · rw [if_pos hj, if_pos (by omega)]; rfl
  · rw [if_neg hj, if_neg (by omega)]
theorem zc_ast {i : Int} {v : Nat} (h0 : 0 ≤ i) (hv : v ≠ 0) (hs : zh σ a = (4, n)) (he : H1[g.1 + a]? = some (arrV (g.2.2.1 4) n (updV (fun j => zev g 4 (M a (j : Int))) i.toNat (zA g v)))) : zcell g σ (zu M a i v) a H1 := by
  unfold zcell
  rw [hs]
  simp only [show (4 : Nat) ≠ 0 by decide, show (4 : Nat) ≠ 9 by decide, if_false]
  rw [he]
  congr 2
  funext j
  simp only [updV, zu_row]
  by_cases hj : j = i.toNat
  · rw [if_pos hj, if_pos (by omega)]
    show zA g v = zN g (Int.toNat (v : Int))
    simp [zA, zN, hv]
  · rw [if_neg hj, if_neg (by omega)]
end ZA
/-- a field by its place in a constant pool: class ci, field k -/
def zLf (own : String) (idx ci k : Nat) : Prop := ∃ r : vw_C, zcls[ci]? = some r ∧ k < r.2.2 ∧ (∀ w ∈ u_ws r.1 r.2.1 r.2.2, w ∈ zt) ∧ Cond.fieldLink own idx (r.2.1 k).1 (r.2.1 k).2.1 (r.2.1 k).2.2.1 ∈ zt
/-- what a class's fields are -/
def zLc (ci : Nat) : Prop := ∃ r : vw_C, zcls[ci]? = some r ∧ (∃ ty0 : Nat → FieldType, ∀ k, k < r.2.2 → parseFieldDescriptor (r.2.1 k).2.2.1 = some (ty0 k)) ∧ (∀ a, a < r.2.2 → ∀ b, b < r.2.2 → a ≠ b → (r.2.1 a).2.1 ≠ (r.2.1 b).2.1)
/-- a field that is not final, of a type -/
def zLt (ci k : Nat) (fin : Bool) (own : String) (ty : FieldType) : Prop := ∃ r : vw_C, zcls[ci]? = some r ∧ (r.2.1 k).2.2.2 = fin ∧ (r.2.1 k).1 = own ∧ parseFieldDescriptor (r.2.1 k).2.2.1 = some ty
section ZR2
variable {g : zG} {d : zD} {mm kw : Nat × Nat} {σ0 σ : zS} {Q : zP} {pc pc' : Nat} {l l' : List (Nat × Value)} {st st' : List Value} {M : zM}
theorem zr_istore_n {j : Fin 4} {x : Int} (hd : decode d.2.1 pc = .ok (.istore_n j, 1)) (hn : (j : Nat) < d.2.2.1) (ks : List Nat) (h : lv_pick (((j : Nat), zI x) :: l.filter (fun q => !(q.1 == (j : Nat)) && !(q.1 + 1 == (j : Nat) && q.2.category == 2))) ks = l')
    (k : zR g d mm σ0 Q (pc + 1) l' st kw σ M) : zR g d mm σ0 Q pc l (zI x :: st) kw σ M :=
  fun la p e s m args below meth c B H locs ls hA hS hH hl => lv_istore_n B.1 B.2.1 hd rfl hl hn rfl (fun ls' hl' => k la p e s m args below meth c B H locs ls' hA hS hH (lv_sub hl' ks h))
theorem zr_istore {j : Nat} {x : Int} (hd : decode d.2.1 pc = .ok (.istore j, 2)) (hn : j < d.2.2.1) (ks : List Nat) (h : lv_pick ((j, zI x) :: l.filter (fun q => !(q.1 == j) && !(q.1 + 1 == j && q.2.category == 2))) ks = l')
    (k : zR g d mm σ0 Q (pc + 2) l' st kw σ M) : zR g d mm σ0 Q pc l (zI x :: st) kw σ M :=
  fun la p e s m args below meth c B H locs ls hA hS hH hl => lv_istore B.1 B.2.1 hd hl hn rfl (fun ls' hl' => k la p e s m args below meth c B H locs ls' hA hS hH (lv_sub hl' ks h))
theorem zr_astore_n {j : Fin 4} {x : Nat} (hd : decode d.2.1 pc = .ok (.astore_n j, 1)) (hn : (j : Nat) < d.2.2.1) (ks : List Nat) (h : lv_pick (((j : Nat), zA g x) :: l.filter (fun q => !(q.1 == (j : Nat)) && !(q.1 + 1 == (j : Nat) && q.2.category == 2))) ks = l')
    (k : zR g d mm σ0 Q (pc + 1) l' st kw σ M) : zR g d mm σ0 Q pc l (zA g x :: st) kw σ M :=
  fun la p e s m args below meth c B H locs ls hA hS hH hl => lv_astore_n B.1 B.2.1 hd rfl hl hn rfl (fun ls' hl' => k la p e s m args below meth c B H locs ls' hA hS hH (lv_sub hl' ks h))
theorem zr_astore {j : Nat} {x : Nat} (hd : decode d.2.1 pc = .ok (.astore j, 2)) (hn : j < d.2.2.1) (ks : List Nat) (h : lv_pick ((j, zA g x) :: l.filter (fun q => !(q.1 == j) && !(q.1 + 1 == j && q.2.category == 2))) ks = l')
    (k : zR g d mm σ0 Q (pc + 2) l' st kw σ M) : zR g d mm σ0 Q pc l (zA g x :: st) kw σ M :=
  fun la p e s m args below meth c B H locs ls hA hS hH hl => lv_astore B.1 B.2.1 hd hl hn rfl (fun ls' hl' => k la p e s m args below meth c B H locs ls' hA hS hH (lv_sub hl' ks h))
theorem zr_iinc {j q : Nat} {n x : Int} (hd : decode d.2.1 pc = .ok (.iinc j n, 3)) (hq : l[q]? = some (j, zI x)) (hn : j < d.2.2.1) (ks : List Nat) (h : lv_pick ((j, zI (x + n)) :: l.filter (fun q => !(q.1 == j) && !(q.1 + 1 == j && q.2.category == 2))) ks = l')
    (k : zR g d mm σ0 Q (pc + 3) l' st kw σ M) : zR g d mm σ0 Q pc l st kw σ M :=
  fun la p e s m args below meth c B H locs ls hA hS hH hl => lv_iinc B.1 B.2.1 hd hl hq (Int32.ofInt_add x n).symm hn rfl (fun ls' hl' => k la p e s m args below meth c B H locs ls' hA hS hH (lv_sub hl' ks h))
theorem zr_get {idx ci j a : Nat} (hd : decode d.2.1 pc = .ok (.getfield idx, 3)) (hL : zLf d.1.cls idx ci j) (hs : zh σ a = (0, ci)) (k : zR g d mm σ0 Q (pc + 3) l (zfv g (zfk ci j) (σ.2.2 a j) (M a (j : Int)) :: st) kw σ M) : zR g d mm σ0 Q pc l (zA g a :: st) kw σ M := by
  intro la p e s m args below meth c B H locs ls hA hS hH hl
  have kk := k la p e s m args below meth c B H locs ls hA hS hH hl
  obtain ⟨hx, hb, -, -, -, hown, hts, -, hK, -⟩ := B
  obtain ⟨r, hc, hj, hin, hlink⟩ := hL
  obtain ⟨r', hc', cell, q1, q2, q3, q4⟩ := zc_obj (hH.1 a) hs
  cases hc.symm.trans hc'
  obtain ⟨hSl, hfc, kC, hkC, hkind⟩ := hK.1 ci _ hc
  obtain ⟨cf, kf, fi, f, hi, hsl⟩ := hSl j hj
  refine W.getf hx hb hown (hts _ hlink) hi (u_facts hfc hkC (u_lays hts hin hj) hi).1 q1 (by rw [q3]; exact fun h => by cases h) (v := zfv g (zfk ci j) (σ.2.2 a j) (M a (j : Int))) ?_ rfl rfl hd kk
  rw [hsl]; exact q4 j hj
theorem zr_geti {idx ci j a : Nat} (hd : decode d.2.1 pc = .ok (.getfield idx, 3)) (hL : zLf d.1.cls idx ci j) (hs : zh σ a = (0, ci)) (hk : zfk ci j = 0 ∨ zfk ci j = 3) (k : zR g d mm σ0 Q (pc + 3) l (zI (M a (j : Int)) :: st) kw σ M) : zR g d mm σ0 Q pc l (zA g a :: st) kw σ M :=
  zr_get hd hL hs (by rcases hk with h | h <;> (rw [h]; exact k))
theorem zr_getl {idx ci j a : Nat} (hd : decode d.2.1 pc = .ok (.getfield idx, 3)) (hL : zLf d.1.cls idx ci j) (hs : zh σ a = (0, ci)) (hk : zfk ci j = 1) (k : zR g d mm σ0 Q (pc + 3) l (zL (M a (j : Int)) :: st) kw σ M) : zR g d mm σ0 Q pc l (zA g a :: st) kw σ M :=
  zr_get hd hL hs (by rw [hk]; exact k)
theorem zr_getr {idx ci j a b : Nat} (hd : decode d.2.1 pc = .ok (.getfield idx, 3)) (hL : zLf d.1.cls idx ci j) (hs : zh σ a = (0, ci)) (hk : zfk ci j = 2) (hb : σ.2.2 a j = b) (h0 : b ≠ 0) (k : zR g d mm σ0 Q (pc + 3) l (zA g b :: st) kw σ M) : zR g d mm σ0 Q pc l (zA g a :: st) kw σ M :=
  zr_get hd hL hs (by rw [hk, hb]; show zR g d mm σ0 Q (pc + 3) l (zN g b :: st) kw σ M; simp only [zN, h0, if_false]; exact k)
/-- a field of ints, longs or booleans is written -/
theorem zr_put {idx ci j a : Nat} {v : Value} {x : Int} {ty : FieldType} {own : String} (hd : decode d.2.1 pc = .ok (.putfield idx, 3)) (hL : zLf d.1.cls idx ci j) (hC : zLc ci) (hT : zLt ci j false own ty) (hn : narrow ty v = v) (hf : fits ty v = true) (hs : zh σ a = (0, ci)) (hv : ∀ F, zfv g (zfk ci j) F x = v) (k : zR g d mm σ0 Q (pc + 3) l st kw σ (zu M a (j : Int) x)) : zR g d mm σ0 Q pc l (v :: zA g a :: st) kw σ M := by
  intro la p e s m args below meth c B H locs ls hA hS hH hl
  have k := k la p e s m args below meth c B
  obtain ⟨hx, hb, -, -, -, hown, hts, -, hK, -⟩ := B
  obtain ⟨r, hc, hj, hin, hlink⟩ := hL
  obtain ⟨r', hc', cell, q1, q2, q3, q4⟩ := zc_obj (hH.1 a) hs
  cases hc.symm.trans hc'
  obtain ⟨r', hc', ⟨ty0, hty⟩, hnm⟩ := hC
  cases hc.symm.trans hc'
  obtain ⟨r', hc', hfin, -, hpd⟩ := hT
  cases hc.symm.trans hc'
  have hap := va_apart (own := d.1.cls) hts hin ty0 hty hnm hK hc
  obtain ⟨hSl, hfc, kC, hkC, hkind⟩ := hK.1 ci _ hc
  obtain ⟨cf, kf, fi, f, hi, hsl⟩ := hSl j hj
  have hlay := hts _ (hin _ (u_in_lay hj))
  unfold u_lay at hlay
  rw [if_neg (by rw [hfin]; decide)] at hlay
  have hst := (u_facts hfc hkC (u_lays hts hin hj) hi).1
  have h6 := u_store hfc hkC hkind hlay hi hpd hn hf
  refine W.putK hx hb (f := f) ⟨hown, hts _ hlink, ⟨_, _, _, hi⟩, hst⟩ (by rw [q2]; exact h6) q1 q3 (by rw [hsl]; exact k2_hasslot (q4 j hj)) rfl rfl hd fun H' e1 e2 e3 => ?_
  rw [hsl] at e1 ⊢
  have hz : zAg g σ0 (g.1 + a) := by rw [← hA]; exact zAg_in hs (show (0 : Nat) ≠ 9 by decide)
  refine k H' _ ls hA (hS.put e2 e3 hz) (hH.put (a := a) e2 e3 (fun b i h => zu_ne h) ?_) hl
  unfold zcell
  rw [hs]
  refine ⟨r, hc, t_OB.to (V := updV (fun k => zfv g (zfk ci k) (σ.2.2 a k) (M a (k : Int))) j v) ⟨_, e1, q2, q3, t_set q4 hap hj v⟩ (fun i _ => ?_)⟩
  simp only [updV, zu_row]
  by_cases h : i = j
  · subst h; rw [if_pos rfl, if_pos rfl]; exact (hv _).symm
  · rw [if_neg h, if_neg (by omega)]
theorem zr_puti {idx ci j a : Nat} {x : Int} {own : String} (hd : decode d.2.1 pc = .ok (.putfield idx, 3)) (hL : zLf d.1.cls idx ci j) (hC : zLc ci) (hT : zLt ci j false own .int) (hk : zfk ci j = 0) (hs : zh σ a = (0, ci)) (k : zR g d mm σ0 Q (pc + 3) l st kw σ (zu M a (j : Int) x)) : zR g d mm σ0 Q pc l (zI x :: zA g a :: st) kw σ M :=
  zr_put hd hL hC hT rfl rfl hs (fun F => by rw [hk]; rfl) k
theorem zr_putl {idx ci j a : Nat} {x : Int} {own : String} (hd : decode d.2.1 pc = .ok (.putfield idx, 3)) (hL : zLf d.1.cls idx ci j) (hC : zLc ci) (hT : zLt ci j false own .long) (hk : zfk ci j = 1) (hs : zh σ a = (0, ci)) (k : zR g d mm σ0 Q (pc + 3) l st kw σ (zu M a (j : Int) x)) : zR g d mm σ0 Q pc l (zL x :: zA g a :: st) kw σ M :=
  zr_put hd hL hC hT rfl rfl hs (fun F => by rw [hk]; rfl) k
theorem zr_putz {idx ci j a : Nat} {x : Int} {own : String} (hd : decode d.2.1 pc = .ok (.putfield idx, 3)) (hL : zLf d.1.cls idx ci j) (hC : zLc ci) (hT : zLt ci j false own .boolean) (hk : zfk ci j = 3) (hx : x = 0 ∨ x = 1) (hs : zh σ a = (0, ci)) (k : zR g d mm σ0 Q (pc + 3) l st kw σ (zu M a (j : Int) x)) : zR g d mm σ0 Q pc l (zI x :: zA g a :: st) kw σ M :=
  zr_put hd hL hC hT (by rcases hx with rfl | rfl <;> rfl) (by rcases hx with rfl | rfl <;> rfl) hs (fun F => by rw [hk]; rfl) k
end ZR2
end
section
section ZR3
variable {g : zG} {d : zD} {mm kw : Nat × Nat} {σ0 σ : zS} {Q : zP} {pc pc' : Nat} {l l' : List (Nat × Value)} {st st' : List Value} {M : zM}
theorem zr_icmp_lt {x y off : Int} {tgt : Nat} (hd : decode d.2.1 pc = .ok (.if_icmp .lt off, 3)) (ht : (pc : Int) + off = (tgt : Int)) (hx : zin x) (hy : zin y) (kt : x < y → zR g d mm σ0 Q tgt l st kw σ M) (kf : ¬ (x < y) → zR g d mm σ0 Q (pc + 3) l st kw σ M) : zR g d mm σ0 Q pc l (zI y :: zI x :: st) kw σ M :=
  fun la p e s m args below meth c B H locs ls hA hS hH hl => lv_icmp_lt B.1 B.2.1 hd ht (fun h => kt ((zi_lt hx hy).mp h) la p e s m args below meth c B H locs ls hA hS hH hl) (fun h => kf (fun h' => h ((zi_lt hx hy).mpr h')) la p e s m args below meth c B H locs ls hA hS hH hl)
theorem zr_icmp_ge {x y off : Int} {tgt : Nat} (hd : decode d.2.1 pc = .ok (.if_icmp .ge off, 3)) (ht : (pc : Int) + off = (tgt : Int)) (hx : zin x) (hy : zin y) (kt : y ≤ x → zR g d mm σ0 Q tgt l st kw σ M) (kf : ¬ (y ≤ x) → zR g d mm σ0 Q (pc + 3) l st kw σ M) : zR g d mm σ0 Q pc l (zI y :: zI x :: st) kw σ M :=
  fun la p e s m args below meth c B H locs ls hA hS hH hl => lv_icmp_ge B.1 B.2.1 hd ht (fun h => kt ((Iff.trans (by first | exact Iff.rfl | simp [ge_iff_le]) (zi_le hy hx)).mp h) la p e s m args below meth c B H locs ls hA hS hH hl) (fun h => kf (fun h' => h ((Iff.trans (by first | exact Iff.rfl | simp [ge_iff_le]) (zi_le hy hx)).mpr h')) la p e s m args below meth c B H locs ls hA hS hH hl)
theorem zr_icmp_gt {x y off : Int} {tgt : Nat} (hd : decode d.2.1 pc = .ok (.if_icmp .gt off, 3)) (ht : (pc : Int) + off = (tgt : Int)) (hx : zin x) (hy : zin y) (kt : y < x → zR g d mm σ0 Q tgt l st kw σ M) (kf : ¬ (y < x) → zR g d mm σ0 Q (pc + 3) l st kw σ M) : zR g d mm σ0 Q pc l (zI y :: zI x :: st) kw σ M :=
  fun la p e s m args below meth c B H locs ls hA hS hH hl => lv_icmp_gt B.1 B.2.1 hd ht (fun h => kt ((zi_lt hy hx).mp h) la p e s m args below meth c B H locs ls hA hS hH hl) (fun h => kf (fun h' => h ((zi_lt hy hx).mpr h')) la p e s m args below meth c B H locs ls hA hS hH hl)
theorem zr_icmp_le {x y off : Int} {tgt : Nat} (hd : decode d.2.1 pc = .ok (.if_icmp .le off, 3)) (ht : (pc : Int) + off = (tgt : Int)) (hx : zin x) (hy : zin y) (kt : x ≤ y → zR g d mm σ0 Q tgt l st kw σ M) (kf : ¬ (x ≤ y) → zR g d mm σ0 Q (pc + 3) l st kw σ M) : zR g d mm σ0 Q pc l (zI y :: zI x :: st) kw σ M :=
  fun la p e s m args below meth c B H locs ls hA hS hH hl => lv_icmp_le B.1 B.2.1 hd ht (fun h => kt ((zi_le hx hy).mp h) la p e s m args below meth c B H locs ls hA hS hH hl) (fun h => kf (fun h' => h ((zi_le hx hy).mpr h')) la p e s m args below meth c B H locs ls hA hS hH hl)
theorem zr_icmp_eq {x y off : Int} {tgt : Nat} (hd : decode d.2.1 pc = .ok (.if_icmp .eq off, 3)) (ht : (pc : Int) + off = (tgt : Int)) (hx : zin x) (hy : zin y) (kt : x = y → zR g d mm σ0 Q tgt l st kw σ M) (kf : ¬ (x = y) → zR g d mm σ0 Q (pc + 3) l st kw σ M) : zR g d mm σ0 Q pc l (zI y :: zI x :: st) kw σ M :=
  fun la p e s m args below meth c B H locs ls hA hS hH hl => lv_icmp_eq B.1 B.2.1 hd ht (fun h => kt ((zi_eq hx hy).mp h) la p e s m args below meth c B H locs ls hA hS hH hl) (fun h => kf (fun h' => h ((zi_eq hx hy).mpr h')) la p e s m args below meth c B H locs ls hA hS hH hl)
theorem zr_icmp_ne {x y off : Int} {tgt : Nat} (hd : decode d.2.1 pc = .ok (.if_icmp .ne off, 3)) (ht : (pc : Int) + off = (tgt : Int)) (hx : zin x) (hy : zin y) (kt : x ≠ y → zR g d mm σ0 Q tgt l st kw σ M) (kf : x = y → zR g d mm σ0 Q (pc + 3) l st kw σ M) : zR g d mm σ0 Q pc l (zI y :: zI x :: st) kw σ M :=
  fun la p e s m args below meth c B H locs ls hA hS hH hl => lv_icmp_ne B.1 B.2.1 hd ht (fun h => kt ((not_congr (zi_eq hx hy)).mp h) la p e s m args below meth c B H locs ls hA hS hH hl) (fun h => kf ((zi_eq hx hy).mp h) la p e s m args below meth c B H locs ls hA hS hH hl)
theorem zr_if_lt {x off : Int} {tgt : Nat} (hd : decode d.2.1 pc = .ok (.ifCond .lt off, 3)) (ht : (pc : Int) + off = (tgt : Int)) (hx : zin x) (kt : x < 0 → zR g d mm σ0 Q tgt l st kw σ M) (kf : ¬ (x < 0) → zR g d mm σ0 Q (pc + 3) l st kw σ M) : zR g d mm σ0 Q pc l (zI x :: st) kw σ M :=
  fun la p e s m args below meth c B H locs ls hA hS hH hl => lv_if_lt B.1 B.2.1 hd ht (fun h => kt ((zi_lt hx zin0).mp h) la p e s m args below meth c B H locs ls hA hS hH hl) (fun h => kf (fun h' => h ((zi_lt hx zin0).mpr h')) la p e s m args below meth c B H locs ls hA hS hH hl)
theorem zr_if_ge {x off : Int} {tgt : Nat} (hd : decode d.2.1 pc = .ok (.ifCond .ge off, 3)) (ht : (pc : Int) + off = (tgt : Int)) (hx : zin x) (kt : 0 ≤ x → zR g d mm σ0 Q tgt l st kw σ M) (kf : ¬ (0 ≤ x) → zR g d mm σ0 Q (pc + 3) l st kw σ M) : zR g d mm σ0 Q pc l (zI x :: st) kw σ M :=
  fun la p e s m args below meth c B H locs ls hA hS hH hl => lv_if_ge B.1 B.2.1 hd ht (fun h => kt ((Iff.trans (by first | exact Iff.rfl | simp [ge_iff_le]) (zi_le zin0 hx)).mp h) la p e s m args below meth c B H locs ls hA hS hH hl) (fun h => kf (fun h' => h ((Iff.trans (by first | exact Iff.rfl | simp [ge_iff_le]) (zi_le zin0 hx)).mpr h')) la p e s m args below meth c B H locs ls hA hS hH hl)
theorem zr_if_gt {x off : Int} {tgt : Nat} (hd : decode d.2.1 pc = .ok (.ifCond .gt off, 3)) (ht : (pc : Int) + off = (tgt : Int)) (hx : zin x) (kt : 0 < x → zR g d mm σ0 Q tgt l st kw σ M) (kf : ¬ (0 < x) → zR g d mm σ0 Q (pc + 3) l st kw σ M) : zR g d mm σ0 Q pc l (zI x :: st) kw σ M :=
  fun la p e s m args below meth c B H locs ls hA hS hH hl => lv_if_gt B.1 B.2.1 hd ht (fun h => kt ((zi_lt zin0 hx).mp h) la p e s m args below meth c B H locs ls hA hS hH hl) (fun h => kf (fun h' => h ((zi_lt zin0 hx).mpr h')) la p e s m args below meth c B H locs ls hA hS hH hl)
theorem zr_if_le {x off : Int} {tgt : Nat} (hd : decode d.2.1 pc = .ok (.ifCond .le off, 3)) (ht : (pc : Int) + off = (tgt : Int)) (hx : zin x) (kt : x ≤ 0 → zR g d mm σ0 Q tgt l st kw σ M) (kf : ¬ (x ≤ 0) → zR g d mm σ0 Q (pc + 3) l st kw σ M) : zR g d mm σ0 Q pc l (zI x :: st) kw σ M :=
  fun la p e s m args below meth c B H locs ls hA hS hH hl => lv_if_le B.1 B.2.1 hd ht (fun h => kt ((zi_le hx zin0).mp h) la p e s m args below meth c B H locs ls hA hS hH hl) (fun h => kf (fun h' => h ((zi_le hx zin0).mpr h')) la p e s m args below meth c B H locs ls hA hS hH hl)
theorem zr_if_eq {x off : Int} {tgt : Nat} (hd : decode d.2.1 pc = .ok (.ifCond .eq off, 3)) (ht : (pc : Int) + off = (tgt : Int)) (hx : zin x) (kt : x = 0 → zR g d mm σ0 Q tgt l st kw σ M) (kf : ¬ (x = 0) → zR g d mm σ0 Q (pc + 3) l st kw σ M) : zR g d mm σ0 Q pc l (zI x :: st) kw σ M :=
  fun la p e s m args below meth c B H locs ls hA hS hH hl => lv_if_eq B.1 B.2.1 hd ht (fun h => kt ((zi_eq hx zin0).mp h) la p e s m args below meth c B H locs ls hA hS hH hl) (fun h => kf (fun h' => h ((zi_eq hx zin0).mpr h')) la p e s m args below meth c B H locs ls hA hS hH hl)
theorem zr_if_ne {x off : Int} {tgt : Nat} (hd : decode d.2.1 pc = .ok (.ifCond .ne off, 3)) (ht : (pc : Int) + off = (tgt : Int)) (hx : zin x) (kt : x ≠ 0 → zR g d mm σ0 Q tgt l st kw σ M) (kf : x = 0 → zR g d mm σ0 Q (pc + 3) l st kw σ M) : zR g d mm σ0 Q pc l (zI x :: st) kw σ M :=
  fun la p e s m args below meth c B H locs ls hA hS hH hl => lv_if_ne B.1 B.2.1 hd ht (fun h => kt ((not_congr (zi_eq hx zin0)).mp h) la p e s m args below meth c B H locs ls hA hS hH hl) (fun h => kf ((zi_eq hx zin0).mp h) la p e s m args below meth c B H locs ls hA hS hH hl)
/-- arrays: a read, a write -/
theorem zr_iald {a n : Nat} {i : Int} (hd : decode d.2.1 pc = .ok (.iaload, 1)) (hs : zh σ a = (1, n)) (hn : n ≤ 100000) (hi : 0 ≤ i ∧ i < n) (k : zR g d mm σ0 Q (pc + 1) l (zI (M a i) :: st) kw σ M) : zR g d mm σ0 Q pc l (zI i :: zA g a :: st) kw σ M := by
  intro la p e s m args below meth c B H locs ls hA hS hH hl
  have kk := k la p e s m args below meth c B H locs ls hA hS hH hl
  have hc := zc_arr (hH.1 a) hs (by decide) (by decide)
  have hin := zi_in hi.1 hi.2 hn
  have he : (Int32.ofInt i).toNatClampNeg = i.toNat := zi_nn ⟨by omega, by omega⟩ hi.1
  refine W.iald (v := zI (M a i)) B.1 B.2.1 hc ((B.2.2.2.2.2.2.2.2.1.2 0 _ rfl).1 n _) (fun q => by cases q) (by rw [arrV_size]; exact hin) (by rw [he, arrV_read _ _ (by omega), Int.toNat_of_nonneg hi.1]; rfl) rfl rfl hd kk
theorem zr_zald {a n : Nat} {i : Int} (hd : decode d.2.1 pc = .ok (.baload, 1)) (hs : zh σ a = (2, n)) (hn : n ≤ 100000) (hi : 0 ≤ i ∧ i < n) (k : zR g d mm σ0 Q (pc + 1) l (zI (M a i) :: st) kw σ M) : zR g d mm σ0 Q pc l (zI i :: zA g a :: st) kw σ M := by
  intro la p e s m args below meth c B H locs ls hA hS hH hl
  have kk := k la p e s m args below meth c B H locs ls hA hS hH hl
  have hc := zc_arr (hH.1 a) hs (by decide) (by decide)
  have hin := zi_in hi.1 hi.2 hn
  have he : (Int32.ofInt i).toNatClampNeg = i.toNat := zi_nn ⟨by omega, by omega⟩ hi.1
  refine W.zald (v := zI (M a i)) B.1 B.2.1 hc ((B.2.2.2.2.2.2.2.2.1.2 1 _ rfl).1 n _) (fun q => by cases q) (by rw [arrV_size]; exact hin) (by rw [he, arrV_read _ _ (by omega), Int.toNat_of_nonneg hi.1]; rfl) rfl rfl hd kk
theorem zr_lald {a n : Nat} {i : Int} (hd : decode d.2.1 pc = .ok (.laload, 1)) (hs : zh σ a = (3, n)) (hn : n ≤ 100000) (hi : 0 ≤ i ∧ i < n) (k : zR g d mm σ0 Q (pc + 1) l (zL (M a i) :: st) kw σ M) : zR g d mm σ0 Q pc l (zI i :: zA g a :: st) kw σ M := by
  intro la p e s m args below meth c B H locs ls hA hS hH hl
  have kk := k la p e s m args below meth c B H locs ls hA hS hH hl
  have hc := zc_arr (hH.1 a) hs (by decide) (by decide)
  have hin := zi_in hi.1 hi.2 hn
  have he : (Int32.ofInt i).toNatClampNeg = i.toNat := zi_nn ⟨by omega, by omega⟩ hi.1
  refine W.lald (v := zL (M a i)) B.1 B.2.1 hc ((B.2.2.2.2.2.2.2.2.1.2 2 _ rfl).1 n _) (fun q => by cases q) (by rw [arrV_size]; exact hin) (by rw [he, arrV_read _ _ (by omega), Int.toNat_of_nonneg hi.1]; rfl) rfl rfl hd kk
theorem zr_aald {a n b : Nat} {i : Int} (hd : decode d.2.1 pc = .ok (.aaload, 1)) (hs : zh σ a = (4, n)) (hn : n ≤ 100000) (hi : 0 ≤ i ∧ i < n) (hb : M a i = (b : Int)) (h0 : b ≠ 0) (k : zR g d mm σ0 Q (pc + 1) l (zA g b :: st) kw σ M) : zR g d mm σ0 Q pc l (zI i :: zA g a :: st) kw σ M := by
  intro la p e s m args below meth c B H locs ls hA hS hH hl
  have kk := k la p e s m args below meth c B H locs ls hA hS hH hl
  have hc := zc_arr (hH.1 a) hs (by decide) (by decide)
  have hin := zi_in hi.1 hi.2 hn
  have he : (Int32.ofInt i).toNatClampNeg = i.toNat := zi_nn ⟨by omega, by omega⟩ hi.1
  refine W.aald (v := zA g b) (ty := .object "SandMarch$Sand") B.1 B.2.1 hc ((B.2.2.2.2.2.2.2.2.1.2 3 _ rfl).1 n _) rfl (fun q => by cases q) (by rw [arrV_size]; exact hin) (by rw [he, arrV_read _ _ (by omega), Int.toNat_of_nonneg hi.1]; show some (zN g (M a i).toNat) = _; rw [hb]; simp [zN, zA, h0]) rfl rfl hd kk
theorem zr_iast {a n : Nat} {i x : Int} (hd : decode d.2.1 pc = .ok (.iastore, 1)) (hs : zh σ a = (1, n)) (hn : n ≤ 100000) (hi : 0 ≤ i ∧ i < n) (k : zR g d mm σ0 Q (pc + 1) l st kw σ (zu M a i x)) : zR g d mm σ0 Q pc l (zI x :: zI i :: zA g a :: st) kw σ M := by
  intro la p e s m args below meth c B H locs ls hA hS hH hl
  have k := k la p e s m args below meth c B
  have hc := zc_arr (hH.1 a) hs (by decide) (by decide)
  have hin := zi_in hi.1 hi.2 hn
  have he : (Int32.ofInt i).toNatClampNeg = i.toNat := zi_nn ⟨by omega, by omega⟩ hi.1
  have hz : zAg g σ0 (g.1 + a) := by rw [← hA]; exact zAg_in hs (show (1 : Nat) ≠ 9 by decide)
  refine W.iast B.1 B.2.1 hc ((B.2.2.2.2.2.2.2.2.1.2 0 _ rfl).1 n _) (fun q => by cases q) (by rw [arrV_size]; exact hin) rfl rfl hd fun H1 e z oq => ?_
  refine k H1 _ ls hA (hS.put z oq hz) (hH.put (a := a) z oq (fun b j h => zu_ne h) (zc_ist hi.1 (Or.inl rfl) hs ?_)) hl
  rw [e, arrV_store, he]; rfl
theorem zr_zast {a n : Nat} {i x : Int} (hd : decode d.2.1 pc = .ok (.bastore, 1)) (hs : zh σ a = (2, n)) (hn : n ≤ 100000) (hi : 0 ≤ i ∧ i < n) (hx : x = 0 ∨ x = 1) (k : zR g d mm σ0 Q (pc + 1) l st kw σ (zu M a i x)) : zR g d mm σ0 Q pc l (zI x :: zI i :: zA g a :: st) kw σ M := by
  intro la p e s m args below meth c B H locs ls hA hS hH hl
  have k := k la p e s m args below meth c B
  have hc := zc_arr (hH.1 a) hs (by decide) (by decide)
  have hin := zi_in hi.1 hi.2 hn
  have he : (Int32.ofInt i).toNatClampNeg = i.toNat := zi_nn ⟨by omega, by omega⟩ hi.1
  have hz : zAg g σ0 (g.1 + a) := by rw [← hA]; exact zAg_in hs (show (2 : Nat) ≠ 9 by decide)
  refine W.zast B.1 B.2.1 hc ((B.2.2.2.2.2.2.2.2.1.2 1 _ rfl).1 n _) (fun q => by cases q) (by rw [arrV_size]; exact hin) rfl rfl hd fun H1 e z oq => ?_
  refine k H1 _ ls hA (hS.put z oq hz) (hH.put (a := a) z oq (fun b j h => zu_ne h) (zc_ist hi.1 (Or.inr rfl) hs ?_)) hl
  rw [e, arrV_store, he]
  rcases hx with rfl | rfl <;> rfl
theorem zr_last {a n : Nat} {i x : Int} (hd : decode d.2.1 pc = .ok (.lastore, 1)) (hs : zh σ a = (3, n)) (hn : n ≤ 100000) (hi : 0 ≤ i ∧ i < n) (k : zR g d mm σ0 Q (pc + 1) l st kw σ (zu M a i x)) : zR g d mm σ0 Q pc l (zL x :: zI i :: zA g a :: st) kw σ M := by
  intro la p e s m args below meth c B H locs ls hA hS hH hl
  have k := k la p e s m args below meth c B
  have hc := zc_arr (hH.1 a) hs (by decide) (by decide)
  have hin := zi_in hi.1 hi.2 hn
  have he : (Int32.ofInt i).toNatClampNeg = i.toNat := zi_nn ⟨by omega, by omega⟩ hi.1
  have hz : zAg g σ0 (g.1 + a) := by rw [← hA]; exact zAg_in hs (show (3 : Nat) ≠ 9 by decide)
  refine W.last B.1 B.2.1 hc ((B.2.2.2.2.2.2.2.2.1.2 2 _ rfl).1 n _) (fun q => by cases q) (by rw [arrV_size]; exact hin) rfl rfl hd fun H1 e z oq => ?_
  refine k H1 _ ls hA (hS.put z oq hz) (hH.put (a := a) z oq (fun b j h => zu_ne h) (zc_lst hi.1 hs ?_)) hl
  rw [e, arrV_store, he]; rfl
theorem zr_alen {a n kd : Nat} (hd : decode d.2.1 pc = .ok (.arraylength, 1)) (hs : zh σ a = (kd, n)) (hk : kd = 1 ∨ kd = 2 ∨ kd = 3 ∨ kd = 4) (k : zR g d mm σ0 Q (pc + 1) l (zI n :: st) kw σ M) : zR g d mm σ0 Q pc l (zA g a :: st) kw σ M := by
  intro la p e s m args below meth c B H locs ls hA hS hH hl
  have kk := k la p e s m args below meth c B H locs ls hA hS hH hl
  have hc := zc_arr (hH.1 a) hs (by omega) (by omega)
  have hK := B.2.2.2.2.2.2.2.2.1.2
  have e : ∀ z : Nat → Value, (arrV (g.2.2.1 kd) n z).slots.size.toInt32 = Int32.ofInt n := fun z => by rw [arrV_size]; rfl
  rcases hk with rfl | rfl | rfl | rfl
  · exact W.alen B.1 B.2.1 hc ((hK 0 _ rfl).1 n _) (e _) rfl rfl hd kk
  · exact W.alen B.1 B.2.1 hc ((hK 1 _ rfl).1 n _) (e _) rfl rfl hd kk
  · exact W.alen B.1 B.2.1 hc ((hK 2 _ rfl).1 n _) (e _) rfl rfl hd kk
  · exact W.alen B.1 B.2.1 hc ((hK 3 _ rfl).1 n _) (e _) rfl rfl hd kk
/-- the ends -/
theorem zr_ireturn {x : Int} (hd : decode d.2.1 pc = .ok (.ireturn, 1)) (hr : d.2.2.2.1 = some .int) (hk : kw = mm) (h : Q (some (zI x)) σ M) : zR g d mm σ0 Q pc l [zI x] kw σ M := by
  intro la p e s m args below meth c B H locs ls hA hS hH hl
  subst hk
  exact W.iret B.1 B.2.1 (B.2.2.2.1.trans hr) (fun t ht hW => ⟨⟨_, σ, M, rfl, h, by rw [ht]; exact hH, hA⟩, hS.F ht⟩) hS.2.2 hd B.2.2.2.2.1
theorem zr_zreturn {x : Int} (hd : decode d.2.1 pc = .ok (.ireturn, 1)) (hr : d.2.2.2.1 = some .boolean) (hx : x = 0 ∨ x = 1) (hk : kw = mm) (h : Q (some (zI x)) σ M) : zR g d mm σ0 Q pc l [zI x] kw σ M := by
  intro la p e s m args below meth c B H locs ls hA hS hH hl
  subst hk
  exact W.zret B.1 B.2.1 (B.2.2.2.1.trans hr) (by rcases hx with rfl | rfl <;> rfl) (fun t ht hW => ⟨⟨_, σ, M, rfl, h, by rw [ht]; exact hH, hA⟩, hS.F ht⟩) hS.2.2 hd B.2.2.2.2.1
theorem zr_lreturn {x : Int} (hd : decode d.2.1 pc = .ok (.lreturn, 1)) (hr : d.2.2.2.1 = some .long) (hk : kw = mm) (h : Q (some (zL x)) σ M) : zR g d mm σ0 Q pc l [zL x] kw σ M := by
  intro la p e s m args below meth c B H locs ls hA hS hH hl
  subst hk
  exact W.lret B.1 B.2.1 (B.2.2.2.1.trans hr) (fun t ht hW => ⟨⟨_, σ, M, rfl, h, by rw [ht]; exact hH, hA⟩, hS.F ht⟩) hS.2.2 hd B.2.2.2.2.1
theorem zr_return (hd : decode d.2.1 pc = .ok (.return_, 1)) (hr : d.2.2.2.1 = none) (hk : kw = mm) (h : Q none σ M) : zR g d mm σ0 Q pc l [] kw σ M := by
  intro la p e s m args below meth c B H locs ls hA hS hH hl
  subst hk
  exact W.vret B.1 B.2.1 (B.2.2.2.1.trans hr) (fun t ht hW => ⟨⟨_, σ, M, rfl, h, by rw [ht]; exact hH, hA⟩, hS.F ht⟩) hS.2.2 hd B.2.2.2.2.1
/-- the entry -/
theorem zC_of {as : List Value} (hy : plainName d.1.cls = true) (hle : (lg_sl as).length ≤ d.2.2.1) (h : zR g d mm σ Q 0 (lv_args 0 as) [] (0, 0) σ M) : zC g d mm as σ M Q := by
  intro la
  refine Met.ofW (cc := d.2.1) (maxL := d.2.2.1) (ret := d.2.2.2.1) hy rfl ?_
  intro p e s m args below meth c s₁ B hml hv
  obtain ⟨rfl, hH, hK, hX, hz⟩ := hv
  have hts : ∀ w ∈ zw d, w.before as.toArray s = true := atoms_spec (ws := zw d) B.pre
  have hB : zB g d p s m as.toArray meth c := ⟨B.exec, B.bytes, hml, B.returns, B.notSynchronized, findClass_of_methodNamed B.named, fun w hw => hts w (List.mem_cons_of_mem _ hw), (name_of_methodNamed B.named B.method).1, hK, hX, hz⟩
  rw [lg_entry_eq]
  exact h la p e s m as.toArray below meth c hB s.heap [] _ rfl va_S.rf hH (lv_entry as hle)
end ZR3
end
section
theorem zgood : zt.all goodWord = true := List.all_eq_true.mpr fun w h => (List.mem_filter.mp h).2
theorem zgoodIn {d : zD} (h : Cond.code d.1 d.2.1 d.2.2.1 d.2.2.2.1 ∈ zt) : GoodIn zt (zw d) := fun w hw => by
  have hm : w ∈ zt := (List.mem_cons.mp hw).elim (fun e => e ▸ h) id
  exact ⟨hm, good_of_word (List.all_eq_true.mp zgood w hm)⟩
theorem zgoodOf {w : Cond} (h : w ∈ zt) : (w.onTables && w.keeps) = true ∨ ∃ ty, w = .arrayClass ty := good_of_word (List.all_eq_true.mp zgood w h)
theorem zX.same {g : zG} {u U : State} (hv : U.vm = u.vm) (hh : U.heap = u.heap) (h : zX g u) : zX g U := by
  obtain ⟨h1, h2, h3, h4, h5, h6, h7, h8, h9, h10, h11⟩ := h
  have ha : u.vm.Alike U.vm := by rw [hv]; exact Vm.Alike.refl _
  unfold zX
  rw [hh]
  exact ⟨h1.moved ha, h2.moved ha, h3.moved ha, h4.moved ha, h5.moved ha, h6.moved ha, h7.same hv, h8.moved ha, h9.moved ha, fun w hw => (h10 w hw).same rfl hv.symm, fun w hw => (h11 w hw).same rfl hv.symm⟩
theorem zX.to {g : zG} {u U : State} (hW : u.WarmedH U.vm) (hq : ∀ a : Nat, a < u.heap.size → ¬ g.1 < a → U.heap[a]? = u.heap[a]?) (h : zX g u) : zX g U := by
  obtain ⟨h1, h2, h3, h4, h5, h6, h7, h8, h9, h10, h11⟩ := h
  have ha : u.vm.Alike U.vm := hW.alike
  exact ⟨(h1.moved ha).kept hq, (h2.moved ha).kept hq, (h3.moved ha).kept hq, (h4.moved ha).kept hq, (h5.moved ha).kept hq, (h6.moved ha).kept hq, h7.warm hW, (h8.moved ha).kept hq, h9.moved ha, fun w hw => (h10 w hw).warmM hW, fun w hw => (h11 w hw).warmF hW⟩
/-- the callee: its links and its room (n parameters) -/
def zLb (d d' : zD) (n : Nat) : Prop := Cond.initialized d'.1.cls ∈ zt ∧ Cond.code d'.1 d'.2.1 d'.2.2.1 d'.2.2.2.1 ∈ zt ∧ (d'.1.cls ≠ "java/lang/invoke/MethodHandle" ∧ d'.1.cls ≠ "java/lang/invoke/VarHandle" ∧ (parseMethodDescriptor d'.1.desc).map (fun d => d.parameters.length) = some n) ∧ d'.2.2.2.2.1 + 1 ≤ d.2.2.2.2.1 ∧ 8 + (d'.2.2.1 + 11) + d'.2.2.2.2.2 ≤ d.2.2.2.2.2
def zLv (d d' : zD) (idx n : Nat) : Prop := zLb d d' n ∧ Cond.methodLink d.1.cls idx d'.1 ∈ zt ∧ Cond.instanceMethod d'.1 ∈ zt ∧ Cond.selects d'.1.cls d'.1 d'.1 ∈ zt
def zLs (d d' : zD) (idx n : Nat) : Prop := zLb d d' n ∧ Cond.methodLink d.1.cls idx d'.1 ∈ zt ∧ Cond.static d'.1 ∈ zt
def zLi (d d' : zD) (idx n : Nat) : Prop := zLb d d' n ∧ Cond.methodLink d.1.cls idx d'.1 ∈ zt ∧ Cond.instanceMethod d'.1 ∈ zt ∧ d'.1.name = "<init>" ∧ d'.2.2.2.1 = none
section ZC
variable {g : zG} {d d' : zD} {mm mm' kw : Nat × Nat} {σ0 σ : zS} {Q Q' : zP} {pc : Nat} {l : List (Nat × Value)} {st : List Value} {M : zM} {idx a ci n : Nat} {As rest : List Value}
theorem zblind {as : List Value} : FrameBlind (va_Pc as (zWd g σ M)) := by
  intro a U fr mk h
  obtain ⟨h1, h2, h3, h4, h5⟩ := h
  exact ⟨h1, h2, va_K.moved (u := U) (U := U.calling fr mk a) (Vm.Alike.refl U.vm) h3, zX.same (u := U) (U := U.calling fr mk a) rfl rfl h4, h5⟩
theorem zpre {p : Program} {s U : State} {m : MethodId} {args : Array Value} {meth : Method} {c : Code} {H : Heap} {locs : List Loc} (B : zB g d p s m args meth c) (hS : va_S (zAg g σ0) s.heap H locs) (hH : zH g σ M H) (hU : U.heap = H) (hW : s.WarmedH U.vm) : zWd g σ M U := by
  obtain ⟨-, -, -, -, -, -, -, -, hK, hX, hz⟩ := B
  refine ⟨by rw [hU]; exact hH, va_K.moved hW.alike hK, hX.to hW (fun a h1 h2 => ?_), by rw [hU]; exact Nat.lt_of_lt_of_le hz hS.1⟩
  rw [hU]; exact hS.2.1 a h1 (fun h => h2 h.1)
/-- behind a call -/
theorem zback {p : Program} {la : Launch} {e : Env} {s : State} {m : MethodId} {args : Array Value} {below : List Frame} {meth : Method} {c : Code} {H : Heap} {locs : List Loc} {ls : Array Slot} {as : Array Value} (B : zB g d p s m args meth c) (hA : zAg g σ = zAg g σ0) (hS : va_S (zAg g σ0) s.heap H locs) (hl : lv_has ls d.2.2.1 l)
    (hr : va_Run p la e (zrm d mm) s m args below meth c H locs kw.1 kw.2 mm'.1 mm'.2 (F0 m pc ls st) rest (zQ g σ Q' as) (zAg g σ))
    (k : ∀ v σ' M', Q' v σ' M' → zR g d mm σ0 Q (pc + 3) l (v.toList ++ rest) (kw.1 + mm'.1, kw.2 + mm'.2) σ' M') : W p la e (zrm d mm) s m args below meth c H locs kw.1 kw.2 (MQ below (zQ g σ0 Q) args s mm.1 mm.2 (zAg g σ0)) (F0 m pc ls st) := by
  intro T hT X
  obtain ⟨v, st₀, t, T', L, h0, X', hL, e1, e2, ⟨⟨v', σ', M', hv, hq, hH', hAg⟩, hF⟩, goes⟩ := hr T hT X
  cases hv
  have hS' : va_S (zAg g σ0) s.heap T'.heap (locs ++ L) := by
    refine ⟨Nat.le_trans hS.1 (by rw [e1, ← h0]; exact hF.1), fun q h1 h2 => ?_, fun q hq => ?_⟩
    · rw [e1, hF.2 q (by rw [h0]; exact Nat.lt_of_lt_of_le h1 hS.1) (by rw [hA]; exact h2), h0]
      exact hS.2.1 q h1 h2
    · rcases List.mem_append.mp hq with h | h
      · exact hS.2.2 q h
      · rw [← hA]; exact hL q h
  obtain ⟨t2, a1, b1⟩ := k v σ' M' hq la p e s m args below meth c B T'.heap (locs ++ L) ls (hAg.trans hA) hS' (by rw [e1]; exact hH') hl T' rfl X'
  exact ⟨t2, goes t2 a1, b1⟩
theorem zr_callV (hd : decode d.2.1 pc = .ok (.invokevirtual idx, 3)) (hL : zLv d d' idx n) (hs : zh σ a = (0, ci)) (hci : (zcls[ci]?).map (fun r => r.1) = some d'.1.cls) (hst : st = As.reverse ++ zA g a :: rest) (hn : As.length = n) (hw : (rest.map fun v => v.category).sum ≤ 8) (hm : kw.1 + mm'.1 ≤ mm.1 ∧ kw.2 + mm'.2 ≤ mm.2)
    (hc : zC g d' mm' (zA g a :: As) σ M Q') (k : ∀ v σ' M', Q' v σ' M' → zR g d mm σ0 Q (pc + 3) l (v.toList ++ rest) (kw.1 + mm'.1, kw.2 + mm'.2) σ' M') : zR g d mm σ0 Q pc l st kw σ M := by
  intro la p e s m args below meth c B H locs ls hA hS hH hl
  have B' := B
  obtain ⟨hx, hb, hml, -, -, hown, hts, -, hK, -⟩ := B'
  obtain ⟨⟨w1, w2, hdd, hf1, hf2⟩, w3, w4, w5⟩ := hL
  obtain ⟨r, hr, cell, q1, q2, q3, -⟩ := zc_obj (hH.1 a) hs
  have hG : GoodIn zt (wsV d.1.cls idx d'.1.cls d'.1 (zw d')) := fun w hw => by
    rcases List.mem_append.mp hw with h | h
    · simp only [List.mem_cons, List.not_mem_nil, or_false] at h
      rcases h with rfl | rfl | rfl | rfl
      · exact ⟨w3, zgoodOf w3⟩
      · exact ⟨w4, zgoodOf w4⟩
      · exact ⟨w5, zgoodOf w5⟩
      · exact ⟨w1, zgoodOf w1⟩
    · exact zgoodIn w2 w h
  rw [hr] at hci
  refine zback (mm' := mm') (as := (Value.ref (g.1 + a) :: As).toArray) B hA hS hl (va_runV (As := As) (rest := rest) (C := d'.1.cls) ⟨hx, hb, hml, hown, hts⟩ (hc la) (cwV n hts hG rfl rfl rfl ⟨rfl, hdd⟩ ⟨hf1, hf2⟩) ⟨zblind, ⟨cell, q1, by rw [q3]; rfl, ?_⟩, fun U hU hW => ⟨rfl, zpre B hS hH hU hW⟩⟩ rfl hn hl.1 hst (lv_room hw) hd hm) k
  rw [q2, ← Option.some.inj hci]; exact (hK.1 ci r hr).2.1
theorem zr_callS (hd : decode d.2.1 pc = .ok (.invokestatic idx, 3)) (hL : zLs d d' idx n) (hst : st = As.reverse ++ rest) (hn : As.length = n) (hw : (rest.map fun v => v.category).sum ≤ 8) (hm : kw.1 + mm'.1 ≤ mm.1 ∧ kw.2 + mm'.2 ≤ mm.2)
    (hc : zC g d' mm' As σ M Q') (k : ∀ v σ' M', Q' v σ' M' → zR g d mm σ0 Q (pc + 3) l (v.toList ++ rest) (kw.1 + mm'.1, kw.2 + mm'.2) σ' M') : zR g d mm σ0 Q pc l st kw σ M := by
  intro la p e s m args below meth c B H locs ls hA hS hH hl
  have B' := B
  obtain ⟨hx, hb, hml, -, -, hown, hts, -, hK, -⟩ := B'
  obtain ⟨⟨w1, w2, hdd, hf1, hf2⟩, w3, w4⟩ := hL
  have hG : GoodIn zt (va_wsS d.1.cls idx d'.1 (zw d')) := fun w hw => by
    rcases List.mem_append.mp hw with h | h
    · simp only [List.mem_cons, List.not_mem_nil, or_false] at h
      rcases h with rfl | rfl | rfl
      · exact ⟨w3, zgoodOf w3⟩
      · exact ⟨w4, zgoodOf w4⟩
      · exact ⟨w1, zgoodOf w1⟩
    · exact zgoodIn w2 w h
  exact zback (mm' := mm') (as := As.toArray) B hA hS hl (va_runS (As := As) (rest := rest) ⟨hx, hb, hml, hown, hts⟩ (hc la) (va_cwS n hts hG rfl rfl rfl hdd ⟨hf1, hf2⟩) ⟨zblind, fun U hU hW => ⟨rfl, zpre B hS hH hU hW⟩⟩ rfl hn hl.1 hst (lv_room hw) hd hm) k
theorem zr_callI (hd : decode d.2.1 pc = .ok (.invokespecial idx, 3)) (hL : zLi d d' idx n) (hst : st = As.reverse ++ zA g a :: rest) (hn : As.length = n) (hw : (rest.map fun v => v.category).sum ≤ 8) (hm : kw.1 + mm'.1 ≤ mm.1 ∧ kw.2 + mm'.2 ≤ mm.2)
    (hc : zC g d' mm' (zA g a :: As) σ M Q') (k : ∀ v σ' M', Q' v σ' M' → zR g d mm σ0 Q (pc + 3) l (v.toList ++ rest) (kw.1 + mm'.1, kw.2 + mm'.2) σ' M') : zR g d mm σ0 Q pc l st kw σ M := by
  intro la p e s m args below meth c B H locs ls hA hS hH hl
  have B' := B
  obtain ⟨hx, hb, hml, -, -, hown, hts, -, hK, -⟩ := B'
  obtain ⟨⟨w1, w2, hdd, hf1, hf2⟩, w3, w4, w5, w6⟩ := hL
  have hc := hc la
  have hG := zgoodIn w2
  exact zback (mm' := mm') (as := (Value.ref (g.1 + a) :: As).toArray) B hA hS hl (va_runI (As := As) (rest := rest) ⟨hx, hb, hml, hown, hts⟩ hc (cwI n hts hG (by unfold zw; rw [w6]) rfl rfl (hts _ w1) (hts _ w3) (hts _ w4) w5 hdd ⟨hf1, hf2⟩) ⟨zblind, fun U hU hW => ⟨rfl, zpre B hS hH hU hW⟩⟩ rfl hn hl.1 hst (lv_room hw) hd hm) k
end ZC
end
section
/-! ===== lN n to 2^64: shifts, and, or, masks, one bit ===== -/
theorem wb_tb (n : Nat) : (lN n).toBitVec = BitVec.ofNat 64 n := rfl
theorem wb_inj {a b : Int64} (h : a.toBitVec = b.toBitVec) : a = b := Int64.toBitVec_inj.mp h
theorem wb_tn {n : Nat} (h : n < 2 ^ 64) : (lN n).toBitVec.toNat = n := by rw [wb_tb, BitVec.toNat_ofNat, Nat.mod_eq_of_lt h]
theorem wb_of (x : Int64) : ∃ n, n < 2 ^ 64 ∧ x = lN n := ⟨x.toBitVec.toNat, x.toBitVec.isLt, wb_inj (by rw [wb_tb]; simp)⟩
theorem wb_of32 (x : Int32) : ∃ n, n < 2 ^ 32 ∧ x = nI n := ⟨x.toBitVec.toNat, x.toBitVec.isLt, Int32.toBitVec_inj.mp (by show _ = BitVec.ofNat 32 _; simp)⟩
theorem wb_c : ∀ k, k < 64 → ((nI k).toInt64 &&& 63) = lN k := by decide +kernel
theorem wb_cu : ∀ k, k < 64 → ((nI k).toInt64.toUInt64 &&& Int64.toUInt64 63) = UInt64.ofNat k := by decide +kernel
theorem wb_sm : ∀ k, k < 64 → (BitVec.ofNat 64 k).smod 64 = BitVec.ofNat 64 k := by decide +kernel
theorem wb_pw {a b : Nat} (h : a ≤ b) : 2 ^ b = 2 ^ a * 2 ^ (b - a) := by rw [← Nat.pow_add]; congr 1; omega
theorem wb_lt2 {a b : Nat} (h : a < b) : 2 ^ a < 2 ^ b := Nat.pow_lt_pow_right (by decide) h
theorem wb_mod (n : Nat) : lN n = lN (n % 2 ^ 64) := wb_inj (by rw [wb_tb, wb_tb]; apply BitVec.eq_of_toNat_eq; rw [BitVec.toNat_ofNat, BitVec.toNat_ofNat, Nat.mod_mod])
theorem wb_shr {n k : Nat} (hn : n < 2 ^ 64) (hk : k < 64) : ((lN n).toUInt64 >>> ((nI k).toInt64.toUInt64 &&& Int64.toUInt64 63)).toInt64 = lN (n / 2 ^ k) := by
  rw [wb_cu k hk]
  apply wb_inj
  apply BitVec.eq_of_toNat_eq
  show ((lN n).toUInt64 >>> UInt64.ofNat k).toNat = (BitVec.ofNat 64 _).toNat
  have h1 : (UInt64.ofNat k).toNat = k := by
    show (BitVec.ofNat 64 k).toNat = k
    rw [BitVec.toNat_ofNat, Nat.mod_eq_of_lt (by omega)]
  have h2 : (lN n).toUInt64.toNat = n := wb_tn hn
  rw [UInt64.toNat_shiftRight, h1, h2, Nat.mod_eq_of_lt hk, Nat.shiftRight_eq_div_pow, BitVec.toNat_ofNat, Nat.mod_eq_of_lt (Nat.lt_of_le_of_lt (Nat.div_le_self _ _) hn)]
theorem wb_shl (n : Nat) {k : Nat} (hk : k < 64) : lN n <<< ((nI k).toInt64 &&& 63) = lN (n * 2 ^ k) := by
  rw [wb_c k hk]
  apply wb_inj
  rw [Int64.toBitVec_shiftLeft, wb_tb, wb_tb, wb_tb, wb_sm k hk]
  apply BitVec.eq_of_toNat_eq
  rw [BitVec.shiftLeft_eq', BitVec.toNat_shiftLeft, BitVec.toNat_ofNat, BitVec.toNat_ofNat, BitVec.toNat_ofNat, Nat.mod_eq_of_lt (show k < 2 ^ 64 by omega), Nat.shiftLeft_eq, Nat.mul_mod, Nat.mod_mod, ← Nat.mul_mod]
theorem wb_and {a b : Nat} (ha : a < 2 ^ 64) (hb : b < 2 ^ 64) : lN a &&& lN b = lN (a &&& b) := by
  apply wb_inj
  rw [Int64.toBitVec_and, wb_tb, wb_tb, wb_tb]
  apply BitVec.eq_of_toNat_eq
  rw [BitVec.toNat_and, BitVec.toNat_ofNat, BitVec.toNat_ofNat, BitVec.toNat_ofNat, Nat.mod_eq_of_lt ha, Nat.mod_eq_of_lt hb, Nat.mod_eq_of_lt (Nat.and_lt_two_pow _ hb)]
theorem wb_or {a b : Nat} (ha : a < 2 ^ 64) (hb : b < 2 ^ 64) : lN a ||| lN b = lN (a ||| b) := by
  apply wb_inj
  rw [Int64.toBitVec_or, wb_tb, wb_tb, wb_tb]
  apply BitVec.eq_of_toNat_eq
  rw [BitVec.toNat_or, BitVec.toNat_ofNat, BitVec.toNat_ofNat, BitVec.toNat_ofNat, Nat.mod_eq_of_lt ha, Nat.mod_eq_of_lt hb, Nat.mod_eq_of_lt (Nat.or_lt_two_pow ha hb)]
theorem wb_mask {n k : Nat} (hn : n < 2 ^ 64) (hk : k < 64) : lN n &&& lN (2 ^ k - 1) = lN (n % 2 ^ k) := by
  rw [wb_and hn (by have := wb_lt2 hk; omega), Nat.and_two_pow_sub_one_eq_mod]
theorem wb_a1 {n : Nat} (hn : n < 2 ^ 64) : lN n &&& 1 = lN (n % 2) := wb_mask (k := 1) hn (by decide)
theorem wb_bit {n k : Nat} (hn : n < 2 ^ 64) (hk : k < 64) : ((lN n).toUInt64 >>> ((nI k).toInt64.toUInt64 &&& Int64.toUInt64 63)).toInt64 &&& 1 = lN (n / 2 ^ k % 2) := by
  rw [wb_shr hn hk, wb_a1 (Nat.lt_of_le_of_lt (Nat.div_le_self _ _) hn)]
/-! ===== lN to 2^62 under >> and >>> ===== -/
theorem pf_lI {a : Nat} (h : a < 2 ^ 63) : (lN a).toInt = (a : Int) := lg_ofNat_toInt h
theorem pf_shr {a d : Nat} {D : Int64} (hD : (D.toBitVec.smod 64).toNat = d) (h : a < 2 ^ 62) : lN a >>> D = lN (a / 2 ^ d) := by
  have hd : a / 2 ^ d ≤ a := Nat.div_le_self _ _
  apply Int64.toInt_inj.mp
  have e : (lN a >>> D).toInt = (lN a).toInt >>> d := by
    rw [← hD]
    exact BitVec.toInt_sshiftRight ..
  rw [e, Int.shiftRight_eq_div_pow, pf_lI (by omega), pf_lI (by omega)]
  rfl
theorem znn {x : Int} (h : 0 ≤ x) : ∃ n : Nat, x = (n : Int) := ⟨x.toNat, (Int.toNat_of_nonneg h).symm⟩
theorem zi_rem {x y : Int} (hx : 0 ≤ x ∧ x ≤ 2147483647) (hy : 0 < y ∧ y ≤ 2147483647) : Int32.ofInt x - Int32.ofInt x / Int32.ofInt y * Int32.ofInt y = Int32.ofInt (x % y) := by
  obtain ⟨a, rfl⟩ := znn hx.1
  obtain ⟨b, rfl⟩ := znn (Int.le_of_lt hy.1)
  exact pk_rem (by omega) (by omega) (by omega)
theorem zi_div {x y : Int} (hx : 0 ≤ x ∧ x ≤ 2147483647) (hy : 0 < y ∧ y ≤ 2147483647) : Int32.ofInt x / Int32.ofInt y = Int32.ofInt (x / y) := by
  obtain ⟨a, rfl⟩ := znn hx.1
  obtain ⟨b, rfl⟩ := znn (Int.le_of_lt hy.1)
  exact pk_div (by omega) (by omega) (by omega)
theorem zi_and {x : Int} {m : Int} (hm : m = 1 ∨ m = 3 ∨ m = 63 ∨ m = 255) : Int32.ofInt x &&& Int32.ofInt m = Int32.ofInt (x % (m + 1)) := by
  have key : ∀ k : Nat, k ≤ 8 → (Int32.ofInt m).toBitVec.toNat = 2 ^ k - 1 → m + 1 = (2 ^ k : Nat) → Int32.ofInt x &&& Int32.ofInt m = Int32.ofInt (x % (m + 1)) := by
    intro k hk h1 h2
    rw [pk_and (Int32.ofInt x) k h1, h2]
    apply Int32.toBitVec_inj.mp
    show BitVec.ofNat 32 _ = BitVec.ofInt 32 _
    apply BitVec.eq_of_toNat_eq
    have e : (Int32.ofInt x).toBitVec.toNat = (x % 4294967296).toNat := BitVec.toNat_ofInt ..
    rw [BitVec.toNat_ofNat, BitVec.toNat_ofInt, e]
    have hk' : k = 0 ∨ k = 1 ∨ k = 2 ∨ k = 3 ∨ k = 4 ∨ k = 5 ∨ k = 6 ∨ k = 7 ∨ k = 8 := by omega
    rcases hk' with rfl | rfl | rfl | rfl | rfl | rfl | rfl | rfl | rfl <;> simp <;> omega
  rcases hm with rfl | rfl | rfl | rfl
  · exact key 1 (by decide) (by decide) (by decide)
  · exact key 2 (by decide) (by decide) (by decide)
  · exact key 6 (by decide) (by decide) (by decide)
  · exact key 8 (by decide) (by decide) (by decide)
theorem zi_xor2 {x : Int} (hx : 0 ≤ x ∧ x ≤ 3) : Int32.ofInt x ^^^ Int32.ofInt 2 = Int32.ofInt (if x < 2 then x + 2 else x - 2) := by
  have : x = 0 ∨ x = 1 ∨ x = 2 ∨ x = 3 := by omega
  rcases this with rfl | rfl | rfl | rfl <;> decide
theorem zi_sm : ∀ k, k < 32 → ((nI k &&& 31).toBitVec.smod 32).toNat = k := by decide +kernel
theorem zi_shr {x k : Int} (hx : zin x) (hk : 0 ≤ k ∧ k ≤ 31) : Int32.ofInt x >>> (Int32.ofInt k &&& 31) = Int32.ofInt (x / (2 ^ k.toNat : Nat)) := by
  obtain ⟨n, rfl⟩ := znn hk.1
  apply Int32.toInt_inj.mp
  rw [show Int32.ofInt (n : Int) = nI n from rfl, pk_shr _ _ n (zi_sm n (by omega)), zi_to hx, Int.shiftRight_eq_div_pow]
  have h2 : (1 : Nat) ≤ 2 ^ n := Nat.one_le_two_pow
  have hz : zin (x / ((2 ^ n : Nat) : Int)) := by
    have hp : (0 : Int) < ((2 ^ n : Nat) : Int) := by omega
    constructor
    · rcases Int.lt_or_le x 0 with h | h
      · have := Int.le_ediv_of_mul_le (a := -2147483648) (b := x) hp (by have := hx.1; have : (-2147483648 : Int) * ((2 ^ n : Nat) : Int) ≤ -2147483648 * 1 := by apply Int.mul_le_mul_of_nonpos_left <;> omega
                                                                         omega)
        omega
      · have := Int.ediv_nonneg h (Int.le_of_lt hp); omega
    · rcases Int.lt_or_le x 0 with h | h
      · have := Int.ediv_neg_of_neg_of_pos h hp; omega
      · have := Int.ediv_le_self ((2 ^ n : Nat) : Int) h; have := hx.2; omega
  rw [zi_to (by simpa using hz)]
  simp
theorem zi_shl1 {k : Int} (hk : 0 ≤ k ∧ k ≤ 30) : Int32.ofInt 1 <<< (Int32.ofInt k &&& 31) = Int32.ofInt ((2 ^ k.toNat : Nat) : Int) := by
  obtain ⟨n, rfl⟩ := znn hk.1
  have h := pk_shlN (n := 1) (nI n &&& 31) n (zi_sm n (by omega)) (by rw [Nat.one_mul]; exact Nat.pow_lt_pow_right (by decide) (by omega))
  rw [Nat.one_mul] at h
  exact h
theorem zi_or {x y : Int} (hx : 0 ≤ x ∧ x ≤ 2147483647) (hy : 0 ≤ y ∧ y ≤ 2147483647) : Int32.ofInt x ||| Int32.ofInt y = Int32.ofInt ((x.toNat ||| y.toNat : Nat) : Int) := by
  obtain ⟨a, rfl⟩ := znn hx.1
  obtain ⟨b, rfl⟩ := znn hy.1
  apply Int32.toBitVec_inj.mp
  show BitVec.ofNat 32 a ||| BitVec.ofNat 32 b = BitVec.ofNat 32 (a ||| b)
  simp [BitVec.ofNat_or]
/-! longs -/
def zln (x : Int) : Prop := -9223372036854775808 ≤ x ∧ x ≤ 9223372036854775807
theorem zl_to {x : Int} (h : zln x) : (Int64.ofInt x).toInt = x := Int64.toInt_ofInt_of_le (by have := h.1; omega) (by have := h.2; omega)
theorem zl_rem {x y : Int} (hx : 0 ≤ x ∧ x ≤ 9223372036854775807) (hy : 0 < y ∧ y ≤ 9223372036854775807) : Int64.ofInt x - Int64.ofInt x / Int64.ofInt y * Int64.ofInt y = Int64.ofInt (x % y) := by
  obtain ⟨a, rfl⟩ := znn hx.1
  obtain ⟨b, rfl⟩ := znn (Int.le_of_lt hy.1)
  exact pk_lRem (by omega) (by omega) (by omega)
theorem zl_div {x y : Int} (hx : 0 ≤ x ∧ x ≤ 9223372036854775807) (hy : 0 < y ∧ y ≤ 9223372036854775807) : Int64.ofInt x / Int64.ofInt y = Int64.ofInt (x / y) := by
  obtain ⟨a, rfl⟩ := znn hx.1
  obtain ⟨b, rfl⟩ := znn (Int.le_of_lt hy.1)
  exact pk_lDiv (by omega) (by omega) (by omega)
theorem zl_and {x y : Int} (hx : 0 ≤ x ∧ x ≤ 9223372036854775807) (hy : 0 ≤ y ∧ y ≤ 9223372036854775807) : Int64.ofInt x &&& Int64.ofInt y = Int64.ofInt ((x.toNat &&& y.toNat : Nat) : Int) := by
  obtain ⟨a, rfl⟩ := znn hx.1
  obtain ⟨b, rfl⟩ := znn hy.1
  exact wb_and (by omega) (by omega)
theorem zl_or {x y : Int} (hx : 0 ≤ x ∧ x ≤ 9223372036854775807) (hy : 0 ≤ y ∧ y ≤ 9223372036854775807) : Int64.ofInt x ||| Int64.ofInt y = Int64.ofInt ((x.toNat ||| y.toNat : Nat) : Int) := by
  obtain ⟨a, rfl⟩ := znn hx.1
  obtain ⟨b, rfl⟩ := znn hy.1
  exact wb_or (by omega) (by omega)
theorem zl_shl {x k : Int} (hx : 0 ≤ x) (hk : 0 ≤ k ∧ k ≤ 63) : Int64.ofInt x <<< ((Int32.ofInt k).toInt64 &&& 63) = Int64.ofInt (x * (2 ^ k.toNat : Nat)) := by
  obtain ⟨a, rfl⟩ := znn hx
  obtain ⟨n, rfl⟩ := znn hk.1
  exact wb_shl a (by omega)
theorem zl_sm : ∀ k, k < 64 → ((lN k).toBitVec.smod 64).toNat = k := by decide +kernel
theorem zl_shr {x k : Int} (hx : 0 ≤ x ∧ x < 4611686018427387904) (hk : 0 ≤ k ∧ k ≤ 63) : Int64.ofInt x >>> ((Int32.ofInt k).toInt64 &&& 63) = Int64.ofInt (x / (2 ^ k.toNat : Nat)) := by
  obtain ⟨a, rfl⟩ := znn hx.1
  obtain ⟨n, rfl⟩ := znn hk.1
  rw [show (Int32.ofInt (n : Int)).toInt64 &&& 63 = lN n from wb_c n (by omega)]
  exact pf_shr (zl_sm n (by omega)) (by omega)
def zcmp (x y : Int) : Int := if y < x then 1 else if x = y then 0 else -1
theorem zl_cmp {x y : Int} (hx : zln x) (hy : zln y) : lg_cmp (Int64.ofInt x) (Int64.ofInt y) = Int32.ofInt (zcmp x y) := by
  unfold lg_cmp zcmp
  simp only [gt_iff_lt, Int64.lt_iff_toInt_lt, ← Int64.toInt_inj, zl_to hx, zl_to hy]
  split
  · rfl
  · split <;> rfl
theorem zi_i2l {x : Int} (hx : zin x) : (Int32.ofInt x).toInt64 = Int64.ofInt x := by
  apply Int64.toInt_inj.mp
  rw [zl_to ⟨by have := hx.1; omega, by have := hx.2; omega⟩]
  exact (Int32.toInt_toInt64 _).trans (zi_to hx)
section ZR4
variable {g : zG} {d : zD} {mm kw : Nat × Nat} {σ0 σ : zS} {Q : zP} {pc pc' : Nat} {l l' : List (Nat × Value)} {st st' : List Value} {M : zM}
theorem zne {x : Int} (h : 0 < x ∧ x ≤ 2147483647) : ¬ Int32.ofInt x = 0 := fun e => by
  have := (zi_eq ⟨by omega, by omega⟩ zin0).mp e; omega
theorem znl {x : Int} (h : 0 < x ∧ x ≤ 9223372036854775807) : ¬ Int64.ofInt x = 0 := fun e => by
  have h2 := congrArg Int64.toInt e
  rw [zl_to ⟨by omega, by omega⟩] at h2
  have : (0 : Int64).toInt = 0 := rfl
  omega
theorem zr_irem {x y : Int} (hd : decode d.2.1 pc = .ok (.irem, 1)) (hx : 0 ≤ x ∧ x ≤ 2147483647) (hy : 0 < y ∧ y ≤ 2147483647) (k : zR g d mm σ0 Q (pc + 1) l (zI (x % y) :: st) kw σ M) : zR g d mm σ0 Q pc l (zI y :: zI x :: st) kw σ M :=
  zr_st (fun B hl k => lv_irem B.1 B.2.1 hd (zne hy) (by rw [zi_rem hx hy]; exact k)) k
theorem zr_idiv {x y : Int} (hd : decode d.2.1 pc = .ok (.idiv, 1)) (hx : 0 ≤ x ∧ x ≤ 2147483647) (hy : 0 < y ∧ y ≤ 2147483647) (k : zR g d mm σ0 Q (pc + 1) l (zI (x / y) :: st) kw σ M) : zR g d mm σ0 Q pc l (zI y :: zI x :: st) kw σ M :=
  zr_st (fun B hl k => lv_idiv B.1 B.2.1 hd (zne hy) (by rw [zi_div hx hy]; exact k)) k
theorem zr_iand {x m : Int} (hd : decode d.2.1 pc = .ok (.iand, 1)) (hm : m = 1 ∨ m = 3 ∨ m = 63 ∨ m = 255) (k : zR g d mm σ0 Q (pc + 1) l (zI (x % (m + 1)) :: st) kw σ M) : zR g d mm σ0 Q pc l (zI m :: zI x :: st) kw σ M :=
  zr_st (fun B hl k => lv_iand B.1 B.2.1 hd (by rw [zi_and hm]; exact k)) k
theorem zr_ixor {x : Int} (hd : decode d.2.1 pc = .ok (.ixor, 1)) (hx : 0 ≤ x ∧ x ≤ 3) (k : zR g d mm σ0 Q (pc + 1) l (zI (if x < 2 then x + 2 else x - 2) :: st) kw σ M) : zR g d mm σ0 Q pc l (zI 2 :: zI x :: st) kw σ M :=
  zr_st (fun B hl k => lv_ixor B.1 B.2.1 hd (by rw [zi_xor2 hx]; exact k)) k
theorem zr_ishr {x y : Int} (hd : decode d.2.1 pc = .ok (.ishr, 1)) (hx : zin x) (hy : 0 ≤ y ∧ y ≤ 31) (k : zR g d mm σ0 Q (pc + 1) l (zI (x / (2 ^ y.toNat : Nat)) :: st) kw σ M) : zR g d mm σ0 Q pc l (zI y :: zI x :: st) kw σ M :=
  zr_st (fun B hl k => lv_ishr B.1 B.2.1 hd (by rw [zi_shr hx hy]; exact k)) k
theorem zr_ishl {y : Int} (hd : decode d.2.1 pc = .ok (.ishl, 1)) (hy : 0 ≤ y ∧ y ≤ 30) (k : zR g d mm σ0 Q (pc + 1) l (zI ((2 ^ y.toNat : Nat) : Int) :: st) kw σ M) : zR g d mm σ0 Q pc l (zI y :: zI 1 :: st) kw σ M :=
  zr_st (fun B hl k => lv_ishl B.1 B.2.1 hd (by rw [zi_shl1 hy]; exact k)) k
theorem zr_ior {x y : Int} (hd : decode d.2.1 pc = .ok (.ior, 1)) (hx : 0 ≤ x ∧ x ≤ 2147483647) (hy : 0 ≤ y ∧ y ≤ 2147483647) (k : zR g d mm σ0 Q (pc + 1) l (zI ((x.toNat ||| y.toNat : Nat) : Int) :: st) kw σ M) : zR g d mm σ0 Q pc l (zI y :: zI x :: st) kw σ M :=
  zr_st (fun B hl k => lv_ior B.1 B.2.1 hd (by rw [zi_or hx hy]; exact k)) k
theorem zr_ladd {x y : Int} (hd : decode d.2.1 pc = .ok (.ladd, 1)) (k : zR g d mm σ0 Q (pc + 1) l (zL (x + y) :: st) kw σ M) : zR g d mm σ0 Q pc l (zL y :: zL x :: st) kw σ M :=
  zr_st (fun B hl k => lv_ladd B.1 B.2.1 hd (by rw [← Int64.ofInt_add]; exact k)) k
theorem zr_lsub {x y : Int} (hd : decode d.2.1 pc = .ok (.lsub, 1)) (k : zR g d mm σ0 Q (pc + 1) l (zL (x - y) :: st) kw σ M) : zR g d mm σ0 Q pc l (zL y :: zL x :: st) kw σ M :=
  zr_st (fun B hl k => lv_lsub B.1 B.2.1 hd (by rw [← Int64.ofInt_sub]; exact k)) k
theorem zr_lmul {x y : Int} (hd : decode d.2.1 pc = .ok (.lmul, 1)) (k : zR g d mm σ0 Q (pc + 1) l (zL (x * y) :: st) kw σ M) : zR g d mm σ0 Q pc l (zL y :: zL x :: st) kw σ M :=
  zr_st (fun B hl k => lv_lmul B.1 B.2.1 hd (by rw [← Int64.ofInt_mul]; exact k)) k
theorem zr_ldiv {x y : Int} (hd : decode d.2.1 pc = .ok (.ldiv, 1)) (hx : 0 ≤ x ∧ x ≤ 9223372036854775807) (hy : 0 < y ∧ y ≤ 9223372036854775807) (k : zR g d mm σ0 Q (pc + 1) l (zL (x / y) :: st) kw σ M) : zR g d mm σ0 Q pc l (zL y :: zL x :: st) kw σ M :=
  zr_st (fun B hl k => lv_ldiv B.1 B.2.1 hd (znl hy) (by rw [zl_div hx hy]; exact k)) k
theorem zr_lrem {x y : Int} (hd : decode d.2.1 pc = .ok (.lrem, 1)) (hx : 0 ≤ x ∧ x ≤ 9223372036854775807) (hy : 0 < y ∧ y ≤ 9223372036854775807) (k : zR g d mm σ0 Q (pc + 1) l (zL (x % y) :: st) kw σ M) : zR g d mm σ0 Q pc l (zL y :: zL x :: st) kw σ M :=
  zr_st (fun B hl k => lv_lrem B.1 B.2.1 hd (znl hy) (by rw [zl_rem hx hy]; exact k)) k
theorem zr_land {x y : Int} (hd : decode d.2.1 pc = .ok (.land, 1)) (hx : 0 ≤ x ∧ x ≤ 9223372036854775807) (hy : 0 ≤ y ∧ y ≤ 9223372036854775807) (k : zR g d mm σ0 Q (pc + 1) l (zL ((x.toNat &&& y.toNat : Nat) : Int) :: st) kw σ M) : zR g d mm σ0 Q pc l (zL y :: zL x :: st) kw σ M :=
  zr_st (fun B hl k => lv_land B.1 B.2.1 hd (by rw [zl_and hx hy]; exact k)) k
theorem zr_lor {x y : Int} (hd : decode d.2.1 pc = .ok (.lor, 1)) (hx : 0 ≤ x ∧ x ≤ 9223372036854775807) (hy : 0 ≤ y ∧ y ≤ 9223372036854775807) (k : zR g d mm σ0 Q (pc + 1) l (zL ((x.toNat ||| y.toNat : Nat) : Int) :: st) kw σ M) : zR g d mm σ0 Q pc l (zL y :: zL x :: st) kw σ M :=
  zr_st (fun B hl k => lv_lor B.1 B.2.1 hd (by rw [zl_or hx hy]; exact k)) k
theorem zr_lshl {x y : Int} (hd : decode d.2.1 pc = .ok (.lshl, 1)) (hx : 0 ≤ x) (hy : 0 ≤ y ∧ y ≤ 63) (k : zR g d mm σ0 Q (pc + 1) l (zL (x * (2 ^ y.toNat : Nat)) :: st) kw σ M) : zR g d mm σ0 Q pc l (zI y :: zL x :: st) kw σ M :=
  zr_st (fun B hl k => lv_lshl B.1 B.2.1 hd (zl_shl hx hy) k) k
theorem zr_lshr {x y : Int} (hd : decode d.2.1 pc = .ok (.lshr, 1)) (hx : 0 ≤ x ∧ x < 4611686018427387904) (hy : 0 ≤ y ∧ y ≤ 63) (k : zR g d mm σ0 Q (pc + 1) l (zL (x / (2 ^ y.toNat : Nat)) :: st) kw σ M) : zR g d mm σ0 Q pc l (zI y :: zL x :: st) kw σ M :=
  zr_st (fun B hl k => lv_lshr B.1 B.2.1 hd (zl_shr hx hy) k) k
theorem zr_lcmp {x y : Int} (hd : decode d.2.1 pc = .ok (.lcmp, 1)) (hx : zln x) (hy : zln y) (k : zR g d mm σ0 Q (pc + 1) l (zI (zcmp x y) :: st) kw σ M) : zR g d mm σ0 Q pc l (zL y :: zL x :: st) kw σ M :=
  zr_st (fun B hl k => W.lcmp B.1 B.2.1 hd (by rw [zl_cmp hx hy]; exact k)) k
theorem zr_i2l {x : Int} (hd : decode d.2.1 pc = .ok (.i2l, 1)) (hx : zin x) (k : zR g d mm σ0 Q (pc + 1) l (zL x :: st) kw σ M) : zR g d mm σ0 Q pc l (zI x :: st) kw σ M :=
  zr_st (fun B hl k => lv_i2l B.1 B.2.1 hd (zi_i2l hx) k) k
theorem zr_lconst {n : Fin 2} {x : Int} (hd : decode d.2.1 pc = .ok (.lconst n, 1)) (hx : Int64.ofNat (n : Nat) = Int64.ofInt x) (k : zR g d mm σ0 Q (pc + 1) l (zL x :: st) kw σ M) : zR g d mm σ0 Q pc l st kw σ M :=
  zr_st (fun B hl k => lv_lconst B.1 B.2.1 hd hx k) k
theorem zr_ldc {idx : Nat} {x : Int} (hd : decode d.2.1 pc = .ok (.ldc idx, 2)) (hc : Cond.constant d.1.cls idx (Int32.ofInt x) ∈ zt) (k : zR g d mm σ0 Q (pc + 2) l (zI x :: st) kw σ M) : zR g d mm σ0 Q pc l st kw σ M :=
  zr_st (fun B hl k => lv_ldc B.1 B.2.1 B.2.2.2.2.2.1 (B.2.2.2.2.2.2.1 _ hc) hd k) k
theorem zr_ldcw {idx : Nat} {x : Int} (hd : decode d.2.1 pc = .ok (.ldc_w idx, 3)) (hc : Cond.constant d.1.cls idx (Int32.ofInt x) ∈ zt) (k : zR g d mm σ0 Q (pc + 3) l (zI x :: st) kw σ M) : zR g d mm σ0 Q pc l st kw σ M :=
  zr_st (fun B hl k => lv_ldcw B.1 B.2.1 B.2.2.2.2.2.1 (B.2.2.2.2.2.2.1 _ hc) hd k) k
theorem zr_ldc2 {idx : Nat} {x : Int} (hd : decode d.2.1 pc = .ok (.ldc2_w idx, 3)) (hc : Cond.constantLong d.1.cls idx (Int64.ofInt x) ∈ zt) (k : zR g d mm σ0 Q (pc + 3) l (zL x :: st) kw σ M) : zR g d mm σ0 Q pc l st kw σ M :=
  zr_st (fun B hl k => lv_ldc2 B.1 B.2.1 B.2.2.2.2.2.1 (B.2.2.2.2.2.2.1 _ hc) hd k) k
theorem zr_dup {v : Value} (hd : decode d.2.1 pc = .ok (.dup, 1)) (hv : v.category = 1) (k : zR g d mm σ0 Q (pc + 1) l (v :: v :: st) kw σ M) : zR g d mm σ0 Q pc l (v :: st) kw σ M :=
  zr_st (fun B hl k => lv_dup B.1 B.2.1 hd hv k) k
theorem zr_pop {v : Value} (hd : decode d.2.1 pc = .ok (.pop, 1)) (hv : v.category = 1) (k : zR g d mm σ0 Q (pc + 1) l st kw σ M) : zR g d mm σ0 Q pc l (v :: st) kw σ M :=
  zr_st (fun B hl k => lv_pop B.1 B.2.1 hd hv k) k
theorem zr_dup2 {v w : Value} (hd : decode d.2.1 pc = .ok (.dup2, 1)) (hv : v.category = 1) (hw : w.category = 1) (k : zR g d mm σ0 Q (pc + 1) l (v :: w :: v :: w :: st) kw σ M) : zR g d mm σ0 Q pc l (v :: w :: st) kw σ M :=
  zr_st (fun B hl k => lv_dup2_11 B.1 B.2.1 hd hv hw k) k
theorem zr_lstore_n {j : Fin 4} {x : Int} (hd : decode d.2.1 pc = .ok (.lstore_n j, 1)) (hn : (j : Nat) + 1 < d.2.2.1) (ks : List Nat) (h : lv_pick (((j : Nat), zL x) :: l.filter (fun q => !(q.1 == (j : Nat)) && (!(q.1 == (j : Nat) + 1) && !(q.1 + 1 == (j : Nat) && q.2.category == 2)))) ks = l')
    (k : zR g d mm σ0 Q (pc + 1) l' st kw σ M) : zR g d mm σ0 Q pc l (zL x :: st) kw σ M :=
  fun la p e s m args below meth c B H locs ls hA hS hH hl => lv_lstore_n B.1 B.2.1 hd rfl hl hn rfl (fun ls' hl' => k la p e s m args below meth c B H locs ls' hA hS hH (lv_sub hl' ks h))
theorem zr_lstore {j : Nat} {x : Int} (hd : decode d.2.1 pc = .ok (.lstore j, 2)) (hn : j + 1 < d.2.2.1) (ks : List Nat) (h : lv_pick ((j, zL x) :: l.filter (fun q => !(q.1 == j) && (!(q.1 == j + 1) && !(q.1 + 1 == j && q.2.category == 2)))) ks = l')
    (k : zR g d mm σ0 Q (pc + 2) l' st kw σ M) : zR g d mm σ0 Q pc l (zL x :: st) kw σ M :=
  fun la p e s m args below meth c B H locs ls hA hS hH hl => lv_lstore B.1 B.2.1 hd hl hn rfl (fun ls' hl' => k la p e s m args below meth c B H locs ls' hA hS hH (lv_sub hl' ks h))
/-- switches -/
theorem zr_tin {dflt lo hi x off : Int} {offs : Array Int} {len tgt : Nat} (hd : decode d.2.1 pc = .ok (.tableswitch dflt lo hi offs, len)) (hx : zin x) (h1 : ¬ x < lo) (h2 : ¬ hi < x) (ho : offs[(x - lo).toNat]? = some off) (ht : (pc : Int) + off = (tgt : Int)) (k : zR g d mm σ0 Q tgt l st kw σ M) : zR g d mm σ0 Q pc l (zI x :: st) kw σ M :=
  zr_st (fun B hl k => lv_tableIn B.1 B.2.1 hd (by rw [zi_to hx]; exact h1) (by rw [zi_to hx]; exact h2) (by rw [zi_to hx]; exact ho) ht k) k
theorem zr_tout {dflt lo hi x : Int} {offs : Array Int} {len tgt : Nat} (hd : decode d.2.1 pc = .ok (.tableswitch dflt lo hi offs, len)) (hx : zin x) (h : x < lo ∨ hi < x) (ht : (pc : Int) + dflt = (tgt : Int)) (k : zR g d mm σ0 Q tgt l st kw σ M) : zR g d mm σ0 Q pc l (zI x :: st) kw σ M :=
  zr_st (fun B hl k => lv_tableOut B.1 B.2.1 hd (by rw [zi_to hx]; exact h) ht k) k
theorem zr_look {dflt x off : Int} {ps : Array (Int × Int)} {len tgt : Nat} (hd : decode d.2.1 pc = .ok (.lookupswitch dflt ps, len)) (hp : (ps.toList.zip (ps.toList.drop 1)).all (fun (a, next) => a.1 < next.1) = true) (hx : zin x) (ho : Op.lookupswitch.offset ps.toList dflt x = off) (ht : (pc : Int) + off = (tgt : Int)) (k : zR g d mm σ0 Q tgt l st kw σ M) : zR g d mm σ0 Q pc l (zI x :: st) kw σ M :=
  zr_st (fun B hl k => lv_lookup B.1 B.2.1 hd hp (by rw [zi_to hx]; exact ho) ht k) k
/-- the greater, the lesser, without a sign -/
def zLm (d : zD) (idx : Nat) (y : MethodName) (b : ByteArray) (n : Nat) : Prop := Cond.methodLink d.1.cls idx y ∈ zt ∧ Cond.static y ∈ zt ∧ Cond.initialized "java/lang/Math" ∈ zt ∧ Cond.code y b n (some .int) ∈ zt ∧ 1 ≤ d.2.2.2.2.1 ∧ 21 ≤ d.2.2.2.2.2
theorem zr_max {idx : Nat} {x y : Int} (hd : decode d.2.1 pc = .ok (.invokestatic idx, 3)) (hL : zLm d idx Lib.Math.max.name Lib.Math.max.code 2) (hx : zin x) (hy : zin y) (hw : (st.map fun v => v.category).sum ≤ 8) (hk : kw.1 ≤ mm.1 ∧ kw.2 ≤ mm.2) (k : zR g d mm σ0 Q (pc + 3) l (zI (max x y) :: st) kw σ M) : zR g d mm σ0 Q pc l (zI y :: zI x :: st) kw σ M := by
  intro la p e s m args below meth c B H locs ls hA hS hH hl
  have kk := k la p e s m args below meth c B H locs ls hA hS hH hl
  obtain ⟨w1, w2, w3, w4, w5, w6⟩ := hL
  have hts := B.2.2.2.2.2.2.1
  refine va_mmax B.1 B.2.1 (B.2.2.1.trans hl.1.symm) B.2.2.2.2.2.1 (hts _ w1) (hts _ w2) (hts _ w3) (hts _ w4) w5 (by show _ ≤ d.2.2.2.2.2; omega) hk.1 hk.2 hd ?_
  have e : (if Int32.ofInt x < Int32.ofInt y then Int32.ofInt y else Int32.ofInt x) = Int32.ofInt (max x y) := by
    by_cases h : x < y
    · rw [if_pos ((zi_lt hx hy).mpr h), Int.max_eq_right (Int.le_of_lt h)]
    · rw [if_neg (fun q => h ((zi_lt hx hy).mp q)), Int.max_eq_left (by omega)]
  rw [e]; exact kk
theorem zr_min {idx : Nat} {x y : Int} (hd : decode d.2.1 pc = .ok (.invokestatic idx, 3)) (hL : zLm d idx Lib.Math.min.name Lib.Math.min.code 2) (hx : zin x) (hy : zin y) (hw : (st.map fun v => v.category).sum ≤ 8) (hk : kw.1 ≤ mm.1 ∧ kw.2 ≤ mm.2) (k : zR g d mm σ0 Q (pc + 3) l (zI (min x y) :: st) kw σ M) : zR g d mm σ0 Q pc l (zI y :: zI x :: st) kw σ M := by
  intro la p e s m args below meth c B H locs ls hA hS hH hl
  have kk := k la p e s m args below meth c B H locs ls hA hS hH hl
  obtain ⟨w1, w2, w3, w4, w5, w6⟩ := hL
  have hts := B.2.2.2.2.2.2.1
  refine va_mmin B.1 B.2.1 (B.2.2.1.trans hl.1.symm) B.2.2.2.2.2.1 (hts _ w1) (hts _ w2) (hts _ w3) (hts _ w4) w5 (by show _ ≤ d.2.2.2.2.2; omega) hk.1 hk.2 hd ?_
  have e : (if Int32.ofInt y < Int32.ofInt x then Int32.ofInt y else Int32.ofInt x) = Int32.ofInt (min x y) := by
    by_cases h : y < x
    · rw [if_pos ((zi_lt hy hx).mpr h), Int.min_eq_right (Int.le_of_lt h)]
    · rw [if_neg (fun q => h ((zi_lt hy hx).mp q)), Int.min_eq_left (by omega)]
  rw [e]; exact kk
theorem zr_abs {idx : Nat} {x : Int} (hd : decode d.2.1 pc = .ok (.invokestatic idx, 3)) (hL : zLm d idx Lib.Math.abs.name Lib.Math.abs.code 1) (hx : zin x) (hw : (st.map fun v => v.category).sum ≤ 8) (hk : kw.1 ≤ mm.1 ∧ kw.2 ≤ mm.2) (k : zR g d mm σ0 Q (pc + 3) l (zI (if 0 ≤ x then x else 0 - x) :: st) kw σ M) : zR g d mm σ0 Q pc l (zI x :: st) kw σ M := by
  intro la p e s m args below meth c B H locs ls hA hS hH hl
  have kk := k la p e s m args below meth c B H locs ls hA hS hH hl
  obtain ⟨w1, w2, w3, w4, w5, w6⟩ := hL
  have hts := B.2.2.2.2.2.2.1
  refine va_mabs B.1 B.2.1 (B.2.2.1.trans hl.1.symm) B.2.2.2.2.2.1 (hts _ w1) (hts _ w2) (hts _ w3) (hts _ w4) w5 (by show _ ≤ d.2.2.2.2.2; omega) hk.1 hk.2 hd ?_
  have e : (if 0 ≤ Int32.ofInt x then Int32.ofInt x else 0 - Int32.ofInt x) = Int32.ofInt (if 0 ≤ x then x else 0 - x) := by
    have h0 : (0 : Int32) = Int32.ofInt 0 := rfl
    rw [h0]
    by_cases h : 0 ≤ x
    · rw [if_pos ((zi_le zin0 hx).mpr h), if_pos h]
    · rw [if_neg (fun q => h ((zi_le zin0 hx).mp q)), if_neg h, ← Int32.ofInt_sub]
  rw [e]; exact kk
/-- static tables -/
def zTb (g : zG) (i : Nat) : Value := .ref (g.2.2.2 i)
theorem zS_A {s : State} {H : Heap} {locs : List Loc} (hS : va_S (zAg g σ0) s.heap H locs) : ∀ q : Nat, q < s.heap.size → ¬ g.1 < q → H[q]? = s.heap[q]? := fun q h1 h2 => hS.2.1 q h1 (fun h => h2 h.1)
theorem zr_gets {idx i : Nat} {nm : String} (hd : decode d.2.1 pc = .ok (.getstatic idx, 3)) (hi : (i = 0 ∧ nm = "RULE_LEAST") ∨ (i = 1 ∧ nm = "RULE_MOST")) (hL : Cond.fieldLink d.1.cls idx "SandMarch" nm "[I" ∈ zt ∨ (d.1.cls, idx, nm) ∈ znf) (k : zR g d mm σ0 Q (pc + 3) l (zTb g i :: st) kw σ M) : zR g d mm σ0 Q pc l st kw σ M := by
  intro la p e s m args below meth c B H locs ls hA hS hH hl
  have kk := k la p e s m args below meth c B H locs ls hA hS hH hl
  obtain ⟨hx, hb, -, -, -, hown, hts, -, -, hX, -⟩ := B
  have hZ : va_Z "SandMarch" nm "[I" (zTb g i) (zAg g σ0) s s.heap := by
    rcases hi with ⟨rfl, rfl⟩ | ⟨rfl, rfl⟩
    · exact hX.1.narrow (fun q h => h.1)
    · exact hX.2.2.1.narrow (fun q h => h.1)
  rcases hL with h | h
  · exact va_gets hx hb hZ hS hown (hts _ h) (fun _ h => h) hd kk
  · exact va_getsN hx hb hZ hS hown ((hX.2.2.2.2.2.2.2.2.2.2 _ h).use rfl) (fun _ h => h) hd kk
def zTv (i : Nat) (j : Nat) : Int := if i = 0 then [1, 1, 0, 0].getD j 0 else [6, 9, 16, 16].getD j 0
theorem zr_tald {i : Nat} {x : Int} (hd : decode d.2.1 pc = .ok (.iaload, 1)) (hi : i = 0 ∨ i = 1) (hx : 0 ≤ x ∧ x < 4) (k : zR g d mm σ0 Q (pc + 1) l (zI (zTv i x.toNat) :: st) kw σ M) : zR g d mm σ0 Q pc l (zI x :: zTb g i :: st) kw σ M := by
  intro la p e s m args below meth c B H locs ls hA hS hH hl
  have kk := k la p e s m args below meth c B H locs ls hA hS hH hl
  obtain ⟨hxx, hb, -, -, -, hown, hts, -, -, hX, -⟩ := B
  have hin := zi_in (n := 4) hx.1 hx.2 (by decide)
  have he : (Int32.ofInt x).toNatClampNeg = x.toNat := zi_nn ⟨by omega, by omega⟩ hx.1
  rcases hi with rfl | rfl
  · exact va_ti hxx hb (hX.2.1.narrow (fun q h => h.1)) hS hin (v := zI (zTv 0 x.toNat)) (by rw [he]; rfl) hd kk
  · exact va_ti hxx hb (hX.2.2.2.1.narrow (fun q h => h.1)) hS hin (v := zI (zTv 1 x.toNat)) (by rw [he]; rfl) hd kk
end ZR4
end
section
def zrw (M : zM) (b : Nat) (f : Int → Int) : zM := fun c j => if c = b then f j else M c j
theorem zrw_ne {M : zM} {b c : Nat} {f : Int → Int} (h : c ≠ b) (j : Int) : zrw M b f c j = M c j := by simp [zrw, h]
theorem zrw_at (M : zM) (b : Nat) (f : Int → Int) (j : Int) : zrw M b f b j = f j := by simp [zrw]
def zcpy (f h : Int → Int) (sp dp n : Int) : Int → Int := fun k => if dp ≤ k ∧ k < dp + n then f (sp + (k - dp)) else h k
def zLy (d : zD) (idx : Nat) : Prop := Cond.methodLink d.1.cls idx arraycopyName ∈ zt ∧ Cond.native arraycopyName ∈ zt ∧ Cond.static arraycopyName ∈ zt ∧ Cond.initialized "java/lang/System" ∈ zt ∧ 1 ≤ d.2.2.2.2.1 ∧ 8 + (nativeFrameWords "java/lang/System" "arraycopy" 5 + 11) ≤ d.2.2.2.2.2
theorem znlt {z : Int} (hz : zin z) (h0 : 0 ≤ z) : ¬ Int32.ofInt z < 0 := fun h => by
  have h' : Int32.ofInt z < Int32.ofInt 0 := h
  rw [zi_lt hz zin0] at h'; omega
section ZR5
variable {g : zG} {d d' : zD} {mm mm' kw : Nat × Nat} {σ0 σ : zS} {Q Q' : zP} {pc pc' : Nat} {l l' : List (Nat × Value)} {st st' : List Value} {M : zM}
theorem zr_copy {idx a b n0 n1 : Nat} {sp dp n : Int} (hd : decode d.2.1 pc = .ok (.invokestatic idx, 3)) (hL : zLy d idx) (ha : zh σ a = (1, n0)) (hb : zh σ b = (1, n1)) (h1 : 0 ≤ sp) (h2 : 0 ≤ dp) (h3 : 0 ≤ n) (h4 : sp + n ≤ n0) (h5 : dp + n ≤ n1) (hn : n0 ≤ 100000 ∧ n1 ≤ 100000) (hw : (st.map fun v => v.category).sum ≤ 8)
    (k : zR g d mm σ0 Q (pc + 3) l st kw σ (zrw M b (zcpy (M a) (M b) sp dp n))) : zR g d mm σ0 Q pc l (zI n :: zI dp :: zA g b :: zI sp :: zA g a :: st) kw σ M := by
  intro la p e s m args below meth c B H locs ls hA hS hH hl
  have k := k la p e s m args below meth c B
  obtain ⟨w1, w2, w3, w4, w5, w6⟩ := hL
  have hts := B.2.2.2.2.2.2.1
  have hK := B.2.2.2.2.2.2.2.2.1
  have z1 : zin sp := ⟨by omega, by omega⟩
  have z2 : zin dp := ⟨by omega, by omega⟩
  have z3 : zin n := ⟨by omega, by omega⟩
  have c1 := zi_nn z1 h1
  have c2 := zi_nn z2 h2
  have c3 := zi_nn z3 h3
  intro T hT X
  have hc0 : H[g.1 + a]? = some (vp_cell (g.2.2.1 1) (n0, .inl (fun j => Int32.ofInt (M a (j : Int))))) := zc_arr (hH.1 a) ha (by decide) (by decide)
  have hc1 : H[g.1 + b]? = some (vp_cell (g.2.2.1 1) (n1, .inl (fun j => Int32.ofInt (M b (j : Int))))) := zc_arr (hH.1 b) hb (by decide) (by decide)
  obtain ⟨-, k0, hk0, cm0, hkk0⟩ := (hK.2 0 _ rfl).1 n0 (fun j => .int (Int32.ofInt (M a (j : Int))))
  obtain ⟨-, k1, hk1, cm1, hkk1⟩ := (hK.2 0 _ rfl).1 n1 (fun j => .int (Int32.ofInt (M b (j : Int))))
  obtain ⟨vm', X', step⟩ := X.arraycopy B.1 B.2.2.2.2.2.1 (hts _ w1) (hts _ w2) (hts _ w3) (hts _ w4) (src := g.1 + a) (dst := g.1 + b) (cs := vp_cell (g.2.2.1 1) (n0, .inl (fun j => Int32.ofInt (M a (j : Int))))) (cd := vp_cell (g.2.2.1 1) (n1, .inl (fun j => Int32.ofInt (M b (j : Int))))) (srcPos := Int32.ofInt sp) (destPos := Int32.ofInt dp) (n := Int32.ofInt n) (by rw [hT]; exact hc0) (by rw [hT]; exact hc1)
    (fun _ h => by cases h) (fun _ h => by cases h) (fun h => by cases h) (fun h => by cases h) hk0 hk1 hkk0 hkk1 (by simp [refKind]) (znlt z1 h1) (znlt z2 h2) (znlt z3 h3)
    (by rw [zi_to z1, zi_to z3]; show ¬ _ > ((arrV _ n0 _).slots.size : Int); rw [arrV_size]; omega)
    (by rw [zi_to z2, zi_to z3]; show ¬ _ > ((arrV _ n1 _).slots.size : Int); rw [arrV_size]; omega)
    (fun vm₁ _ i hi => by
      have e : (vp_cell (g.2.2.1 1) (n0, .inl (fun j => Int32.ofInt (M a (j : Int))))).slots.getD ((Int32.ofInt sp).toNatClampNeg + i) .null = .int (Int32.ofInt (M a (((Int32.ofInt sp).toNatClampNeg + i : Nat) : Int))) := by
        show (arrV (g.2.2.1 1) n0 (fun j => .int (Int32.ofInt (M a (j : Int))))).slots.getD _ _ = _
        rw [Array.getD_eq_getD_getElem?, arrV_read _ _ (by omega)]
        rfl
      refine ⟨?_, ?_⟩
      · rw [e]; rfl
      · rw [e]; exact trivial)
    (g := F0 m pc ls (.int (Int32.ofInt n) :: .int (Int32.ofInt dp) :: .ref (g.1 + b) :: .int (Int32.ofInt sp) :: .ref (g.1 + a) :: st)) rfl (by show ls.size = _; rw [hl.1, B.2.2.1]) (rest := st) rfl (by rw [B.2.1]; exact hd) w5 (by show 2 * 0 + _ + _ ≤ d.2.2.2.2.2; omega)
  have e1 : copied (vp_cell (g.2.2.1 1) (n0, .inl (fun j => Int32.ofInt (M a (j : Int))))) (vp_cell (g.2.2.1 1) (n1, .inl (fun j => Int32.ofInt (M b (j : Int))))) (Int32.ofInt sp) (Int32.ofInt dp) (Int32.ofInt n) = vp_cell (g.2.2.1 1) (n1, .inl (va_cpy (fun j => Int32.ofInt (M a (j : Int))) (fun j => Int32.ofInt (M b (j : Int))) (Int32.ofInt sp).toNatClampNeg (Int32.ofInt dp).toNatClampNeg (Int32.ofInt n).toNatClampNeg)) := va_copied (fun z => .int z) (g.2.2.1 1) (g.2.2.1 1) (fun j => Int32.ofInt (M a (j : Int))) (fun j => Int32.ofInt (M b (j : Int))) (show (Int32.ofInt sp).toNatClampNeg + (Int32.ofInt n).toNatClampNeg ≤ n0 by omega)
  rw [e1, c1, c2, c3] at X' step
  have hlt : g.1 + b < H.size := (Array.getElem?_eq_some_iff.mp hc1).1
  have hz : zAg g σ0 (g.1 + b) := by rw [← hA]; exact zAg_in hb (show (1 : Nat) ≠ 9 by decide)
  have ee : vp_cell (g.2.2.1 1) (n1, .inl (va_cpy (fun j => Int32.ofInt (M a (j : Int))) (fun j => Int32.ofInt (M b (j : Int))) sp.toNat dp.toNat n.toNat)) = arrV (g.2.2.1 1) n1 (fun j => zev g 1 (zrw M b (zcpy (M a) (M b) sp dp n) b (j : Int))) := by
    rw [vp_cell_i]
    congr 1
    funext j
    rw [zrw_at]
    simp only [va_cpy, zcpy]
    by_cases hj : dp.toNat ≤ j ∧ j < dp.toNat + n.toNat
    · rw [if_pos hj, if_pos (by omega)]
      show Value.int (Int32.ofInt (M a ((sp.toNat + (j - dp.toNat) : Nat) : Int))) = zI (M a (sp + ((j : Int) - dp)))
      rw [show ((sp.toNat + (j - dp.toNat) : Nat) : Int) = sp + ((j : Int) - dp) by omega]; rfl
    · rw [if_neg hj, if_neg (by omega)]; rfl
  rw [ee] at X' step
  have oq : ∀ q : Nat, q ≠ g.1 + b → (H.setIfInBounds (g.1 + b) (arrV (g.2.2.1 1) n1 (fun j => zev g 1 (zrw M b (zcpy (M a) (M b) sp dp n) b (j : Int)))))[q]? = H[q]? := fun q hq => by simp [Array.getElem?_setIfInBounds, Ne.symm hq]
  have hsz : (H.setIfInBounds (g.1 + b) (arrV (g.2.2.1 1) n1 (fun j => zev g 1 (zrw M b (zcpy (M a) (M b) sp dp n) b (j : Int))))).size = H.size := by simp
  have hheap : ((T.setVm vm').setCell (g.1 + b) (arrV (g.2.2.1 1) n1 (fun j => zev g 1 (zrw M b (zcpy (M a) (M b) sp dp n) b (j : Int))))).heap = H.setIfInBounds (g.1 + b) (arrV (g.2.2.1 1) n1 (fun j => zev g 1 (zrw M b (zcpy (M a) (M b) sp dp n) b (j : Int)))) := by rw [← hT]; rfl
  obtain ⟨t, a1, b1⟩ := k _ _ ls hA ⟨by rw [hsz]; exact hS.1, fun q g1 g2 => by
      rw [oq q (fun e => g2 (by rw [e]; exact hz))]
      exact hS.2.1 q g1 g2, fun q hq => by
      rcases List.mem_append.mp hq with h | h
      · exact hS.2.2 q h
      · obtain ⟨z, -, hz'⟩ := List.mem_map.mp h
        rw [← hz']
        exact hz⟩ (hH.put (a := b) hsz oq (fun c j h => zrw_ne h j) (by unfold zcell; rw [hb]; simp only [show (1 : Nat) ≠ 0 by decide, show (1 : Nat) ≠ 9 by decide, if_false]; simp [Array.getElem?_setIfInBounds, hlt])) hl _ hheap X'
  exact ⟨t, step t a1, b1⟩
theorem zr_aast {a n v ci : Nat} {i : Int} (hd : decode d.2.1 pc = .ok (.aastore, 1)) (hs : zh σ a = (4, n)) (hn : n ≤ 100000) (hi : 0 ≤ i ∧ i < n) (hv : zh σ v = (0, 5)) (k : zR g d mm σ0 Q (pc + 1) l st kw σ (zu M a i v)) : zR g d mm σ0 Q pc l (zA g v :: zI i :: zA g a :: st) kw σ M := by
  intro la p e s m args below meth c B H locs ls hA hS hH hl
  have k := k la p e s m args below meth c B
  have hc := zc_arr (hH.1 a) hs (by decide) (by decide)
  have hin := zi_in hi.1 hi.2 hn
  have he : (Int32.ofInt i).toNatClampNeg = i.toNat := zi_nn ⟨by omega, by omega⟩ hi.1
  have hz : zAg g σ0 (g.1 + a) := by rw [← hA]; exact zAg_in hs (show (4 : Nat) ≠ 9 by decide)
  have hK := B.2.2.2.2.2.2.2.2.1
  obtain ⟨r', hr', cellV, g1, g2, g3, -⟩ := zc_obj (hH.1 v) hv
  have hcls := (hK.1 5 _ hr').2
  cases hr'
  obtain ⟨kA, comp, k1, k2, k3, -⟩ := (hK.2 3 _ rfl).2
  have hcomp : comp = g.2.1.1 5 := Option.some.inj (k3.symm.trans hcls.1)
  subst hcomp
  obtain ⟨kC, hkC, -⟩ := hcls.2
  have hv0 : v ≠ 0 := by have := (zh_le hv (show (0 : Nat) ≠ 9 by decide)).1; omega
  refine W.aast B.1 B.2.1 hc (fun q h => by cases h) (fun h => by cases h) k1 k2 rfl hkC ⟨fun q => hin (Or.inl q), by rw [arrV_size]; exact Nat.not_le.mp fun q => hin (Or.inr q)⟩ g1 (fun q h => by rw [g3] at h; cases h) (by rw [g2]; exact hkC) (by rw [g2]; exact va_assign hcls) rfl rfl hd fun H1 e z oq => ?_
  refine k H1 _ ls hA (hS.put z oq hz) (hH.put (a := a) z oq (fun b j h => zu_ne h) (zc_ast hi.1 hv0 hs ?_)) hl
  rw [e, arrV_store, he]; rfl
/-! making: an open signature -/
def zsn (σ : zS) (q : Nat × Nat) : zS := (σ.1, σ.2.1 ++ [q], fun a k => if a = σ.2.1.length + 1 then 0 else σ.2.2 a k)
def zsf (σ : zS) (a j b : Nat) : zS := (σ.1, σ.2.1, fun a' j' => if a' = a ∧ j' = j then b else σ.2.2 a' j')
theorem zsn_old {σ : zS} {q : Nat × Nat} {a : Nat} (h : a ≤ σ.2.1.length) : zh (zsn σ q) a = zh σ a := by
  cases a with
  | zero => rfl
  | succ k => show (σ.2.1 ++ [q]).getD k (9, 0) = σ.2.1.getD k (9, 0); simp [List.getD_eq_getElem?_getD, List.getElem?_append_left (show k < σ.2.1.length by omega)]
theorem zsn_new {σ : zS} {q : Nat × Nat} : zh (zsn σ q) (σ.2.1.length + 1) = q := by
  show (σ.2.1 ++ [q]).getD σ.2.1.length (9, 0) = q; simp [List.getD_eq_getElem?_getD]
theorem zsn_big {σ : zS} {q : Nat × Nat} {a : Nat} (h : σ.2.1.length + 1 < a) : zh (zsn σ q) a = (9, 0) := by
  cases a with
  | zero => rfl
  | succ k => show (σ.2.1 ++ [q]).getD k (9, 0) = _; simp [List.getD_eq_getElem?_getD, List.getElem?_eq_none (show (σ.2.1 ++ [q]).length ≤ k by simp; omega)]
theorem zsn_H {g : zG} {σ : zS} {M : zM} {H H1 : Heap} {q : Nat × Nat} (h : zH g σ M H) (ho : σ.1 = true) (hz : H1.size = g.1 + σ.2.1.length + 1 + 1) (hq : ∀ a : Nat, a < g.1 + σ.2.1.length + 1 → H1[a]? = H[a]?) (hn : zcell g (zsn σ q) (zrw M (σ.2.1.length + 1) (fun _ => 0)) (σ.2.1.length + 1) H1) : zH g (zsn σ q) (zrw M (σ.2.1.length + 1) (fun _ => 0)) H1 := by
  refine ⟨fun a => ?_, fun _ => by rw [hz]; show _ = g.1 + (σ.2.1 ++ [q]).length + 1; simp; omega⟩
  rcases Nat.lt_trichotomy a (σ.2.1.length + 1) with ha | ha | ha
  · have hc := zc_kept (M' := zrw M (σ.2.1.length + 1) (fun _ => 0)) (h.1 a) (hq _ (by omega)) (fun j => zrw_ne (by omega) j)
    unfold zcell at hc ⊢
    rw [zsn_old (by omega)]
    simp only [zsn, show ¬ a = σ.2.1.length + 1 by omega, if_false]
    exact hc
  · subst ha; exact hn
  · unfold zcell; rw [zsn_big ha]; simp
theorem zsn_A {g : zG} {σ σ0 : zS} {q : Nat × Nat} (ho : σ.1 = true) (hA : zAg g σ = zAg g σ0) : zAg g (zsn σ q) = zAg g σ0 := by
  rw [← hA]; funext a; simp [zAg, zsn, ho]
theorem zS_new {g : zG} {σ0 : zS} {s : State} {H H1 : Heap} {locs : List Loc} (hS : va_S (zAg g σ0) s.heap H locs) (hz : H.size ≤ H1.size) (hq : ∀ a : Nat, a < H.size → H1[a]? = H[a]?) : va_S (zAg g σ0) s.heap H1 locs :=
  ⟨Nat.le_trans hS.1 hz, fun q h1 h2 => (hq q (Nat.lt_of_lt_of_le h1 hS.1)).trans (hS.2.1 q h1 h2), hS.2.2⟩
def zLn (d : zD) (idx ci n : Nat) : Prop := ∃ r : vw_C, zcls[ci]? = some r ∧ r.2.2 = n ∧ (∀ w ∈ u_ws r.1 r.2.1 r.2.2, w ∈ zt) ∧ (∃ ty0 : Nat → FieldType, (∀ k, k < r.2.2 → parseFieldDescriptor (r.2.1 k).2.2.1 = some (ty0 k)) ∧ ∀ (g : zG) (k : Nat), k < r.2.2 → defaultValue (ty0 k) = zfv g (zfk ci k) 0 0) ∧ Cond.classLink d.1.cls idx r.1 ∈ zt ∧ Cond.instantiable r.1 r.2.2 ∈ zt ∧ Cond.initialized r.1 ∈ zt
theorem zr_new {idx ci n : Nat} (hd : decode d.2.1 pc = .ok (.new idx, 3)) (hL : zLn d idx ci n) (ho : σ.1 = true) (hk : kw.1 + 1 ≤ mm.1 ∧ kw.2 + n ≤ mm.2)
    (k : zR g d mm σ0 Q (pc + 3) l (zA g (σ.2.1.length + 1) :: st) (kw.1 + 1, kw.2 + n) (zsn σ (0, ci)) (zrw M (σ.2.1.length + 1) (fun _ => 0))) : zR g d mm σ0 Q pc l st kw σ M := by
  intro la p e s m args below meth c B H locs ls hA hS hH hl
  have k := k la p e s m args below meth c B
  obtain ⟨r, hc, rfl, hin, ⟨ty0, hty, hdf⟩, w1, w2, w3⟩ := hL
  have hts := B.2.2.2.2.2.2.1
  have hKn := B.2.2.2.2.2.2.2.2.1.1 ci _ hc
  have hz := hH.2 ho
  refine W.newcK B.1 B.2.1 B.2.2.2.2.2.1 (hts _ w1) (hts _ w2) (hts _ w3) rfl hd hk.1 hk.2 hKn.2.1 rfl fun H1 kC hkC e1 z1 o1 => ?_
  rw [hz] at e1 z1 o1
  have hb := u_born ty0 hts hin hKn hkC e1 hty
  have e : Value.ref H.size = zA g (σ.2.1.length + 1) := by rw [hz]; rfl
  rw [e]
  refine k H1 locs ls (zsn_A ho hA) (zS_new hS (by omega) (by rw [hz]; exact o1)) (zsn_H hH ho z1 o1 ?_) hl
  unfold zcell
  rw [zsn_new]
  refine ⟨r, hc, t_OB.to hb (fun k hk => ?_)⟩
  rw [hdf g k hk, zrw_at]
  simp [zsn]
theorem zr_newa {at_ : ArrayType} {kd : Nat} {n : Int} (hd : decode d.2.1 pc = .ok (.newarray at_, 2)) (hkd : (at_ = .int ∧ kd = 1) ∨ (at_ = .boolean ∧ kd = 2) ∨ (at_ = .long ∧ kd = 3)) (hw : Cond.arrayClass (newarray.typeOf at_) ∈ zt) (ho : σ.1 = true) (hn : 0 ≤ n ∧ n ≤ 100000) (hk : kw.1 + 1 ≤ mm.1 ∧ kw.2 + n.toNat ≤ mm.2)
    (k : zR g d mm σ0 Q (pc + 2) l (zA g (σ.2.1.length + 1) :: st) (kw.1 + 1, kw.2 + n.toNat) (zsn σ (kd, n.toNat)) (zrw M (σ.2.1.length + 1) (fun _ => 0))) : zR g d mm σ0 Q pc l (zI n :: st) kw σ M := by
  intro la p e s m args below meth c B H locs ls hA hS hH hl
  have k := k la p e s m args below meth c B
  have hts := B.2.2.2.2.2.2.1
  have hK := B.2.2.2.2.2.2.2.2.1
  have hz := hH.2 ho
  have zn : zin n := ⟨by omega, by omega⟩
  refine va_newaK B.1 B.2.1 (hts _ hw) rfl hd rfl (N := n.toNat) (znlt zn hn.1) (zi_nn zn hn.1) (by rcases hkd with ⟨rfl, -⟩ | ⟨rfl, -⟩ | ⟨rfl, -⟩ <;> simp [componentBytes, newarray.typeOf] <;> omega) hk.1 hk.2 hz fun H1 cA e1 z1 o1 hAr hNm => ?_
  have hcA : cA = g.2.2.1 kd := by
    rcases hkd with ⟨rfl, rfl⟩ | ⟨rfl, rfl⟩ | ⟨rfl, rfl⟩
    · exact Option.some.inj (hNm.symm.trans (hK.2 0 _ rfl).2)
    · exact Option.some.inj (hNm.symm.trans (hK.2 1 _ rfl).2)
    · exact Option.some.inj (hNm.symm.trans (hK.2 2 _ rfl).2)
  refine k H1 locs ls (zsn_A ho hA) (zS_new hS (by omega) (by rw [hz]; exact o1)) (zsn_H hH ho z1 o1 ?_) hl
  subst hcA
  unfold zcell
  rw [zsn_new]
  rcases hkd with ⟨rfl, rfl⟩ | ⟨rfl, rfl⟩ | ⟨rfl, rfl⟩ <;> (simp only [show (1 : Nat) ≠ 0 by decide, show (1 : Nat) ≠ 9 by decide, show (2 : Nat) ≠ 0 by decide, show (2 : Nat) ≠ 9 by decide, show (3 : Nat) ≠ 0 by decide, show (3 : Nat) ≠ 9 by decide, if_false]; rw [show g.1 + (σ.2.1.length + 1) = g.1 + σ.2.1.length + 1 by omega, e1]; congr 2; funext j; rw [zrw_at]; rfl)
theorem zr_anew {idx : Nat} {n : Int} (hd : decode d.2.1 pc = .ok (.anewarray idx, 3)) (hw : Cond.classLink d.1.cls idx "SandMarch$Sand" ∈ zt) (ho : σ.1 = true) (hn : 0 ≤ n ∧ n ≤ 100000) (hk : kw.1 + 1 ≤ mm.1 ∧ kw.2 + n.toNat ≤ mm.2)
    (k : zR g d mm σ0 Q (pc + 3) l (zA g (σ.2.1.length + 1) :: st) (kw.1 + 1, kw.2 + n.toNat) (zsn σ (4, n.toNat)) (zrw M (σ.2.1.length + 1) (fun _ => 0))) : zR g d mm σ0 Q pc l (zI n :: st) kw σ M := by
  intro la p e s m args below meth c B H locs ls hA hS hH hl
  have k := k la p e s m args below meth c B
  have hts := B.2.2.2.2.2.2.1
  have hK := B.2.2.2.2.2.2.2.2.1
  have hX := B.2.2.2.2.2.2.2.2.2.1
  have hz := hH.2 ho
  have zn : zin n := ⟨by omega, by omega⟩
  have hc := zi_nn zn hn.1
  refine W.anew B.1 B.2.1 B.2.2.2.2.2.1 (hts _ hw) (hX.2.2.2.2.2.2.2.2.1.use) rfl hd rfl (znlt zn hn.1) (by rw [hc]; omega) hk.1 (by rw [hc]; exact hk.2) fun cA kA comp h1 h2 h3 h4 => ?_
  obtain ⟨kA', comp', -, -, -, k4⟩ := (hK.2 3 _ rfl).2
  have hcA : cA = g.2.2.1 4 := Option.some.inj (h1.symm.trans k4)
  rw [hc, hz]
  have o1 : ∀ q : Nat, q < g.1 + σ.2.1.length + 1 → (H.push { cls := cA, slots := Array.replicate n.toNat Value.null, vm := .none })[q]? = H[q]? := fun q hq => by rw [Array.getElem?_push, if_neg (by omega)]
  refine k _ locs ls (zsn_A ho hA) (zS_new hS (by simp) (by rw [hz]; exact o1)) (zsn_H hH ho (by simp [hz]) o1 ?_) hl
  unfold zcell
  rw [zsn_new]
  simp only [show (4 : Nat) ≠ 0 by decide, show (4 : Nat) ≠ 9 by decide, if_false]
  rw [show g.1 + (σ.2.1.length + 1) = H.size by omega, Array.getElem?_push, if_pos rfl, hcA, arrV_new]
  congr 2
  funext j
  rw [zrw_at]; rfl
/-- a final reference of an object under way -/
theorem zr_putr {idx ci j a b : Nat} {ty : FieldType} (hd : decode d.2.1 pc = .ok (.putfield idx, 3)) (hL : zLf d.1.cls idx ci j) (hC : zLc ci) (hT : zLt ci j true d.1.cls ty) (hi : d.1.name = "<init>") (hn : narrow ty (zA g b) = zA g b) (hf : fits ty (zA g b) = true) (hk : zfk ci j = 2) (hs : zh σ a = (0, ci)) (h0 : b ≠ 0) (k : zR g d mm σ0 Q (pc + 3) l st kw (zsf σ a j b) M) : zR g d mm σ0 Q pc l (zA g b :: zA g a :: st) kw σ M := by
  intro la p e s m args below meth c B H locs ls hA hS hH hl
  have k := k la p e s m args below meth c B
  obtain ⟨hx, hb, -, -, -, hown, hts, hnm, hK, -⟩ := B
  obtain ⟨r, hc, hj, hin, hlink⟩ := hL
  obtain ⟨r', hc', cell, q1, q2, q3, q4⟩ := zc_obj (hH.1 a) hs
  cases hc.symm.trans hc'
  obtain ⟨r', hc', ⟨ty0, hty⟩, hnn⟩ := hC
  cases hc.symm.trans hc'
  obtain ⟨r', hc', hfin, hdecl, hpd⟩ := hT
  cases hc.symm.trans hc'
  have hap := va_apart (own := d.1.cls) hts hin ty0 hty hnn hK hc
  obtain ⟨hSl, hfc, kC, hkC, hkind⟩ := hK.1 ci _ hc
  obtain ⟨cf, kf, fi, f, hi', hsl⟩ := hSl j hj
  have hlay := hts _ (hin _ (u_in_lay hj))
  unfold u_lay at hlay
  rw [if_pos hfin] at hlay
  have hst := (u_facts hfc hkC (u_lays hts hin hj) hi').1
  have hcf : m.cls = cf := by
    obtain ⟨_, _, c', _, _, _, -, -, hf', -, -, -, hown2, -⟩ := Cond.laysFinal_spec hlay
    have e1 : c' = cf := by have := hi'.symm.trans hf'; simp at this; exact this.1.symm
    rw [hdecl] at hown2
    rw [← e1]; exact Option.some.inj (hown.symm.trans hown2)
  have h6 := u_fits hfc hkC hkind (Or.inr hlay) hi' hpd hn hf
  refine W.putFinK hx hb hown (hts _ hlink) hi' hst hcf (hnm.trans hi) (by rw [q2]; exact h6) q1 q3 (by rw [hsl]; exact k2_hasslot (q4 j hj)) rfl rfl hd fun H' e1 e2 e3 => ?_
  rw [hsl] at e1 ⊢
  have hz : zAg g σ0 (g.1 + a) := by rw [← hA]; exact zAg_in hs (show (0 : Nat) ≠ 9 by decide)
  refine k H' _ ls hA (hS.put e2 e3 hz) ⟨fun a' => ?_, fun ho => e2.trans (hH.2 ho)⟩ hl
  by_cases ha : a' = a
  · subst ha
    unfold zcell
    rw [show zh (zsf σ a' j b) a' = (0, ci) from hs]
    refine ⟨r, hc, t_OB.to (V := updV (fun k => zfv g (zfk ci k) (σ.2.2 a' k) (M a' (k : Int))) j (zA g b)) ⟨_, e1, q2, q3, t_set q4 hap hj _⟩ (fun i _ => ?_)⟩
    simp only [updV, zsf, true_and]
    split
    · rename_i h; subst h; rw [hk]; show zA g b = zN g b; simp [zN, zA, h0]
    · rfl
  · have hc' := zc_kept (M' := M) (hH.1 a') (e3 (g.1 + a') (fun h => ha (Nat.add_left_cancel h))) (fun _ => rfl)
    unfold zcell at hc' ⊢
    rw [show zh (zsf σ a j b) a' = zh σ a' from rfl]
    simp only [zsf, ha, false_and, if_false]
    exact hc'
theorem zr_oinit {idx a : Nat} (hd : decode d.2.1 pc = .ok (.invokespecial idx, 3)) (hL : Cond.methodLink d.1.cls idx objectInit ∈ zt ∧ Cond.instanceMethod objectInit ∈ zt ∧ Cond.code objectInit ⟨#[0xb1]⟩ 1 none ∈ zt ∧ 1 ≤ d.2.2.2.2.1 ∧ 20 ≤ d.2.2.2.2.2) (hw : (st.map fun v => v.category).sum ≤ 8) (k : zR g d mm σ0 Q (pc + 3) l st kw σ M) : zR g d mm σ0 Q pc l (zA g a :: st) kw σ M := by
  intro la p e s m args below meth c B H locs ls hA hS hH hl
  have kk := k la p e s m args below meth c B H locs ls hA hS hH hl
  have hts := B.2.2.2.2.2.2.1
  exact W.objInit B.1 B.2.1 B.2.2.2.2.2.1 (hts _ hL.1) (hts _ hL.2.1) (hts _ hL.2.2.1) rfl (by show ls.size = _; rw [hl.1, B.2.2.1]) rfl hd hL.2.2.2.1 (by show 2 * 0 + _ + 12 ≤ d.2.2.2.2.2; have := hL.2.2.2.2; omega) kk
theorem zr_callIN {idx a n : Nat} {As rest : List Value} (hd : decode d.2.1 pc = .ok (.invokespecial idx, 3)) (hL : zLb d d' n) (hN : (d.1.cls, idx, d'.1) ∈ znm) (hI : Cond.instanceMethod d'.1 ∈ zt ∧ d'.1.name = "<init>" ∧ d'.2.2.2.1 = none) (hst : st = As.reverse ++ zA g a :: rest) (hn : As.length = n) (hw : (rest.map fun v => v.category).sum ≤ 8) (hm : kw.1 + mm'.1 ≤ mm.1 ∧ kw.2 + mm'.2 ≤ mm.2)
    (hc : zC g d' mm' (zA g a :: As) σ M Q') (k : ∀ v σ' M', Q' v σ' M' → zR g d mm σ0 Q (pc + 3) l (v.toList ++ rest) (kw.1 + mm'.1, kw.2 + mm'.2) σ' M') : zR g d mm σ0 Q pc l st kw σ M := by
  intro la p e s m args below meth c B H locs ls hA hS hH hl
  have B' := B
  obtain ⟨hx, hb, hml, -, -, hown, hts, -, hK, hX, -⟩ := B'
  obtain ⟨w1, w2, hdd, hf1, hf2⟩ := hL
  exact zback (mm' := mm') (as := (Value.ref (g.1 + a) :: As).toArray) B hA hS hl (va_runIN (As := As) (rest := rest) ⟨hx, hb, hml, hown, hts⟩ (hc la) ⟨va_cnB n hts (zgoodIn w2) (by unfold zw; rw [hI.2.2]) rfl rfl (hX.2.2.2.2.2.2.2.2.2.1 _ hN) (hts _ w1) hdd ⟨hf1, hf2⟩, hI.2.1, hts _ hI.1⟩ ⟨zblind, fun U hU hW => ⟨rfl, zpre B hS hH hU hW⟩⟩ rfl hn hl.1 hst (lv_room hw) hd hm) k
end ZR5
end
section
/-! contracts over a signature that stays -/
def zQi (σ : zS) (q : Int → zM → Prop) : zP := fun v σ' M' => σ' = σ ∧ ∃ r : Int, v = some (zI r) ∧ q r M'
def zQl (σ : zS) (q : Int → zM → Prop) : zP := fun v σ' M' => σ' = σ ∧ ∃ r : Int, v = some (zL r) ∧ q r M'
def zQv (σ : zS) (q : zM → Prop) : zP := fun v σ' M' => σ' = σ ∧ v = none ∧ q M'
abbrev zKi (g : zG) (σ : zS) (d : zD) (as : List Value) (M : zM) (q : Int → zM → Prop) : Prop := zC g d (0, 0) as σ M (zQi σ q)
abbrev zKl (g : zG) (σ : zS) (d : zD) (as : List Value) (M : zM) (q : Int → zM → Prop) : Prop := zC g d (0, 0) as σ M (zQl σ q)
abbrev zKv (g : zG) (σ : zS) (d : zD) (as : List Value) (M : zM) (q : zM → Prop) : Prop := zC g d (0, 0) as σ M (zQv σ q)
abbrev zT (g : zG) (σ : zS) (d : zD) (Q : zP) (pc : Nat) (l : List (Nat × Value)) (st : List Value) (M : zM) : Prop := zR g d (0, 0) σ Q pc l st (0, 0) σ M
noncomputable def zb (P : Prop) : Int := @ite Int P (Classical.propDecidable P) 1 0
theorem zb_t {P : Prop} (h : P) : zb P = 1 := by unfold zb; exact if_pos h
theorem zb_f {P : Prop} (h : ¬ P) : zb P = 0 := by unfold zb; exact if_neg h
theorem zb01 (P : Prop) : zb P = 0 ∨ zb P = 1 := (Classical.em P).elim (fun h => Or.inr (zb_t h)) (fun h => Or.inl (zb_f h))
theorem zb_in (P : Prop) : zin (zb P) := by rcases zb01 P with h | h <;> rw [h] <;> exact ⟨by decide, by decide⟩
theorem zb_0 {P : Prop} : zb P = 0 ↔ ¬ P := ⟨fun h hp => by rw [zb_t hp] at h; omega, zb_f⟩
theorem zb_1 {P : Prop} : zb P = 1 ↔ P := ⟨fun h => Classical.byContradiction fun hp => by rw [zb_f hp] at h; omega, zb_t⟩
theorem zb_congr {P R : Prop} (h : P ↔ R) : zb P = zb R := by rw [propext h]
section ZT
variable {g : zG} {d d' : zD} {σ : zS} {Q : zP} {pc : Nat} {l : List (Nat × Value)} {st : List Value} {M : zM} {idx a ci n : Nat} {As rest : List Value}
theorem zt_ifeq_b {P : Prop} {off : Int} {tgt : Nat} (hd : decode d.2.1 pc = .ok (.ifCond .eq off, 3)) (ht : (pc : Int) + off = (tgt : Int)) (kt : ¬ P → zT g σ d Q tgt l st M) (kf : P → zT g σ d Q (pc + 3) l st M) : zT g σ d Q pc l (zI (zb P) :: st) M :=
  zr_if_eq hd ht (zb_in P) (fun h => kt (zb_0.mp h)) (fun h => kf (Classical.byContradiction fun hp => h (zb_0.mpr hp)))
theorem zt_ifne_b {P : Prop} {off : Int} {tgt : Nat} (hd : decode d.2.1 pc = .ok (.ifCond .ne off, 3)) (ht : (pc : Int) + off = (tgt : Int)) (kt : P → zT g σ d Q tgt l st M) (kf : ¬ P → zT g σ d Q (pc + 3) l st M) : zT g σ d Q pc l (zI (zb P) :: st) M :=
  zr_if_ne hd ht (zb_in P) (fun h => kt (Classical.byContradiction fun hp => h (zb_0.mpr hp))) (fun h => kf (zb_0.mp h))
theorem zt_iret {q : Int → zM → Prop} {x : Int} (hd : decode d.2.1 pc = .ok (.ireturn, 1)) (hr : d.2.2.2.1 = some .int) (h : q x M) : zT g σ d (zQi σ q) pc l [zI x] M := zr_ireturn hd hr rfl ⟨rfl, x, rfl, h⟩
theorem zt_zret {q : Int → zM → Prop} {x : Int} (hd : decode d.2.1 pc = .ok (.ireturn, 1)) (hr : d.2.2.2.1 = some .boolean) (hx : x = 0 ∨ x = 1) (h : q x M) : zT g σ d (zQi σ q) pc l [zI x] M := zr_zreturn hd hr hx rfl ⟨rfl, x, rfl, h⟩
theorem zt_lret {q : Int → zM → Prop} {x : Int} (hd : decode d.2.1 pc = .ok (.lreturn, 1)) (hr : d.2.2.2.1 = some .long) (h : q x M) : zT g σ d (zQl σ q) pc l [zL x] M := zr_lreturn hd hr rfl ⟨rfl, x, rfl, h⟩
theorem zt_ret {q : zM → Prop} (hd : decode d.2.1 pc = .ok (.return_, 1)) (hr : d.2.2.2.1 = none) (h : q M) : zT g σ d (zQv σ q) pc l [] M := zr_return hd hr rfl ⟨rfl, rfl, h⟩
theorem zt_callVi {q : Int → zM → Prop} (hd : decode d.2.1 pc = .ok (.invokevirtual idx, 3)) (hL : zLv d d' idx n) (hs : zh σ a = (0, ci)) (hci : (zcls[ci]?).map (fun r => r.1) = some d'.1.cls) (hst : st = As.reverse ++ zA g a :: rest) (hn : As.length = n) (hw : (rest.map fun v => v.category).sum ≤ 8) (hc : zKi g σ d' (zA g a :: As) M q) (k : ∀ r M', q r M' → zT g σ d Q (pc + 3) l (zI r :: rest) M') : zT g σ d Q pc l st M :=
  zr_callV (mm' := (0, 0)) hd hL hs hci hst hn hw ⟨Nat.le_refl 0, Nat.le_refl 0⟩ hc (fun v σ' M' h => by obtain ⟨rfl, r, rfl, h⟩ := h; exact k r M' h)
theorem zt_callVl {q : Int → zM → Prop} (hd : decode d.2.1 pc = .ok (.invokevirtual idx, 3)) (hL : zLv d d' idx n) (hs : zh σ a = (0, ci)) (hci : (zcls[ci]?).map (fun r => r.1) = some d'.1.cls) (hst : st = As.reverse ++ zA g a :: rest) (hn : As.length = n) (hw : (rest.map fun v => v.category).sum ≤ 8) (hc : zKl g σ d' (zA g a :: As) M q) (k : ∀ r M', q r M' → zT g σ d Q (pc + 3) l (zL r :: rest) M') : zT g σ d Q pc l st M :=
  zr_callV (mm' := (0, 0)) hd hL hs hci hst hn hw ⟨Nat.le_refl 0, Nat.le_refl 0⟩ hc (fun v σ' M' h => by obtain ⟨rfl, r, rfl, h⟩ := h; exact k r M' h)
theorem zt_callVv {q : zM → Prop} (hd : decode d.2.1 pc = .ok (.invokevirtual idx, 3)) (hL : zLv d d' idx n) (hs : zh σ a = (0, ci)) (hci : (zcls[ci]?).map (fun r => r.1) = some d'.1.cls) (hst : st = As.reverse ++ zA g a :: rest) (hn : As.length = n) (hw : (rest.map fun v => v.category).sum ≤ 8) (hc : zKv g σ d' (zA g a :: As) M q) (k : ∀ M', q M' → zT g σ d Q (pc + 3) l rest M') : zT g σ d Q pc l st M :=
  zr_callV (mm' := (0, 0)) hd hL hs hci hst hn hw ⟨Nat.le_refl 0, Nat.le_refl 0⟩ hc (fun v σ' M' h => by obtain ⟨rfl, rfl, h⟩ := h; exact k M' h)
theorem zt_callSi {q : Int → zM → Prop} (hd : decode d.2.1 pc = .ok (.invokestatic idx, 3)) (hL : zLs d d' idx n) (hst : st = As.reverse ++ rest) (hn : As.length = n) (hw : (rest.map fun v => v.category).sum ≤ 8) (hc : zKi g σ d' As M q) (k : ∀ r M', q r M' → zT g σ d Q (pc + 3) l (zI r :: rest) M') : zT g σ d Q pc l st M :=
  zr_callS (mm' := (0, 0)) hd hL hst hn hw ⟨Nat.le_refl 0, Nat.le_refl 0⟩ hc (fun v σ' M' h => by obtain ⟨rfl, r, rfl, h⟩ := h; exact k r M' h)
theorem zt_callSl {q : Int → zM → Prop} (hd : decode d.2.1 pc = .ok (.invokestatic idx, 3)) (hL : zLs d d' idx n) (hst : st = As.reverse ++ rest) (hn : As.length = n) (hw : (rest.map fun v => v.category).sum ≤ 8) (hc : zKl g σ d' As M q) (k : ∀ r M', q r M' → zT g σ d Q (pc + 3) l (zL r :: rest) M') : zT g σ d Q pc l st M :=
  zr_callS (mm' := (0, 0)) hd hL hst hn hw ⟨Nat.le_refl 0, Nat.le_refl 0⟩ hc (fun v σ' M' h => by obtain ⟨rfl, r, rfl, h⟩ := h; exact k r M' h)
theorem zt_callSv {q : zM → Prop} (hd : decode d.2.1 pc = .ok (.invokestatic idx, 3)) (hL : zLs d d' idx n) (hst : st = As.reverse ++ rest) (hn : As.length = n) (hw : (rest.map fun v => v.category).sum ≤ 8) (hc : zKv g σ d' As M q) (k : ∀ M', q M' → zT g σ d Q (pc + 3) l rest M') : zT g σ d Q pc l st M :=
  zr_callS (mm' := (0, 0)) hd hL hst hn hw ⟨Nat.le_refl 0, Nat.le_refl 0⟩ hc (fun v σ' M' h => by obtain ⟨rfl, rfl, h⟩ := h; exact k M' h)
theorem zki_of {as : List Value} {q : Int → zM → Prop} (hy : plainName d.1.cls = true) (hle : (lg_sl as).length ≤ d.2.2.1) (h : zT g σ d (zQi σ q) 0 (lv_args 0 as) [] M) : zKi g σ d as M q := zC_of hy hle h
theorem zkl_of {as : List Value} {q : Int → zM → Prop} (hy : plainName d.1.cls = true) (hle : (lg_sl as).length ≤ d.2.2.1) (h : zT g σ d (zQl σ q) 0 (lv_args 0 as) [] M) : zKl g σ d as M q := zC_of hy hle h
theorem zkv_of {as : List Value} {q : zM → Prop} (hy : plainName d.1.cls = true) (hle : (lg_sl as).length ≤ d.2.2.1) (h : zT g σ d (zQv σ q) 0 (lv_args 0 as) [] M) : zKv g σ d as M q := zC_of hy hle h
end ZT
end
section
theorem zc0 {w : Cond} (i : Nat) (h : (k2_sels lw_privs)[i]? = some w) (hg : goodWord w = true) : w ∈ zt := List.mem_filter.mpr ⟨List.mem_append_left _ (List.mem_of_getElem? h), hg⟩
theorem zc1 {w : Cond} (i : Nat) (h : tables_1_1[i]? = some w) (hg : goodWord w = true) : w ∈ zt := List.mem_filter.mpr ⟨List.mem_append_right _ (List.mem_append_left _ (List.mem_of_getElem? h)), hg⟩
theorem zc2 {w : Cond} (i : Nat) (h : tables_1_2[i]? = some w) (hg : goodWord w = true) : w ∈ zt := List.mem_filter.mpr ⟨List.mem_append_right _ (List.mem_append_right _ (List.mem_append_left _ (List.mem_of_getElem? h))), hg⟩
theorem zc3 {w : Cond} (i : Nat) (h : tables_1_3[i]? = some w) (hg : goodWord w = true) : w ∈ zt := List.mem_filter.mpr ⟨List.mem_append_right _ (List.mem_append_right _ (List.mem_append_right _ (List.mem_append_left _ (List.mem_of_getElem? h)))), hg⟩
theorem zc4 {w : Cond} (i : Nat) (h : tables_1_4[i]? = some w) (hg : goodWord w = true) : w ∈ zt := List.mem_filter.mpr ⟨List.mem_append_right _ (List.mem_append_right _ (List.mem_append_right _ (List.mem_append_right _ (List.mem_append_left _ (List.mem_of_getElem? h))))), hg⟩
theorem zc5 {w : Cond} (i : Nat) (h : tables_1_5[i]? = some w) (hg : goodWord w = true) : w ∈ zt := List.mem_filter.mpr ⟨List.mem_append_right _ (List.mem_append_right _ (List.mem_append_right _ (List.mem_append_right _ (List.mem_append_right _ (List.mem_append_left _ (List.mem_of_getElem? h)))))), hg⟩
theorem zc6 {w : Cond} (i : Nat) (h : tables_1_6[i]? = some w) (hg : goodWord w = true) : w ∈ zt := List.mem_filter.mpr ⟨List.mem_append_right _ (List.mem_append_right _ (List.mem_append_right _ (List.mem_append_right _ (List.mem_append_right _ (List.mem_append_right _ (List.mem_append_left _ (List.mem_of_getElem? h))))))), hg⟩
theorem zc7 {w : Cond} (i : Nat) (h : tables_1_7[i]? = some w) (hg : goodWord w = true) : w ∈ zt := List.mem_filter.mpr ⟨List.mem_append_right _ (List.mem_append_right _ (List.mem_append_right _ (List.mem_append_right _ (List.mem_append_right _ (List.mem_append_right _ (List.mem_append_right _ (List.mem_append_left _ (List.mem_of_getElem? h)))))))), hg⟩
theorem zc8 {w : Cond} (i : Nat) (h : tables_1_8[i]? = some w) (hg : goodWord w = true) : w ∈ zt := List.mem_filter.mpr ⟨List.mem_append_right _ (List.mem_append_right _ (List.mem_append_right _ (List.mem_append_right _ (List.mem_append_right _ (List.mem_append_right _ (List.mem_append_right _ (List.mem_append_right _ (List.mem_of_getElem? h)))))))), hg⟩
set_option maxRecDepth 100000 in
theorem iX0 : ∀ w ∈ u_ws RX0 TX0 13, w ∈ zt := by
  intro w hw
  obtain ⟨k, hk, rfl⟩ := List.mem_map.mp hw
  have hk := List.mem_range.mp hk
  have h : ∀ k, k < 13 → lw_tbl[([240, 242, 244, 246, 248, 250, 252, 254, 256, 258, 260, 262, 264] : List Nat).getD k 0]? = some (u_lay RX0 TX0 k) ∧ goodWord (u_lay RX0 TX0 k) = true := by decide +kernel
  exact zm _ (h k hk).1 (h k hk).2
theorem lcX0 : zLc 0 := ⟨(RX0, TX0, 13), rfl, ⟨tyX0, tyX0_ok⟩, nmX0⟩
set_option maxRecDepth 100000 in
theorem iX1 : ∀ w ∈ u_ws RX1 TX1 3, w ∈ zt := by
  intro w hw
  obtain ⟨k, hk, rfl⟩ := List.mem_map.mp hw
  have hk := List.mem_range.mp hk
  have h : ∀ k, k < 3 → lw_tbl[([410, 412, 414] : List Nat).getD k 0]? = some (u_lay RX1 TX1 k) ∧ goodWord (u_lay RX1 TX1 k) = true := by decide +kernel
  exact zm _ (h k hk).1 (h k hk).2
theorem lcX1 : zLc 1 := ⟨(RX1, TX1, 3), rfl, ⟨tyX1, tyX1_ok⟩, nmX1⟩
set_option maxRecDepth 100000 in
theorem iX2 : ∀ w ∈ u_ws RX2 TX2 11, w ∈ zt := by
  intro w hw
  obtain ⟨k, hk, rfl⟩ := List.mem_map.mp hw
  have hk := List.mem_range.mp hk
  have h : ∀ k, k < 11 → lw_tbl[([315, 317, 319, 321, 323, 325, 327, 329, 331, 333, 335] : List Nat).getD k 0]? = some (u_lay RX2 TX2 k) ∧ goodWord (u_lay RX2 TX2 k) = true := by decide +kernel
  exact zm _ (h k hk).1 (h k hk).2
theorem lcX2 : zLc 2 := ⟨(RX2, TX2, 11), rfl, ⟨tyX2, tyX2_ok⟩, nmX2⟩
set_option maxRecDepth 100000 in
theorem iX3 : ∀ w ∈ u_ws RX3 TX3 6, w ∈ zt := by
  intro w hw
  obtain ⟨k, hk, rfl⟩ := List.mem_map.mp hw
  have hk := List.mem_range.mp hk
  have h : ∀ k, k < 6 → lw_tbl[([467, 469, 471, 473, 475, 477] : List Nat).getD k 0]? = some (u_lay RX3 TX3 k) ∧ goodWord (u_lay RX3 TX3 k) = true := by decide +kernel
  exact zm _ (h k hk).1 (h k hk).2
theorem lcX3 : zLc 3 := ⟨(RX3, TX3, 6), rfl, ⟨tyX3, tyX3_ok⟩, nmX3⟩
set_option maxRecDepth 100000 in
theorem iX4 : ∀ w ∈ u_ws RX4 TX4 5, w ∈ zt := by
  intro w hw
  obtain ⟨k, hk, rfl⟩ := List.mem_map.mp hw
  have hk := List.mem_range.mp hk
  have h : ∀ k, k < 5 → lw_tbl[([275, 277, 279, 281, 283] : List Nat).getD k 0]? = some (u_lay RX4 TX4 k) ∧ goodWord (u_lay RX4 TX4 k) = true := by decide +kernel
  exact zm _ (h k hk).1 (h k hk).2
theorem lcX4 : zLc 4 := ⟨(RX4, TX4, 5), rfl, ⟨tyX4, tyX4_ok⟩, nmX4⟩
set_option maxRecDepth 100000 in
theorem iX5 : ∀ w ∈ u_ws RX5 TX5 5, w ∈ zt := by
  intro w hw
  obtain ⟨k, hk, rfl⟩ := List.mem_map.mp hw
  have hk := List.mem_range.mp hk
  have h : ∀ k, k < 5 → lw_tbl[([360, 362, 364, 366, 368] : List Nat).getD k 0]? = some (u_lay RX5 TX5 k) ∧ goodWord (u_lay RX5 TX5 k) = true := by decide +kernel
  exact zm _ (h k hk).1 (h k hk).2
theorem lcX5 : zLc 5 := ⟨(RX5, TX5, 5), rfl, ⟨tyX5, tyX5_ok⟩, nmX5⟩
set_option maxRecDepth 100000 in
theorem iX6 : ∀ w ∈ u_ws RX6 TX6 9, w ∈ zt := by
  intro w hw
  obtain ⟨k, hk, rfl⟩ := List.mem_map.mp hw
  have hk := List.mem_range.mp hk
  have h : ∀ k, k < 9 → lw_tbl[([433, 435, 437, 439, 441, 443, 445, 447, 449] : List Nat).getD k 0]? = some (u_lay RX6 TX6 k) ∧ goodWord (u_lay RX6 TX6 k) = true := by decide +kernel
  exact zm _ (h k hk).1 (h k hk).2
theorem lcX6 : zLc 6 := ⟨(RX6, TX6, 9), rfl, ⟨tyX6, tyX6_ok⟩, nmX6⟩
set_option maxRecDepth 100000 in
theorem iX7 : ∀ w ∈ u_ws RX7 TX7 5, w ∈ zt := by
  intro w hw
  obtain ⟨k, hk, rfl⟩ := List.mem_map.mp hw
  have hk := List.mem_range.mp hk
  have h : ∀ k, k < 5 → lw_tbl[([385, 387, 389, 391, 393] : List Nat).getD k 0]? = some (u_lay RX7 TX7 k) ∧ goodWord (u_lay RX7 TX7 k) = true := by decide +kernel
  exact zm _ (h k hk).1 (h k hk).2
theorem lcX7 : zLc 7 := ⟨(RX7, TX7, 5), rfl, ⟨tyX7, tyX7_ok⟩, nmX7⟩
set_option maxRecDepth 100000 in
theorem iX8 : ∀ w ∈ u_ws RX8 TX8 6, w ∈ zt := by
  intro w hw
  obtain ⟨k, hk, rfl⟩ := List.mem_map.mp hw
  have hk := List.mem_range.mp hk
  have h : ∀ k, k < 6 → lw_tbl[([169, 171, 173, 175, 177, 179] : List Nat).getD k 0]? = some (u_lay RX8 TX8 k) ∧ goodWord (u_lay RX8 TX8 k) = true := by decide +kernel
  exact zm _ (h k hk).1 (h k hk).2
theorem lcX8 : zLc 8 := ⟨(RX8, TX8, 6), rfl, ⟨tyX8, tyX8_ok⟩, nmX8⟩
set_option maxRecDepth 100000 in
theorem iX9 : ∀ w ∈ u_ws RX9 TX9 16, w ∈ zt := by
  intro w hw
  obtain ⟨k, hk, rfl⟩ := List.mem_map.mp hw
  have hk := List.mem_range.mp hk
  have h : ∀ k, k < 16 → lw_tbl[([558, 560, 562, 564, 566, 568, 570, 572, 574, 576, 578, 580, 582, 584, 586, 588] : List Nat).getD k 0]? = some (u_lay RX9 TX9 k) ∧ goodWord (u_lay RX9 TX9 k) = true := by decide +kernel
  exact zm _ (h k hk).1 (h k hk).2
theorem lcX9 : zLc 9 := ⟨(RX9, TX9, 16), rfl, ⟨tyX9, tyX9_ok⟩, nmX9⟩
set_option maxRecDepth 100000 in
theorem iX10 : ∀ w ∈ u_ws RX10 TX10 46, w ∈ zt := by
  intro w hw
  obtain ⟨k, hk, rfl⟩ := List.mem_map.mp hw
  have hk := List.mem_range.mp hk
  have h : ∀ k, k < 46 → lw_tbl[([1275, 1277, 1279, 1281, 1283, 1285, 1287, 1289, 1291, 1293, 1295, 1297, 1299, 1301, 1303, 1305, 1307, 1309, 1311, 1313, 1315, 1317, 1319, 1321, 1323, 1325, 1327, 1329, 1331, 1333, 1335, 1337, 1339, 1341, 1343, 1345, 1347, 1349, 1351, 1353, 1355, 1357, 1359, 1361, 1363, 1365] : List Nat).getD k 0]? = some (u_lay RX10 TX10 k) ∧ goodWord (u_lay RX10 TX10 k) = true := by decide +kernel
  exact zm _ (h k hk).1 (h k hk).2
theorem lcX10 : zLc 10 := ⟨(RX10, TX10, 46), rfl, ⟨tyX10, tyX10_ok⟩, nmX10⟩
theorem fX9_10 : zLf RX9 10 9 0 := ⟨(RX9, TX9, 16), rfl, by decide, iX9, zc2 177 (by decide +kernel) rfl⟩
theorem fX9_21 : zLf RX9 21 9 1 := ⟨(RX9, TX9, 16), rfl, by decide, iX9, zc2 178 (by decide +kernel) rfl⟩
theorem fX9_28 : zLf RX9 28 9 2 := ⟨(RX9, TX9, 16), rfl, by decide, iX9, zc2 179 (by decide +kernel) rfl⟩
theorem fX9_35 : zLf RX9 35 9 3 := ⟨(RX9, TX9, 16), rfl, by decide, iX9, zc2 180 (by decide +kernel) rfl⟩
theorem fX9_39 : zLf RX9 39 9 4 := ⟨(RX9, TX9, 16), rfl, by decide, iX9, zc2 181 (by decide +kernel) rfl⟩
theorem fX9_42 : zLf RX9 42 9 5 := ⟨(RX9, TX9, 16), rfl, by decide, iX9, zc2 182 (by decide +kernel) rfl⟩
theorem fX9_50 : zLf RX9 50 9 6 := ⟨(RX9, TX9, 16), rfl, by decide, iX9, zc2 183 (by decide +kernel) rfl⟩
theorem fX9_54 : zLf RX9 54 9 7 := ⟨(RX9, TX9, 16), rfl, by decide, iX9, zc2 184 (by decide +kernel) rfl⟩
theorem fX9_60 : zLf RX9 60 9 8 := ⟨(RX9, TX9, 16), rfl, by decide, iX9, zc2 185 (by decide +kernel) rfl⟩
theorem fX9_69 : zLf RX9 69 9 9 := ⟨(RX9, TX9, 16), rfl, by decide, iX9, zc2 186 (by decide +kernel) rfl⟩
theorem fX9_78 : zLf RX9 78 9 10 := ⟨(RX9, TX9, 16), rfl, by decide, iX9, zc2 187 (by decide +kernel) rfl⟩
theorem fX9_82 : zLf RX9 82 9 11 := ⟨(RX9, TX9, 16), rfl, by decide, iX9, zc2 188 (by decide +kernel) rfl⟩
theorem fX9_85 : zLf RX9 85 9 12 := ⟨(RX9, TX9, 16), rfl, by decide, iX9, zc2 189 (by decide +kernel) rfl⟩
theorem fX9_89 : zLf RX9 89 9 13 := ⟨(RX9, TX9, 16), rfl, by decide, iX9, zc2 190 (by decide +kernel) rfl⟩
theorem fX9_93 : zLf RX9 93 9 14 := ⟨(RX9, TX9, 16), rfl, by decide, iX9, zc2 191 (by decide +kernel) rfl⟩
theorem fX9_97 : zLf RX9 97 9 15 := ⟨(RX9, TX9, 16), rfl, by decide, iX9, zc2 192 (by decide +kernel) rfl⟩
theorem fX9_101 : zLf RX9 101 4 1 := ⟨(RX4, TX4, 5), rfl, by decide, iX4, zc1 144 (by decide +kernel) rfl⟩
theorem fX9_109 : zLf RX9 109 8 1 := ⟨(RX8, TX8, 6), rfl, by decide, iX8, zc1 36 (by decide +kernel) rfl⟩
theorem fX9_120 : zLf RX9 120 2 2 := ⟨(RX2, TX2, 11), rfl, by decide, iX2, zc1 174 (by decide +kernel) rfl⟩
theorem fX9_123 : zLf RX9 123 4 2 := ⟨(RX4, TX4, 5), rfl, by decide, iX4, zc1 146 (by decide +kernel) rfl⟩
theorem fX9_126 : zLf RX9 126 4 3 := ⟨(RX4, TX4, 5), rfl, by decide, iX4, zc1 148 (by decide +kernel) rfl⟩
theorem fX9_145 : zLf RX9 145 6 8 := ⟨(RX6, TX6, 9), rfl, by decide, iX6, zc2 67 (by decide +kernel) rfl⟩
theorem fX9_152 : zLf RX9 152 5 0 := ⟨(RX5, TX5, 5), rfl, by decide, iX5, zc1 222 (by decide +kernel) rfl⟩
theorem fX9_163 : zLf RX9 163 5 1 := ⟨(RX5, TX5, 5), rfl, by decide, iX5, zc1 225 (by decide +kernel) rfl⟩
theorem fX9_177 : zLf RX9 177 5 4 := ⟨(RX5, TX5, 5), rfl, by decide, iX5, zc1 234 (by decide +kernel) rfl⟩
theorem fX9_209 : zLf RX9 209 5 2 := ⟨(RX5, TX5, 5), rfl, by decide, iX5, zc1 228 (by decide +kernel) rfl⟩
theorem fX9_246 : zLf RX9 246 2 0 := ⟨(RX2, TX2, 11), rfl, by decide, iX2, zc1 168 (by decide +kernel) rfl⟩
theorem fX9_249 : zLf RX9 249 2 1 := ⟨(RX2, TX2, 11), rfl, by decide, iX2, zc1 170 (by decide +kernel) rfl⟩
theorem fX9_252 : zLf RX9 252 2 6 := ⟨(RX2, TX2, 11), rfl, by decide, iX2, zc1 184 (by decide +kernel) rfl⟩
theorem fX9_255 : zLf RX9 255 2 7 := ⟨(RX2, TX2, 11), rfl, by decide, iX2, zc1 186 (by decide +kernel) rfl⟩
theorem fX9_278 : zLf RX9 278 3 5 := ⟨(RX3, TX3, 6), rfl, by decide, iX3, zc2 101 (by decide +kernel) rfl⟩
theorem fX9_295 : zLf RX9 295 3 4 := ⟨(RX3, TX3, 6), rfl, by decide, iX3, zc2 99 (by decide +kernel) rfl⟩
theorem fX9_338 : zLf RX9 338 5 3 := ⟨(RX5, TX5, 5), rfl, by decide, iX5, zc1 231 (by decide +kernel) rfl⟩
theorem fX9_344 : zLf RX9 344 7 3 := ⟨(RX7, TX7, 5), rfl, by decide, iX7, zc2 17 (by decide +kernel) rfl⟩
theorem fX9_347 : zLf RX9 347 7 4 := ⟨(RX7, TX7, 5), rfl, by decide, iX7, zc2 19 (by decide +kernel) rfl⟩
theorem fX9_350 : zLf RX9 350 7 2 := ⟨(RX7, TX7, 5), rfl, by decide, iX7, zc2 15 (by decide +kernel) rfl⟩
theorem fX9_391 : zLf RX9 391 2 3 := ⟨(RX2, TX2, 11), rfl, by decide, iX2, zc1 178 (by decide +kernel) rfl⟩
theorem fX9_394 : zLf RX9 394 2 5 := ⟨(RX2, TX2, 11), rfl, by decide, iX2, zc1 181 (by decide +kernel) rfl⟩
theorem fX9_397 : zLf RX9 397 1 1 := ⟨(RX1, TX1, 3), rfl, by decide, iX1, zc2 42 (by decide +kernel) rfl⟩
theorem fX9_400 : zLf RX9 400 1 2 := ⟨(RX1, TX1, 3), rfl, by decide, iX1, zc2 44 (by decide +kernel) rfl⟩
theorem fX0_9 : zLf RX0 9 0 8 := ⟨(RX0, TX0, 13), rfl, by decide, iX0, zc1 100 (by decide +kernel) rfl⟩
theorem fX0_15 : zLf RX0 15 0 9 := ⟨(RX0, TX0, 13), rfl, by decide, iX0, zc1 103 (by decide +kernel) rfl⟩
theorem fX0_18 : zLf RX0 18 0 10 := ⟨(RX0, TX0, 13), rfl, by decide, iX0, zc1 106 (by decide +kernel) rfl⟩
theorem fX0_21 : zLf RX0 21 0 11 := ⟨(RX0, TX0, 13), rfl, by decide, iX0, zc1 109 (by decide +kernel) rfl⟩
theorem fX0_24 : zLf RX0 24 0 12 := ⟨(RX0, TX0, 13), rfl, by decide, iX0, zc1 112 (by decide +kernel) rfl⟩
theorem fX0_30 : zLf RX0 30 0 0 := ⟨(RX0, TX0, 13), rfl, by decide, iX0, zc1 79 (by decide +kernel) rfl⟩
theorem fX0_34 : zLf RX0 34 0 1 := ⟨(RX0, TX0, 13), rfl, by decide, iX0, zc1 82 (by decide +kernel) rfl⟩
theorem fX0_37 : zLf RX0 37 0 2 := ⟨(RX0, TX0, 13), rfl, by decide, iX0, zc1 85 (by decide +kernel) rfl⟩
theorem fX0_40 : zLf RX0 40 0 3 := ⟨(RX0, TX0, 13), rfl, by decide, iX0, zc1 88 (by decide +kernel) rfl⟩
theorem fX0_43 : zLf RX0 43 0 4 := ⟨(RX0, TX0, 13), rfl, by decide, iX0, zc1 91 (by decide +kernel) rfl⟩
theorem fX0_46 : zLf RX0 46 0 5 := ⟨(RX0, TX0, 13), rfl, by decide, iX0, zc1 94 (by decide +kernel) rfl⟩
theorem fX0_49 : zLf RX0 49 0 7 := ⟨(RX0, TX0, 13), rfl, by decide, iX0, zc1 99 (by decide +kernel) rfl⟩
theorem fX0_58 : zLf RX0 58 0 6 := ⟨(RX0, TX0, 13), rfl, by decide, iX0, zc1 97 (by decide +kernel) rfl⟩
theorem fX1_11 : zLf RX1 11 1 0 := ⟨(RX1, TX1, 3), rfl, by decide, iX1, zc2 40 (by decide +kernel) rfl⟩
theorem fX1_17 : zLf RX1 17 1 1 := ⟨(RX1, TX1, 3), rfl, by decide, iX1, zc2 41 (by decide +kernel) rfl⟩
theorem fX1_21 : zLf RX1 21 1 2 := ⟨(RX1, TX1, 3), rfl, by decide, iX1, zc2 43 (by decide +kernel) rfl⟩
theorem fX2_9 : zLf RX2 9 2 6 := ⟨(RX2, TX2, 11), rfl, by decide, iX2, zc1 182 (by decide +kernel) rfl⟩
theorem fX2_15 : zLf RX2 15 2 7 := ⟨(RX2, TX2, 11), rfl, by decide, iX2, zc1 185 (by decide +kernel) rfl⟩
theorem fX2_18 : zLf RX2 18 2 8 := ⟨(RX2, TX2, 11), rfl, by decide, iX2, zc1 187 (by decide +kernel) rfl⟩
theorem fX2_21 : zLf RX2 21 2 9 := ⟨(RX2, TX2, 11), rfl, by decide, iX2, zc1 188 (by decide +kernel) rfl⟩
theorem fX2_24 : zLf RX2 24 2 10 := ⟨(RX2, TX2, 11), rfl, by decide, iX2, zc1 189 (by decide +kernel) rfl⟩
theorem fX2_27 : zLf RX2 27 0 0 := ⟨(RX0, TX0, 13), rfl, by decide, iX0, zc1 78 (by decide +kernel) rfl⟩
theorem fX2_33 : zLf RX2 33 2 0 := ⟨(RX2, TX2, 11), rfl, by decide, iX2, zc1 167 (by decide +kernel) rfl⟩
theorem fX2_34 : zLf RX2 34 0 1 := ⟨(RX0, TX0, 13), rfl, by decide, iX0, zc1 83 (by decide +kernel) rfl⟩
theorem fX2_37 : zLf RX2 37 2 1 := ⟨(RX2, TX2, 11), rfl, by decide, iX2, zc1 169 (by decide +kernel) rfl⟩
theorem fX2_38 : zLf RX2 38 2 2 := ⟨(RX2, TX2, 11), rfl, by decide, iX2, zc1 172 (by decide +kernel) rfl⟩
theorem fX2_41 : zLf RX2 41 0 3 := ⟨(RX0, TX0, 13), rfl, by decide, iX0, zc1 89 (by decide +kernel) rfl⟩
theorem fX2_44 : zLf RX2 44 2 3 := ⟨(RX2, TX2, 11), rfl, by decide, iX2, zc1 176 (by decide +kernel) rfl⟩
theorem fX2_45 : zLf RX2 45 0 6 := ⟨(RX0, TX0, 13), rfl, by decide, iX0, zc1 96 (by decide +kernel) rfl⟩
theorem fX2_48 : zLf RX2 48 2 4 := ⟨(RX2, TX2, 11), rfl, by decide, iX2, zc1 179 (by decide +kernel) rfl⟩
theorem fX2_49 : zLf RX2 49 2 5 := ⟨(RX2, TX2, 11), rfl, by decide, iX2, zc1 180 (by decide +kernel) rfl⟩
theorem fX2_52 : zLf RX2 52 0 11 := ⟨(RX0, TX0, 13), rfl, by decide, iX0, zc1 110 (by decide +kernel) rfl⟩
theorem fX2_53 : zLf RX2 53 0 12 := ⟨(RX0, TX0, 13), rfl, by decide, iX0, zc1 113 (by decide +kernel) rfl⟩
theorem fX3_9 : zLf RX3 9 3 1 := ⟨(RX3, TX3, 6), rfl, by decide, iX3, zc2 95 (by decide +kernel) rfl⟩
theorem fX3_15 : zLf RX3 15 3 2 := ⟨(RX3, TX3, 6), rfl, by decide, iX3, zc2 96 (by decide +kernel) rfl⟩
theorem fX3_19 : zLf RX3 19 3 3 := ⟨(RX3, TX3, 6), rfl, by decide, iX3, zc2 97 (by decide +kernel) rfl⟩
theorem fX3_23 : zLf RX3 23 3 4 := ⟨(RX3, TX3, 6), rfl, by decide, iX3, zc2 98 (by decide +kernel) rfl⟩
theorem fX3_26 : zLf RX3 26 3 5 := ⟨(RX3, TX3, 6), rfl, by decide, iX3, zc2 100 (by decide +kernel) rfl⟩
theorem fX3_29 : zLf RX3 29 3 0 := ⟨(RX3, TX3, 6), rfl, by decide, iX3, zc2 94 (by decide +kernel) rfl⟩
theorem fX3_33 : zLf RX3 33 2 2 := ⟨(RX2, TX2, 11), rfl, by decide, iX2, zc1 171 (by decide +kernel) rfl⟩
theorem fX4_12 : zLf RX4 12 4 1 := ⟨(RX4, TX4, 5), rfl, by decide, iX4, zc1 143 (by decide +kernel) rfl⟩
theorem fX4_18 : zLf RX4 18 4 2 := ⟨(RX4, TX4, 5), rfl, by decide, iX4, zc1 145 (by decide +kernel) rfl⟩
theorem fX4_22 : zLf RX4 22 4 3 := ⟨(RX4, TX4, 5), rfl, by decide, iX4, zc1 147 (by decide +kernel) rfl⟩
theorem fX4_25 : zLf RX4 25 4 4 := ⟨(RX4, TX4, 5), rfl, by decide, iX4, zc1 149 (by decide +kernel) rfl⟩
theorem fX4_28 : zLf RX4 28 4 0 := ⟨(RX4, TX4, 5), rfl, by decide, iX4, zc1 142 (by decide +kernel) rfl⟩
theorem fX4_59 : zLf RX4 59 8 2 := ⟨(RX8, TX8, 6), rfl, by decide, iX8, zc1 38 (by decide +kernel) rfl⟩
theorem fX4_63 : zLf RX4 63 8 4 := ⟨(RX8, TX8, 6), rfl, by decide, iX8, zc1 42 (by decide +kernel) rfl⟩
theorem fX4_66 : zLf RX4 66 8 3 := ⟨(RX8, TX8, 6), rfl, by decide, iX8, zc1 40 (by decide +kernel) rfl⟩
theorem fX4_79 : zLf RX4 79 0 5 := ⟨(RX0, TX0, 13), rfl, by decide, iX0, zc1 95 (by decide +kernel) rfl⟩
theorem fX4_96 : zLf RX4 96 0 2 := ⟨(RX0, TX0, 13), rfl, by decide, iX0, zc1 87 (by decide +kernel) rfl⟩
theorem fX4_111 : zLf RX4 111 0 3 := ⟨(RX0, TX0, 13), rfl, by decide, iX0, zc1 90 (by decide +kernel) rfl⟩
theorem fX4_114 : zLf RX4 114 0 4 := ⟨(RX0, TX0, 13), rfl, by decide, iX0, zc1 93 (by decide +kernel) rfl⟩
theorem fX4_117 : zLf RX4 117 0 0 := ⟨(RX0, TX0, 13), rfl, by decide, iX0, zc1 80 (by decide +kernel) rfl⟩
theorem fX4_120 : zLf RX4 120 0 1 := ⟨(RX0, TX0, 13), rfl, by decide, iX0, zc1 84 (by decide +kernel) rfl⟩
theorem fX4_123 : zLf RX4 123 0 9 := ⟨(RX0, TX0, 13), rfl, by decide, iX0, zc1 105 (by decide +kernel) rfl⟩
theorem fX4_126 : zLf RX4 126 0 10 := ⟨(RX0, TX0, 13), rfl, by decide, iX0, zc1 108 (by decide +kernel) rfl⟩
theorem fX4_129 : zLf RX4 129 0 6 := ⟨(RX0, TX0, 13), rfl, by decide, iX0, zc1 98 (by decide +kernel) rfl⟩
theorem fX4_132 : zLf RX4 132 0 11 := ⟨(RX0, TX0, 13), rfl, by decide, iX0, zc1 111 (by decide +kernel) rfl⟩
theorem fX4_135 : zLf RX4 135 0 12 := ⟨(RX0, TX0, 13), rfl, by decide, iX0, zc1 114 (by decide +kernel) rfl⟩
theorem fX4_138 : zLf RX4 138 0 8 := ⟨(RX0, TX0, 13), rfl, by decide, iX0, zc1 102 (by decide +kernel) rfl⟩
theorem fX5_9 : zLf RX5 9 5 0 := ⟨(RX5, TX5, 5), rfl, by decide, iX5, zc1 219 (by decide +kernel) rfl⟩
theorem fX5_15 : zLf RX5 15 5 1 := ⟨(RX5, TX5, 5), rfl, by decide, iX5, zc1 223 (by decide +kernel) rfl⟩
theorem fX5_18 : zLf RX5 18 5 2 := ⟨(RX5, TX5, 5), rfl, by decide, iX5, zc1 226 (by decide +kernel) rfl⟩
theorem fX5_21 : zLf RX5 21 0 0 := ⟨(RX0, TX0, 13), rfl, by decide, iX0, zc1 77 (by decide +kernel) rfl⟩
theorem fX5_27 : zLf RX5 27 0 1 := ⟨(RX0, TX0, 13), rfl, by decide, iX0, zc1 81 (by decide +kernel) rfl⟩
theorem fX5_30 : zLf RX5 30 0 2 := ⟨(RX0, TX0, 13), rfl, by decide, iX0, zc1 86 (by decide +kernel) rfl⟩
theorem fX5_33 : zLf RX5 33 0 9 := ⟨(RX0, TX0, 13), rfl, by decide, iX0, zc1 104 (by decide +kernel) rfl⟩
theorem fX5_36 : zLf RX5 36 0 10 := ⟨(RX0, TX0, 13), rfl, by decide, iX0, zc1 107 (by decide +kernel) rfl⟩
theorem fX5_43 : zLf RX5 43 0 8 := ⟨(RX0, TX0, 13), rfl, by decide, iX0, zc1 101 (by decide +kernel) rfl⟩
theorem fX5_44 : zLf RX5 44 0 4 := ⟨(RX0, TX0, 13), rfl, by decide, iX0, zc1 92 (by decide +kernel) rfl⟩
theorem fX5_47 : zLf RX5 47 5 3 := ⟨(RX5, TX5, 5), rfl, by decide, iX5, zc1 230 (by decide +kernel) rfl⟩
theorem fX5_48 : zLf RX5 48 5 4 := ⟨(RX5, TX5, 5), rfl, by decide, iX5, zc1 232 (by decide +kernel) rfl⟩
theorem fX6_9 : zLf RX6 9 6 4 := ⟨(RX6, TX6, 9), rfl, by decide, iX6, zc2 62 (by decide +kernel) rfl⟩
theorem fX6_15 : zLf RX6 15 6 5 := ⟨(RX6, TX6, 9), rfl, by decide, iX6, zc2 63 (by decide +kernel) rfl⟩
theorem fX6_18 : zLf RX6 18 6 6 := ⟨(RX6, TX6, 9), rfl, by decide, iX6, zc2 64 (by decide +kernel) rfl⟩
theorem fX6_22 : zLf RX6 22 6 7 := ⟨(RX6, TX6, 9), rfl, by decide, iX6, zc2 65 (by decide +kernel) rfl⟩
theorem fX6_25 : zLf RX6 25 6 8 := ⟨(RX6, TX6, 9), rfl, by decide, iX6, zc2 66 (by decide +kernel) rfl⟩
theorem fX6_29 : zLf RX6 29 6 0 := ⟨(RX6, TX6, 9), rfl, by decide, iX6, zc2 58 (by decide +kernel) rfl⟩
theorem fX6_33 : zLf RX6 33 6 1 := ⟨(RX6, TX6, 9), rfl, by decide, iX6, zc2 59 (by decide +kernel) rfl⟩
theorem fX6_37 : zLf RX6 37 6 2 := ⟨(RX6, TX6, 9), rfl, by decide, iX6, zc2 60 (by decide +kernel) rfl⟩
theorem fX6_40 : zLf RX6 40 6 3 := ⟨(RX6, TX6, 9), rfl, by decide, iX6, zc2 61 (by decide +kernel) rfl⟩
theorem fX6_54 : zLf RX6 54 5 0 := ⟨(RX5, TX5, 5), rfl, by decide, iX5, zc1 220 (by decide +kernel) rfl⟩
theorem fX6_65 : zLf RX6 65 2 2 := ⟨(RX2, TX2, 11), rfl, by decide, iX2, zc1 175 (by decide +kernel) rfl⟩
theorem fX7_9 : zLf RX7 9 7 2 := ⟨(RX7, TX7, 5), rfl, by decide, iX7, zc2 14 (by decide +kernel) rfl⟩
theorem fX7_15 : zLf RX7 15 7 3 := ⟨(RX7, TX7, 5), rfl, by decide, iX7, zc2 16 (by decide +kernel) rfl⟩
theorem fX7_19 : zLf RX7 19 7 4 := ⟨(RX7, TX7, 5), rfl, by decide, iX7, zc2 18 (by decide +kernel) rfl⟩
theorem fX7_22 : zLf RX7 22 7 0 := ⟨(RX7, TX7, 5), rfl, by decide, iX7, zc2 12 (by decide +kernel) rfl⟩
theorem fX7_26 : zLf RX7 26 7 1 := ⟨(RX7, TX7, 5), rfl, by decide, iX7, zc2 13 (by decide +kernel) rfl⟩
theorem fX7_36 : zLf RX7 36 5 3 := ⟨(RX5, TX5, 5), rfl, by decide, iX5, zc1 229 (by decide +kernel) rfl⟩
theorem fX7_49 : zLf RX7 49 5 4 := ⟨(RX5, TX5, 5), rfl, by decide, iX5, zc1 233 (by decide +kernel) rfl⟩
theorem fX7_58 : zLf RX7 58 2 2 := ⟨(RX2, TX2, 11), rfl, by decide, iX2, zc1 173 (by decide +kernel) rfl⟩
theorem fX7_79 : zLf RX7 79 5 0 := ⟨(RX5, TX5, 5), rfl, by decide, iX5, zc1 221 (by decide +kernel) rfl⟩
theorem fX7_82 : zLf RX7 82 5 1 := ⟨(RX5, TX5, 5), rfl, by decide, iX5, zc1 224 (by decide +kernel) rfl⟩
theorem fX7_94 : zLf RX7 94 5 2 := ⟨(RX5, TX5, 5), rfl, by decide, iX5, zc1 227 (by decide +kernel) rfl⟩
theorem fX7_122 : zLf RX7 122 2 3 := ⟨(RX2, TX2, 11), rfl, by decide, iX2, zc1 177 (by decide +kernel) rfl⟩
theorem fX7_125 : zLf RX7 125 2 6 := ⟨(RX2, TX2, 11), rfl, by decide, iX2, zc1 183 (by decide +kernel) rfl⟩
theorem fX8_9 : zLf RX8 9 8 0 := ⟨(RX8, TX8, 6), rfl, by decide, iX8, zc1 34 (by decide +kernel) rfl⟩
theorem fX8_15 : zLf RX8 15 8 1 := ⟨(RX8, TX8, 6), rfl, by decide, iX8, zc1 35 (by decide +kernel) rfl⟩
theorem fX8_19 : zLf RX8 19 8 2 := ⟨(RX8, TX8, 6), rfl, by decide, iX8, zc1 37 (by decide +kernel) rfl⟩
theorem fX8_22 : zLf RX8 22 8 3 := ⟨(RX8, TX8, 6), rfl, by decide, iX8, zc1 39 (by decide +kernel) rfl⟩
theorem fX8_25 : zLf RX8 25 8 4 := ⟨(RX8, TX8, 6), rfl, by decide, iX8, zc1 41 (by decide +kernel) rfl⟩
theorem fX8_28 : zLf RX8 28 8 5 := ⟨(RX8, TX8, 6), rfl, by decide, iX8, zc1 43 (by decide +kernel) rfl⟩
theorem fX10_7 : zLf RX10 7 10 0 := ⟨(RX10, TX10, 46), rfl, by decide, iX10, zc5 144 (by decide +kernel) rfl⟩
theorem fX10_13 : zLf RX10 13 10 8 := ⟨(RX10, TX10, 46), rfl, by decide, iX10, zc5 152 (by decide +kernel) rfl⟩
theorem fX10_17 : zLf RX10 17 10 10 := ⟨(RX10, TX10, 46), rfl, by decide, iX10, zc5 154 (by decide +kernel) rfl⟩
theorem fX10_20 : zLf RX10 20 10 12 := ⟨(RX10, TX10, 46), rfl, by decide, iX10, zc5 156 (by decide +kernel) rfl⟩
theorem fX10_23 : zLf RX10 23 10 13 := ⟨(RX10, TX10, 46), rfl, by decide, iX10, zc5 157 (by decide +kernel) rfl⟩
theorem fX10_26 : zLf RX10 26 10 14 := ⟨(RX10, TX10, 46), rfl, by decide, iX10, zc5 158 (by decide +kernel) rfl⟩
theorem fX10_29 : zLf RX10 29 10 15 := ⟨(RX10, TX10, 46), rfl, by decide, iX10, zc5 159 (by decide +kernel) rfl⟩
theorem fX10_32 : zLf RX10 32 10 16 := ⟨(RX10, TX10, 46), rfl, by decide, iX10, zc5 160 (by decide +kernel) rfl⟩
theorem fX10_35 : zLf RX10 35 10 17 := ⟨(RX10, TX10, 46), rfl, by decide, iX10, zc5 161 (by decide +kernel) rfl⟩
theorem fX10_38 : zLf RX10 38 10 18 := ⟨(RX10, TX10, 46), rfl, by decide, iX10, zc5 162 (by decide +kernel) rfl⟩
theorem fX10_42 : zLf RX10 42 10 21 := ⟨(RX10, TX10, 46), rfl, by decide, iX10, zc5 165 (by decide +kernel) rfl⟩
theorem fX10_45 : zLf RX10 45 10 22 := ⟨(RX10, TX10, 46), rfl, by decide, iX10, zc5 166 (by decide +kernel) rfl⟩
theorem fX10_48 : zLf RX10 48 10 26 := ⟨(RX10, TX10, 46), rfl, by decide, iX10, zc5 170 (by decide +kernel) rfl⟩
theorem fX10_51 : zLf RX10 51 10 27 := ⟨(RX10, TX10, 46), rfl, by decide, iX10, zc5 171 (by decide +kernel) rfl⟩
theorem fX10_54 : zLf RX10 54 10 30 := ⟨(RX10, TX10, 46), rfl, by decide, iX10, zc5 174 (by decide +kernel) rfl⟩
theorem fX10_57 : zLf RX10 57 10 31 := ⟨(RX10, TX10, 46), rfl, by decide, iX10, zc5 175 (by decide +kernel) rfl⟩
theorem fX10_60 : zLf RX10 60 10 32 := ⟨(RX10, TX10, 46), rfl, by decide, iX10, zc5 176 (by decide +kernel) rfl⟩
theorem fX10_63 : zLf RX10 63 10 34 := ⟨(RX10, TX10, 46), rfl, by decide, iX10, zc5 178 (by decide +kernel) rfl⟩
theorem fX10_66 : zLf RX10 66 10 35 := ⟨(RX10, TX10, 46), rfl, by decide, iX10, zc5 179 (by decide +kernel) rfl⟩
theorem fX10_69 : zLf RX10 69 10 36 := ⟨(RX10, TX10, 46), rfl, by decide, iX10, zc5 180 (by decide +kernel) rfl⟩
theorem fX10_72 : zLf RX10 72 10 37 := ⟨(RX10, TX10, 46), rfl, by decide, iX10, zc5 181 (by decide +kernel) rfl⟩
theorem fX10_75 : zLf RX10 75 10 38 := ⟨(RX10, TX10, 46), rfl, by decide, iX10, zc5 182 (by decide +kernel) rfl⟩
theorem fX10_78 : zLf RX10 78 10 39 := ⟨(RX10, TX10, 46), rfl, by decide, iX10, zc5 183 (by decide +kernel) rfl⟩
theorem fX10_81 : zLf RX10 81 10 40 := ⟨(RX10, TX10, 46), rfl, by decide, iX10, zc5 184 (by decide +kernel) rfl⟩
theorem fX10_84 : zLf RX10 84 10 41 := ⟨(RX10, TX10, 46), rfl, by decide, iX10, zc5 185 (by decide +kernel) rfl⟩
theorem fX10_87 : zLf RX10 87 10 44 := ⟨(RX10, TX10, 46), rfl, by decide, iX10, zc5 188 (by decide +kernel) rfl⟩
theorem fX10_90 : zLf RX10 90 10 45 := ⟨(RX10, TX10, 46), rfl, by decide, iX10, zc5 189 (by decide +kernel) rfl⟩
theorem fX10_99 : zLf RX10 99 10 1 := ⟨(RX10, TX10, 46), rfl, by decide, iX10, zc5 145 (by decide +kernel) rfl⟩
theorem fX10_110 : zLf RX10 110 10 3 := ⟨(RX10, TX10, 46), rfl, by decide, iX10, zc5 147 (by decide +kernel) rfl⟩
theorem fX10_113 : zLf RX10 113 10 2 := ⟨(RX10, TX10, 46), rfl, by decide, iX10, zc5 146 (by decide +kernel) rfl⟩
theorem fX10_120 : zLf RX10 120 10 4 := ⟨(RX10, TX10, 46), rfl, by decide, iX10, zc5 148 (by decide +kernel) rfl⟩
theorem fX10_123 : zLf RX10 123 10 11 := ⟨(RX10, TX10, 46), rfl, by decide, iX10, zc5 155 (by decide +kernel) rfl⟩
theorem fX10_127 : zLf RX10 127 10 6 := ⟨(RX10, TX10, 46), rfl, by decide, iX10, zc5 150 (by decide +kernel) rfl⟩
theorem fX10_130 : zLf RX10 130 10 5 := ⟨(RX10, TX10, 46), rfl, by decide, iX10, zc5 149 (by decide +kernel) rfl⟩
theorem fX10_140 : zLf RX10 140 10 7 := ⟨(RX10, TX10, 46), rfl, by decide, iX10, zc5 151 (by decide +kernel) rfl⟩
theorem fX10_157 : zLf RX10 157 10 19 := ⟨(RX10, TX10, 46), rfl, by decide, iX10, zc5 163 (by decide +kernel) rfl⟩
theorem fX10_161 : zLf RX10 161 10 20 := ⟨(RX10, TX10, 46), rfl, by decide, iX10, zc5 164 (by decide +kernel) rfl⟩
theorem fX10_235 : zLf RX10 235 10 28 := ⟨(RX10, TX10, 46), rfl, by decide, iX10, zc5 172 (by decide +kernel) rfl⟩
theorem fX10_238 : zLf RX10 238 10 29 := ⟨(RX10, TX10, 46), rfl, by decide, iX10, zc5 173 (by decide +kernel) rfl⟩
theorem fX10_241 : zLf RX10 241 10 42 := ⟨(RX10, TX10, 46), rfl, by decide, iX10, zc5 186 (by decide +kernel) rfl⟩
theorem fX10_252 : zLf RX10 252 10 9 := ⟨(RX10, TX10, 46), rfl, by decide, iX10, zc5 153 (by decide +kernel) rfl⟩
theorem fX10_261 : zLf RX10 261 10 23 := ⟨(RX10, TX10, 46), rfl, by decide, iX10, zc5 167 (by decide +kernel) rfl⟩
theorem fX10_264 : zLf RX10 264 10 24 := ⟨(RX10, TX10, 46), rfl, by decide, iX10, zc5 168 (by decide +kernel) rfl⟩
theorem fX10_267 : zLf RX10 267 10 25 := ⟨(RX10, TX10, 46), rfl, by decide, iX10, zc5 169 (by decide +kernel) rfl⟩
theorem fX10_387 : zLf RX10 387 10 33 := ⟨(RX10, TX10, 46), rfl, by decide, iX10, zc5 177 (by decide +kernel) rfl⟩
theorem fX10_438 : zLf RX10 438 10 43 := ⟨(RX10, TX10, 46), rfl, by decide, iX10, zc5 187 (by decide +kernel) rfl⟩
theorem ltX0_0 : zLt 0 0 false RX0 .int := ⟨(RX0, TX0, 13), rfl, rfl, rfl, by decide +kernel⟩
theorem ltX0_1 : zLt 0 1 false RX0 .int := ⟨(RX0, TX0, 13), rfl, rfl, rfl, by decide +kernel⟩
theorem ltX0_2 : zLt 0 2 false RX0 .int := ⟨(RX0, TX0, 13), rfl, rfl, rfl, by decide +kernel⟩
theorem ltX0_3 : zLt 0 3 false RX0 .int := ⟨(RX0, TX0, 13), rfl, rfl, rfl, by decide +kernel⟩
theorem ltX0_4 : zLt 0 4 false RX0 .int := ⟨(RX0, TX0, 13), rfl, rfl, rfl, by decide +kernel⟩
theorem ltX0_5 : zLt 0 5 false RX0 .int := ⟨(RX0, TX0, 13), rfl, rfl, rfl, by decide +kernel⟩
theorem ltX0_6 : zLt 0 6 false RX0 .int := ⟨(RX0, TX0, 13), rfl, rfl, rfl, by decide +kernel⟩
theorem ltX0_7 : zLt 0 7 false RX0 .int := ⟨(RX0, TX0, 13), rfl, rfl, rfl, by decide +kernel⟩
theorem ltX0_8 : zLt 0 8 true RX0 (.array .int) := ⟨(RX0, TX0, 13), rfl, rfl, rfl, by decide +kernel⟩
theorem ltX0_9 : zLt 0 9 true RX0 (.array .int) := ⟨(RX0, TX0, 13), rfl, rfl, rfl, by decide +kernel⟩
theorem ltX0_10 : zLt 0 10 true RX0 (.array .int) := ⟨(RX0, TX0, 13), rfl, rfl, rfl, by decide +kernel⟩
theorem ltX0_11 : zLt 0 11 true RX0 (.array .int) := ⟨(RX0, TX0, 13), rfl, rfl, rfl, by decide +kernel⟩
theorem ltX0_12 : zLt 0 12 true RX0 (.array .int) := ⟨(RX0, TX0, 13), rfl, rfl, rfl, by decide +kernel⟩
theorem ltX1_0 : zLt 1 0 true RX1 (.array (.object "SandMarch$Sand")) := ⟨(RX1, TX1, 3), rfl, rfl, rfl, by decide +kernel⟩
theorem ltX1_1 : zLt 1 1 false RX1 .int := ⟨(RX1, TX1, 3), rfl, rfl, rfl, by decide +kernel⟩
theorem ltX1_2 : zLt 1 2 false RX1 .int := ⟨(RX1, TX1, 3), rfl, rfl, rfl, by decide +kernel⟩
theorem ltX2_0 : zLt 2 0 false RX2 .int := ⟨(RX2, TX2, 11), rfl, rfl, rfl, by decide +kernel⟩
theorem ltX2_1 : zLt 2 1 false RX2 .int := ⟨(RX2, TX2, 11), rfl, rfl, rfl, by decide +kernel⟩
theorem ltX2_2 : zLt 2 2 false RX2 .int := ⟨(RX2, TX2, 11), rfl, rfl, rfl, by decide +kernel⟩
theorem ltX2_3 : zLt 2 3 false RX2 .int := ⟨(RX2, TX2, 11), rfl, rfl, rfl, by decide +kernel⟩
theorem ltX2_4 : zLt 2 4 false RX2 .int := ⟨(RX2, TX2, 11), rfl, rfl, rfl, by decide +kernel⟩
theorem ltX2_5 : zLt 2 5 false RX2 .int := ⟨(RX2, TX2, 11), rfl, rfl, rfl, by decide +kernel⟩
theorem ltX2_6 : zLt 2 6 true RX2 (.array .int) := ⟨(RX2, TX2, 11), rfl, rfl, rfl, by decide +kernel⟩
theorem ltX2_7 : zLt 2 7 true RX2 (.array .int) := ⟨(RX2, TX2, 11), rfl, rfl, rfl, by decide +kernel⟩
theorem ltX2_8 : zLt 2 8 true RX2 (.array .int) := ⟨(RX2, TX2, 11), rfl, rfl, rfl, by decide +kernel⟩
theorem ltX2_9 : zLt 2 9 true RX2 (.array .int) := ⟨(RX2, TX2, 11), rfl, rfl, rfl, by decide +kernel⟩
theorem ltX2_10 : zLt 2 10 true RX2 (.array .int) := ⟨(RX2, TX2, 11), rfl, rfl, rfl, by decide +kernel⟩
theorem ltX3_0 : zLt 3 0 true RX3 (.object "SandMarch$Land") := ⟨(RX3, TX3, 6), rfl, rfl, rfl, by decide +kernel⟩
theorem ltX3_1 : zLt 3 1 true RX3 (.array .boolean) := ⟨(RX3, TX3, 6), rfl, rfl, rfl, by decide +kernel⟩
theorem ltX3_2 : zLt 3 2 true RX3 (.array .int) := ⟨(RX3, TX3, 6), rfl, rfl, rfl, by decide +kernel⟩
theorem ltX3_3 : zLt 3 3 false RX3 .int := ⟨(RX3, TX3, 6), rfl, rfl, rfl, by decide +kernel⟩
theorem ltX3_4 : zLt 3 4 true RX3 (.array .int) := ⟨(RX3, TX3, 6), rfl, rfl, rfl, by decide +kernel⟩
theorem ltX3_5 : zLt 3 5 false RX3 .int := ⟨(RX3, TX3, 6), rfl, rfl, rfl, by decide +kernel⟩
theorem ltX4_0 : zLt 4 0 true RX4 (.object "SandMarch$Tape") := ⟨(RX4, TX4, 5), rfl, rfl, rfl, by decide +kernel⟩
theorem ltX4_1 : zLt 4 1 true RX4 (.object "SandMarch$Draft") := ⟨(RX4, TX4, 5), rfl, rfl, rfl, by decide +kernel⟩
theorem ltX4_2 : zLt 4 2 false RX4 .int := ⟨(RX4, TX4, 5), rfl, rfl, rfl, by decide +kernel⟩
theorem ltX4_3 : zLt 4 3 false RX4 .int := ⟨(RX4, TX4, 5), rfl, rfl, rfl, by decide +kernel⟩
theorem ltX4_4 : zLt 4 4 false RX4 .int := ⟨(RX4, TX4, 5), rfl, rfl, rfl, by decide +kernel⟩
theorem ltX5_0 : zLt 5 0 true RX5 (.array .int) := ⟨(RX5, TX5, 5), rfl, rfl, rfl, by decide +kernel⟩
theorem ltX5_1 : zLt 5 1 true RX5 (.array .int) := ⟨(RX5, TX5, 5), rfl, rfl, rfl, by decide +kernel⟩
theorem ltX5_2 : zLt 5 2 true RX5 (.array .int) := ⟨(RX5, TX5, 5), rfl, rfl, rfl, by decide +kernel⟩
theorem ltX5_3 : zLt 5 3 false RX5 .int := ⟨(RX5, TX5, 5), rfl, rfl, rfl, by decide +kernel⟩
theorem ltX5_4 : zLt 5 4 false RX5 .int := ⟨(RX5, TX5, 5), rfl, rfl, rfl, by decide +kernel⟩
theorem ltX6_0 : zLt 6 0 true RX6 (.object "SandMarch$Land") := ⟨(RX6, TX6, 9), rfl, rfl, rfl, by decide +kernel⟩
theorem ltX6_1 : zLt 6 1 true RX6 (.object "SandMarch$Sand") := ⟨(RX6, TX6, 9), rfl, rfl, rfl, by decide +kernel⟩
theorem ltX6_2 : zLt 6 2 true RX6 (.object "SandMarch$Sand") := ⟨(RX6, TX6, 9), rfl, rfl, rfl, by decide +kernel⟩
theorem ltX6_3 : zLt 6 3 true RX6 (.object "SandMarch$Storm") := ⟨(RX6, TX6, 9), rfl, rfl, rfl, by decide +kernel⟩
theorem ltX6_4 : zLt 6 4 true RX6 (.array .int) := ⟨(RX6, TX6, 9), rfl, rfl, rfl, by decide +kernel⟩
theorem ltX6_5 : zLt 6 5 true RX6 (.array .int) := ⟨(RX6, TX6, 9), rfl, rfl, rfl, by decide +kernel⟩
theorem ltX6_6 : zLt 6 6 true RX6 (.array .long) := ⟨(RX6, TX6, 9), rfl, rfl, rfl, by decide +kernel⟩
theorem ltX6_7 : zLt 6 7 true RX6 (.array .int) := ⟨(RX6, TX6, 9), rfl, rfl, rfl, by decide +kernel⟩
theorem ltX6_8 : zLt 6 8 false RX6 .int := ⟨(RX6, TX6, 9), rfl, rfl, rfl, by decide +kernel⟩
theorem ltX7_0 : zLt 7 0 true RX7 (.object "SandMarch$Land") := ⟨(RX7, TX7, 5), rfl, rfl, rfl, by decide +kernel⟩
theorem ltX7_1 : zLt 7 1 true RX7 (.object "SandMarch$Sand") := ⟨(RX7, TX7, 5), rfl, rfl, rfl, by decide +kernel⟩
theorem ltX7_2 : zLt 7 2 true RX7 (.array .int) := ⟨(RX7, TX7, 5), rfl, rfl, rfl, by decide +kernel⟩
theorem ltX7_3 : zLt 7 3 false RX7 .int := ⟨(RX7, TX7, 5), rfl, rfl, rfl, by decide +kernel⟩
theorem ltX7_4 : zLt 7 4 false RX7 .int := ⟨(RX7, TX7, 5), rfl, rfl, rfl, by decide +kernel⟩
theorem ltX8_0 : zLt 8 0 true RX8 (.array .int) := ⟨(RX8, TX8, 6), rfl, rfl, rfl, by decide +kernel⟩
theorem ltX8_1 : zLt 8 1 false RX8 .int := ⟨(RX8, TX8, 6), rfl, rfl, rfl, by decide +kernel⟩
theorem ltX8_2 : zLt 8 2 true RX8 (.array .int) := ⟨(RX8, TX8, 6), rfl, rfl, rfl, by decide +kernel⟩
theorem ltX8_3 : zLt 8 3 true RX8 (.array .int) := ⟨(RX8, TX8, 6), rfl, rfl, rfl, by decide +kernel⟩
theorem ltX8_4 : zLt 8 4 true RX8 (.array .int) := ⟨(RX8, TX8, 6), rfl, rfl, rfl, by decide +kernel⟩
theorem ltX8_5 : zLt 8 5 false RX8 .int := ⟨(RX8, TX8, 6), rfl, rfl, rfl, by decide +kernel⟩
theorem ltX9_0 : zLt 9 0 true RX9 (.object "SandMarch$Tape") := ⟨(RX9, TX9, 16), rfl, rfl, rfl, by decide +kernel⟩
theorem ltX9_1 : zLt 9 1 true RX9 (.object "SandMarch$Reader") := ⟨(RX9, TX9, 16), rfl, rfl, rfl, by decide +kernel⟩
theorem ltX9_2 : zLt 9 2 true RX9 (.object "SandMarch$Land") := ⟨(RX9, TX9, 16), rfl, rfl, rfl, by decide +kernel⟩
theorem ltX9_3 : zLt 9 3 true RX9 (.object "SandMarch$Sand") := ⟨(RX9, TX9, 16), rfl, rfl, rfl, by decide +kernel⟩
theorem ltX9_4 : zLt 9 4 true RX9 (.object "SandMarch$Sand") := ⟨(RX9, TX9, 16), rfl, rfl, rfl, by decide +kernel⟩
theorem ltX9_5 : zLt 9 5 true RX9 (.object "SandMarch$Sand") := ⟨(RX9, TX9, 16), rfl, rfl, rfl, by decide +kernel⟩
theorem ltX9_6 : zLt 9 6 true RX9 (.object "SandMarch$Storm") := ⟨(RX9, TX9, 16), rfl, rfl, rfl, by decide +kernel⟩
theorem ltX9_7 : zLt 9 7 true RX9 (.object "SandMarch$Storm") := ⟨(RX9, TX9, 16), rfl, rfl, rfl, by decide +kernel⟩
theorem ltX9_8 : zLt 9 8 true RX9 (.object "SandMarch$History") := ⟨(RX9, TX9, 16), rfl, rfl, rfl, by decide +kernel⟩
theorem ltX9_9 : zLt 9 9 true RX9 (.object "SandMarch$Sightings") := ⟨(RX9, TX9, 16), rfl, rfl, rfl, by decide +kernel⟩
theorem ltX9_10 : zLt 9 10 true RX9 (.object "SandMarch$Lumps") := ⟨(RX9, TX9, 16), rfl, rfl, rfl, by decide +kernel⟩
theorem ltX9_11 : zLt 9 11 true RX9 (.object "SandMarch$Lumps") := ⟨(RX9, TX9, 16), rfl, rfl, rfl, by decide +kernel⟩
theorem ltX9_12 : zLt 9 12 true RX9 (.array (.object "SandMarch$Sand")) := ⟨(RX9, TX9, 16), rfl, rfl, rfl, by decide +kernel⟩
theorem ltX9_13 : zLt 9 13 true RX9 (.array .boolean) := ⟨(RX9, TX9, 16), rfl, rfl, rfl, by decide +kernel⟩
theorem ltX9_14 : zLt 9 14 true RX9 (.array .int) := ⟨(RX9, TX9, 16), rfl, rfl, rfl, by decide +kernel⟩
theorem ltX9_15 : zLt 9 15 false RX9 .int := ⟨(RX9, TX9, 16), rfl, rfl, rfl, by decide +kernel⟩
theorem ltX10_0 : zLt 10 0 true RX10 (.array .int) := ⟨(RX10, TX10, 46), rfl, rfl, rfl, by decide +kernel⟩
theorem ltX10_1 : zLt 10 1 false RX10 .int := ⟨(RX10, TX10, 46), rfl, rfl, rfl, by decide +kernel⟩
theorem ltX10_2 : zLt 10 2 false RX10 .int := ⟨(RX10, TX10, 46), rfl, rfl, rfl, by decide +kernel⟩
theorem ltX10_3 : zLt 10 3 false RX10 .int := ⟨(RX10, TX10, 46), rfl, rfl, rfl, by decide +kernel⟩
theorem ltX10_4 : zLt 10 4 false RX10 .int := ⟨(RX10, TX10, 46), rfl, rfl, rfl, by decide +kernel⟩
theorem ltX10_5 : zLt 10 5 false RX10 .int := ⟨(RX10, TX10, 46), rfl, rfl, rfl, by decide +kernel⟩
theorem ltX10_6 : zLt 10 6 false RX10 .int := ⟨(RX10, TX10, 46), rfl, rfl, rfl, by decide +kernel⟩
theorem ltX10_7 : zLt 10 7 false RX10 .int := ⟨(RX10, TX10, 46), rfl, rfl, rfl, by decide +kernel⟩
theorem ltX10_8 : zLt 10 8 false RX10 .int := ⟨(RX10, TX10, 46), rfl, rfl, rfl, by decide +kernel⟩
theorem ltX10_9 : zLt 10 9 false RX10 .int := ⟨(RX10, TX10, 46), rfl, rfl, rfl, by decide +kernel⟩
theorem ltX10_10 : zLt 10 10 false RX10 .int := ⟨(RX10, TX10, 46), rfl, rfl, rfl, by decide +kernel⟩
theorem ltX10_11 : zLt 10 11 false RX10 .long := ⟨(RX10, TX10, 46), rfl, rfl, rfl, by decide +kernel⟩
theorem ltX10_12 : zLt 10 12 true RX10 (.array .int) := ⟨(RX10, TX10, 46), rfl, rfl, rfl, by decide +kernel⟩
theorem ltX10_13 : zLt 10 13 true RX10 (.array .int) := ⟨(RX10, TX10, 46), rfl, rfl, rfl, by decide +kernel⟩
theorem ltX10_14 : zLt 10 14 true RX10 (.array .int) := ⟨(RX10, TX10, 46), rfl, rfl, rfl, by decide +kernel⟩
theorem ltX10_15 : zLt 10 15 true RX10 (.array .int) := ⟨(RX10, TX10, 46), rfl, rfl, rfl, by decide +kernel⟩
theorem ltX10_16 : zLt 10 16 true RX10 (.array .int) := ⟨(RX10, TX10, 46), rfl, rfl, rfl, by decide +kernel⟩
theorem ltX10_17 : zLt 10 17 true RX10 (.array .int) := ⟨(RX10, TX10, 46), rfl, rfl, rfl, by decide +kernel⟩
theorem ltX10_18 : zLt 10 18 true RX10 (.array .boolean) := ⟨(RX10, TX10, 46), rfl, rfl, rfl, by decide +kernel⟩
theorem ltX10_19 : zLt 10 19 false RX10 .boolean := ⟨(RX10, TX10, 46), rfl, rfl, rfl, by decide +kernel⟩
theorem ltX10_20 : zLt 10 20 false RX10 .int := ⟨(RX10, TX10, 46), rfl, rfl, rfl, by decide +kernel⟩
theorem ltX10_21 : zLt 10 21 true RX10 (.array .int) := ⟨(RX10, TX10, 46), rfl, rfl, rfl, by decide +kernel⟩
theorem ltX10_22 : zLt 10 22 true RX10 (.array .int) := ⟨(RX10, TX10, 46), rfl, rfl, rfl, by decide +kernel⟩
theorem ltX10_23 : zLt 10 23 false RX10 .int := ⟨(RX10, TX10, 46), rfl, rfl, rfl, by decide +kernel⟩
theorem ltX10_24 : zLt 10 24 false RX10 .int := ⟨(RX10, TX10, 46), rfl, rfl, rfl, by decide +kernel⟩
theorem ltX10_25 : zLt 10 25 false RX10 .int := ⟨(RX10, TX10, 46), rfl, rfl, rfl, by decide +kernel⟩
theorem ltX10_26 : zLt 10 26 false RX10 .int := ⟨(RX10, TX10, 46), rfl, rfl, rfl, by decide +kernel⟩
theorem ltX10_27 : zLt 10 27 true RX10 (.array .int) := ⟨(RX10, TX10, 46), rfl, rfl, rfl, by decide +kernel⟩
theorem ltX10_28 : zLt 10 28 false RX10 .int := ⟨(RX10, TX10, 46), rfl, rfl, rfl, by decide +kernel⟩
theorem ltX10_29 : zLt 10 29 false RX10 .int := ⟨(RX10, TX10, 46), rfl, rfl, rfl, by decide +kernel⟩
theorem ltX10_30 : zLt 10 30 true RX10 (.array .int) := ⟨(RX10, TX10, 46), rfl, rfl, rfl, by decide +kernel⟩
theorem ltX10_31 : zLt 10 31 true RX10 (.array .int) := ⟨(RX10, TX10, 46), rfl, rfl, rfl, by decide +kernel⟩
theorem ltX10_32 : zLt 10 32 true RX10 (.array .int) := ⟨(RX10, TX10, 46), rfl, rfl, rfl, by decide +kernel⟩
theorem ltX10_33 : zLt 10 33 false RX10 .int := ⟨(RX10, TX10, 46), rfl, rfl, rfl, by decide +kernel⟩
theorem ltX10_34 : zLt 10 34 true RX10 (.array .int) := ⟨(RX10, TX10, 46), rfl, rfl, rfl, by decide +kernel⟩
theorem ltX10_35 : zLt 10 35 true RX10 (.array .boolean) := ⟨(RX10, TX10, 46), rfl, rfl, rfl, by decide +kernel⟩
theorem ltX10_36 : zLt 10 36 true RX10 (.array .int) := ⟨(RX10, TX10, 46), rfl, rfl, rfl, by decide +kernel⟩
theorem ltX10_37 : zLt 10 37 true RX10 (.array .int) := ⟨(RX10, TX10, 46), rfl, rfl, rfl, by decide +kernel⟩
theorem ltX10_38 : zLt 10 38 true RX10 (.array .int) := ⟨(RX10, TX10, 46), rfl, rfl, rfl, by decide +kernel⟩
theorem ltX10_39 : zLt 10 39 true RX10 (.array .int) := ⟨(RX10, TX10, 46), rfl, rfl, rfl, by decide +kernel⟩
theorem ltX10_40 : zLt 10 40 true RX10 (.array .int) := ⟨(RX10, TX10, 46), rfl, rfl, rfl, by decide +kernel⟩
theorem ltX10_41 : zLt 10 41 true RX10 (.array .int) := ⟨(RX10, TX10, 46), rfl, rfl, rfl, by decide +kernel⟩
theorem ltX10_42 : zLt 10 42 false RX10 .int := ⟨(RX10, TX10, 46), rfl, rfl, rfl, by decide +kernel⟩
theorem ltX10_43 : zLt 10 43 false RX10 .int := ⟨(RX10, TX10, 46), rfl, rfl, rfl, by decide +kernel⟩
theorem ltX10_44 : zLt 10 44 true RX10 (.array .boolean) := ⟨(RX10, TX10, 46), rfl, rfl, rfl, by decide +kernel⟩
theorem ltX10_45 : zLt 10 45 true RX10 (.array .int) := ⟨(RX10, TX10, 46), rfl, rfl, rfl, by decide +kernel⟩
end
section
def mX0_init : zD := (yX0_init, cX0_init, 1, none, 2, 43)
def mX0_clear : zD := (yX0_clear, cX0_clear, 1, none, 1, 23)
def mX0_isTold : zD := (yX0_isTold, cX0_isTold, 2, (some .boolean), 0, 0)
def mX0_setTold : zD := (yX0_setTold, cX0_setTold, 2, none, 0, 0)
def mX1_init : zD := (yX1_init, cX1_init, 2, none, 2, 40)
def mX1_forget : zD := (yX1_forget, cX1_forget, 2, none, 2, 47)
def mX1_add : zD := (yX1_add, cX1_add, 2, none, 2, 47)
def mX1_dropOldest : zD := (yX1_dropOldest, cX1_dropOldest, 3, none, 0, 0)
def mX1_goBack : zD := (yX1_goBack, cX1_goBack, 2, (some .boolean), 2, 47)
def mX1_goOn : zD := (yX1_goOn, cX1_goOn, 2, (some .boolean), 2, 47)
def mX2_init : zD := (yX2_init, cX2_init, 1, none, 1, 20)
def mX2_shape : zD := (yX2_shape, cX2_shape, 3, none, 2, 46)
def mX2_numberCells : zD := (yX2_numberCells, cX2_numberCells, 4, none, 0, 0)
def mX2_joinCells : zD := (yX2_joinCells, cX2_joinCells, 2, none, 1, 25)
def mX2_moved : zD := (yX2_moved, cX2_moved, 6, (some .int), 0, 0)
def mX2_has : zD := (yX2_has, cX2_has, 2, (some .boolean), 0, 0)
def mX2_neighbour : zD := (yX2_neighbour, cX2_neighbour, 3, (some .int), 0, 0)
def mX2_roundOf : zD := (yX2_roundOf, cX2_roundOf, 2, (some .int), 0, 0)
def mX2_windAt : zD := (yX2_windAt, cX2_windAt, 4, (some .int), 0, 0)
def mX3_init : zD := (yX3_init, cX3_init, 2, none, 1, 20)
def mX3_joinLevel : zD := (yX3_joinLevel, cX3_joinLevel, 4, none, 3, 69)
def mX3_joinCrests : zD := (yX3_joinCrests, cX3_joinCrests, 4, none, 3, 69)
def mX3_join : zD := (yX3_join, cX3_join, 3, none, 2, 47)
def mX3_spread : zD := (yX3_spread, cX3_spread, 6, none, 1, 22)
def mX3_reach : zD := (yX3_reach, cX3_reach, 2, none, 0, 0)
def mX3_firstCell : zD := (yX3_firstCell, cX3_firstCell, 3, (some .int), 0, 0)
def mX3_size : zD := (yX3_size, cX3_size, 4, (some .int), 0, 0)
def mX4_init : zD := (yX4_init, cX4_init, 2, none, 3, 63)
def mX4_read : zD := (yX4_read, cX4_read, 3, (some .boolean), 9, 197)
def mX4_kind : zD := (yX4_kind, cX4_kind, 1, (some .int), 0, 0)
def mX4_value : zD := (yX4_value, cX4_value, 1, (some .int), 0, 0)
def mX4_advance : zD := (yX4_advance, cX4_advance, 1, none, 1, 20)
def mX4_refuse : zD := (yX4_refuse, cX4_refuse, 3, none, 0, 0)
def mX4_refuseToken : zD := (yX4_refuseToken, cX4_refuseToken, 1, none, 1, 22)
def mX4_readLineWord : zD := (yX4_readLineWord, cX4_readLineWord, 3, (some .int), 2, 42)
def mX4_readRest : zD := (yX4_readRest, cX4_readRest, 2, none, 4, 89)
def mX4_readSize : zD := (yX4_readSize, cX4_readSize, 1, none, 3, 65)
def mX4_readHeap : zD := (yX4_readHeap, cX4_readHeap, 4, none, 3, 65)
def mX4_readGrass : zD := (yX4_readGrass, cX4_readGrass, 5, none, 3, 65)
def mX4_readWind : zD := (yX4_readWind, cX4_readWind, 3, none, 3, 65)
def mX4_readRule : zD := (yX4_readRule, cX4_readRule, 2, none, 3, 65)
def mX4_expect : zD := (yX4_expect, cX4_expect, 2, none, 2, 42)
def mX4_readNumber : zD := (yX4_readNumber, cX4_readNumber, 4, (some .int), 2, 42)
def mX5_init : zD := (yX5_init, cX5_init, 1, none, 1, 20)
def mX5_begin : zD := (yX5_begin, cX5_begin, 4, none, 1, 26)
def mX5_copy : zD := (yX5_copy, cX5_copy, 2, none, 1, 26)
def mX5_slabs : zD := (yX5_slabs, cX5_slabs, 3, (some .int), 0, 0)
def mX5_highest : zD := (yX5_highest, cX5_highest, 3, (some .int), 1, 21)
def mX5_bareCells : zD := (yX5_bareCells, cX5_bareCells, 4, (some .int), 0, 0)
def mX5_stickAt : zD := (yX5_stickAt, cX5_stickAt, 2, (some .int), 0, 0)
def mX5_drawOf : zD := (yX5_drawOf, cX5_drawOf, 2, (some .int), 0, 0)
def mX6_init : zD := (yX6_init, cX6_init, 5, none, 1, 20)
def mX6_tell : zD := (yX6_tell, cX6_tell, 4, (some .int), 0, 0)
def mX6_takeBack : zD := (yX6_takeBack, cX6_takeBack, 3, (some .boolean), 0, 0)
def mX6_seedsFor : zD := (yX6_seedsFor, cX6_seedsFor, 8, (some .long), 5, 118)
def mX6_fitting : zD := (yX6_fitting, cX6_fitting, 6, (some .long), 0, 0)
def mX6_survey : zD := (yX6_survey, cX6_survey, 5, none, 5, 118)
def mX6_mostAlike : zD := (yX6_mostAlike, cX6_mostAlike, 6, (some .int), 2, 48)
def mX6_alike : zD := (yX6_alike, cX6_alike, 7, (some .int), 1, 22)
def mX6_holds : zD := (yX6_holds, cX6_holds, 3, (some .boolean), 0, 0)
def mX7_init : zD := (yX7_init, cX7_init, 3, none, 1, 20)
def mX7_startFrom : zD := (yX7_startFrom, cX7_startFrom, 3, none, 2, 47)
def mX7_blowOn : zD := (yX7_blowOn, cX7_blowOn, 4, (some .int), 4, 95)
def mX7_tryOnce : zD := (yX7_tryOnce, cX7_tryOnce, 3, (some .boolean), 3, 73)
def mX7_yields : zD := (yX7_yields, cX7_yields, 3, (some .boolean), 2, 49)
def mX7_carry : zD := (yX7_carry, cX7_carry, 5, (some .int), 2, 49)
def mX7_hopOn : zD := (yX7_hopOn, cX7_hopOn, 6, (some .int), 1, 23)
def mX7_shaded : zD := (yX7_shaded, cX7_shaded, 8, (some .boolean), 1, 22)
def mX7_isCrest : zD := (yX7_isCrest, cX7_isCrest, 4, (some .boolean), 1, 22)
def mX7_lift : zD := (yX7_lift, cX7_lift, 6, none, 2, 47)
def mX7_drop : zD := (yX7_drop, cX7_drop, 5, none, 2, 47)
def mX7_settle : zD := (yX7_settle, cX7_settle, 3, none, 3, 68)
def mX7_firstSteep : zD := (yX7_firstSteep, cX7_firstSteep, 2, (some .int), 2, 47)
def mX7_wayUp : zD := (yX7_wayUp, cX7_wayUp, 6, (some .int), 1, 22)
def mX7_wayDown : zD := (yX7_wayDown, cX7_wayDown, 6, (some .int), 1, 22)
def mX7_slide : zD := (yX7_slide, cX7_slide, 4, none, 1, 23)
def mX7_cross : zD := (yX7_cross, cX7_cross, 4, none, 0, 0)
def mX8_init : zD := (yX8_init, cX8_init, 1, none, 1, 20)
def mX8_append : zD := (yX8_append, cX8_append, 3, none, 0, 0)
def mX8_scan : zD := (yX8_scan, cX8_scan, 2, none, 8, 176)
def mX8_scanToken : zD := (yX8_scanToken, cX8_scanToken, 3, none, 7, 154)
def mX8_scanWord : zD := (yX8_scanWord, cX8_scanWord, 3, none, 6, 132)
def mX8_scanNumber : zD := (yX8_scanNumber, cX8_scanNumber, 6, none, 1, 20)
def mX8_wordNumber : zD := (yX8_wordNumber, cX8_wordNumber, 7, (some .int), 5, 106)
def mX8_isBlank : zD := (yX8_isBlank, cX8_isBlank, 1, (some .boolean), 0, 0)
def mX8_isLetter : zD := (yX8_isLetter, cX8_isLetter, 1, (some .boolean), 0, 0)
def mX8_isDigit : zD := (yX8_isDigit, cX8_isDigit, 1, (some .boolean), 0, 0)
def mX9_init : zD := (yX9_init, cX9_init, 2, none, 5, 112)
def mX9_feed : zD := (yX9_feed, cX9_feed, 6, (some .int), 1, 22)
def mX9_end : zD := (yX9_end, cX9_end, 2, (some .int), 0, 0)
def mX9_field : zD := (yX9_field, cX9_field, 2, (some .int), 10, 219)
def mX9_fault : zD := (yX9_fault, cX9_fault, 2, (some .int), 0, 0)
def mX9_adopt : zD := (yX9_adopt, cX9_adopt, 3, none, 4, 90)
def mX9_cell : zD := (yX9_cell, cX9_cell, 3, (some .int), 2, 49)
def mX9_beside : zD := (yX9_beside, cX9_beside, 3, (some .int), 1, 22)
def mX9_wind : zD := (yX9_wind, cX9_wind, 2, (some .int), 1, 23)
def mX9_windNow : zD := (yX9_windNow, cX9_windNow, 1, (some .int), 1, 23)
def mX9_steepness : zD := (yX9_steepness, cX9_steepness, 5, (some .int), 1, 22)
def mX9_blow : zD := (yX9_blow, cX9_blow, 3, (some .int), 5, 118)
def mX9_put : zD := (yX9_put, cX9_put, 4, (some .int), 3, 71)
def mX9_take : zD := (yX9_take, cX9_take, 2, (some .int), 3, 72)
def mX9_sow : zD := (yX9_sow, cX9_sow, 3, (some .int), 3, 68)
def mX9_turn : zD := (yX9_turn, cX9_turn, 4, (some .int), 3, 68)
def mX9_undo : zD := (yX9_undo, cX9_undo, 1, (some .boolean), 3, 68)
def mX9_redo : zD := (yX9_redo, cX9_redo, 1, (some .boolean), 3, 68)
def mX9_grassy : zD := (yX9_grassy, cX9_grassy, 3, (some .int), 0, 0)
def mX9_all : zD := (yX9_all, cX9_all, 2, (some .int), 4, 94)
def mX9_shadedCells : zD := (yX9_shadedCells, cX9_shadedCells, 4, (some .int), 2, 49)
def mX9_greatestDifference : zD := (yX9_greatestDifference, cX9_greatestDifference, 3, (some .int), 2, 46)
def mX9_allDifferences : zD := (yX9_allDifferences, cX9_allDifferences, 4, (some .int), 1, 22)
def mX9_yieldingCells : zD := (yX9_yieldingCells, cX9_yieldingCells, 4, (some .int), 3, 71)
def mX9_skyline : zD := (yX9_skyline, cX9_skyline, 8, (some .int), 1, 21)
def mX9_lands : zD := (yX9_lands, cX9_lands, 15, (some .long), 3, 72)
def mX9_lowestTerms : zD := (yX9_lowestTerms, cX9_lowestTerms, 10, (some .long), 0, 0)
def mX9_dunes : zD := (yX9_dunes, cX9_dunes, 2, (some .int), 4, 92)
def mX9_dune : zD := (yX9_dune, cX9_dune, 4, (some .int), 4, 92)
def mX9_duneOf : zD := (yX9_duneOf, cX9_duneOf, 3, (some .int), 4, 92)
def mX9_slabsOf : zD := (yX9_slabsOf, cX9_slabsOf, 4, (some .int), 0, 0)
def mX9_peakOf : zD := (yX9_peakOf, cX9_peakOf, 5, (some .int), 0, 0)
def mX9_linesOf : zD := (yX9_linesOf, cX9_linesOf, 5, (some .int), 1, 23)
def mX9_parts : zD := (yX9_parts, cX9_parts, 5, (some .int), 4, 92)
def mX9_leastFrom : zD := (yX9_leastFrom, cX9_leastFrom, 5, (some .int), 0, 0)
def mX9_saddle : zD := (yX9_saddle, cX9_saddle, 5, (some .int), 4, 92)
def mX9_greatestBelow : zD := (yX9_greatestBelow, cX9_greatestBelow, 5, (some .int), 1, 21)
def mX9_crests : zD := (yX9_crests, cX9_crests, 6, (some .int), 4, 92)
def mX9_follows : zD := (yX9_follows, cX9_follows, 7, (some .int), 5, 114)
def mX9_fates : zD := (yX9_fates, cX9_fates, 4, (some .int), 5, 114)
def mX9_isKept : zD := (yX9_isKept, cX9_isKept, 2, (some .boolean), 0, 0)
def mX9_joinBoth : zD := (yX9_joinBoth, cX9_joinBoth, 3, none, 4, 92)
def mX9_meetingMany : zD := (yX9_meetingMany, cX9_meetingMany, 8, (some .int), 1, 23)
def mX9_meetingNone : zD := (yX9_meetingNone, cX9_meetingNone, 6, (some .int), 1, 23)
def mX9_shift : zD := (yX9_shift, cX9_shift, 9, (some .int), 2, 51)
def mX9_overlap : zD := (yX9_overlap, cX9_overlap, 7, (some .int), 1, 25)
def mX9_would : zD := (yX9_would, cX9_would, 3, (some .int), 6, 140)
def mX9_next : zD := (yX9_next, cX9_next, 4, (some .int), 6, 140)
def mX9_flux : zD := (yX9_flux, cX9_flux, 3, (some .int), 6, 140)
def mX9_game : zD := (yX9_game, cX9_game, 5, (some .int), 6, 140)
def mX9_tallest : zD := (yX9_tallest, cX9_tallest, 7, (some .int), 6, 140)
def mX9_runTrial : zD := (yX9_runTrial, cX9_runTrial, 3, (some .int), 5, 118)
def mX9_seen : zD := (yX9_seen, cX9_seen, 5, (some .int), 6, 145)
def mX9_untell : zD := (yX9_untell, cX9_untell, 2, (some .boolean), 1, 22)
def mX9_later : zD := (yX9_later, cX9_later, 2, (some .int), 0, 0)
def mX9_fits : zD := (yX9_fits, cX9_fits, 2, (some .int), 1, 25)
def mX9_fit : zD := (yX9_fit, cX9_fit, 7, (some .int), 1, 25)
def mX9_ask : zD := (yX9_ask, cX9_ask, 10, (some .int), 6, 142)
def mX9_image : zD := (yX9_image, cX9_image, 2, (some .int), 2, 47)
def mX9_back : zD := (yX9_back, cX9_back, 2, (some .int), 3, 68)
def mX9_about : zD := (yX9_about, cX9_about, 2, (some .int), 1, 22)
def mX10_init : zD := (yX10_init, cX10_init, 1, none, 6, 137)
def mX10_isIn : zD := (yX10_isIn, cX10_isIn, 3, (some .boolean), 0, 0)
def mX10_greater : zD := (yX10_greater, cX10_greater, 2, (some .int), 0, 0)
def mX10_lesser : zD := (yX10_lesser, cX10_lesser, 2, (some .int), 0, 0)
def mX10_truth : zD := (yX10_truth, cX10_truth, 1, (some .int), 0, 0)
def mX10_off : zD := (yX10_off, cX10_off, 2, (some .int), 0, 0)
def mX10_feed : zD := (yX10_feed, cX10_feed, 6, (some .int), 1, 22)
def mX10_four : zD := (yX10_four, cX10_four, 3, none, 0, 0)
def mX10_end : zD := (yX10_end, cX10_end, 2, (some .int), 1, 22)
def mX10_here : zD := (yX10_here, cX10_here, 2, (some .int), 0, 0)
def mX10_isLetter : zD := (yX10_isLetter, cX10_isLetter, 1, (some .boolean), 0, 0)
def mX10_isDigit : zD := (yX10_isDigit, cX10_isDigit, 1, (some .boolean), 0, 0)
def mX10_goOn : zD := (yX10_goOn, cX10_goOn, 2, none, 1, 21)
def mX10_wrong : zD := (yX10_wrong, cX10_wrong, 2, none, 0, 0)
def mX10_isGood : zD := (yX10_isGood, cX10_isGood, 1, (some .boolean), 0, 0)
def mX10_isWord : zD := (yX10_isWord, cX10_isWord, 3, (some .boolean), 0, 0)
def mX10_numberHere : zD := (yX10_numberHere, cX10_numberHere, 3, (some .int), 1, 22)
def mX10_number : zD := (yX10_number, cX10_number, 4, (some .int), 2, 44)
def mX10_begins : zD := (yX10_begins, cX10_begins, 2, none, 0, 0)
def mX10_once : zD := (yX10_once, cX10_once, 2, (some .boolean), 2, 42)
def mX10_sizeLine : zD := (yX10_sizeLine, cX10_sizeLine, 3, none, 3, 67)
def mX10_simple : zD := (yX10_simple, cX10_simple, 6, none, 3, 67)
def mX10_heapLine : zD := (yX10_heapLine, cX10_heapLine, 4, none, 3, 67)
def mX10_grassLine : zD := (yX10_grassLine, cX10_grassLine, 3, none, 3, 67)
def mX10_wayHere : zD := (yX10_wayHere, cX10_wayHere, 1, (some .int), 1, 22)
def mX10_windLine : zD := (yX10_windLine, cX10_windLine, 2, none, 3, 67)
def mX10_stickLine : zD := (yX10_stickLine, cX10_stickLine, 1, none, 3, 67)
def mX10_otherLine : zD := (yX10_otherLine, cX10_otherLine, 1, none, 4, 92)
def mX10_takesHalf : zD := (yX10_takesHalf, cX10_takesHalf, 3, none, 0, 0)
def mX10_takesOver : zD := (yX10_takesOver, cX10_takesOver, 2, none, 5, 116)
def mX10_asTold : zD := (yX10_asTold, cX10_asTold, 3, none, 0, 0)
def mX10_field : zD := (yX10_field, cX10_field, 1, (some .int), 6, 137)
def mX10_fault : zD := (yX10_fault, cX10_fault, 2, (some .int), 0, 0)
def mX10_columns : zD := (yX10_columns, cX10_columns, 1, (some .int), 0, 0)
def mX10_rows : zD := (yX10_rows, cX10_rows, 1, (some .int), 0, 0)
def mX10_cells : zD := (yX10_cells, cX10_cells, 1, (some .int), 1, 20)
def mX10_isCell : zD := (yX10_isCell, cX10_isCell, 2, (some .boolean), 2, 40)
def mX10_goesOn : zD := (yX10_goesOn, cX10_goesOn, 2, none, 0, 0)
def mX10_keepsRow : zD := (yX10_keepsRow, cX10_keepsRow, 2, none, 0, 0)
def mX10_along : zD := (yX10_along, cX10_along, 6, (some .int), 1, 20)
def mX10_roundOf : zD := (yX10_roundOf, cX10_roundOf, 2, (some .int), 1, 20)
def mX10_against : zD := (yX10_against, cX10_against, 1, (some .int), 0, 0)
def mX10_windOf : zD := (yX10_windOf, cX10_windOf, 5, (some .int), 0, 0)
def mX10_windNow : zD := (yX10_windNow, cX10_windNow, 1, (some .int), 1, 24)
def mX10_isShadow : zD := (yX10_isShadow, cX10_isShadow, 4, (some .boolean), 2, 45)
def mX10_gives : zD := (yX10_gives, cX10_gives, 2, (some .boolean), 3, 68)
def mX10_wayTo : zD := (yX10_wayTo, cX10_wayTo, 7, (some .int), 2, 45)
def mX10_slides : zD := (yX10_slides, cX10_slides, 3, none, 3, 71)
def mX10_crosses : zD := (yX10_crosses, cX10_crosses, 7, none, 2, 45)
def mX10_fills : zD := (yX10_fills, cX10_fills, 6, none, 4, 93)
def mX10_spills : zD := (yX10_spills, cX10_spills, 6, none, 4, 93)
def mX10_settles : zD := (yX10_settles, cX10_settles, 4, none, 4, 93)
def mX10_draw : zD := (yX10_draw, cX10_draw, 2, (some .int), 0, 0)
def mX10_flies : zD := (yX10_flies, cX10_flies, 6, (some .int), 3, 71)
def mX10_tries : zD := (yX10_tries, cX10_tries, 4, (some .boolean), 5, 118)
def mX10_blows : zD := (yX10_blows, cX10_blows, 4, (some .int), 6, 141)
def mX10_act : zD := (yX10_act, cX10_act, 2, none, 0, 0)
def mX10_exchanges : zD := (yX10_exchanges, cX10_exchanges, 4, none, 0, 0)
def mX10_undo : zD := (yX10_undo, cX10_undo, 1, (some .boolean), 1, 23)
def mX10_redo : zD := (yX10_redo, cX10_redo, 1, (some .boolean), 1, 23)
def mX10_blow : zD := (yX10_blow, cX10_blow, 3, (some .int), 7, 164)
def mX10_put : zD := (yX10_put, cX10_put, 4, (some .int), 5, 118)
def mX10_take : zD := (yX10_take, cX10_take, 2, (some .int), 5, 118)
def mX10_sownMany : zD := (yX10_sownMany, cX10_sownMany, 3, (some .int), 2, 40)
def mX10_sow : zD := (yX10_sow, cX10_sow, 3, (some .int), 3, 62)
def mX10_isRule : zD := (yX10_isRule, cX10_isRule, 2, (some .boolean), 1, 22)
def mX10_turn : zD := (yX10_turn, cX10_turn, 4, (some .int), 2, 43)
def mX10_lowestBeside : zD := (yX10_lowestBeside, cX10_lowestBeside, 2, (some .int), 3, 71)
def mX10_isCrest : zD := (yX10_isCrest, cX10_isCrest, 3, (some .boolean), 2, 45)
def mX10_cell : zD := (yX10_cell, cX10_cell, 3, (some .int), 4, 92)
def mX10_beside : zD := (yX10_beside, cX10_beside, 3, (some .int), 3, 61)
def mX10_wind : zD := (yX10_wind, cX10_wind, 2, (some .int), 1, 24)
def mX10_slabs : zD := (yX10_slabs, cX10_slabs, 3, (some .int), 2, 40)
def mX10_highest : zD := (yX10_highest, cX10_highest, 3, (some .int), 2, 40)
def mX10_bare : zD := (yX10_bare, cX10_bare, 3, (some .int), 2, 40)
def mX10_steepest : zD := (yX10_steepest, cX10_steepest, 4, (some .int), 2, 45)
def mX10_rough : zD := (yX10_rough, cX10_rough, 4, (some .int), 2, 45)
def mX10_shadows : zD := (yX10_shadows, cX10_shadows, 3, (some .int), 3, 68)
def mX10_givers : zD := (yX10_givers, cX10_givers, 3, (some .int), 4, 89)
def mX10_all : zD := (yX10_all, cX10_all, 2, (some .int), 5, 111)
def mX10_skyline : zD := (yX10_skyline, cX10_skyline, 5, (some .int), 2, 40)
def mX10_common : zD := (yX10_common, cX10_common, 10, (some .long), 0, 0)
def mX10_lands : zD := (yX10_lands, cX10_lands, 15, (some .long), 5, 118)
def mX10_piles : zD := (yX10_piles, cX10_piles, 4, none, 0, 0)
def mX10_laysDunes : zD := (yX10_laysDunes, cX10_laysDunes, 10, (some .int), 2, 45)
def mX10_dunesNow : zD := (yX10_dunesNow, cX10_dunesNow, 2, (some .int), 3, 74)
def mX10_dunes : zD := (yX10_dunes, cX10_dunes, 2, (some .int), 4, 95)
def mX10_hasIn : zD := (yX10_hasIn, cX10_hasIn, 5, (some .boolean), 2, 40)
def mX10_spanOf : zD := (yX10_spanOf, cX10_spanOf, 5, (some .int), 3, 64)
def mX10_dune : zD := (yX10_dune, cX10_dune, 9, (some .int), 4, 95)
def mX10_duneOf : zD := (yX10_duneOf, cX10_duneOf, 4, (some .int), 4, 95)
def mX10_parts : zD := (yX10_parts, cX10_parts, 4, (some .int), 4, 95)
def mX10_areOne : zD := (yX10_areOne, cX10_areOne, 5, (some .boolean), 4, 95)
def mX10_saddle : zD := (yX10_saddle, cX10_saddle, 4, (some .int), 5, 119)
def mX10_sidled : zD := (yX10_sidled, cX10_sidled, 4, (some .int), 2, 45)
def mX10_laysCrests : zD := (yX10_laysCrests, cX10_laysCrests, 6, (some .int), 3, 68)
def mX10_crests : zD := (yX10_crests, cX10_crests, 9, (some .int), 4, 93)
def mX10_isBox : zD := (yX10_isBox, cX10_isBox, 2, (some .boolean), 1, 22)
def mX10_isKept : zD := (yX10_isKept, cX10_isKept, 2, (some .boolean), 2, 43)
def mX10_inCommon : zD := (yX10_inCommon, cX10_inCommon, 5, (some .int), 2, 40)
def mX10_follows : zD := (yX10_follows, cX10_follows, 9, (some .int), 4, 95)
def mX10_meets : zD := (yX10_meets, cX10_meets, 6, (some .int), 3, 64)
def mX10_fates : zD := (yX10_fates, cX10_fates, 10, (some .int), 4, 95)
def mX10_overlap : zD := (yX10_overlap, cX10_overlap, 6, (some .int), 3, 68)
def mX10_shift : zD := (yX10_shift, cX10_shift, 8, (some .int), 4, 93)
def mX10_would : zD := (yX10_would, cX10_would, 4, (some .int), 7, 164)
def mX10_next : zD := (yX10_next, cX10_next, 4, (some .int), 7, 164)
def mX10_flux : zD := (yX10_flux, cX10_flux, 4, (some .int), 7, 164)
def mX10_game : zD := (yX10_game, cX10_game, 5, (some .int), 7, 164)
def mX10_tallest : zD := (yX10_tallest, cX10_tallest, 7, (some .int), 8, 188)
def mX10_seen : zD := (yX10_seen, cX10_seen, 5, (some .int), 3, 61)
def mX10_untell : zD := (yX10_untell, cX10_untell, 2, (some .boolean), 1, 22)
def mX10_later : zD := (yX10_later, cX10_later, 2, (some .int), 1, 22)
def mX10_doesCount : zD := (yX10_doesCount, cX10_doesCount, 3, (some .boolean), 0, 0)
def mX10_isSoAfter : zD := (yX10_isSoAfter, cX10_isSoAfter, 4, (some .boolean), 1, 22)
def mX10_lastSeen : zD := (yX10_lastSeen, cX10_lastSeen, 4, (some .int), 1, 22)
def mX10_fitsBy : zD := (yX10_fitsBy, cX10_fitsBy, 7, (some .boolean), 6, 141)
def mX10_laysFits : zD := (yX10_laysFits, cX10_laysFits, 4, (some .int), 7, 167)
def mX10_fits : zD := (yX10_fits, cX10_fits, 2, (some .int), 8, 190)
def mX10_fit : zD := (yX10_fit, cX10_fit, 6, (some .int), 8, 190)
def mX10_leftBy : zD := (yX10_leftBy, cX10_leftBy, 6, (some .int), 1, 21)
def mX10_ask : zD := (yX10_ask, cX10_ask, 8, (some .int), 8, 190)
def mX10_image : zD := (yX10_image, cX10_image, 3, (some .int), 6, 132)
def mX10_back : zD := (yX10_back, cX10_back, 3, (some .int), 6, 132)
def mX10_roundTries : zD := (yX10_roundTries, cX10_roundTries, 3, (some .int), 0, 0)
def mX10_about : zD := (yX10_about, cX10_about, 2, (some .int), 3, 62)
def mJ13_bitCount_95d88 : zD := (yJ13_bitCount_95d88, cJ13_bitCount_95d88, 2, (some .int), 0, 0)
def mJ7_fill_53178 : zD := (yJ7_fill_53178, cJ7_fill_53178, 4, none, 0, 0)
def mJ3_checkIndex_8e157 : zD := (yJ3_checkIndex_8e157, cJ3_checkIndex_8e157, 3, (some .int), 0, 0)
theorem bX0_init : Cond.initialized (mX0_init).1.cls ∈ zt ∧ Cond.code (mX0_init).1 (mX0_init).2.1 (mX0_init).2.2.1 (mX0_init).2.2.2.1 ∈ zt ∧ ((mX0_init).1.cls ≠ "java/lang/invoke/MethodHandle" ∧ (mX0_init).1.cls ≠ "java/lang/invoke/VarHandle" ∧ (parseMethodDescriptor (mX0_init).1.desc).map (fun d => d.parameters.length) = some 0) := ⟨zc1 4 (by decide +kernel) rfl, zc1 68 (by decide +kernel) rfl, by decide +kernel⟩
theorem bX0_clear : Cond.initialized (mX0_clear).1.cls ∈ zt ∧ Cond.code (mX0_clear).1 (mX0_clear).2.1 (mX0_clear).2.2.1 (mX0_clear).2.2.2.1 ∈ zt ∧ ((mX0_clear).1.cls ≠ "java/lang/invoke/MethodHandle" ∧ (mX0_clear).1.cls ≠ "java/lang/invoke/VarHandle" ∧ (parseMethodDescriptor (mX0_clear).1.desc).map (fun d => d.parameters.length) = some 0) := ⟨zc1 4 (by decide +kernel) rfl, zc1 73 (by decide +kernel) rfl, by decide +kernel⟩
theorem bX0_isTold : Cond.initialized (mX0_isTold).1.cls ∈ zt ∧ Cond.code (mX0_isTold).1 (mX0_isTold).2.1 (mX0_isTold).2.2.1 (mX0_isTold).2.2.2.1 ∈ zt ∧ ((mX0_isTold).1.cls ≠ "java/lang/invoke/MethodHandle" ∧ (mX0_isTold).1.cls ≠ "java/lang/invoke/VarHandle" ∧ (parseMethodDescriptor (mX0_isTold).1.desc).map (fun d => d.parameters.length) = some 1) := ⟨zc1 4 (by decide +kernel) rfl, zc3 108 (by decide +kernel) rfl, by decide +kernel⟩
theorem bX0_setTold : Cond.initialized (mX0_setTold).1.cls ∈ zt ∧ Cond.code (mX0_setTold).1 (mX0_setTold).2.1 (mX0_setTold).2.2.1 (mX0_setTold).2.2.2.1 ∈ zt ∧ ((mX0_setTold).1.cls ≠ "java/lang/invoke/MethodHandle" ∧ (mX0_setTold).1.cls ≠ "java/lang/invoke/VarHandle" ∧ (parseMethodDescriptor (mX0_setTold).1.desc).map (fun d => d.parameters.length) = some 1) := ⟨zc1 4 (by decide +kernel) rfl, zc3 116 (by decide +kernel) rfl, by decide +kernel⟩
theorem bX1_init : Cond.initialized (mX1_init).1.cls ∈ zt ∧ Cond.code (mX1_init).1 (mX1_init).2.1 (mX1_init).2.2.1 (mX1_init).2.2.2.1 ∈ zt ∧ ((mX1_init).1.cls ≠ "java/lang/invoke/MethodHandle" ∧ (mX1_init).1.cls ≠ "java/lang/invoke/VarHandle" ∧ (parseMethodDescriptor (mX1_init).1.desc).map (fun d => d.parameters.length) = some 0) := ⟨zc1 9 (by decide +kernel) rfl, zc2 35 (by decide +kernel) rfl, by decide +kernel⟩
theorem bX1_forget : Cond.initialized (mX1_forget).1.cls ∈ zt ∧ Cond.code (mX1_forget).1 (mX1_forget).2.1 (mX1_forget).2.2.1 (mX1_forget).2.2.2.1 ∈ zt ∧ ((mX1_forget).1.cls ≠ "java/lang/invoke/MethodHandle" ∧ (mX1_forget).1.cls ≠ "java/lang/invoke/VarHandle" ∧ (parseMethodDescriptor (mX1_forget).1.desc).map (fun d => d.parameters.length) = some 1) := ⟨zc1 9 (by decide +kernel) rfl, zc2 175 (by decide +kernel) rfl, by decide +kernel⟩
theorem bX1_add : Cond.initialized (mX1_add).1.cls ∈ zt ∧ Cond.code (mX1_add).1 (mX1_add).2.1 (mX1_add).2.2.1 (mX1_add).2.2.2.1 ∈ zt ∧ ((mX1_add).1.cls ≠ "java/lang/invoke/MethodHandle" ∧ (mX1_add).1.cls ≠ "java/lang/invoke/VarHandle" ∧ (parseMethodDescriptor (mX1_add).1.desc).map (fun d => d.parameters.length) = some 1) := ⟨zc1 9 (by decide +kernel) rfl, zc4 11 (by decide +kernel) rfl, by decide +kernel⟩
theorem bX1_dropOldest : Cond.initialized (mX1_dropOldest).1.cls ∈ zt ∧ Cond.code (mX1_dropOldest).1 (mX1_dropOldest).2.1 (mX1_dropOldest).2.2.1 (mX1_dropOldest).2.2.2.1 ∈ zt ∧ ((mX1_dropOldest).1.cls ≠ "java/lang/invoke/MethodHandle" ∧ (mX1_dropOldest).1.cls ≠ "java/lang/invoke/VarHandle" ∧ (parseMethodDescriptor (mX1_dropOldest).1.desc).map (fun d => d.parameters.length) = some 0) := ⟨zc1 9 (by decide +kernel) rfl, zc4 15 (by decide +kernel) rfl, by decide +kernel⟩
theorem bX1_goBack : Cond.initialized (mX1_goBack).1.cls ∈ zt ∧ Cond.code (mX1_goBack).1 (mX1_goBack).2.1 (mX1_goBack).2.2.1 (mX1_goBack).2.2.2.1 ∈ zt ∧ ((mX1_goBack).1.cls ≠ "java/lang/invoke/MethodHandle" ∧ (mX1_goBack).1.cls ≠ "java/lang/invoke/VarHandle" ∧ (parseMethodDescriptor (mX1_goBack).1.desc).map (fun d => d.parameters.length) = some 1) := ⟨zc1 9 (by decide +kernel) rfl, zc4 47 (by decide +kernel) rfl, by decide +kernel⟩
theorem bX1_goOn : Cond.initialized (mX1_goOn).1.cls ∈ zt ∧ Cond.code (mX1_goOn).1 (mX1_goOn).2.1 (mX1_goOn).2.2.1 (mX1_goOn).2.2.2.1 ∈ zt ∧ ((mX1_goOn).1.cls ≠ "java/lang/invoke/MethodHandle" ∧ (mX1_goOn).1.cls ≠ "java/lang/invoke/VarHandle" ∧ (parseMethodDescriptor (mX1_goOn).1.desc).map (fun d => d.parameters.length) = some 1) := ⟨zc1 9 (by decide +kernel) rfl, zc4 55 (by decide +kernel) rfl, by decide +kernel⟩
theorem bX2_init : Cond.initialized (mX2_init).1.cls ∈ zt ∧ Cond.code (mX2_init).1 (mX2_init).2.1 (mX2_init).2.2.1 (mX2_init).2.2.2.1 ∈ zt ∧ ((mX2_init).1.cls ≠ "java/lang/invoke/MethodHandle" ∧ (mX2_init).1.cls ≠ "java/lang/invoke/VarHandle" ∧ (parseMethodDescriptor (mX2_init).1.desc).map (fun d => d.parameters.length) = some 0) := ⟨zc1 6 (by decide +kernel) rfl, zc1 165 (by decide +kernel) rfl, by decide +kernel⟩
theorem bX2_shape : Cond.initialized (mX2_shape).1.cls ∈ zt ∧ Cond.code (mX2_shape).1 (mX2_shape).2.1 (mX2_shape).2.2.1 (mX2_shape).2.2.2.1 ∈ zt ∧ ((mX2_shape).1.cls ≠ "java/lang/invoke/MethodHandle" ∧ (mX2_shape).1.cls ≠ "java/lang/invoke/VarHandle" ∧ (parseMethodDescriptor (mX2_shape).1.desc).map (fun d => d.parameters.length) = some 1) := ⟨zc1 6 (by decide +kernel) rfl, zc2 123 (by decide +kernel) rfl, by decide +kernel⟩
theorem bX2_numberCells : Cond.initialized (mX2_numberCells).1.cls ∈ zt ∧ Cond.code (mX2_numberCells).1 (mX2_numberCells).2.1 (mX2_numberCells).2.2.1 (mX2_numberCells).2.2.2.1 ∈ zt ∧ ((mX2_numberCells).1.cls ≠ "java/lang/invoke/MethodHandle" ∧ (mX2_numberCells).1.cls ≠ "java/lang/invoke/VarHandle" ∧ (parseMethodDescriptor (mX2_numberCells).1.desc).map (fun d => d.parameters.length) = some 0) := ⟨zc1 6 (by decide +kernel) rfl, zc2 127 (by decide +kernel) rfl, by decide +kernel⟩
theorem bX2_joinCells : Cond.initialized (mX2_joinCells).1.cls ∈ zt ∧ Cond.code (mX2_joinCells).1 (mX2_joinCells).2.1 (mX2_joinCells).2.2.1 (mX2_joinCells).2.2.2.1 ∈ zt ∧ ((mX2_joinCells).1.cls ≠ "java/lang/invoke/MethodHandle" ∧ (mX2_joinCells).1.cls ≠ "java/lang/invoke/VarHandle" ∧ (parseMethodDescriptor (mX2_joinCells).1.desc).map (fun d => d.parameters.length) = some 0) := ⟨zc1 6 (by decide +kernel) rfl, zc2 131 (by decide +kernel) rfl, by decide +kernel⟩
theorem bX2_moved : Cond.initialized (mX2_moved).1.cls ∈ zt ∧ Cond.code (mX2_moved).1 (mX2_moved).2.1 (mX2_moved).2.2.1 (mX2_moved).2.2.2.1 ∈ zt ∧ ((mX2_moved).1.cls ≠ "java/lang/invoke/MethodHandle" ∧ (mX2_moved).1.cls ≠ "java/lang/invoke/VarHandle" ∧ (parseMethodDescriptor (mX2_moved).1.desc).map (fun d => d.parameters.length) = some 3) := ⟨zc1 6 (by decide +kernel) rfl, zc2 135 (by decide +kernel) rfl, by decide +kernel⟩
theorem bX2_has : Cond.initialized (mX2_has).1.cls ∈ zt ∧ Cond.code (mX2_has).1 (mX2_has).2.1 (mX2_has).2.2.1 (mX2_has).2.2.2.1 ∈ zt ∧ ((mX2_has).1.cls ≠ "java/lang/invoke/MethodHandle" ∧ (mX2_has).1.cls ≠ "java/lang/invoke/VarHandle" ∧ (parseMethodDescriptor (mX2_has).1.desc).map (fun d => d.parameters.length) = some 1) := ⟨zc1 6 (by decide +kernel) rfl, zc3 165 (by decide +kernel) rfl, by decide +kernel⟩
theorem bX2_neighbour : Cond.initialized (mX2_neighbour).1.cls ∈ zt ∧ Cond.code (mX2_neighbour).1 (mX2_neighbour).2.1 (mX2_neighbour).2.2.1 (mX2_neighbour).2.2.2.1 ∈ zt ∧ ((mX2_neighbour).1.cls ≠ "java/lang/invoke/MethodHandle" ∧ (mX2_neighbour).1.cls ≠ "java/lang/invoke/VarHandle" ∧ (parseMethodDescriptor (mX2_neighbour).1.desc).map (fun d => d.parameters.length) = some 2) := ⟨zc1 6 (by decide +kernel) rfl, zc2 159 (by decide +kernel) rfl, by decide +kernel⟩
theorem bX2_roundOf : Cond.initialized (mX2_roundOf).1.cls ∈ zt ∧ Cond.code (mX2_roundOf).1 (mX2_roundOf).2.1 (mX2_roundOf).2.2.1 (mX2_roundOf).2.2.2.1 ∈ zt ∧ ((mX2_roundOf).1.cls ≠ "java/lang/invoke/MethodHandle" ∧ (mX2_roundOf).1.cls ≠ "java/lang/invoke/VarHandle" ∧ (parseMethodDescriptor (mX2_roundOf).1.desc).map (fun d => d.parameters.length) = some 1) := ⟨zc1 6 (by decide +kernel) rfl, zc3 181 (by decide +kernel) rfl, by decide +kernel⟩
theorem bX2_windAt : Cond.initialized (mX2_windAt).1.cls ∈ zt ∧ Cond.code (mX2_windAt).1 (mX2_windAt).2.1 (mX2_windAt).2.2.1 (mX2_windAt).2.2.2.1 ∈ zt ∧ ((mX2_windAt).1.cls ≠ "java/lang/invoke/MethodHandle" ∧ (mX2_windAt).1.cls ≠ "java/lang/invoke/VarHandle" ∧ (parseMethodDescriptor (mX2_windAt).1.desc).map (fun d => d.parameters.length) = some 1) := ⟨zc1 6 (by decide +kernel) rfl, zc3 173 (by decide +kernel) rfl, by decide +kernel⟩
theorem bX3_init : Cond.initialized (mX3_init).1.cls ∈ zt ∧ Cond.code (mX3_init).1 (mX3_init).2.1 (mX3_init).2.2.1 (mX3_init).2.2.2.1 ∈ zt ∧ ((mX3_init).1.cls ≠ "java/lang/invoke/MethodHandle" ∧ (mX3_init).1.cls ≠ "java/lang/invoke/VarHandle" ∧ (parseMethodDescriptor (mX3_init).1.desc).map (fun d => d.parameters.length) = some 1) := ⟨zc1 11 (by decide +kernel) rfl, zc2 92 (by decide +kernel) rfl, by decide +kernel⟩
theorem bX3_joinLevel : Cond.initialized (mX3_joinLevel).1.cls ∈ zt ∧ Cond.code (mX3_joinLevel).1 (mX3_joinLevel).2.1 (mX3_joinLevel).2.2.1 (mX3_joinLevel).2.2.2.1 ∈ zt ∧ ((mX3_joinLevel).1.cls ≠ "java/lang/invoke/MethodHandle" ∧ (mX3_joinLevel).1.cls ≠ "java/lang/invoke/VarHandle" ∧ (parseMethodDescriptor (mX3_joinLevel).1.desc).map (fun d => d.parameters.length) = some 2) := ⟨zc1 11 (by decide +kernel) rfl, zc4 116 (by decide +kernel) rfl, by decide +kernel⟩
theorem bX3_joinCrests : Cond.initialized (mX3_joinCrests).1.cls ∈ zt ∧ Cond.code (mX3_joinCrests).1 (mX3_joinCrests).2.1 (mX3_joinCrests).2.2.1 (mX3_joinCrests).2.2.2.1 ∈ zt ∧ ((mX3_joinCrests).1.cls ≠ "java/lang/invoke/MethodHandle" ∧ (mX3_joinCrests).1.cls ≠ "java/lang/invoke/VarHandle" ∧ (parseMethodDescriptor (mX3_joinCrests).1.desc).map (fun d => d.parameters.length) = some 2) := ⟨zc1 11 (by decide +kernel) rfl, zc4 186 (by decide +kernel) rfl, by decide +kernel⟩
theorem bX3_join : Cond.initialized (mX3_join).1.cls ∈ zt ∧ Cond.code (mX3_join).1 (mX3_join).2.1 (mX3_join).2.2.1 (mX3_join).2.2.2.1 ∈ zt ∧ ((mX3_join).1.cls ≠ "java/lang/invoke/MethodHandle" ∧ (mX3_join).1.cls ≠ "java/lang/invoke/VarHandle" ∧ (parseMethodDescriptor (mX3_join).1.desc).map (fun d => d.parameters.length) = some 1) := ⟨zc1 11 (by decide +kernel) rfl, zc4 120 (by decide +kernel) rfl, by decide +kernel⟩
theorem bX3_spread : Cond.initialized (mX3_spread).1.cls ∈ zt ∧ Cond.code (mX3_spread).1 (mX3_spread).2.1 (mX3_spread).2.2.1 (mX3_spread).2.2.2.1 ∈ zt ∧ ((mX3_spread).1.cls ≠ "java/lang/invoke/MethodHandle" ∧ (mX3_spread).1.cls ≠ "java/lang/invoke/VarHandle" ∧ (parseMethodDescriptor (mX3_spread).1.desc).map (fun d => d.parameters.length) = some 2) := ⟨zc1 11 (by decide +kernel) rfl, zc4 125 (by decide +kernel) rfl, by decide +kernel⟩
theorem bX3_reach : Cond.initialized (mX3_reach).1.cls ∈ zt ∧ Cond.code (mX3_reach).1 (mX3_reach).2.1 (mX3_reach).2.2.1 (mX3_reach).2.2.2.1 ∈ zt ∧ ((mX3_reach).1.cls ≠ "java/lang/invoke/MethodHandle" ∧ (mX3_reach).1.cls ≠ "java/lang/invoke/VarHandle" ∧ (parseMethodDescriptor (mX3_reach).1.desc).map (fun d => d.parameters.length) = some 1) := ⟨zc1 11 (by decide +kernel) rfl, zc4 129 (by decide +kernel) rfl, by decide +kernel⟩
theorem bX3_firstCell : Cond.initialized (mX3_firstCell).1.cls ∈ zt ∧ Cond.code (mX3_firstCell).1 (mX3_firstCell).2.1 (mX3_firstCell).2.2.1 (mX3_firstCell).2.2.2.1 ∈ zt ∧ ((mX3_firstCell).1.cls ≠ "java/lang/invoke/MethodHandle" ∧ (mX3_firstCell).1.cls ≠ "java/lang/invoke/VarHandle" ∧ (parseMethodDescriptor (mX3_firstCell).1.desc).map (fun d => d.parameters.length) = some 1) := ⟨zc1 11 (by decide +kernel) rfl, zc4 138 (by decide +kernel) rfl, by decide +kernel⟩
theorem bX3_size : Cond.initialized (mX3_size).1.cls ∈ zt ∧ Cond.code (mX3_size).1 (mX3_size).2.1 (mX3_size).2.2.1 (mX3_size).2.2.2.1 ∈ zt ∧ ((mX3_size).1.cls ≠ "java/lang/invoke/MethodHandle" ∧ (mX3_size).1.cls ≠ "java/lang/invoke/VarHandle" ∧ (parseMethodDescriptor (mX3_size).1.desc).map (fun d => d.parameters.length) = some 1) := ⟨zc1 11 (by decide +kernel) rfl, zc4 142 (by decide +kernel) rfl, by decide +kernel⟩
theorem bX4_init : Cond.initialized (mX4_init).1.cls ∈ zt ∧ Cond.code (mX4_init).1 (mX4_init).2.1 (mX4_init).2.2.1 (mX4_init).2.2.2.1 ∈ zt ∧ ((mX4_init).1.cls ≠ "java/lang/invoke/MethodHandle" ∧ (mX4_init).1.cls ≠ "java/lang/invoke/VarHandle" ∧ (parseMethodDescriptor (mX4_init).1.desc).map (fun d => d.parameters.length) = some 1) := ⟨zc1 3 (by decide +kernel) rfl, zc1 62 (by decide +kernel) rfl, by decide +kernel⟩
theorem bX4_read : Cond.initialized (mX4_read).1.cls ∈ zt ∧ Cond.code (mX4_read).1 (mX4_read).2.1 (mX4_read).2.2.1 (mX4_read).2.2.2.1 ∈ zt ∧ ((mX4_read).1.cls ≠ "java/lang/invoke/MethodHandle" ∧ (mX4_read).1.cls ≠ "java/lang/invoke/VarHandle" ∧ (parseMethodDescriptor (mX4_read).1.desc).map (fun d => d.parameters.length) = some 0) := ⟨zc1 3 (by decide +kernel) rfl, zc3 5 (by decide +kernel) rfl, by decide +kernel⟩
theorem bX4_kind : Cond.initialized (mX4_kind).1.cls ∈ zt ∧ Cond.code (mX4_kind).1 (mX4_kind).2.1 (mX4_kind).2.2.1 (mX4_kind).2.2.2.1 ∈ zt ∧ ((mX4_kind).1.cls ≠ "java/lang/invoke/MethodHandle" ∧ (mX4_kind).1.cls ≠ "java/lang/invoke/VarHandle" ∧ (parseMethodDescriptor (mX4_kind).1.desc).map (fun d => d.parameters.length) = some 0) := ⟨zc1 3 (by decide +kernel) rfl, zc3 88 (by decide +kernel) rfl, by decide +kernel⟩
theorem bX4_value : Cond.initialized (mX4_value).1.cls ∈ zt ∧ Cond.code (mX4_value).1 (mX4_value).2.1 (mX4_value).2.2.1 (mX4_value).2.2.2.1 ∈ zt ∧ ((mX4_value).1.cls ≠ "java/lang/invoke/MethodHandle" ∧ (mX4_value).1.cls ≠ "java/lang/invoke/VarHandle" ∧ (parseMethodDescriptor (mX4_value).1.desc).map (fun d => d.parameters.length) = some 0) := ⟨zc1 3 (by decide +kernel) rfl, zc3 96 (by decide +kernel) rfl, by decide +kernel⟩
theorem bX4_advance : Cond.initialized (mX4_advance).1.cls ∈ zt ∧ Cond.code (mX4_advance).1 (mX4_advance).2.1 (mX4_advance).2.2.1 (mX4_advance).2.2.2.1 ∈ zt ∧ ((mX4_advance).1.cls ≠ "java/lang/invoke/MethodHandle" ∧ (mX4_advance).1.cls ≠ "java/lang/invoke/VarHandle" ∧ (parseMethodDescriptor (mX4_advance).1.desc).map (fun d => d.parameters.length) = some 0) := ⟨zc1 3 (by decide +kernel) rfl, zc3 112 (by decide +kernel) rfl, by decide +kernel⟩
theorem bX4_refuse : Cond.initialized (mX4_refuse).1.cls ∈ zt ∧ Cond.code (mX4_refuse).1 (mX4_refuse).2.1 (mX4_refuse).2.2.1 (mX4_refuse).2.2.2.1 ∈ zt ∧ ((mX4_refuse).1.cls ≠ "java/lang/invoke/MethodHandle" ∧ (mX4_refuse).1.cls ≠ "java/lang/invoke/VarHandle" ∧ (parseMethodDescriptor (mX4_refuse).1.desc).map (fun d => d.parameters.length) = some 2) := ⟨zc1 3 (by decide +kernel) rfl, zc3 104 (by decide +kernel) rfl, by decide +kernel⟩
theorem bX4_refuseToken : Cond.initialized (mX4_refuseToken).1.cls ∈ zt ∧ Cond.code (mX4_refuseToken).1 (mX4_refuseToken).2.1 (mX4_refuseToken).2.2.1 (mX4_refuseToken).2.2.2.1 ∈ zt ∧ ((mX4_refuseToken).1.cls ≠ "java/lang/invoke/MethodHandle" ∧ (mX4_refuseToken).1.cls ≠ "java/lang/invoke/VarHandle" ∧ (parseMethodDescriptor (mX4_refuseToken).1.desc).map (fun d => d.parameters.length) = some 0) := ⟨zc1 3 (by decide +kernel) rfl, zc3 100 (by decide +kernel) rfl, by decide +kernel⟩
theorem bX4_readLineWord : Cond.initialized (mX4_readLineWord).1.cls ∈ zt ∧ Cond.code (mX4_readLineWord).1 (mX4_readLineWord).2.1 (mX4_readLineWord).2.2.1 (mX4_readLineWord).2.2.2.1 ∈ zt ∧ ((mX4_readLineWord).1.cls ≠ "java/lang/invoke/MethodHandle" ∧ (mX4_readLineWord).1.cls ≠ "java/lang/invoke/VarHandle" ∧ (parseMethodDescriptor (mX4_readLineWord).1.desc).map (fun d => d.parameters.length) = some 1) := ⟨zc1 3 (by decide +kernel) rfl, zc3 92 (by decide +kernel) rfl, by decide +kernel⟩
theorem bX4_readRest : Cond.initialized (mX4_readRest).1.cls ∈ zt ∧ Cond.code (mX4_readRest).1 (mX4_readRest).2.1 (mX4_readRest).2.2.1 (mX4_readRest).2.2.2.1 ∈ zt ∧ ((mX4_readRest).1.cls ≠ "java/lang/invoke/MethodHandle" ∧ (mX4_readRest).1.cls ≠ "java/lang/invoke/VarHandle" ∧ (parseMethodDescriptor (mX4_readRest).1.desc).map (fun d => d.parameters.length) = some 1) := ⟨zc1 3 (by decide +kernel) rfl, zc3 120 (by decide +kernel) rfl, by decide +kernel⟩
theorem bX4_readSize : Cond.initialized (mX4_readSize).1.cls ∈ zt ∧ Cond.code (mX4_readSize).1 (mX4_readSize).2.1 (mX4_readSize).2.2.1 (mX4_readSize).2.2.2.1 ∈ zt ∧ ((mX4_readSize).1.cls ≠ "java/lang/invoke/MethodHandle" ∧ (mX4_readSize).1.cls ≠ "java/lang/invoke/VarHandle" ∧ (parseMethodDescriptor (mX4_readSize).1.desc).map (fun d => d.parameters.length) = some 0) := ⟨zc1 3 (by decide +kernel) rfl, zc3 124 (by decide +kernel) rfl, by decide +kernel⟩
theorem bX4_readHeap : Cond.initialized (mX4_readHeap).1.cls ∈ zt ∧ Cond.code (mX4_readHeap).1 (mX4_readHeap).2.1 (mX4_readHeap).2.2.1 (mX4_readHeap).2.2.2.1 ∈ zt ∧ ((mX4_readHeap).1.cls ≠ "java/lang/invoke/MethodHandle" ∧ (mX4_readHeap).1.cls ≠ "java/lang/invoke/VarHandle" ∧ (parseMethodDescriptor (mX4_readHeap).1.desc).map (fun d => d.parameters.length) = some 0) := ⟨zc1 3 (by decide +kernel) rfl, zc3 136 (by decide +kernel) rfl, by decide +kernel⟩
theorem bX4_readGrass : Cond.initialized (mX4_readGrass).1.cls ∈ zt ∧ Cond.code (mX4_readGrass).1 (mX4_readGrass).2.1 (mX4_readGrass).2.2.1 (mX4_readGrass).2.2.2.1 ∈ zt ∧ ((mX4_readGrass).1.cls ≠ "java/lang/invoke/MethodHandle" ∧ (mX4_readGrass).1.cls ≠ "java/lang/invoke/VarHandle" ∧ (parseMethodDescriptor (mX4_readGrass).1.desc).map (fun d => d.parameters.length) = some 0) := ⟨zc1 3 (by decide +kernel) rfl, zc3 140 (by decide +kernel) rfl, by decide +kernel⟩
theorem bX4_readWind : Cond.initialized (mX4_readWind).1.cls ∈ zt ∧ Cond.code (mX4_readWind).1 (mX4_readWind).2.1 (mX4_readWind).2.2.1 (mX4_readWind).2.2.2.1 ∈ zt ∧ ((mX4_readWind).1.cls ≠ "java/lang/invoke/MethodHandle" ∧ (mX4_readWind).1.cls ≠ "java/lang/invoke/VarHandle" ∧ (parseMethodDescriptor (mX4_readWind).1.desc).map (fun d => d.parameters.length) = some 0) := ⟨zc1 3 (by decide +kernel) rfl, zc3 144 (by decide +kernel) rfl, by decide +kernel⟩
theorem bX4_readRule : Cond.initialized (mX4_readRule).1.cls ∈ zt ∧ Cond.code (mX4_readRule).1 (mX4_readRule).2.1 (mX4_readRule).2.2.1 (mX4_readRule).2.2.2.1 ∈ zt ∧ ((mX4_readRule).1.cls ≠ "java/lang/invoke/MethodHandle" ∧ (mX4_readRule).1.cls ≠ "java/lang/invoke/VarHandle" ∧ (parseMethodDescriptor (mX4_readRule).1.desc).map (fun d => d.parameters.length) = some 1) := ⟨zc1 3 (by decide +kernel) rfl, zc3 148 (by decide +kernel) rfl, by decide +kernel⟩
theorem bX4_expect : Cond.initialized (mX4_expect).1.cls ∈ zt ∧ Cond.code (mX4_expect).1 (mX4_expect).2.1 (mX4_expect).2.2.1 (mX4_expect).2.2.2.1 ∈ zt ∧ ((mX4_expect).1.cls ≠ "java/lang/invoke/MethodHandle" ∧ (mX4_expect).1.cls ≠ "java/lang/invoke/VarHandle" ∧ (parseMethodDescriptor (mX4_expect).1.desc).map (fun d => d.parameters.length) = some 1) := ⟨zc1 3 (by decide +kernel) rfl, zc3 132 (by decide +kernel) rfl, by decide +kernel⟩
theorem bX4_readNumber : Cond.initialized (mX4_readNumber).1.cls ∈ zt ∧ Cond.code (mX4_readNumber).1 (mX4_readNumber).2.1 (mX4_readNumber).2.2.1 (mX4_readNumber).2.2.2.1 ∈ zt ∧ ((mX4_readNumber).1.cls ≠ "java/lang/invoke/MethodHandle" ∧ (mX4_readNumber).1.cls ≠ "java/lang/invoke/VarHandle" ∧ (parseMethodDescriptor (mX4_readNumber).1.desc).map (fun d => d.parameters.length) = some 2) := ⟨zc1 3 (by decide +kernel) rfl, zc3 128 (by decide +kernel) rfl, by decide +kernel⟩
theorem bX5_init : Cond.initialized (mX5_init).1.cls ∈ zt ∧ Cond.code (mX5_init).1 (mX5_init).2.1 (mX5_init).2.2.1 (mX5_init).2.2.2.1 ∈ zt ∧ ((mX5_init).1.cls ≠ "java/lang/invoke/MethodHandle" ∧ (mX5_init).1.cls ≠ "java/lang/invoke/VarHandle" ∧ (parseMethodDescriptor (mX5_init).1.desc).map (fun d => d.parameters.length) = some 0) := ⟨zc1 7 (by decide +kernel) rfl, zc1 217 (by decide +kernel) rfl, by decide +kernel⟩
theorem bX5_begin : Cond.initialized (mX5_begin).1.cls ∈ zt ∧ Cond.code (mX5_begin).1 (mX5_begin).2.1 (mX5_begin).2.2.1 (mX5_begin).2.2.2.1 ∈ zt ∧ ((mX5_begin).1.cls ≠ "java/lang/invoke/MethodHandle" ∧ (mX5_begin).1.cls ≠ "java/lang/invoke/VarHandle" ∧ (parseMethodDescriptor (mX5_begin).1.desc).map (fun d => d.parameters.length) = some 1) := ⟨zc1 7 (by decide +kernel) rfl, zc2 139 (by decide +kernel) rfl, by decide +kernel⟩
theorem bX5_copy : Cond.initialized (mX5_copy).1.cls ∈ zt ∧ Cond.code (mX5_copy).1 (mX5_copy).2.1 (mX5_copy).2.2.1 (mX5_copy).2.2.2.1 ∈ zt ∧ ((mX5_copy).1.cls ≠ "java/lang/invoke/MethodHandle" ∧ (mX5_copy).1.cls ≠ "java/lang/invoke/VarHandle" ∧ (parseMethodDescriptor (mX5_copy).1.desc).map (fun d => d.parameters.length) = some 1) := ⟨zc1 7 (by decide +kernel) rfl, zc2 171 (by decide +kernel) rfl, by decide +kernel⟩
theorem bX5_slabs : Cond.initialized (mX5_slabs).1.cls ∈ zt ∧ Cond.code (mX5_slabs).1 (mX5_slabs).2.1 (mX5_slabs).2.2.1 (mX5_slabs).2.2.2.1 ∈ zt ∧ ((mX5_slabs).1.cls ≠ "java/lang/invoke/MethodHandle" ∧ (mX5_slabs).1.cls ≠ "java/lang/invoke/VarHandle" ∧ (parseMethodDescriptor (mX5_slabs).1.desc).map (fun d => d.parameters.length) = some 0) := ⟨zc1 7 (by decide +kernel) rfl, zc4 63 (by decide +kernel) rfl, by decide +kernel⟩
theorem bX5_highest : Cond.initialized (mX5_highest).1.cls ∈ zt ∧ Cond.code (mX5_highest).1 (mX5_highest).2.1 (mX5_highest).2.2.1 (mX5_highest).2.2.2.1 ∈ zt ∧ ((mX5_highest).1.cls ≠ "java/lang/invoke/MethodHandle" ∧ (mX5_highest).1.cls ≠ "java/lang/invoke/VarHandle" ∧ (parseMethodDescriptor (mX5_highest).1.desc).map (fun d => d.parameters.length) = some 0) := ⟨zc1 7 (by decide +kernel) rfl, zc4 67 (by decide +kernel) rfl, by decide +kernel⟩
theorem bX5_bareCells : Cond.initialized (mX5_bareCells).1.cls ∈ zt ∧ Cond.code (mX5_bareCells).1 (mX5_bareCells).2.1 (mX5_bareCells).2.2.1 (mX5_bareCells).2.2.2.1 ∈ zt ∧ ((mX5_bareCells).1.cls ≠ "java/lang/invoke/MethodHandle" ∧ (mX5_bareCells).1.cls ≠ "java/lang/invoke/VarHandle" ∧ (parseMethodDescriptor (mX5_bareCells).1.desc).map (fun d => d.parameters.length) = some 1) := ⟨zc1 7 (by decide +kernel) rfl, zc4 72 (by decide +kernel) rfl, by decide +kernel⟩
theorem bX5_stickAt : Cond.initialized (mX5_stickAt).1.cls ∈ zt ∧ Cond.code (mX5_stickAt).1 (mX5_stickAt).2.1 (mX5_stickAt).2.2.1 (mX5_stickAt).2.2.2.1 ∈ zt ∧ ((mX5_stickAt).1.cls ≠ "java/lang/invoke/MethodHandle" ∧ (mX5_stickAt).1.cls ≠ "java/lang/invoke/VarHandle" ∧ (parseMethodDescriptor (mX5_stickAt).1.desc).map (fun d => d.parameters.length) = some 1) := ⟨zc1 7 (by decide +kernel) rfl, zc4 3 (by decide +kernel) rfl, by decide +kernel⟩
theorem bX5_drawOf : Cond.initialized (mX5_drawOf).1.cls ∈ zt ∧ Cond.code (mX5_drawOf).1 (mX5_drawOf).2.1 (mX5_drawOf).2.2.1 (mX5_drawOf).2.2.2.1 ∈ zt ∧ ((mX5_drawOf).1.cls ≠ "java/lang/invoke/MethodHandle" ∧ (mX5_drawOf).1.cls ≠ "java/lang/invoke/VarHandle" ∧ (parseMethodDescriptor (mX5_drawOf).1.desc).map (fun d => d.parameters.length) = some 1) := ⟨zc1 7 (by decide +kernel) rfl, zc3 218 (by decide +kernel) rfl, by decide +kernel⟩
theorem bX6_init : Cond.initialized (mX6_init).1.cls ∈ zt ∧ Cond.code (mX6_init).1 (mX6_init).2.1 (mX6_init).2.2.1 (mX6_init).2.2.2.1 ∈ zt ∧ ((mX6_init).1.cls ≠ "java/lang/invoke/MethodHandle" ∧ (mX6_init).1.cls ≠ "java/lang/invoke/VarHandle" ∧ (parseMethodDescriptor (mX6_init).1.desc).map (fun d => d.parameters.length) = some 4) := ⟨zc1 10 (by decide +kernel) rfl, zc2 56 (by decide +kernel) rfl, by decide +kernel⟩
theorem bX6_tell : Cond.initialized (mX6_tell).1.cls ∈ zt ∧ Cond.code (mX6_tell).1 (mX6_tell).2.1 (mX6_tell).2.2.1 (mX6_tell).2.2.2.1 ∈ zt ∧ ((mX6_tell).1.cls ≠ "java/lang/invoke/MethodHandle" ∧ (mX6_tell).1.cls ≠ "java/lang/invoke/VarHandle" ∧ (parseMethodDescriptor (mX6_tell).1.desc).map (fun d => d.parameters.length) = some 2) := ⟨zc1 10 (by decide +kernel) rfl, zc5 24 (by decide +kernel) rfl, by decide +kernel⟩
theorem bX6_takeBack : Cond.initialized (mX6_takeBack).1.cls ∈ zt ∧ Cond.code (mX6_takeBack).1 (mX6_takeBack).2.1 (mX6_takeBack).2.2.1 (mX6_takeBack).2.2.2.1 ∈ zt ∧ ((mX6_takeBack).1.cls ≠ "java/lang/invoke/MethodHandle" ∧ (mX6_takeBack).1.cls ≠ "java/lang/invoke/VarHandle" ∧ (parseMethodDescriptor (mX6_takeBack).1.desc).map (fun d => d.parameters.length) = some 2) := ⟨zc1 10 (by decide +kernel) rfl, zc5 32 (by decide +kernel) rfl, by decide +kernel⟩
theorem bX6_seedsFor : Cond.initialized (mX6_seedsFor).1.cls ∈ zt ∧ Cond.code (mX6_seedsFor).1 (mX6_seedsFor).2.1 (mX6_seedsFor).2.2.1 (mX6_seedsFor).2.2.2.1 ∈ zt ∧ ((mX6_seedsFor).1.cls ≠ "java/lang/invoke/MethodHandle" ∧ (mX6_seedsFor).1.cls ≠ "java/lang/invoke/VarHandle" ∧ (parseMethodDescriptor (mX6_seedsFor).1.desc).map (fun d => d.parameters.length) = some 4) := ⟨zc1 10 (by decide +kernel) rfl, zc5 18 (by decide +kernel) rfl, by decide +kernel⟩
theorem bX6_fitting : Cond.initialized (mX6_fitting).1.cls ∈ zt ∧ Cond.code (mX6_fitting).1 (mX6_fitting).2.1 (mX6_fitting).2.2.1 (mX6_fitting).2.2.2.1 ∈ zt ∧ ((mX6_fitting).1.cls ≠ "java/lang/invoke/MethodHandle" ∧ (mX6_fitting).1.cls ≠ "java/lang/invoke/VarHandle" ∧ (parseMethodDescriptor (mX6_fitting).1.desc).map (fun d => d.parameters.length) = some 1) := ⟨zc1 10 (by decide +kernel) rfl, zc5 45 (by decide +kernel) rfl, by decide +kernel⟩
theorem bX6_survey : Cond.initialized (mX6_survey).1.cls ∈ zt ∧ Cond.code (mX6_survey).1 (mX6_survey).2.1 (mX6_survey).2.2.1 (mX6_survey).2.2.2.1 ∈ zt ∧ ((mX6_survey).1.cls ≠ "java/lang/invoke/MethodHandle" ∧ (mX6_survey).1.cls ≠ "java/lang/invoke/VarHandle" ∧ (parseMethodDescriptor (mX6_survey).1.desc).map (fun d => d.parameters.length) = some 2) := ⟨zc1 10 (by decide +kernel) rfl, zc5 67 (by decide +kernel) rfl, by decide +kernel⟩
theorem bX6_mostAlike : Cond.initialized (mX6_mostAlike).1.cls ∈ zt ∧ Cond.code (mX6_mostAlike).1 (mX6_mostAlike).2.1 (mX6_mostAlike).2.2.1 (mX6_mostAlike).2.2.2.1 ∈ zt ∧ ((mX6_mostAlike).1.cls ≠ "java/lang/invoke/MethodHandle" ∧ (mX6_mostAlike).1.cls ≠ "java/lang/invoke/VarHandle" ∧ (parseMethodDescriptor (mX6_mostAlike).1.desc).map (fun d => d.parameters.length) = some 2) := ⟨zc1 10 (by decide +kernel) rfl, zc5 73 (by decide +kernel) rfl, by decide +kernel⟩
theorem bX6_alike : Cond.initialized (mX6_alike).1.cls ∈ zt ∧ Cond.code (mX6_alike).1 (mX6_alike).2.1 (mX6_alike).2.2.1 (mX6_alike).2.2.2.1 ∈ zt ∧ ((mX6_alike).1.cls ≠ "java/lang/invoke/MethodHandle" ∧ (mX6_alike).1.cls ≠ "java/lang/invoke/VarHandle" ∧ (parseMethodDescriptor (mX6_alike).1.desc).map (fun d => d.parameters.length) = some 3) := ⟨zc1 10 (by decide +kernel) rfl, zc5 77 (by decide +kernel) rfl, by decide +kernel⟩
theorem bX6_holds : Cond.initialized (mX6_holds).1.cls ∈ zt ∧ Cond.code (mX6_holds).1 (mX6_holds).2.1 (mX6_holds).2.2.1 (mX6_holds).2.2.2.1 ∈ zt ∧ ((mX6_holds).1.cls ≠ "java/lang/invoke/MethodHandle" ∧ (mX6_holds).1.cls ≠ "java/lang/invoke/VarHandle" ∧ (parseMethodDescriptor (mX6_holds).1.desc).map (fun d => d.parameters.length) = some 2) := ⟨zc1 10 (by decide +kernel) rfl, zc5 59 (by decide +kernel) rfl, by decide +kernel⟩
theorem bX7_init : Cond.initialized (mX7_init).1.cls ∈ zt ∧ Cond.code (mX7_init).1 (mX7_init).2.1 (mX7_init).2.2.1 (mX7_init).2.2.2.1 ∈ zt ∧ ((mX7_init).1.cls ≠ "java/lang/invoke/MethodHandle" ∧ (mX7_init).1.cls ≠ "java/lang/invoke/VarHandle" ∧ (parseMethodDescriptor (mX7_init).1.desc).map (fun d => d.parameters.length) = some 2) := ⟨zc1 8 (by decide +kernel) rfl, zc2 10 (by decide +kernel) rfl, by decide +kernel⟩
theorem bX7_startFrom : Cond.initialized (mX7_startFrom).1.cls ∈ zt ∧ Cond.code (mX7_startFrom).1 (mX7_startFrom).2.1 (mX7_startFrom).2.2.1 (mX7_startFrom).2.2.2.1 ∈ zt ∧ ((mX7_startFrom).1.cls ≠ "java/lang/invoke/MethodHandle" ∧ (mX7_startFrom).1.cls ≠ "java/lang/invoke/VarHandle" ∧ (parseMethodDescriptor (mX7_startFrom).1.desc).map (fun d => d.parameters.length) = some 2) := ⟨zc1 8 (by decide +kernel) rfl, zc4 232 (by decide +kernel) rfl, by decide +kernel⟩
theorem bX7_blowOn : Cond.initialized (mX7_blowOn).1.cls ∈ zt ∧ Cond.code (mX7_blowOn).1 (mX7_blowOn).2.1 (mX7_blowOn).2.2.1 (mX7_blowOn).2.2.2.1 ∈ zt ∧ ((mX7_blowOn).1.cls ≠ "java/lang/invoke/MethodHandle" ∧ (mX7_blowOn).1.cls ≠ "java/lang/invoke/VarHandle" ∧ (parseMethodDescriptor (mX7_blowOn).1.desc).map (fun d => d.parameters.length) = some 1) := ⟨zc1 8 (by decide +kernel) rfl, zc3 209 (by decide +kernel) rfl, by decide +kernel⟩
theorem bX7_tryOnce : Cond.initialized (mX7_tryOnce).1.cls ∈ zt ∧ Cond.code (mX7_tryOnce).1 (mX7_tryOnce).2.1 (mX7_tryOnce).2.2.1 (mX7_tryOnce).2.2.2.1 ∈ zt ∧ ((mX7_tryOnce).1.cls ≠ "java/lang/invoke/MethodHandle" ∧ (mX7_tryOnce).1.cls ≠ "java/lang/invoke/VarHandle" ∧ (parseMethodDescriptor (mX7_tryOnce).1.desc).map (fun d => d.parameters.length) = some 0) := ⟨zc1 8 (by decide +kernel) rfl, zc3 213 (by decide +kernel) rfl, by decide +kernel⟩
theorem bX7_yields : Cond.initialized (mX7_yields).1.cls ∈ zt ∧ Cond.code (mX7_yields).1 (mX7_yields).2.1 (mX7_yields).2.2.1 (mX7_yields).2.2.2.1 ∈ zt ∧ ((mX7_yields).1.cls ≠ "java/lang/invoke/MethodHandle" ∧ (mX7_yields).1.cls ≠ "java/lang/invoke/VarHandle" ∧ (parseMethodDescriptor (mX7_yields).1.desc).map (fun d => d.parameters.length) = some 2) := ⟨zc1 8 (by decide +kernel) rfl, zc3 222 (by decide +kernel) rfl, by decide +kernel⟩
theorem bX7_carry : Cond.initialized (mX7_carry).1.cls ∈ zt ∧ Cond.code (mX7_carry).1 (mX7_carry).2.1 (mX7_carry).2.2.1 (mX7_carry).2.2.2.1 ∈ zt ∧ ((mX7_carry).1.cls ≠ "java/lang/invoke/MethodHandle" ∧ (mX7_carry).1.cls ≠ "java/lang/invoke/VarHandle" ∧ (parseMethodDescriptor (mX7_carry).1.desc).map (fun d => d.parameters.length) = some 2) := ⟨zc1 8 (by decide +kernel) rfl, zc3 235 (by decide +kernel) rfl, by decide +kernel⟩
theorem bX7_hopOn : Cond.initialized (mX7_hopOn).1.cls ∈ zt ∧ Cond.code (mX7_hopOn).1 (mX7_hopOn).2.1 (mX7_hopOn).2.2.1 (mX7_hopOn).2.2.2.1 ∈ zt ∧ ((mX7_hopOn).1.cls ≠ "java/lang/invoke/MethodHandle" ∧ (mX7_hopOn).1.cls ≠ "java/lang/invoke/VarHandle" ∧ (parseMethodDescriptor (mX7_hopOn).1.desc).map (fun d => d.parameters.length) = some 2) := ⟨zc1 8 (by decide +kernel) rfl, zc3 239 (by decide +kernel) rfl, by decide +kernel⟩
theorem bX7_shaded : Cond.initialized (mX7_shaded).1.cls ∈ zt ∧ Cond.code (mX7_shaded).1 (mX7_shaded).2.1 (mX7_shaded).2.2.1 (mX7_shaded).2.2.2.1 ∈ zt ∧ ((mX7_shaded).1.cls ≠ "java/lang/invoke/MethodHandle" ∧ (mX7_shaded).1.cls ≠ "java/lang/invoke/VarHandle" ∧ (parseMethodDescriptor (mX7_shaded).1.desc).map (fun d => d.parameters.length) = some 2) := ⟨zc1 8 (by decide +kernel) rfl, zc3 177 (by decide +kernel) rfl, by decide +kernel⟩
theorem bX7_isCrest : Cond.initialized (mX7_isCrest).1.cls ∈ zt ∧ Cond.code (mX7_isCrest).1 (mX7_isCrest).2.1 (mX7_isCrest).2.2.1 (mX7_isCrest).2.2.2.1 ∈ zt ∧ ((mX7_isCrest).1.cls ≠ "java/lang/invoke/MethodHandle" ∧ (mX7_isCrest).1.cls ≠ "java/lang/invoke/VarHandle" ∧ (parseMethodDescriptor (mX7_isCrest).1.desc).map (fun d => d.parameters.length) = some 2) := ⟨zc1 8 (by decide +kernel) rfl, zc3 193 (by decide +kernel) rfl, by decide +kernel⟩
theorem bX7_lift : Cond.initialized (mX7_lift).1.cls ∈ zt ∧ Cond.code (mX7_lift).1 (mX7_lift).2.1 (mX7_lift).2.2.1 (mX7_lift).2.2.2.1 ∈ zt ∧ ((mX7_lift).1.cls ≠ "java/lang/invoke/MethodHandle" ∧ (mX7_lift).1.cls ≠ "java/lang/invoke/VarHandle" ∧ (parseMethodDescriptor (mX7_lift).1.desc).map (fun d => d.parameters.length) = some 1) := ⟨zc1 8 (by decide +kernel) rfl, zc3 227 (by decide +kernel) rfl, by decide +kernel⟩
theorem bX7_drop : Cond.initialized (mX7_drop).1.cls ∈ zt ∧ Cond.code (mX7_drop).1 (mX7_drop).2.1 (mX7_drop).2.2.1 (mX7_drop).2.2.2.1 ∈ zt ∧ ((mX7_drop).1.cls ≠ "java/lang/invoke/MethodHandle" ∧ (mX7_drop).1.cls ≠ "java/lang/invoke/VarHandle" ∧ (parseMethodDescriptor (mX7_drop).1.desc).map (fun d => d.parameters.length) = some 1) := ⟨zc1 8 (by decide +kernel) rfl, zc4 7 (by decide +kernel) rfl, by decide +kernel⟩
theorem bX7_settle : Cond.initialized (mX7_settle).1.cls ∈ zt ∧ Cond.code (mX7_settle).1 (mX7_settle).2.1 (mX7_settle).2.2.1 (mX7_settle).2.2.2.1 ∈ zt ∧ ((mX7_settle).1.cls ≠ "java/lang/invoke/MethodHandle" ∧ (mX7_settle).1.cls ≠ "java/lang/invoke/VarHandle" ∧ (parseMethodDescriptor (mX7_settle).1.desc).map (fun d => d.parameters.length) = some 0) := ⟨zc1 8 (by decide +kernel) rfl, zc2 146 (by decide +kernel) rfl, by decide +kernel⟩
theorem bX7_firstSteep : Cond.initialized (mX7_firstSteep).1.cls ∈ zt ∧ Cond.code (mX7_firstSteep).1 (mX7_firstSteep).2.1 (mX7_firstSteep).2.2.1 (mX7_firstSteep).2.2.2.1 ∈ zt ∧ ((mX7_firstSteep).1.cls ≠ "java/lang/invoke/MethodHandle" ∧ (mX7_firstSteep).1.cls ≠ "java/lang/invoke/VarHandle" ∧ (parseMethodDescriptor (mX7_firstSteep).1.desc).map (fun d => d.parameters.length) = some 0) := ⟨zc1 8 (by decide +kernel) rfl, zc2 151 (by decide +kernel) rfl, by decide +kernel⟩
theorem bX7_wayUp : Cond.initialized (mX7_wayUp).1.cls ∈ zt ∧ Cond.code (mX7_wayUp).1 (mX7_wayUp).2.1 (mX7_wayUp).2.2.1 (mX7_wayUp).2.2.2.1 ∈ zt ∧ ((mX7_wayUp).1.cls ≠ "java/lang/invoke/MethodHandle" ∧ (mX7_wayUp).1.cls ≠ "java/lang/invoke/VarHandle" ∧ (parseMethodDescriptor (mX7_wayUp).1.desc).map (fun d => d.parameters.length) = some 1) := ⟨zc1 8 (by decide +kernel) rfl, zc3 231 (by decide +kernel) rfl, by decide +kernel⟩
theorem bX7_wayDown : Cond.initialized (mX7_wayDown).1.cls ∈ zt ∧ Cond.code (mX7_wayDown).1 (mX7_wayDown).2.1 (mX7_wayDown).2.2.1 (mX7_wayDown).2.2.2.1 ∈ zt ∧ ((mX7_wayDown).1.cls ≠ "java/lang/invoke/MethodHandle" ∧ (mX7_wayDown).1.cls ≠ "java/lang/invoke/VarHandle" ∧ (parseMethodDescriptor (mX7_wayDown).1.desc).map (fun d => d.parameters.length) = some 1) := ⟨zc1 8 (by decide +kernel) rfl, zc2 155 (by decide +kernel) rfl, by decide +kernel⟩
theorem bX7_slide : Cond.initialized (mX7_slide).1.cls ∈ zt ∧ Cond.code (mX7_slide).1 (mX7_slide).2.1 (mX7_slide).2.2.1 (mX7_slide).2.2.2.1 ∈ zt ∧ ((mX7_slide).1.cls ≠ "java/lang/invoke/MethodHandle" ∧ (mX7_slide).1.cls ≠ "java/lang/invoke/VarHandle" ∧ (parseMethodDescriptor (mX7_slide).1.desc).map (fun d => d.parameters.length) = some 2) := ⟨zc1 8 (by decide +kernel) rfl, zc2 163 (by decide +kernel) rfl, by decide +kernel⟩
theorem bX7_cross : Cond.initialized (mX7_cross).1.cls ∈ zt ∧ Cond.code (mX7_cross).1 (mX7_cross).2.1 (mX7_cross).2.2.1 (mX7_cross).2.2.2.1 ∈ zt ∧ ((mX7_cross).1.cls ≠ "java/lang/invoke/MethodHandle" ∧ (mX7_cross).1.cls ≠ "java/lang/invoke/VarHandle" ∧ (parseMethodDescriptor (mX7_cross).1.desc).map (fun d => d.parameters.length) = some 3) := ⟨zc1 8 (by decide +kernel) rfl, zc2 167 (by decide +kernel) rfl, by decide +kernel⟩
theorem bX8_init : Cond.initialized (mX8_init).1.cls ∈ zt ∧ Cond.code (mX8_init).1 (mX8_init).2.1 (mX8_init).2.2.1 (mX8_init).2.2.2.1 ∈ zt ∧ ((mX8_init).1.cls ≠ "java/lang/invoke/MethodHandle" ∧ (mX8_init).1.cls ≠ "java/lang/invoke/VarHandle" ∧ (parseMethodDescriptor (mX8_init).1.desc).map (fun d => d.parameters.length) = some 0) := ⟨zc1 2 (by decide +kernel) rfl, zc1 32 (by decide +kernel) rfl, by decide +kernel⟩
theorem bX8_append : Cond.initialized (mX8_append).1.cls ∈ zt ∧ Cond.code (mX8_append).1 (mX8_append).2.1 (mX8_append).2.2.1 (mX8_append).2.2.2.1 ∈ zt ∧ ((mX8_append).1.cls ≠ "java/lang/invoke/MethodHandle" ∧ (mX8_append).1.cls ≠ "java/lang/invoke/VarHandle" ∧ (parseMethodDescriptor (mX8_append).1.desc).map (fun d => d.parameters.length) = some 1) := ⟨zc1 2 (by decide +kernel) rfl, zc2 233 (by decide +kernel) rfl, by decide +kernel⟩
theorem bX8_scan : Cond.initialized (mX8_scan).1.cls ∈ zt ∧ Cond.code (mX8_scan).1 (mX8_scan).2.1 (mX8_scan).2.2.1 (mX8_scan).2.2.2.1 ∈ zt ∧ ((mX8_scan).1.cls ≠ "java/lang/invoke/MethodHandle" ∧ (mX8_scan).1.cls ≠ "java/lang/invoke/VarHandle" ∧ (parseMethodDescriptor (mX8_scan).1.desc).map (fun d => d.parameters.length) = some 0) := ⟨zc1 2 (by decide +kernel) rfl, zc3 10 (by decide +kernel) rfl, by decide +kernel⟩
theorem bX8_scanToken : Cond.initialized (mX8_scanToken).1.cls ∈ zt ∧ Cond.code (mX8_scanToken).1 (mX8_scanToken).2.1 (mX8_scanToken).2.2.1 (mX8_scanToken).2.2.2.1 ∈ zt ∧ ((mX8_scanToken).1.cls ≠ "java/lang/invoke/MethodHandle" ∧ (mX8_scanToken).1.cls ≠ "java/lang/invoke/VarHandle" ∧ (parseMethodDescriptor (mX8_scanToken).1.desc).map (fun d => d.parameters.length) = some 2) := ⟨zc1 2 (by decide +kernel) rfl, zc3 17 (by decide +kernel) rfl, by decide +kernel⟩
theorem bX8_scanWord : Cond.initialized (mX8_scanWord).1.cls ∈ zt ∧ Cond.code (mX8_scanWord).1 (mX8_scanWord).2.1 (mX8_scanWord).2.2.1 (mX8_scanWord).2.2.2.1 ∈ zt ∧ ((mX8_scanWord).1.cls ≠ "java/lang/invoke/MethodHandle" ∧ (mX8_scanWord).1.cls ≠ "java/lang/invoke/VarHandle" ∧ (parseMethodDescriptor (mX8_scanWord).1.desc).map (fun d => d.parameters.length) = some 1) := ⟨zc1 2 (by decide +kernel) rfl, zc3 24 (by decide +kernel) rfl, by decide +kernel⟩
theorem bX8_scanNumber : Cond.initialized (mX8_scanNumber).1.cls ∈ zt ∧ Cond.code (mX8_scanNumber).1 (mX8_scanNumber).2.1 (mX8_scanNumber).2.2.1 (mX8_scanNumber).2.2.2.1 ∈ zt ∧ ((mX8_scanNumber).1.cls ≠ "java/lang/invoke/MethodHandle" ∧ (mX8_scanNumber).1.cls ≠ "java/lang/invoke/VarHandle" ∧ (parseMethodDescriptor (mX8_scanNumber).1.desc).map (fun d => d.parameters.length) = some 1) := ⟨zc1 2 (by decide +kernel) rfl, zc3 84 (by decide +kernel) rfl, by decide +kernel⟩
theorem bX8_wordNumber : Cond.initialized (mX8_wordNumber).1.cls ∈ zt ∧ Cond.code (mX8_wordNumber).1 (mX8_wordNumber).2.1 (mX8_wordNumber).2.2.1 (mX8_wordNumber).2.2.2.1 ∈ zt ∧ ((mX8_wordNumber).1.cls ≠ "java/lang/invoke/MethodHandle" ∧ (mX8_wordNumber).1.cls ≠ "java/lang/invoke/VarHandle" ∧ (parseMethodDescriptor (mX8_wordNumber).1.desc).map (fun d => d.parameters.length) = some 1) := ⟨zc1 2 (by decide +kernel) rfl, zc3 28 (by decide +kernel) rfl, by decide +kernel⟩
theorem bX8_isBlank : Cond.initialized (mX8_isBlank).1.cls ∈ zt ∧ Cond.code (mX8_isBlank).1 (mX8_isBlank).2.1 (mX8_isBlank).2.2.1 (mX8_isBlank).2.2.2.1 ∈ zt ∧ ((mX8_isBlank).1.cls ≠ "java/lang/invoke/MethodHandle" ∧ (mX8_isBlank).1.cls ≠ "java/lang/invoke/VarHandle" ∧ (parseMethodDescriptor (mX8_isBlank).1.desc).map (fun d => d.parameters.length) = some 1) := ⟨zc1 2 (by decide +kernel) rfl, zc3 13 (by decide +kernel) rfl, by decide +kernel⟩
theorem bX8_isLetter : Cond.initialized (mX8_isLetter).1.cls ∈ zt ∧ Cond.code (mX8_isLetter).1 (mX8_isLetter).2.1 (mX8_isLetter).2.2.1 (mX8_isLetter).2.2.2.1 ∈ zt ∧ ((mX8_isLetter).1.cls ≠ "java/lang/invoke/MethodHandle" ∧ (mX8_isLetter).1.cls ≠ "java/lang/invoke/VarHandle" ∧ (parseMethodDescriptor (mX8_isLetter).1.desc).map (fun d => d.parameters.length) = some 1) := ⟨zc1 2 (by decide +kernel) rfl, zc3 20 (by decide +kernel) rfl, by decide +kernel⟩
theorem bX8_isDigit : Cond.initialized (mX8_isDigit).1.cls ∈ zt ∧ Cond.code (mX8_isDigit).1 (mX8_isDigit).2.1 (mX8_isDigit).2.2.1 (mX8_isDigit).2.2.2.1 ∈ zt ∧ ((mX8_isDigit).1.cls ≠ "java/lang/invoke/MethodHandle" ∧ (mX8_isDigit).1.cls ≠ "java/lang/invoke/VarHandle" ∧ (parseMethodDescriptor (mX8_isDigit).1.desc).map (fun d => d.parameters.length) = some 1) := ⟨zc1 2 (by decide +kernel) rfl, zc3 80 (by decide +kernel) rfl, by decide +kernel⟩
theorem bX9_init : Cond.initialized (mX9_init).1.cls ∈ zt ∧ Cond.code (mX9_init).1 (mX9_init).2.1 (mX9_init).2.2.1 (mX9_init).2.2.2.1 ∈ zt ∧ ((mX9_init).1.cls ≠ "java/lang/invoke/MethodHandle" ∧ (mX9_init).1.cls ≠ "java/lang/invoke/VarHandle" ∧ (parseMethodDescriptor (mX9_init).1.desc).map (fun d => d.parameters.length) = some 0) := ⟨zc1 1 (by decide +kernel) rfl, zc1 24 (by decide +kernel) rfl, by decide +kernel⟩
theorem bX9_feed : Cond.initialized (mX9_feed).1.cls ∈ zt ∧ Cond.code (mX9_feed).1 (mX9_feed).2.1 (mX9_feed).2.2.1 (mX9_feed).2.2.2.1 ∈ zt ∧ ((mX9_feed).1.cls ≠ "java/lang/invoke/MethodHandle" ∧ (mX9_feed).1.cls ≠ "java/lang/invoke/VarHandle" ∧ (parseMethodDescriptor (mX9_feed).1.desc).map (fun d => d.parameters.length) = some 5) := ⟨zc1 1 (by decide +kernel) rfl, zc2 229 (by decide +kernel) rfl, by decide +kernel⟩
theorem bX9_end : Cond.initialized (mX9_end).1.cls ∈ zt ∧ Cond.code (mX9_end).1 (mX9_end).2.1 (mX9_end).2.2.1 (mX9_end).2.2.2.1 ∈ zt ∧ ((mX9_end).1.cls ≠ "java/lang/invoke/MethodHandle" ∧ (mX9_end).1.cls ≠ "java/lang/invoke/VarHandle" ∧ (parseMethodDescriptor (mX9_end).1.desc).map (fun d => d.parameters.length) = some 1) := ⟨zc1 1 (by decide +kernel) rfl, zc2 237 (by decide +kernel) rfl, by decide +kernel⟩
theorem bX9_field : Cond.initialized (mX9_field).1.cls ∈ zt ∧ Cond.code (mX9_field).1 (mX9_field).2.1 (mX9_field).2.2.1 (mX9_field).2.2.2.1 ∈ zt ∧ ((mX9_field).1.cls ≠ "java/lang/invoke/MethodHandle" ∧ (mX9_field).1.cls ≠ "java/lang/invoke/VarHandle" ∧ (parseMethodDescriptor (mX9_field).1.desc).map (fun d => d.parameters.length) = some 0) := ⟨zc1 1 (by decide +kernel) rfl, zc3 1 (by decide +kernel) rfl, by decide +kernel⟩
theorem bX9_fault : Cond.initialized (mX9_fault).1.cls ∈ zt ∧ Cond.code (mX9_fault).1 (mX9_fault).2.1 (mX9_fault).2.2.1 (mX9_fault).2.2.2.1 ∈ zt ∧ ((mX9_fault).1.cls ≠ "java/lang/invoke/MethodHandle" ∧ (mX9_fault).1.cls ≠ "java/lang/invoke/VarHandle" ∧ (parseMethodDescriptor (mX9_fault).1.desc).map (fun d => d.parameters.length) = some 1) := ⟨zc1 1 (by decide +kernel) rfl, zc3 157 (by decide +kernel) rfl, by decide +kernel⟩
theorem bX9_adopt : Cond.initialized (mX9_adopt).1.cls ∈ zt ∧ Cond.code (mX9_adopt).1 (mX9_adopt).2.1 (mX9_adopt).2.2.1 (mX9_adopt).2.2.2.1 ∈ zt ∧ ((mX9_adopt).1.cls ≠ "java/lang/invoke/MethodHandle" ∧ (mX9_adopt).1.cls ≠ "java/lang/invoke/VarHandle" ∧ (parseMethodDescriptor (mX9_adopt).1.desc).map (fun d => d.parameters.length) = some 1) := ⟨zc1 1 (by decide +kernel) rfl, zc2 119 (by decide +kernel) rfl, by decide +kernel⟩
theorem bX9_cell : Cond.initialized (mX9_cell).1.cls ∈ zt ∧ Cond.code (mX9_cell).1 (mX9_cell).2.1 (mX9_cell).2.2.1 (mX9_cell).2.2.2.1 ∈ zt ∧ ((mX9_cell).1.cls ≠ "java/lang/invoke/MethodHandle" ∧ (mX9_cell).1.cls ≠ "java/lang/invoke/VarHandle" ∧ (parseMethodDescriptor (mX9_cell).1.desc).map (fun d => d.parameters.length) = some 2) := ⟨zc1 1 (by decide +kernel) rfl, zc3 161 (by decide +kernel) rfl, by decide +kernel⟩
theorem bX9_beside : Cond.initialized (mX9_beside).1.cls ∈ zt ∧ Cond.code (mX9_beside).1 (mX9_beside).2.1 (mX9_beside).2.2.1 (mX9_beside).2.2.2.1 ∈ zt ∧ ((mX9_beside).1.cls ≠ "java/lang/invoke/MethodHandle" ∧ (mX9_beside).1.cls ≠ "java/lang/invoke/VarHandle" ∧ (parseMethodDescriptor (mX9_beside).1.desc).map (fun d => d.parameters.length) = some 2) := ⟨zc1 1 (by decide +kernel) rfl, zc3 197 (by decide +kernel) rfl, by decide +kernel⟩
theorem bX9_wind : Cond.initialized (mX9_wind).1.cls ∈ zt ∧ Cond.code (mX9_wind).1 (mX9_wind).2.1 (mX9_wind).2.2.1 (mX9_wind).2.2.2.1 ∈ zt ∧ ((mX9_wind).1.cls ≠ "java/lang/invoke/MethodHandle" ∧ (mX9_wind).1.cls ≠ "java/lang/invoke/VarHandle" ∧ (parseMethodDescriptor (mX9_wind).1.desc).map (fun d => d.parameters.length) = some 1) := ⟨zc1 1 (by decide +kernel) rfl, zc3 201 (by decide +kernel) rfl, by decide +kernel⟩
theorem bX9_windNow : Cond.initialized (mX9_windNow).1.cls ∈ zt ∧ Cond.code (mX9_windNow).1 (mX9_windNow).2.1 (mX9_windNow).2.2.1 (mX9_windNow).2.2.2.1 ∈ zt ∧ ((mX9_windNow).1.cls ≠ "java/lang/invoke/MethodHandle" ∧ (mX9_windNow).1.cls ≠ "java/lang/invoke/VarHandle" ∧ (parseMethodDescriptor (mX9_windNow).1.desc).map (fun d => d.parameters.length) = some 0) := ⟨zc1 1 (by decide +kernel) rfl, zc3 169 (by decide +kernel) rfl, by decide +kernel⟩
theorem bX9_steepness : Cond.initialized (mX9_steepness).1.cls ∈ zt ∧ Cond.code (mX9_steepness).1 (mX9_steepness).2.1 (mX9_steepness).2.2.1 (mX9_steepness).2.2.2.1 ∈ zt ∧ ((mX9_steepness).1.cls ≠ "java/lang/invoke/MethodHandle" ∧ (mX9_steepness).1.cls ≠ "java/lang/invoke/VarHandle" ∧ (parseMethodDescriptor (mX9_steepness).1.desc).map (fun d => d.parameters.length) = some 1) := ⟨zc1 1 (by decide +kernel) rfl, zc3 185 (by decide +kernel) rfl, by decide +kernel⟩
theorem bX9_blow : Cond.initialized (mX9_blow).1.cls ∈ zt ∧ Cond.code (mX9_blow).1 (mX9_blow).2.1 (mX9_blow).2.2.1 (mX9_blow).2.2.2.1 ∈ zt ∧ ((mX9_blow).1.cls ≠ "java/lang/invoke/MethodHandle" ∧ (mX9_blow).1.cls ≠ "java/lang/invoke/VarHandle" ∧ (parseMethodDescriptor (mX9_blow).1.desc).map (fun d => d.parameters.length) = some 1) := ⟨zc1 1 (by decide +kernel) rfl, zc3 205 (by decide +kernel) rfl, by decide +kernel⟩
theorem bX9_put : Cond.initialized (mX9_put).1.cls ∈ zt ∧ Cond.code (mX9_put).1 (mX9_put).2.1 (mX9_put).2.2.1 (mX9_put).2.2.2.1 ∈ zt ∧ ((mX9_put).1.cls ≠ "java/lang/invoke/MethodHandle" ∧ (mX9_put).1.cls ≠ "java/lang/invoke/VarHandle" ∧ (parseMethodDescriptor (mX9_put).1.desc).map (fun d => d.parameters.length) = some 2) := ⟨zc1 1 (by decide +kernel) rfl, zc4 19 (by decide +kernel) rfl, by decide +kernel⟩
theorem bX9_take : Cond.initialized (mX9_take).1.cls ∈ zt ∧ Cond.code (mX9_take).1 (mX9_take).2.1 (mX9_take).2.2.1 (mX9_take).2.2.2.1 ∈ zt ∧ ((mX9_take).1.cls ≠ "java/lang/invoke/MethodHandle" ∧ (mX9_take).1.cls ≠ "java/lang/invoke/VarHandle" ∧ (parseMethodDescriptor (mX9_take).1.desc).map (fun d => d.parameters.length) = some 1) := ⟨zc1 1 (by decide +kernel) rfl, zc4 24 (by decide +kernel) rfl, by decide +kernel⟩
theorem bX9_sow : Cond.initialized (mX9_sow).1.cls ∈ zt ∧ Cond.code (mX9_sow).1 (mX9_sow).2.1 (mX9_sow).2.2.1 (mX9_sow).2.2.2.1 ∈ zt ∧ ((mX9_sow).1.cls ≠ "java/lang/invoke/MethodHandle" ∧ (mX9_sow).1.cls ≠ "java/lang/invoke/VarHandle" ∧ (parseMethodDescriptor (mX9_sow).1.desc).map (fun d => d.parameters.length) = some 2) := ⟨zc1 1 (by decide +kernel) rfl, zc4 29 (by decide +kernel) rfl, by decide +kernel⟩
theorem bX9_turn : Cond.initialized (mX9_turn).1.cls ∈ zt ∧ Cond.code (mX9_turn).1 (mX9_turn).2.1 (mX9_turn).2.2.1 (mX9_turn).2.2.2.1 ∈ zt ∧ ((mX9_turn).1.cls ≠ "java/lang/invoke/MethodHandle" ∧ (mX9_turn).1.cls ≠ "java/lang/invoke/VarHandle" ∧ (parseMethodDescriptor (mX9_turn).1.desc).map (fun d => d.parameters.length) = some 2) := ⟨zc1 1 (by decide +kernel) rfl, zc4 37 (by decide +kernel) rfl, by decide +kernel⟩
theorem bX9_undo : Cond.initialized (mX9_undo).1.cls ∈ zt ∧ Cond.code (mX9_undo).1 (mX9_undo).2.1 (mX9_undo).2.2.1 (mX9_undo).2.2.2.1 ∈ zt ∧ ((mX9_undo).1.cls ≠ "java/lang/invoke/MethodHandle" ∧ (mX9_undo).1.cls ≠ "java/lang/invoke/VarHandle" ∧ (parseMethodDescriptor (mX9_undo).1.desc).map (fun d => d.parameters.length) = some 0) := ⟨zc1 1 (by decide +kernel) rfl, zc4 43 (by decide +kernel) rfl, by decide +kernel⟩
theorem bX9_redo : Cond.initialized (mX9_redo).1.cls ∈ zt ∧ Cond.code (mX9_redo).1 (mX9_redo).2.1 (mX9_redo).2.2.1 (mX9_redo).2.2.2.1 ∈ zt ∧ ((mX9_redo).1.cls ≠ "java/lang/invoke/MethodHandle" ∧ (mX9_redo).1.cls ≠ "java/lang/invoke/VarHandle" ∧ (parseMethodDescriptor (mX9_redo).1.desc).map (fun d => d.parameters.length) = some 0) := ⟨zc1 1 (by decide +kernel) rfl, zc4 51 (by decide +kernel) rfl, by decide +kernel⟩
theorem bX9_grassy : Cond.initialized (mX9_grassy).1.cls ∈ zt ∧ Cond.code (mX9_grassy).1 (mX9_grassy).2.1 (mX9_grassy).2.2.1 (mX9_grassy).2.2.2.1 ∈ zt ∧ ((mX9_grassy).1.cls ≠ "java/lang/invoke/MethodHandle" ∧ (mX9_grassy).1.cls ≠ "java/lang/invoke/VarHandle" ∧ (parseMethodDescriptor (mX9_grassy).1.desc).map (fun d => d.parameters.length) = some 0) := ⟨zc1 1 (by decide +kernel) rfl, zc4 33 (by decide +kernel) rfl, by decide +kernel⟩
theorem bX9_all : Cond.initialized (mX9_all).1.cls ∈ zt ∧ Cond.code (mX9_all).1 (mX9_all).2.1 (mX9_all).2.2.1 (mX9_all).2.2.2.1 ∈ zt ∧ ((mX9_all).1.cls ≠ "java/lang/invoke/MethodHandle" ∧ (mX9_all).1.cls ≠ "java/lang/invoke/VarHandle" ∧ (parseMethodDescriptor (mX9_all).1.desc).map (fun d => d.parameters.length) = some 1) := ⟨zc1 1 (by decide +kernel) rfl, zc4 59 (by decide +kernel) rfl, by decide +kernel⟩
theorem bX9_shadedCells : Cond.initialized (mX9_shadedCells).1.cls ∈ zt ∧ Cond.code (mX9_shadedCells).1 (mX9_shadedCells).2.1 (mX9_shadedCells).2.2.1 (mX9_shadedCells).2.2.2.1 ∈ zt ∧ ((mX9_shadedCells).1.cls ≠ "java/lang/invoke/MethodHandle" ∧ (mX9_shadedCells).1.cls ≠ "java/lang/invoke/VarHandle" ∧ (parseMethodDescriptor (mX9_shadedCells).1.desc).map (fun d => d.parameters.length) = some 0) := ⟨zc1 1 (by decide +kernel) rfl, zc4 76 (by decide +kernel) rfl, by decide +kernel⟩
theorem bX9_greatestDifference : Cond.initialized (mX9_greatestDifference).1.cls ∈ zt ∧ Cond.code (mX9_greatestDifference).1 (mX9_greatestDifference).2.1 (mX9_greatestDifference).2.2.1 (mX9_greatestDifference).2.2.2.1 ∈ zt ∧ ((mX9_greatestDifference).1.cls ≠ "java/lang/invoke/MethodHandle" ∧ (mX9_greatestDifference).1.cls ≠ "java/lang/invoke/VarHandle" ∧ (parseMethodDescriptor (mX9_greatestDifference).1.desc).map (fun d => d.parameters.length) = some 0) := ⟨zc1 1 (by decide +kernel) rfl, zc4 80 (by decide +kernel) rfl, by decide +kernel⟩
theorem bX9_allDifferences : Cond.initialized (mX9_allDifferences).1.cls ∈ zt ∧ Cond.code (mX9_allDifferences).1 (mX9_allDifferences).2.1 (mX9_allDifferences).2.2.1 (mX9_allDifferences).2.2.2.1 ∈ zt ∧ ((mX9_allDifferences).1.cls ≠ "java/lang/invoke/MethodHandle" ∧ (mX9_allDifferences).1.cls ≠ "java/lang/invoke/VarHandle" ∧ (parseMethodDescriptor (mX9_allDifferences).1.desc).map (fun d => d.parameters.length) = some 0) := ⟨zc1 1 (by decide +kernel) rfl, zc4 84 (by decide +kernel) rfl, by decide +kernel⟩
theorem bX9_yieldingCells : Cond.initialized (mX9_yieldingCells).1.cls ∈ zt ∧ Cond.code (mX9_yieldingCells).1 (mX9_yieldingCells).2.1 (mX9_yieldingCells).2.2.1 (mX9_yieldingCells).2.2.2.1 ∈ zt ∧ ((mX9_yieldingCells).1.cls ≠ "java/lang/invoke/MethodHandle" ∧ (mX9_yieldingCells).1.cls ≠ "java/lang/invoke/VarHandle" ∧ (parseMethodDescriptor (mX9_yieldingCells).1.desc).map (fun d => d.parameters.length) = some 0) := ⟨zc1 1 (by decide +kernel) rfl, zc4 91 (by decide +kernel) rfl, by decide +kernel⟩
theorem bX9_skyline : Cond.initialized (mX9_skyline).1.cls ∈ zt ∧ Cond.code (mX9_skyline).1 (mX9_skyline).2.1 (mX9_skyline).2.2.1 (mX9_skyline).2.2.2.1 ∈ zt ∧ ((mX9_skyline).1.cls ≠ "java/lang/invoke/MethodHandle" ∧ (mX9_skyline).1.cls ≠ "java/lang/invoke/VarHandle" ∧ (parseMethodDescriptor (mX9_skyline).1.desc).map (fun d => d.parameters.length) = some 2) := ⟨zc1 1 (by decide +kernel) rfl, zc4 96 (by decide +kernel) rfl, by decide +kernel⟩
theorem bX9_lands : Cond.initialized (mX9_lands).1.cls ∈ zt ∧ Cond.code (mX9_lands).1 (mX9_lands).2.1 (mX9_lands).2.2.1 (mX9_lands).2.2.2.1 ∈ zt ∧ ((mX9_lands).1.cls ≠ "java/lang/invoke/MethodHandle" ∧ (mX9_lands).1.cls ≠ "java/lang/invoke/VarHandle" ∧ (parseMethodDescriptor (mX9_lands).1.desc).map (fun d => d.parameters.length) = some 4) := ⟨zc1 1 (by decide +kernel) rfl, zc4 100 (by decide +kernel) rfl, by decide +kernel⟩
theorem bX9_lowestTerms : Cond.initialized (mX9_lowestTerms).1.cls ∈ zt ∧ Cond.code (mX9_lowestTerms).1 (mX9_lowestTerms).2.1 (mX9_lowestTerms).2.2.1 (mX9_lowestTerms).2.2.2.1 ∈ zt ∧ ((mX9_lowestTerms).1.cls ≠ "java/lang/invoke/MethodHandle" ∧ (mX9_lowestTerms).1.cls ≠ "java/lang/invoke/VarHandle" ∧ (parseMethodDescriptor (mX9_lowestTerms).1.desc).map (fun d => d.parameters.length) = some 3) := ⟨zc1 1 (by decide +kernel) rfl, zc4 107 (by decide +kernel) rfl, by decide +kernel⟩
theorem bX9_dunes : Cond.initialized (mX9_dunes).1.cls ∈ zt ∧ Cond.code (mX9_dunes).1 (mX9_dunes).2.1 (mX9_dunes).2.2.1 (mX9_dunes).2.2.2.1 ∈ zt ∧ ((mX9_dunes).1.cls ≠ "java/lang/invoke/MethodHandle" ∧ (mX9_dunes).1.cls ≠ "java/lang/invoke/VarHandle" ∧ (parseMethodDescriptor (mX9_dunes).1.desc).map (fun d => d.parameters.length) = some 1) := ⟨zc1 1 (by decide +kernel) rfl, zc4 112 (by decide +kernel) rfl, by decide +kernel⟩
theorem bX9_dune : Cond.initialized (mX9_dune).1.cls ∈ zt ∧ Cond.code (mX9_dune).1 (mX9_dune).2.1 (mX9_dune).2.2.1 (mX9_dune).2.2.2.1 ∈ zt ∧ ((mX9_dune).1.cls ≠ "java/lang/invoke/MethodHandle" ∧ (mX9_dune).1.cls ≠ "java/lang/invoke/VarHandle" ∧ (parseMethodDescriptor (mX9_dune).1.desc).map (fun d => d.parameters.length) = some 3) := ⟨zc1 1 (by decide +kernel) rfl, zc4 134 (by decide +kernel) rfl, by decide +kernel⟩
theorem bX9_duneOf : Cond.initialized (mX9_duneOf).1.cls ∈ zt ∧ Cond.code (mX9_duneOf).1 (mX9_duneOf).2.1 (mX9_duneOf).2.2.1 (mX9_duneOf).2.2.2.1 ∈ zt ∧ ((mX9_duneOf).1.cls ≠ "java/lang/invoke/MethodHandle" ∧ (mX9_duneOf).1.cls ≠ "java/lang/invoke/VarHandle" ∧ (parseMethodDescriptor (mX9_duneOf).1.desc).map (fun d => d.parameters.length) = some 2) := ⟨zc1 1 (by decide +kernel) rfl, zc4 159 (by decide +kernel) rfl, by decide +kernel⟩
theorem bX9_slabsOf : Cond.initialized (mX9_slabsOf).1.cls ∈ zt ∧ Cond.code (mX9_slabsOf).1 (mX9_slabsOf).2.1 (mX9_slabsOf).2.2.1 (mX9_slabsOf).2.2.2.1 ∈ zt ∧ ((mX9_slabsOf).1.cls ≠ "java/lang/invoke/MethodHandle" ∧ (mX9_slabsOf).1.cls ≠ "java/lang/invoke/VarHandle" ∧ (parseMethodDescriptor (mX9_slabsOf).1.desc).map (fun d => d.parameters.length) = some 1) := ⟨zc1 1 (by decide +kernel) rfl, zc4 146 (by decide +kernel) rfl, by decide +kernel⟩
theorem bX9_peakOf : Cond.initialized (mX9_peakOf).1.cls ∈ zt ∧ Cond.code (mX9_peakOf).1 (mX9_peakOf).2.1 (mX9_peakOf).2.2.1 (mX9_peakOf).2.2.2.1 ∈ zt ∧ ((mX9_peakOf).1.cls ≠ "java/lang/invoke/MethodHandle" ∧ (mX9_peakOf).1.cls ≠ "java/lang/invoke/VarHandle" ∧ (parseMethodDescriptor (mX9_peakOf).1.desc).map (fun d => d.parameters.length) = some 1) := ⟨zc1 1 (by decide +kernel) rfl, zc4 150 (by decide +kernel) rfl, by decide +kernel⟩
theorem bX9_linesOf : Cond.initialized (mX9_linesOf).1.cls ∈ zt ∧ Cond.code (mX9_linesOf).1 (mX9_linesOf).2.1 (mX9_linesOf).2.2.1 (mX9_linesOf).2.2.2.1 ∈ zt ∧ ((mX9_linesOf).1.cls ≠ "java/lang/invoke/MethodHandle" ∧ (mX9_linesOf).1.cls ≠ "java/lang/invoke/VarHandle" ∧ (parseMethodDescriptor (mX9_linesOf).1.desc).map (fun d => d.parameters.length) = some 2) := ⟨zc1 1 (by decide +kernel) rfl, zc4 154 (by decide +kernel) rfl, by decide +kernel⟩
theorem bX9_parts : Cond.initialized (mX9_parts).1.cls ∈ zt ∧ Cond.code (mX9_parts).1 (mX9_parts).2.1 (mX9_parts).2.2.1 (mX9_parts).2.2.2.1 ∈ zt ∧ ((mX9_parts).1.cls ≠ "java/lang/invoke/MethodHandle" ∧ (mX9_parts).1.cls ≠ "java/lang/invoke/VarHandle" ∧ (parseMethodDescriptor (mX9_parts).1.desc).map (fun d => d.parameters.length) = some 1) := ⟨zc1 1 (by decide +kernel) rfl, zc4 163 (by decide +kernel) rfl, by decide +kernel⟩
theorem bX9_leastFrom : Cond.initialized (mX9_leastFrom).1.cls ∈ zt ∧ Cond.code (mX9_leastFrom).1 (mX9_leastFrom).2.1 (mX9_leastFrom).2.2.1 (mX9_leastFrom).2.2.2.1 ∈ zt ∧ ((mX9_leastFrom).1.cls ≠ "java/lang/invoke/MethodHandle" ∧ (mX9_leastFrom).1.cls ≠ "java/lang/invoke/VarHandle" ∧ (parseMethodDescriptor (mX9_leastFrom).1.desc).map (fun d => d.parameters.length) = some 1) := ⟨zc1 1 (by decide +kernel) rfl, zc4 167 (by decide +kernel) rfl, by decide +kernel⟩
theorem bX9_saddle : Cond.initialized (mX9_saddle).1.cls ∈ zt ∧ Cond.code (mX9_saddle).1 (mX9_saddle).2.1 (mX9_saddle).2.2.1 (mX9_saddle).2.2.2.1 ∈ zt ∧ ((mX9_saddle).1.cls ≠ "java/lang/invoke/MethodHandle" ∧ (mX9_saddle).1.cls ≠ "java/lang/invoke/VarHandle" ∧ (parseMethodDescriptor (mX9_saddle).1.desc).map (fun d => d.parameters.length) = some 2) := ⟨zc1 1 (by decide +kernel) rfl, zc4 171 (by decide +kernel) rfl, by decide +kernel⟩
theorem bX9_greatestBelow : Cond.initialized (mX9_greatestBelow).1.cls ∈ zt ∧ Cond.code (mX9_greatestBelow).1 (mX9_greatestBelow).2.1 (mX9_greatestBelow).2.2.1 (mX9_greatestBelow).2.2.2.1 ∈ zt ∧ ((mX9_greatestBelow).1.cls ≠ "java/lang/invoke/MethodHandle" ∧ (mX9_greatestBelow).1.cls ≠ "java/lang/invoke/VarHandle" ∧ (parseMethodDescriptor (mX9_greatestBelow).1.desc).map (fun d => d.parameters.length) = some 1) := ⟨zc1 1 (by decide +kernel) rfl, zc4 178 (by decide +kernel) rfl, by decide +kernel⟩
theorem bX9_crests : Cond.initialized (mX9_crests).1.cls ∈ zt ∧ Cond.code (mX9_crests).1 (mX9_crests).2.1 (mX9_crests).2.2.1 (mX9_crests).2.2.2.1 ∈ zt ∧ ((mX9_crests).1.cls ≠ "java/lang/invoke/MethodHandle" ∧ (mX9_crests).1.cls ≠ "java/lang/invoke/VarHandle" ∧ (parseMethodDescriptor (mX9_crests).1.desc).map (fun d => d.parameters.length) = some 1) := ⟨zc1 1 (by decide +kernel) rfl, zc4 182 (by decide +kernel) rfl, by decide +kernel⟩
theorem bX9_follows : Cond.initialized (mX9_follows).1.cls ∈ zt ∧ Cond.code (mX9_follows).1 (mX9_follows).2.1 (mX9_follows).2.2.1 (mX9_follows).2.2.2.1 ∈ zt ∧ ((mX9_follows).1.cls ≠ "java/lang/invoke/MethodHandle" ∧ (mX9_follows).1.cls ≠ "java/lang/invoke/VarHandle" ∧ (parseMethodDescriptor (mX9_follows).1.desc).map (fun d => d.parameters.length) = some 3) := ⟨zc1 1 (by decide +kernel) rfl, zc4 191 (by decide +kernel) rfl, by decide +kernel⟩
theorem bX9_fates : Cond.initialized (mX9_fates).1.cls ∈ zt ∧ Cond.code (mX9_fates).1 (mX9_fates).2.1 (mX9_fates).2.2.1 (mX9_fates).2.2.2.1 ∈ zt ∧ ((mX9_fates).1.cls ≠ "java/lang/invoke/MethodHandle" ∧ (mX9_fates).1.cls ≠ "java/lang/invoke/VarHandle" ∧ (parseMethodDescriptor (mX9_fates).1.desc).map (fun d => d.parameters.length) = some 3) := ⟨zc1 1 (by decide +kernel) rfl, zc4 203 (by decide +kernel) rfl, by decide +kernel⟩
theorem bX9_isKept : Cond.initialized (mX9_isKept).1.cls ∈ zt ∧ Cond.code (mX9_isKept).1 (mX9_isKept).2.1 (mX9_isKept).2.2.1 (mX9_isKept).2.2.2.1 ∈ zt ∧ ((mX9_isKept).1.cls ≠ "java/lang/invoke/MethodHandle" ∧ (mX9_isKept).1.cls ≠ "java/lang/invoke/VarHandle" ∧ (parseMethodDescriptor (mX9_isKept).1.desc).map (fun d => d.parameters.length) = some 1) := ⟨zc1 1 (by decide +kernel) rfl, zc4 195 (by decide +kernel) rfl, by decide +kernel⟩
theorem bX9_joinBoth : Cond.initialized (mX9_joinBoth).1.cls ∈ zt ∧ Cond.code (mX9_joinBoth).1 (mX9_joinBoth).2.1 (mX9_joinBoth).2.2.1 (mX9_joinBoth).2.2.2.1 ∈ zt ∧ ((mX9_joinBoth).1.cls ≠ "java/lang/invoke/MethodHandle" ∧ (mX9_joinBoth).1.cls ≠ "java/lang/invoke/VarHandle" ∧ (parseMethodDescriptor (mX9_joinBoth).1.desc).map (fun d => d.parameters.length) = some 2) := ⟨zc1 1 (by decide +kernel) rfl, zc4 199 (by decide +kernel) rfl, by decide +kernel⟩
theorem bX9_meetingMany : Cond.initialized (mX9_meetingMany).1.cls ∈ zt ∧ Cond.code (mX9_meetingMany).1 (mX9_meetingMany).2.1 (mX9_meetingMany).2.2.1 (mX9_meetingMany).2.2.2.1 ∈ zt ∧ ((mX9_meetingMany).1.cls ≠ "java/lang/invoke/MethodHandle" ∧ (mX9_meetingMany).1.cls ≠ "java/lang/invoke/VarHandle" ∧ (parseMethodDescriptor (mX9_meetingMany).1.desc).map (fun d => d.parameters.length) = some 2) := ⟨zc1 1 (by decide +kernel) rfl, zc4 207 (by decide +kernel) rfl, by decide +kernel⟩
theorem bX9_meetingNone : Cond.initialized (mX9_meetingNone).1.cls ∈ zt ∧ Cond.code (mX9_meetingNone).1 (mX9_meetingNone).2.1 (mX9_meetingNone).2.2.1 (mX9_meetingNone).2.2.2.1 ∈ zt ∧ ((mX9_meetingNone).1.cls ≠ "java/lang/invoke/MethodHandle" ∧ (mX9_meetingNone).1.cls ≠ "java/lang/invoke/VarHandle" ∧ (parseMethodDescriptor (mX9_meetingNone).1.desc).map (fun d => d.parameters.length) = some 2) := ⟨zc1 1 (by decide +kernel) rfl, zc4 211 (by decide +kernel) rfl, by decide +kernel⟩
theorem bX9_shift : Cond.initialized (mX9_shift).1.cls ∈ zt ∧ Cond.code (mX9_shift).1 (mX9_shift).2.1 (mX9_shift).2.2.1 (mX9_shift).2.2.2.1 ∈ zt ∧ ((mX9_shift).1.cls ≠ "java/lang/invoke/MethodHandle" ∧ (mX9_shift).1.cls ≠ "java/lang/invoke/VarHandle" ∧ (parseMethodDescriptor (mX9_shift).1.desc).map (fun d => d.parameters.length) = some 2) := ⟨zc1 1 (by decide +kernel) rfl, zc4 215 (by decide +kernel) rfl, by decide +kernel⟩
theorem bX9_overlap : Cond.initialized (mX9_overlap).1.cls ∈ zt ∧ Cond.code (mX9_overlap).1 (mX9_overlap).2.1 (mX9_overlap).2.2.1 (mX9_overlap).2.2.2.1 ∈ zt ∧ ((mX9_overlap).1.cls ≠ "java/lang/invoke/MethodHandle" ∧ (mX9_overlap).1.cls ≠ "java/lang/invoke/VarHandle" ∧ (parseMethodDescriptor (mX9_overlap).1.desc).map (fun d => d.parameters.length) = some 3) := ⟨zc1 1 (by decide +kernel) rfl, zc4 219 (by decide +kernel) rfl, by decide +kernel⟩
theorem bX9_would : Cond.initialized (mX9_would).1.cls ∈ zt ∧ Cond.code (mX9_would).1 (mX9_would).2.1 (mX9_would).2.2.1 (mX9_would).2.2.2.1 ∈ zt ∧ ((mX9_would).1.cls ≠ "java/lang/invoke/MethodHandle" ∧ (mX9_would).1.cls ≠ "java/lang/invoke/VarHandle" ∧ (parseMethodDescriptor (mX9_would).1.desc).map (fun d => d.parameters.length) = some 2) := ⟨zc1 1 (by decide +kernel) rfl, zc4 224 (by decide +kernel) rfl, by decide +kernel⟩
theorem bX9_next : Cond.initialized (mX9_next).1.cls ∈ zt ∧ Cond.code (mX9_next).1 (mX9_next).2.1 (mX9_next).2.2.1 (mX9_next).2.2.2.1 ∈ zt ∧ ((mX9_next).1.cls ≠ "java/lang/invoke/MethodHandle" ∧ (mX9_next).1.cls ≠ "java/lang/invoke/VarHandle" ∧ (parseMethodDescriptor (mX9_next).1.desc).map (fun d => d.parameters.length) = some 2) := ⟨zc1 1 (by decide +kernel) rfl, zc4 238 (by decide +kernel) rfl, by decide +kernel⟩
theorem bX9_flux : Cond.initialized (mX9_flux).1.cls ∈ zt ∧ Cond.code (mX9_flux).1 (mX9_flux).2.1 (mX9_flux).2.2.1 (mX9_flux).2.2.2.1 ∈ zt ∧ ((mX9_flux).1.cls ≠ "java/lang/invoke/MethodHandle" ∧ (mX9_flux).1.cls ≠ "java/lang/invoke/VarHandle" ∧ (parseMethodDescriptor (mX9_flux).1.desc).map (fun d => d.parameters.length) = some 2) := ⟨zc1 1 (by decide +kernel) rfl, zc5 2 (by decide +kernel) rfl, by decide +kernel⟩
theorem bX9_game : Cond.initialized (mX9_game).1.cls ∈ zt ∧ Cond.code (mX9_game).1 (mX9_game).2.1 (mX9_game).2.2.1 (mX9_game).2.2.2.1 ∈ zt ∧ ((mX9_game).1.cls ≠ "java/lang/invoke/MethodHandle" ∧ (mX9_game).1.cls ≠ "java/lang/invoke/VarHandle" ∧ (parseMethodDescriptor (mX9_game).1.desc).map (fun d => d.parameters.length) = some 3) := ⟨zc1 1 (by decide +kernel) rfl, zc5 6 (by decide +kernel) rfl, by decide +kernel⟩
theorem bX9_tallest : Cond.initialized (mX9_tallest).1.cls ∈ zt ∧ Cond.code (mX9_tallest).1 (mX9_tallest).2.1 (mX9_tallest).2.2.1 (mX9_tallest).2.2.2.1 ∈ zt ∧ ((mX9_tallest).1.cls ≠ "java/lang/invoke/MethodHandle" ∧ (mX9_tallest).1.cls ≠ "java/lang/invoke/VarHandle" ∧ (parseMethodDescriptor (mX9_tallest).1.desc).map (fun d => d.parameters.length) = some 2) := ⟨zc1 1 (by decide +kernel) rfl, zc5 10 (by decide +kernel) rfl, by decide +kernel⟩
theorem bX9_runTrial : Cond.initialized (mX9_runTrial).1.cls ∈ zt ∧ Cond.code (mX9_runTrial).1 (mX9_runTrial).2.1 (mX9_runTrial).2.2.1 (mX9_runTrial).2.2.2.1 ∈ zt ∧ ((mX9_runTrial).1.cls ≠ "java/lang/invoke/MethodHandle" ∧ (mX9_runTrial).1.cls ≠ "java/lang/invoke/VarHandle" ∧ (parseMethodDescriptor (mX9_runTrial).1.desc).map (fun d => d.parameters.length) = some 2) := ⟨zc1 1 (by decide +kernel) rfl, zc4 228 (by decide +kernel) rfl, by decide +kernel⟩
theorem bX9_seen : Cond.initialized (mX9_seen).1.cls ∈ zt ∧ Cond.code (mX9_seen).1 (mX9_seen).2.1 (mX9_seen).2.2.1 (mX9_seen).2.2.2.1 ∈ zt ∧ ((mX9_seen).1.cls ≠ "java/lang/invoke/MethodHandle" ∧ (mX9_seen).1.cls ≠ "java/lang/invoke/VarHandle" ∧ (parseMethodDescriptor (mX9_seen).1.desc).map (fun d => d.parameters.length) = some 4) := ⟨zc1 1 (by decide +kernel) rfl, zc5 14 (by decide +kernel) rfl, by decide +kernel⟩
theorem bX9_untell : Cond.initialized (mX9_untell).1.cls ∈ zt ∧ Cond.code (mX9_untell).1 (mX9_untell).2.1 (mX9_untell).2.2.1 (mX9_untell).2.2.2.1 ∈ zt ∧ ((mX9_untell).1.cls ≠ "java/lang/invoke/MethodHandle" ∧ (mX9_untell).1.cls ≠ "java/lang/invoke/VarHandle" ∧ (parseMethodDescriptor (mX9_untell).1.desc).map (fun d => d.parameters.length) = some 1) := ⟨zc1 1 (by decide +kernel) rfl, zc5 28 (by decide +kernel) rfl, by decide +kernel⟩
theorem bX9_later : Cond.initialized (mX9_later).1.cls ∈ zt ∧ Cond.code (mX9_later).1 (mX9_later).2.1 (mX9_later).2.2.1 (mX9_later).2.2.2.1 ∈ zt ∧ ((mX9_later).1.cls ≠ "java/lang/invoke/MethodHandle" ∧ (mX9_later).1.cls ≠ "java/lang/invoke/VarHandle" ∧ (parseMethodDescriptor (mX9_later).1.desc).map (fun d => d.parameters.length) = some 1) := ⟨zc1 1 (by decide +kernel) rfl, zc5 36 (by decide +kernel) rfl, by decide +kernel⟩
theorem bX9_fits : Cond.initialized (mX9_fits).1.cls ∈ zt ∧ Cond.code (mX9_fits).1 (mX9_fits).2.1 (mX9_fits).2.2.1 (mX9_fits).2.2.2.1 ∈ zt ∧ ((mX9_fits).1.cls ≠ "java/lang/invoke/MethodHandle" ∧ (mX9_fits).1.cls ≠ "java/lang/invoke/VarHandle" ∧ (parseMethodDescriptor (mX9_fits).1.desc).map (fun d => d.parameters.length) = some 1) := ⟨zc1 1 (by decide +kernel) rfl, zc5 41 (by decide +kernel) rfl, by decide +kernel⟩
theorem bX9_fit : Cond.initialized (mX9_fit).1.cls ∈ zt ∧ Cond.code (mX9_fit).1 (mX9_fit).2.1 (mX9_fit).2.2.1 (mX9_fit).2.2.2.1 ∈ zt ∧ ((mX9_fit).1.cls ≠ "java/lang/invoke/MethodHandle" ∧ (mX9_fit).1.cls ≠ "java/lang/invoke/VarHandle" ∧ (parseMethodDescriptor (mX9_fit).1.desc).map (fun d => d.parameters.length) = some 2) := ⟨zc1 1 (by decide +kernel) rfl, zc5 56 (by decide +kernel) rfl, by decide +kernel⟩
theorem bX9_ask : Cond.initialized (mX9_ask).1.cls ∈ zt ∧ Cond.code (mX9_ask).1 (mX9_ask).2.1 (mX9_ask).2.2.1 (mX9_ask).2.2.2.1 ∈ zt ∧ ((mX9_ask).1.cls ≠ "java/lang/invoke/MethodHandle" ∧ (mX9_ask).1.cls ≠ "java/lang/invoke/VarHandle" ∧ (parseMethodDescriptor (mX9_ask).1.desc).map (fun d => d.parameters.length) = some 3) := ⟨zc1 1 (by decide +kernel) rfl, zc5 63 (by decide +kernel) rfl, by decide +kernel⟩
theorem bX9_image : Cond.initialized (mX9_image).1.cls ∈ zt ∧ Cond.code (mX9_image).1 (mX9_image).2.1 (mX9_image).2.2.1 (mX9_image).2.2.2.1 ∈ zt ∧ ((mX9_image).1.cls ≠ "java/lang/invoke/MethodHandle" ∧ (mX9_image).1.cls ≠ "java/lang/invoke/VarHandle" ∧ (parseMethodDescriptor (mX9_image).1.desc).map (fun d => d.parameters.length) = some 1) := ⟨zc1 1 (by decide +kernel) rfl, zc5 82 (by decide +kernel) rfl, by decide +kernel⟩
theorem bX9_back : Cond.initialized (mX9_back).1.cls ∈ zt ∧ Cond.code (mX9_back).1 (mX9_back).2.1 (mX9_back).2.2.1 (mX9_back).2.2.2.1 ∈ zt ∧ ((mX9_back).1.cls ≠ "java/lang/invoke/MethodHandle" ∧ (mX9_back).1.cls ≠ "java/lang/invoke/VarHandle" ∧ (parseMethodDescriptor (mX9_back).1.desc).map (fun d => d.parameters.length) = some 1) := ⟨zc1 1 (by decide +kernel) rfl, zc5 86 (by decide +kernel) rfl, by decide +kernel⟩
theorem bX9_about : Cond.initialized (mX9_about).1.cls ∈ zt ∧ Cond.code (mX9_about).1 (mX9_about).2.1 (mX9_about).2.2.1 (mX9_about).2.2.2.1 ∈ zt ∧ ((mX9_about).1.cls ≠ "java/lang/invoke/MethodHandle" ∧ (mX9_about).1.cls ≠ "java/lang/invoke/VarHandle" ∧ (parseMethodDescriptor (mX9_about).1.desc).map (fun d => d.parameters.length) = some 1) := ⟨zc1 1 (by decide +kernel) rfl, zc5 90 (by decide +kernel) rfl, by decide +kernel⟩
theorem bX10_init : Cond.initialized (mX10_init).1.cls ∈ zt ∧ Cond.code (mX10_init).1 (mX10_init).2.1 (mX10_init).2.2.1 (mX10_init).2.2.2.1 ∈ zt ∧ ((mX10_init).1.cls ≠ "java/lang/invoke/MethodHandle" ∧ (mX10_init).1.cls ≠ "java/lang/invoke/VarHandle" ∧ (parseMethodDescriptor (mX10_init).1.desc).map (fun d => d.parameters.length) = some 0) := ⟨zc1 13 (by decide +kernel) rfl, zc5 95 (by decide +kernel) rfl, by decide +kernel⟩
theorem bX10_isIn : Cond.initialized (mX10_isIn).1.cls ∈ zt ∧ Cond.code (mX10_isIn).1 (mX10_isIn).2.1 (mX10_isIn).2.2.1 (mX10_isIn).2.2.2.1 ∈ zt ∧ ((mX10_isIn).1.cls ≠ "java/lang/invoke/MethodHandle" ∧ (mX10_isIn).1.cls ≠ "java/lang/invoke/VarHandle" ∧ (parseMethodDescriptor (mX10_isIn).1.desc).map (fun d => d.parameters.length) = some 3) := ⟨zc1 13 (by decide +kernel) rfl, zc6 57 (by decide +kernel) rfl, by decide +kernel⟩
theorem bX10_greater : Cond.initialized (mX10_greater).1.cls ∈ zt ∧ Cond.code (mX10_greater).1 (mX10_greater).2.1 (mX10_greater).2.2.1 (mX10_greater).2.2.2.1 ∈ zt ∧ ((mX10_greater).1.cls ≠ "java/lang/invoke/MethodHandle" ∧ (mX10_greater).1.cls ≠ "java/lang/invoke/VarHandle" ∧ (parseMethodDescriptor (mX10_greater).1.desc).map (fun d => d.parameters.length) = some 2) := ⟨zc1 13 (by decide +kernel) rfl, zc7 26 (by decide +kernel) rfl, by decide +kernel⟩
theorem bX10_lesser : Cond.initialized (mX10_lesser).1.cls ∈ zt ∧ Cond.code (mX10_lesser).1 (mX10_lesser).2.1 (mX10_lesser).2.2.1 (mX10_lesser).2.2.2.1 ∈ zt ∧ ((mX10_lesser).1.cls ≠ "java/lang/invoke/MethodHandle" ∧ (mX10_lesser).1.cls ≠ "java/lang/invoke/VarHandle" ∧ (parseMethodDescriptor (mX10_lesser).1.desc).map (fun d => d.parameters.length) = some 2) := ⟨zc1 13 (by decide +kernel) rfl, zc7 129 (by decide +kernel) rfl, by decide +kernel⟩
theorem bX10_truth : Cond.initialized (mX10_truth).1.cls ∈ zt ∧ Cond.code (mX10_truth).1 (mX10_truth).2.1 (mX10_truth).2.2.1 (mX10_truth).2.2.2.1 ∈ zt ∧ ((mX10_truth).1.cls ≠ "java/lang/invoke/MethodHandle" ∧ (mX10_truth).1.cls ≠ "java/lang/invoke/VarHandle" ∧ (parseMethodDescriptor (mX10_truth).1.desc).map (fun d => d.parameters.length) = some 1) := ⟨zc1 13 (by decide +kernel) rfl, zc6 224 (by decide +kernel) rfl, by decide +kernel⟩
theorem bX10_off : Cond.initialized (mX10_off).1.cls ∈ zt ∧ Cond.code (mX10_off).1 (mX10_off).2.1 (mX10_off).2.2.1 (mX10_off).2.2.2.1 ∈ zt ∧ ((mX10_off).1.cls ≠ "java/lang/invoke/MethodHandle" ∧ (mX10_off).1.cls ≠ "java/lang/invoke/VarHandle" ∧ (parseMethodDescriptor (mX10_off).1.desc).map (fun d => d.parameters.length) = some 2) := ⟨zc1 13 (by decide +kernel) rfl, zc7 65 (by decide +kernel) rfl, by decide +kernel⟩
theorem bX10_feed : Cond.initialized (mX10_feed).1.cls ∈ zt ∧ Cond.code (mX10_feed).1 (mX10_feed).2.1 (mX10_feed).2.2.1 (mX10_feed).2.2.2.1 ∈ zt ∧ ((mX10_feed).1.cls ≠ "java/lang/invoke/MethodHandle" ∧ (mX10_feed).1.cls ≠ "java/lang/invoke/VarHandle" ∧ (parseMethodDescriptor (mX10_feed).1.desc).map (fun d => d.parameters.length) = some 5) := ⟨zc1 13 (by decide +kernel) rfl, zc6 46 (by decide +kernel) rfl, by decide +kernel⟩
theorem bX10_four : Cond.initialized (mX10_four).1.cls ∈ zt ∧ Cond.code (mX10_four).1 (mX10_four).2.1 (mX10_four).2.2.1 (mX10_four).2.2.2.1 ∈ zt ∧ ((mX10_four).1.cls ≠ "java/lang/invoke/MethodHandle" ∧ (mX10_four).1.cls ≠ "java/lang/invoke/VarHandle" ∧ (parseMethodDescriptor (mX10_four).1.desc).map (fun d => d.parameters.length) = some 1) := ⟨zc1 13 (by decide +kernel) rfl, zc6 50 (by decide +kernel) rfl, by decide +kernel⟩
theorem bX10_end : Cond.initialized (mX10_end).1.cls ∈ zt ∧ Cond.code (mX10_end).1 (mX10_end).2.1 (mX10_end).2.2.1 (mX10_end).2.2.2.1 ∈ zt ∧ ((mX10_end).1.cls ≠ "java/lang/invoke/MethodHandle" ∧ (mX10_end).1.cls ≠ "java/lang/invoke/VarHandle" ∧ (parseMethodDescriptor (mX10_end).1.desc).map (fun d => d.parameters.length) = some 1) := ⟨zc1 13 (by decide +kernel) rfl, zc6 54 (by decide +kernel) rfl, by decide +kernel⟩
theorem bX10_here : Cond.initialized (mX10_here).1.cls ∈ zt ∧ Cond.code (mX10_here).1 (mX10_here).2.1 (mX10_here).2.2.1 (mX10_here).2.2.2.1 ∈ zt ∧ ((mX10_here).1.cls ≠ "java/lang/invoke/MethodHandle" ∧ (mX10_here).1.cls ≠ "java/lang/invoke/VarHandle" ∧ (parseMethodDescriptor (mX10_here).1.desc).map (fun d => d.parameters.length) = some 1) := ⟨zc1 13 (by decide +kernel) rfl, zc6 69 (by decide +kernel) rfl, by decide +kernel⟩
theorem bX10_isLetter : Cond.initialized (mX10_isLetter).1.cls ∈ zt ∧ Cond.code (mX10_isLetter).1 (mX10_isLetter).2.1 (mX10_isLetter).2.2.1 (mX10_isLetter).2.2.2.1 ∈ zt ∧ ((mX10_isLetter).1.cls ≠ "java/lang/invoke/MethodHandle" ∧ (mX10_isLetter).1.cls ≠ "java/lang/invoke/VarHandle" ∧ (parseMethodDescriptor (mX10_isLetter).1.desc).map (fun d => d.parameters.length) = some 1) := ⟨zc1 13 (by decide +kernel) rfl, zc6 72 (by decide +kernel) rfl, by decide +kernel⟩
theorem bX10_isDigit : Cond.initialized (mX10_isDigit).1.cls ∈ zt ∧ Cond.code (mX10_isDigit).1 (mX10_isDigit).2.1 (mX10_isDigit).2.2.1 (mX10_isDigit).2.2.2.1 ∈ zt ∧ ((mX10_isDigit).1.cls ≠ "java/lang/invoke/MethodHandle" ∧ (mX10_isDigit).1.cls ≠ "java/lang/invoke/VarHandle" ∧ (parseMethodDescriptor (mX10_isDigit).1.desc).map (fun d => d.parameters.length) = some 1) := ⟨zc1 13 (by decide +kernel) rfl, zc6 75 (by decide +kernel) rfl, by decide +kernel⟩
theorem bX10_goOn : Cond.initialized (mX10_goOn).1.cls ∈ zt ∧ Cond.code (mX10_goOn).1 (mX10_goOn).2.1 (mX10_goOn).2.2.1 (mX10_goOn).2.2.2.1 ∈ zt ∧ ((mX10_goOn).1.cls ≠ "java/lang/invoke/MethodHandle" ∧ (mX10_goOn).1.cls ≠ "java/lang/invoke/VarHandle" ∧ (parseMethodDescriptor (mX10_goOn).1.desc).map (fun d => d.parameters.length) = some 0) := ⟨zc1 13 (by decide +kernel) rfl, zc6 65 (by decide +kernel) rfl, by decide +kernel⟩
theorem bX10_wrong : Cond.initialized (mX10_wrong).1.cls ∈ zt ∧ Cond.code (mX10_wrong).1 (mX10_wrong).2.1 (mX10_wrong).2.2.1 (mX10_wrong).2.2.2.1 ∈ zt ∧ ((mX10_wrong).1.cls ≠ "java/lang/invoke/MethodHandle" ∧ (mX10_wrong).1.cls ≠ "java/lang/invoke/VarHandle" ∧ (parseMethodDescriptor (mX10_wrong).1.desc).map (fun d => d.parameters.length) = some 1) := ⟨zc1 13 (by decide +kernel) rfl, zc6 92 (by decide +kernel) rfl, by decide +kernel⟩
theorem bX10_isGood : Cond.initialized (mX10_isGood).1.cls ∈ zt ∧ Cond.code (mX10_isGood).1 (mX10_isGood).2.1 (mX10_isGood).2.2.1 (mX10_isGood).2.2.2.1 ∈ zt ∧ ((mX10_isGood).1.cls ≠ "java/lang/invoke/MethodHandle" ∧ (mX10_isGood).1.cls ≠ "java/lang/invoke/VarHandle" ∧ (parseMethodDescriptor (mX10_isGood).1.desc).map (fun d => d.parameters.length) = some 0) := ⟨zc1 13 (by decide +kernel) rfl, zc6 79 (by decide +kernel) rfl, by decide +kernel⟩
theorem bX10_isWord : Cond.initialized (mX10_isWord).1.cls ∈ zt ∧ Cond.code (mX10_isWord).1 (mX10_isWord).2.1 (mX10_isWord).2.2.1 (mX10_isWord).2.2.2.1 ∈ zt ∧ ((mX10_isWord).1.cls ≠ "java/lang/invoke/MethodHandle" ∧ (mX10_isWord).1.cls ≠ "java/lang/invoke/VarHandle" ∧ (parseMethodDescriptor (mX10_isWord).1.desc).map (fun d => d.parameters.length) = some 1) := ⟨zc1 13 (by decide +kernel) rfl, zc6 84 (by decide +kernel) rfl, by decide +kernel⟩
theorem bX10_numberHere : Cond.initialized (mX10_numberHere).1.cls ∈ zt ∧ Cond.code (mX10_numberHere).1 (mX10_numberHere).2.1 (mX10_numberHere).2.2.1 (mX10_numberHere).2.2.2.1 ∈ zt ∧ ((mX10_numberHere).1.cls ≠ "java/lang/invoke/MethodHandle" ∧ (mX10_numberHere).1.cls ≠ "java/lang/invoke/VarHandle" ∧ (parseMethodDescriptor (mX10_numberHere).1.desc).map (fun d => d.parameters.length) = some 2) := ⟨zc1 13 (by decide +kernel) rfl, zc6 104 (by decide +kernel) rfl, by decide +kernel⟩
theorem bX10_number : Cond.initialized (mX10_number).1.cls ∈ zt ∧ Cond.code (mX10_number).1 (mX10_number).2.1 (mX10_number).2.2.1 (mX10_number).2.2.2.1 ∈ zt ∧ ((mX10_number).1.cls ≠ "java/lang/invoke/MethodHandle" ∧ (mX10_number).1.cls ≠ "java/lang/invoke/VarHandle" ∧ (parseMethodDescriptor (mX10_number).1.desc).map (fun d => d.parameters.length) = some 2) := ⟨zc1 13 (by decide +kernel) rfl, zc6 100 (by decide +kernel) rfl, by decide +kernel⟩
theorem bX10_begins : Cond.initialized (mX10_begins).1.cls ∈ zt ∧ Cond.code (mX10_begins).1 (mX10_begins).2.1 (mX10_begins).2.2.1 (mX10_begins).2.2.2.1 ∈ zt ∧ ((mX10_begins).1.cls ≠ "java/lang/invoke/MethodHandle" ∧ (mX10_begins).1.cls ≠ "java/lang/invoke/VarHandle" ∧ (parseMethodDescriptor (mX10_begins).1.desc).map (fun d => d.parameters.length) = some 0) := ⟨zc1 13 (by decide +kernel) rfl, zc5 100 (by decide +kernel) rfl, by decide +kernel⟩
theorem bX10_once : Cond.initialized (mX10_once).1.cls ∈ zt ∧ Cond.code (mX10_once).1 (mX10_once).2.1 (mX10_once).2.2.1 (mX10_once).2.2.2.1 ∈ zt ∧ ((mX10_once).1.cls ≠ "java/lang/invoke/MethodHandle" ∧ (mX10_once).1.cls ≠ "java/lang/invoke/VarHandle" ∧ (parseMethodDescriptor (mX10_once).1.desc).map (fun d => d.parameters.length) = some 1) := ⟨zc1 13 (by decide +kernel) rfl, zc6 96 (by decide +kernel) rfl, by decide +kernel⟩
theorem bX10_sizeLine : Cond.initialized (mX10_sizeLine).1.cls ∈ zt ∧ Cond.code (mX10_sizeLine).1 (mX10_sizeLine).2.1 (mX10_sizeLine).2.2.1 (mX10_sizeLine).2.2.2.1 ∈ zt ∧ ((mX10_sizeLine).1.cls ≠ "java/lang/invoke/MethodHandle" ∧ (mX10_sizeLine).1.cls ≠ "java/lang/invoke/VarHandle" ∧ (parseMethodDescriptor (mX10_sizeLine).1.desc).map (fun d => d.parameters.length) = some 0) := ⟨zc1 13 (by decide +kernel) rfl, zc6 88 (by decide +kernel) rfl, by decide +kernel⟩
theorem bX10_simple : Cond.initialized (mX10_simple).1.cls ∈ zt ∧ Cond.code (mX10_simple).1 (mX10_simple).2.1 (mX10_simple).2.2.1 (mX10_simple).2.2.2.1 ∈ zt ∧ ((mX10_simple).1.cls ≠ "java/lang/invoke/MethodHandle" ∧ (mX10_simple).1.cls ≠ "java/lang/invoke/VarHandle" ∧ (parseMethodDescriptor (mX10_simple).1.desc).map (fun d => d.parameters.length) = some 4) := ⟨zc1 13 (by decide +kernel) rfl, zc6 114 (by decide +kernel) rfl, by decide +kernel⟩
theorem bX10_heapLine : Cond.initialized (mX10_heapLine).1.cls ∈ zt ∧ Cond.code (mX10_heapLine).1 (mX10_heapLine).2.1 (mX10_heapLine).2.2.1 (mX10_heapLine).2.2.2.1 ∈ zt ∧ ((mX10_heapLine).1.cls ≠ "java/lang/invoke/MethodHandle" ∧ (mX10_heapLine).1.cls ≠ "java/lang/invoke/VarHandle" ∧ (parseMethodDescriptor (mX10_heapLine).1.desc).map (fun d => d.parameters.length) = some 0) := ⟨zc1 13 (by decide +kernel) rfl, zc6 119 (by decide +kernel) rfl, by decide +kernel⟩
theorem bX10_grassLine : Cond.initialized (mX10_grassLine).1.cls ∈ zt ∧ Cond.code (mX10_grassLine).1 (mX10_grassLine).2.1 (mX10_grassLine).2.2.1 (mX10_grassLine).2.2.2.1 ∈ zt ∧ ((mX10_grassLine).1.cls ≠ "java/lang/invoke/MethodHandle" ∧ (mX10_grassLine).1.cls ≠ "java/lang/invoke/VarHandle" ∧ (parseMethodDescriptor (mX10_grassLine).1.desc).map (fun d => d.parameters.length) = some 0) := ⟨zc1 13 (by decide +kernel) rfl, zc6 124 (by decide +kernel) rfl, by decide +kernel⟩
theorem bX10_wayHere : Cond.initialized (mX10_wayHere).1.cls ∈ zt ∧ Cond.code (mX10_wayHere).1 (mX10_wayHere).2.1 (mX10_wayHere).2.2.1 (mX10_wayHere).2.2.2.1 ∈ zt ∧ ((mX10_wayHere).1.cls ≠ "java/lang/invoke/MethodHandle" ∧ (mX10_wayHere).1.cls ≠ "java/lang/invoke/VarHandle" ∧ (parseMethodDescriptor (mX10_wayHere).1.desc).map (fun d => d.parameters.length) = some 0) := ⟨zc1 13 (by decide +kernel) rfl, zc6 133 (by decide +kernel) rfl, by decide +kernel⟩
theorem bX10_windLine : Cond.initialized (mX10_windLine).1.cls ∈ zt ∧ Cond.code (mX10_windLine).1 (mX10_windLine).2.1 (mX10_windLine).2.2.1 (mX10_windLine).2.2.2.1 ∈ zt ∧ ((mX10_windLine).1.cls ≠ "java/lang/invoke/MethodHandle" ∧ (mX10_windLine).1.cls ≠ "java/lang/invoke/VarHandle" ∧ (parseMethodDescriptor (mX10_windLine).1.desc).map (fun d => d.parameters.length) = some 0) := ⟨zc1 13 (by decide +kernel) rfl, zc6 129 (by decide +kernel) rfl, by decide +kernel⟩
theorem bX10_stickLine : Cond.initialized (mX10_stickLine).1.cls ∈ zt ∧ Cond.code (mX10_stickLine).1 (mX10_stickLine).2.1 (mX10_stickLine).2.2.1 (mX10_stickLine).2.2.2.1 ∈ zt ∧ ((mX10_stickLine).1.cls ≠ "java/lang/invoke/MethodHandle" ∧ (mX10_stickLine).1.cls ≠ "java/lang/invoke/VarHandle" ∧ (parseMethodDescriptor (mX10_stickLine).1.desc).map (fun d => d.parameters.length) = some 0) := ⟨zc1 13 (by decide +kernel) rfl, zc6 145 (by decide +kernel) rfl, by decide +kernel⟩
theorem bX10_otherLine : Cond.initialized (mX10_otherLine).1.cls ∈ zt ∧ Cond.code (mX10_otherLine).1 (mX10_otherLine).2.1 (mX10_otherLine).2.2.1 (mX10_otherLine).2.2.2.1 ∈ zt ∧ ((mX10_otherLine).1.cls ≠ "java/lang/invoke/MethodHandle" ∧ (mX10_otherLine).1.cls ≠ "java/lang/invoke/VarHandle" ∧ (parseMethodDescriptor (mX10_otherLine).1.desc).map (fun d => d.parameters.length) = some 0) := ⟨zc1 13 (by decide +kernel) rfl, zc6 109 (by decide +kernel) rfl, by decide +kernel⟩
theorem bX10_takesHalf : Cond.initialized (mX10_takesHalf).1.cls ∈ zt ∧ Cond.code (mX10_takesHalf).1 (mX10_takesHalf).2.1 (mX10_takesHalf).2.2.1 (mX10_takesHalf).2.2.2.1 ∈ zt ∧ ((mX10_takesHalf).1.cls ≠ "java/lang/invoke/MethodHandle" ∧ (mX10_takesHalf).1.cls ≠ "java/lang/invoke/VarHandle" ∧ (parseMethodDescriptor (mX10_takesHalf).1.desc).map (fun d => d.parameters.length) = some 1) := ⟨zc1 13 (by decide +kernel) rfl, zc5 107 (by decide +kernel) rfl, by decide +kernel⟩
theorem bX10_takesOver : Cond.initialized (mX10_takesOver).1.cls ∈ zt ∧ Cond.code (mX10_takesOver).1 (mX10_takesOver).2.1 (mX10_takesOver).2.2.1 (mX10_takesOver).2.2.2.1 ∈ zt ∧ ((mX10_takesOver).1.cls ≠ "java/lang/invoke/MethodHandle" ∧ (mX10_takesOver).1.cls ≠ "java/lang/invoke/VarHandle" ∧ (parseMethodDescriptor (mX10_takesOver).1.desc).map (fun d => d.parameters.length) = some 0) := ⟨zc1 13 (by decide +kernel) rfl, zc5 104 (by decide +kernel) rfl, by decide +kernel⟩
theorem bX10_asTold : Cond.initialized (mX10_asTold).1.cls ∈ zt ∧ Cond.code (mX10_asTold).1 (mX10_asTold).2.1 (mX10_asTold).2.2.1 (mX10_asTold).2.2.2.1 ∈ zt ∧ ((mX10_asTold).1.cls ≠ "java/lang/invoke/MethodHandle" ∧ (mX10_asTold).1.cls ≠ "java/lang/invoke/VarHandle" ∧ (parseMethodDescriptor (mX10_asTold).1.desc).map (fun d => d.parameters.length) = some 1) := ⟨zc1 13 (by decide +kernel) rfl, zc5 143 (by decide +kernel) rfl, by decide +kernel⟩
theorem bX10_field : Cond.initialized (mX10_field).1.cls ∈ zt ∧ Cond.code (mX10_field).1 (mX10_field).2.1 (mX10_field).2.2.1 (mX10_field).2.2.2.1 ∈ zt ∧ ((mX10_field).1.cls ≠ "java/lang/invoke/MethodHandle" ∧ (mX10_field).1.cls ≠ "java/lang/invoke/VarHandle" ∧ (parseMethodDescriptor (mX10_field).1.desc).map (fun d => d.parameters.length) = some 0) := ⟨zc1 13 (by decide +kernel) rfl, zc6 61 (by decide +kernel) rfl, by decide +kernel⟩
theorem bX10_fault : Cond.initialized (mX10_fault).1.cls ∈ zt ∧ Cond.code (mX10_fault).1 (mX10_fault).2.1 (mX10_fault).2.2.1 (mX10_fault).2.2.2.1 ∈ zt ∧ ((mX10_fault).1.cls ≠ "java/lang/invoke/MethodHandle" ∧ (mX10_fault).1.cls ≠ "java/lang/invoke/VarHandle" ∧ (parseMethodDescriptor (mX10_fault).1.desc).map (fun d => d.parameters.length) = some 1) := ⟨zc1 13 (by decide +kernel) rfl, zc6 150 (by decide +kernel) rfl, by decide +kernel⟩
theorem bX10_columns : Cond.initialized (mX10_columns).1.cls ∈ zt ∧ Cond.code (mX10_columns).1 (mX10_columns).2.1 (mX10_columns).2.2.1 (mX10_columns).2.2.2.1 ∈ zt ∧ ((mX10_columns).1.cls ≠ "java/lang/invoke/MethodHandle" ∧ (mX10_columns).1.cls ≠ "java/lang/invoke/VarHandle" ∧ (parseMethodDescriptor (mX10_columns).1.desc).map (fun d => d.parameters.length) = some 0) := ⟨zc1 13 (by decide +kernel) rfl, zc5 115 (by decide +kernel) rfl, by decide +kernel⟩
theorem bX10_rows : Cond.initialized (mX10_rows).1.cls ∈ zt ∧ Cond.code (mX10_rows).1 (mX10_rows).2.1 (mX10_rows).2.2.1 (mX10_rows).2.2.2.1 ∈ zt ∧ ((mX10_rows).1.cls ≠ "java/lang/invoke/MethodHandle" ∧ (mX10_rows).1.cls ≠ "java/lang/invoke/VarHandle" ∧ (parseMethodDescriptor (mX10_rows).1.desc).map (fun d => d.parameters.length) = some 0) := ⟨zc1 13 (by decide +kernel) rfl, zc5 119 (by decide +kernel) rfl, by decide +kernel⟩
theorem bX10_cells : Cond.initialized (mX10_cells).1.cls ∈ zt ∧ Cond.code (mX10_cells).1 (mX10_cells).2.1 (mX10_cells).2.2.1 (mX10_cells).2.2.2.1 ∈ zt ∧ ((mX10_cells).1.cls ≠ "java/lang/invoke/MethodHandle" ∧ (mX10_cells).1.cls ≠ "java/lang/invoke/VarHandle" ∧ (parseMethodDescriptor (mX10_cells).1.desc).map (fun d => d.parameters.length) = some 0) := ⟨zc1 13 (by decide +kernel) rfl, zc5 111 (by decide +kernel) rfl, by decide +kernel⟩
theorem bX10_isCell : Cond.initialized (mX10_isCell).1.cls ∈ zt ∧ Cond.code (mX10_isCell).1 (mX10_isCell).2.1 (mX10_isCell).2.2.1 (mX10_isCell).2.2.2.1 ∈ zt ∧ ((mX10_isCell).1.cls ≠ "java/lang/invoke/MethodHandle" ∧ (mX10_isCell).1.cls ≠ "java/lang/invoke/VarHandle" ∧ (parseMethodDescriptor (mX10_isCell).1.desc).map (fun d => d.parameters.length) = some 1) := ⟨zc1 13 (by decide +kernel) rfl, zc6 236 (by decide +kernel) rfl, by decide +kernel⟩
theorem bX10_goesOn : Cond.initialized (mX10_goesOn).1.cls ∈ zt ∧ Cond.code (mX10_goesOn).1 (mX10_goesOn).2.1 (mX10_goesOn).2.2.1 (mX10_goesOn).2.2.2.1 ∈ zt ∧ ((mX10_goesOn).1.cls ≠ "java/lang/invoke/MethodHandle" ∧ (mX10_goesOn).1.cls ≠ "java/lang/invoke/VarHandle" ∧ (parseMethodDescriptor (mX10_goesOn).1.desc).map (fun d => d.parameters.length) = some 0) := ⟨zc1 13 (by decide +kernel) rfl, zc6 174 (by decide +kernel) rfl, by decide +kernel⟩
theorem bX10_keepsRow : Cond.initialized (mX10_keepsRow).1.cls ∈ zt ∧ Cond.code (mX10_keepsRow).1 (mX10_keepsRow).2.1 (mX10_keepsRow).2.2.1 (mX10_keepsRow).2.2.2.1 ∈ zt ∧ ((mX10_keepsRow).1.cls ≠ "java/lang/invoke/MethodHandle" ∧ (mX10_keepsRow).1.cls ≠ "java/lang/invoke/VarHandle" ∧ (parseMethodDescriptor (mX10_keepsRow).1.desc).map (fun d => d.parameters.length) = some 0) := ⟨zc1 13 (by decide +kernel) rfl, zc6 228 (by decide +kernel) rfl, by decide +kernel⟩
theorem bX10_along : Cond.initialized (mX10_along).1.cls ∈ zt ∧ Cond.code (mX10_along).1 (mX10_along).2.1 (mX10_along).2.2.1 (mX10_along).2.2.2.1 ∈ zt ∧ ((mX10_along).1.cls ≠ "java/lang/invoke/MethodHandle" ∧ (mX10_along).1.cls ≠ "java/lang/invoke/VarHandle" ∧ (parseMethodDescriptor (mX10_along).1.desc).map (fun d => d.parameters.length) = some 3) := ⟨zc1 13 (by decide +kernel) rfl, zc5 131 (by decide +kernel) rfl, by decide +kernel⟩
theorem bX10_roundOf : Cond.initialized (mX10_roundOf).1.cls ∈ zt ∧ Cond.code (mX10_roundOf).1 (mX10_roundOf).2.1 (mX10_roundOf).2.2.1 (mX10_roundOf).2.2.2.1 ∈ zt ∧ ((mX10_roundOf).1.cls ≠ "java/lang/invoke/MethodHandle" ∧ (mX10_roundOf).1.cls ≠ "java/lang/invoke/VarHandle" ∧ (parseMethodDescriptor (mX10_roundOf).1.desc).map (fun d => d.parameters.length) = some 1) := ⟨zc1 13 (by decide +kernel) rfl, zc6 206 (by decide +kernel) rfl, by decide +kernel⟩
theorem bX10_against : Cond.initialized (mX10_against).1.cls ∈ zt ∧ Cond.code (mX10_against).1 (mX10_against).2.1 (mX10_against).2.2.1 (mX10_against).2.2.2.1 ∈ zt ∧ ((mX10_against).1.cls ≠ "java/lang/invoke/MethodHandle" ∧ (mX10_against).1.cls ≠ "java/lang/invoke/VarHandle" ∧ (parseMethodDescriptor (mX10_against).1.desc).map (fun d => d.parameters.length) = some 1) := ⟨zc1 13 (by decide +kernel) rfl, zc6 209 (by decide +kernel) rfl, by decide +kernel⟩
theorem bX10_windOf : Cond.initialized (mX10_windOf).1.cls ∈ zt ∧ Cond.code (mX10_windOf).1 (mX10_windOf).2.1 (mX10_windOf).2.2.1 (mX10_windOf).2.2.2.1 ∈ zt ∧ ((mX10_windOf).1.cls ≠ "java/lang/invoke/MethodHandle" ∧ (mX10_windOf).1.cls ≠ "java/lang/invoke/VarHandle" ∧ (parseMethodDescriptor (mX10_windOf).1.desc).map (fun d => d.parameters.length) = some 1) := ⟨zc1 13 (by decide +kernel) rfl, zc6 202 (by decide +kernel) rfl, by decide +kernel⟩
theorem bX10_windNow : Cond.initialized (mX10_windNow).1.cls ∈ zt ∧ Cond.code (mX10_windNow).1 (mX10_windNow).2.1 (mX10_windNow).2.2.1 (mX10_windNow).2.2.2.1 ∈ zt ∧ ((mX10_windNow).1.cls ≠ "java/lang/invoke/MethodHandle" ∧ (mX10_windNow).1.cls ≠ "java/lang/invoke/VarHandle" ∧ (parseMethodDescriptor (mX10_windNow).1.desc).map (fun d => d.parameters.length) = some 0) := ⟨zc1 13 (by decide +kernel) rfl, zc6 198 (by decide +kernel) rfl, by decide +kernel⟩
theorem bX10_isShadow : Cond.initialized (mX10_isShadow).1.cls ∈ zt ∧ Cond.code (mX10_isShadow).1 (mX10_isShadow).2.1 (mX10_isShadow).2.2.1 (mX10_isShadow).2.2.2.1 ∈ zt ∧ ((mX10_isShadow).1.cls ≠ "java/lang/invoke/MethodHandle" ∧ (mX10_isShadow).1.cls ≠ "java/lang/invoke/VarHandle" ∧ (parseMethodDescriptor (mX10_isShadow).1.desc).map (fun d => d.parameters.length) = some 1) := ⟨zc1 13 (by decide +kernel) rfl, zc6 194 (by decide +kernel) rfl, by decide +kernel⟩
theorem bX10_gives : Cond.initialized (mX10_gives).1.cls ∈ zt ∧ Cond.code (mX10_gives).1 (mX10_gives).2.1 (mX10_gives).2.2.1 (mX10_gives).2.2.2.1 ∈ zt ∧ ((mX10_gives).1.cls ≠ "java/lang/invoke/MethodHandle" ∧ (mX10_gives).1.cls ≠ "java/lang/invoke/VarHandle" ∧ (parseMethodDescriptor (mX10_gives).1.desc).map (fun d => d.parameters.length) = some 1) := ⟨zc1 13 (by decide +kernel) rfl, zc6 190 (by decide +kernel) rfl, by decide +kernel⟩
theorem bX10_wayTo : Cond.initialized (mX10_wayTo).1.cls ∈ zt ∧ Cond.code (mX10_wayTo).1 (mX10_wayTo).2.1 (mX10_wayTo).2.2.1 (mX10_wayTo).2.2.2.1 ∈ zt ∧ ((mX10_wayTo).1.cls ≠ "java/lang/invoke/MethodHandle" ∧ (mX10_wayTo).1.cls ≠ "java/lang/invoke/VarHandle" ∧ (parseMethodDescriptor (mX10_wayTo).1.desc).map (fun d => d.parameters.length) = some 2) := ⟨zc1 13 (by decide +kernel) rfl, zc5 127 (by decide +kernel) rfl, by decide +kernel⟩
theorem bX10_slides : Cond.initialized (mX10_slides).1.cls ∈ zt ∧ Cond.code (mX10_slides).1 (mX10_slides).2.1 (mX10_slides).2.2.1 (mX10_slides).2.2.2.1 ∈ zt ∧ ((mX10_slides).1.cls ≠ "java/lang/invoke/MethodHandle" ∧ (mX10_slides).1.cls ≠ "java/lang/invoke/VarHandle" ∧ (parseMethodDescriptor (mX10_slides).1.desc).map (fun d => d.parameters.length) = some 2) := ⟨zc1 13 (by decide +kernel) rfl, zc5 135 (by decide +kernel) rfl, by decide +kernel⟩
theorem bX10_crosses : Cond.initialized (mX10_crosses).1.cls ∈ zt ∧ Cond.code (mX10_crosses).1 (mX10_crosses).2.1 (mX10_crosses).2.2.1 (mX10_crosses).2.2.2.1 ∈ zt ∧ ((mX10_crosses).1.cls ≠ "java/lang/invoke/MethodHandle" ∧ (mX10_crosses).1.cls ≠ "java/lang/invoke/VarHandle" ∧ (parseMethodDescriptor (mX10_crosses).1.desc).map (fun d => d.parameters.length) = some 3) := ⟨zc1 13 (by decide +kernel) rfl, zc5 139 (by decide +kernel) rfl, by decide +kernel⟩
theorem bX10_fills : Cond.initialized (mX10_fills).1.cls ∈ zt ∧ Cond.code (mX10_fills).1 (mX10_fills).2.1 (mX10_fills).2.2.1 (mX10_fills).2.2.2.1 ∈ zt ∧ ((mX10_fills).1.cls ≠ "java/lang/invoke/MethodHandle" ∧ (mX10_fills).1.cls ≠ "java/lang/invoke/VarHandle" ∧ (parseMethodDescriptor (mX10_fills).1.desc).map (fun d => d.parameters.length) = some 1) := ⟨zc1 13 (by decide +kernel) rfl, zc6 213 (by decide +kernel) rfl, by decide +kernel⟩
theorem bX10_spills : Cond.initialized (mX10_spills).1.cls ∈ zt ∧ Cond.code (mX10_spills).1 (mX10_spills).2.1 (mX10_spills).2.2.1 (mX10_spills).2.2.2.1 ∈ zt ∧ ((mX10_spills).1.cls ≠ "java/lang/invoke/MethodHandle" ∧ (mX10_spills).1.cls ≠ "java/lang/invoke/VarHandle" ∧ (parseMethodDescriptor (mX10_spills).1.desc).map (fun d => d.parameters.length) = some 1) := ⟨zc1 13 (by decide +kernel) rfl, zc6 221 (by decide +kernel) rfl, by decide +kernel⟩
theorem bX10_settles : Cond.initialized (mX10_settles).1.cls ∈ zt ∧ Cond.code (mX10_settles).1 (mX10_settles).2.1 (mX10_settles).2.2.1 (mX10_settles).2.2.2.1 ∈ zt ∧ ((mX10_settles).1.cls ≠ "java/lang/invoke/MethodHandle" ∧ (mX10_settles).1.cls ≠ "java/lang/invoke/VarHandle" ∧ (parseMethodDescriptor (mX10_settles).1.desc).map (fun d => d.parameters.length) = some 0) := ⟨zc1 13 (by decide +kernel) rfl, zc5 123 (by decide +kernel) rfl, by decide +kernel⟩
theorem bX10_draw : Cond.initialized (mX10_draw).1.cls ∈ zt ∧ Cond.code (mX10_draw).1 (mX10_draw).2.1 (mX10_draw).2.2.1 (mX10_draw).2.2.2.1 ∈ zt ∧ ((mX10_draw).1.cls ≠ "java/lang/invoke/MethodHandle" ∧ (mX10_draw).1.cls ≠ "java/lang/invoke/VarHandle" ∧ (parseMethodDescriptor (mX10_draw).1.desc).map (fun d => d.parameters.length) = some 1) := ⟨zc1 13 (by decide +kernel) rfl, zc6 186 (by decide +kernel) rfl, by decide +kernel⟩
theorem bX10_flies : Cond.initialized (mX10_flies).1.cls ∈ zt ∧ Cond.code (mX10_flies).1 (mX10_flies).2.1 (mX10_flies).2.2.1 (mX10_flies).2.2.2.1 ∈ zt ∧ ((mX10_flies).1.cls ≠ "java/lang/invoke/MethodHandle" ∧ (mX10_flies).1.cls ≠ "java/lang/invoke/VarHandle" ∧ (parseMethodDescriptor (mX10_flies).1.desc).map (fun d => d.parameters.length) = some 1) := ⟨zc1 13 (by decide +kernel) rfl, zc6 217 (by decide +kernel) rfl, by decide +kernel⟩
theorem bX10_tries : Cond.initialized (mX10_tries).1.cls ∈ zt ∧ Cond.code (mX10_tries).1 (mX10_tries).2.1 (mX10_tries).2.2.1 (mX10_tries).2.2.2.1 ∈ zt ∧ ((mX10_tries).1.cls ≠ "java/lang/invoke/MethodHandle" ∧ (mX10_tries).1.cls ≠ "java/lang/invoke/VarHandle" ∧ (parseMethodDescriptor (mX10_tries).1.desc).map (fun d => d.parameters.length) = some 0) := ⟨zc1 13 (by decide +kernel) rfl, zc6 182 (by decide +kernel) rfl, by decide +kernel⟩
theorem bX10_blows : Cond.initialized (mX10_blows).1.cls ∈ zt ∧ Cond.code (mX10_blows).1 (mX10_blows).2.1 (mX10_blows).2.2.1 (mX10_blows).2.2.2.1 ∈ zt ∧ ((mX10_blows).1.cls ≠ "java/lang/invoke/MethodHandle" ∧ (mX10_blows).1.cls ≠ "java/lang/invoke/VarHandle" ∧ (parseMethodDescriptor (mX10_blows).1.desc).map (fun d => d.parameters.length) = some 1) := ⟨zc1 13 (by decide +kernel) rfl, zc6 178 (by decide +kernel) rfl, by decide +kernel⟩
theorem bX10_act : Cond.initialized (mX10_act).1.cls ∈ zt ∧ Cond.code (mX10_act).1 (mX10_act).2.1 (mX10_act).2.2.1 (mX10_act).2.2.2.1 ∈ zt ∧ ((mX10_act).1.cls ≠ "java/lang/invoke/MethodHandle" ∧ (mX10_act).1.cls ≠ "java/lang/invoke/VarHandle" ∧ (parseMethodDescriptor (mX10_act).1.desc).map (fun d => d.parameters.length) = some 0) := ⟨zc1 13 (by decide +kernel) rfl, zc6 170 (by decide +kernel) rfl, by decide +kernel⟩
theorem bX10_exchanges : Cond.initialized (mX10_exchanges).1.cls ∈ zt ∧ Cond.code (mX10_exchanges).1 (mX10_exchanges).2.1 (mX10_exchanges).2.2.1 (mX10_exchanges).2.2.2.1 ∈ zt ∧ ((mX10_exchanges).1.cls ≠ "java/lang/invoke/MethodHandle" ∧ (mX10_exchanges).1.cls ≠ "java/lang/invoke/VarHandle" ∧ (parseMethodDescriptor (mX10_exchanges).1.desc).map (fun d => d.parameters.length) = some 1) := ⟨zc1 13 (by decide +kernel) rfl, zc6 158 (by decide +kernel) rfl, by decide +kernel⟩
theorem bX10_undo : Cond.initialized (mX10_undo).1.cls ∈ zt ∧ Cond.code (mX10_undo).1 (mX10_undo).2.1 (mX10_undo).2.2.1 (mX10_undo).2.2.2.1 ∈ zt ∧ ((mX10_undo).1.cls ≠ "java/lang/invoke/MethodHandle" ∧ (mX10_undo).1.cls ≠ "java/lang/invoke/VarHandle" ∧ (parseMethodDescriptor (mX10_undo).1.desc).map (fun d => d.parameters.length) = some 0) := ⟨zc1 13 (by decide +kernel) rfl, zc6 154 (by decide +kernel) rfl, by decide +kernel⟩
theorem bX10_redo : Cond.initialized (mX10_redo).1.cls ∈ zt ∧ Cond.code (mX10_redo).1 (mX10_redo).2.1 (mX10_redo).2.2.1 (mX10_redo).2.2.2.1 ∈ zt ∧ ((mX10_redo).1.cls ≠ "java/lang/invoke/MethodHandle" ∧ (mX10_redo).1.cls ≠ "java/lang/invoke/VarHandle" ∧ (parseMethodDescriptor (mX10_redo).1.desc).map (fun d => d.parameters.length) = some 0) := ⟨zc1 13 (by decide +kernel) rfl, zc6 162 (by decide +kernel) rfl, by decide +kernel⟩
theorem bX10_blow : Cond.initialized (mX10_blow).1.cls ∈ zt ∧ Cond.code (mX10_blow).1 (mX10_blow).2.1 (mX10_blow).2.2.1 (mX10_blow).2.2.2.1 ∈ zt ∧ ((mX10_blow).1.cls ≠ "java/lang/invoke/MethodHandle" ∧ (mX10_blow).1.cls ≠ "java/lang/invoke/VarHandle" ∧ (parseMethodDescriptor (mX10_blow).1.desc).map (fun d => d.parameters.length) = some 1) := ⟨zc1 13 (by decide +kernel) rfl, zc6 166 (by decide +kernel) rfl, by decide +kernel⟩
theorem bX10_put : Cond.initialized (mX10_put).1.cls ∈ zt ∧ Cond.code (mX10_put).1 (mX10_put).2.1 (mX10_put).2.2.1 (mX10_put).2.2.2.1 ∈ zt ∧ ((mX10_put).1.cls ≠ "java/lang/invoke/MethodHandle" ∧ (mX10_put).1.cls ≠ "java/lang/invoke/VarHandle" ∧ (parseMethodDescriptor (mX10_put).1.desc).map (fun d => d.parameters.length) = some 2) := ⟨zc1 13 (by decide +kernel) rfl, zc6 232 (by decide +kernel) rfl, by decide +kernel⟩
theorem bX10_take : Cond.initialized (mX10_take).1.cls ∈ zt ∧ Cond.code (mX10_take).1 (mX10_take).2.1 (mX10_take).2.2.1 (mX10_take).2.2.2.1 ∈ zt ∧ ((mX10_take).1.cls ≠ "java/lang/invoke/MethodHandle" ∧ (mX10_take).1.cls ≠ "java/lang/invoke/VarHandle" ∧ (parseMethodDescriptor (mX10_take).1.desc).map (fun d => d.parameters.length) = some 1) := ⟨zc1 13 (by decide +kernel) rfl, zc7 0 (by decide +kernel) rfl, by decide +kernel⟩
theorem bX10_sownMany : Cond.initialized (mX10_sownMany).1.cls ∈ zt ∧ Cond.code (mX10_sownMany).1 (mX10_sownMany).2.1 (mX10_sownMany).2.2.1 (mX10_sownMany).2.2.2.1 ∈ zt ∧ ((mX10_sownMany).1.cls ≠ "java/lang/invoke/MethodHandle" ∧ (mX10_sownMany).1.cls ≠ "java/lang/invoke/VarHandle" ∧ (parseMethodDescriptor (mX10_sownMany).1.desc).map (fun d => d.parameters.length) = some 0) := ⟨zc1 13 (by decide +kernel) rfl, zc7 8 (by decide +kernel) rfl, by decide +kernel⟩
theorem bX10_sow : Cond.initialized (mX10_sow).1.cls ∈ zt ∧ Cond.code (mX10_sow).1 (mX10_sow).2.1 (mX10_sow).2.2.1 (mX10_sow).2.2.2.1 ∈ zt ∧ ((mX10_sow).1.cls ≠ "java/lang/invoke/MethodHandle" ∧ (mX10_sow).1.cls ≠ "java/lang/invoke/VarHandle" ∧ (parseMethodDescriptor (mX10_sow).1.desc).map (fun d => d.parameters.length) = some 2) := ⟨zc1 13 (by decide +kernel) rfl, zc7 4 (by decide +kernel) rfl, by decide +kernel⟩
theorem bX10_isRule : Cond.initialized (mX10_isRule).1.cls ∈ zt ∧ Cond.code (mX10_isRule).1 (mX10_isRule).2.1 (mX10_isRule).2.2.1 (mX10_isRule).2.2.2.1 ∈ zt ∧ ((mX10_isRule).1.cls ≠ "java/lang/invoke/MethodHandle" ∧ (mX10_isRule).1.cls ≠ "java/lang/invoke/VarHandle" ∧ (parseMethodDescriptor (mX10_isRule).1.desc).map (fun d => d.parameters.length) = some 2) := ⟨zc1 13 (by decide +kernel) rfl, zc7 15 (by decide +kernel) rfl, by decide +kernel⟩
theorem bX10_turn : Cond.initialized (mX10_turn).1.cls ∈ zt ∧ Cond.code (mX10_turn).1 (mX10_turn).2.1 (mX10_turn).2.2.1 (mX10_turn).2.2.2.1 ∈ zt ∧ ((mX10_turn).1.cls ≠ "java/lang/invoke/MethodHandle" ∧ (mX10_turn).1.cls ≠ "java/lang/invoke/VarHandle" ∧ (parseMethodDescriptor (mX10_turn).1.desc).map (fun d => d.parameters.length) = some 2) := ⟨zc1 13 (by decide +kernel) rfl, zc7 12 (by decide +kernel) rfl, by decide +kernel⟩
theorem bX10_lowestBeside : Cond.initialized (mX10_lowestBeside).1.cls ∈ zt ∧ Cond.code (mX10_lowestBeside).1 (mX10_lowestBeside).2.1 (mX10_lowestBeside).2.2.1 (mX10_lowestBeside).2.2.2.1 ∈ zt ∧ ((mX10_lowestBeside).1.cls ≠ "java/lang/invoke/MethodHandle" ∧ (mX10_lowestBeside).1.cls ≠ "java/lang/invoke/VarHandle" ∧ (parseMethodDescriptor (mX10_lowestBeside).1.desc).map (fun d => d.parameters.length) = some 1) := ⟨zc1 13 (by decide +kernel) rfl, zc7 23 (by decide +kernel) rfl, by decide +kernel⟩
theorem bX10_isCrest : Cond.initialized (mX10_isCrest).1.cls ∈ zt ∧ Cond.code (mX10_isCrest).1 (mX10_isCrest).2.1 (mX10_isCrest).2.2.1 (mX10_isCrest).2.2.2.1 ∈ zt ∧ ((mX10_isCrest).1.cls ≠ "java/lang/invoke/MethodHandle" ∧ (mX10_isCrest).1.cls ≠ "java/lang/invoke/VarHandle" ∧ (parseMethodDescriptor (mX10_isCrest).1.desc).map (fun d => d.parameters.length) = some 1) := ⟨zc1 13 (by decide +kernel) rfl, zc7 30 (by decide +kernel) rfl, by decide +kernel⟩
theorem bX10_cell : Cond.initialized (mX10_cell).1.cls ∈ zt ∧ Cond.code (mX10_cell).1 (mX10_cell).2.1 (mX10_cell).2.2.1 (mX10_cell).2.2.2.1 ∈ zt ∧ ((mX10_cell).1.cls ≠ "java/lang/invoke/MethodHandle" ∧ (mX10_cell).1.cls ≠ "java/lang/invoke/VarHandle" ∧ (parseMethodDescriptor (mX10_cell).1.desc).map (fun d => d.parameters.length) = some 2) := ⟨zc1 13 (by decide +kernel) rfl, zc7 19 (by decide +kernel) rfl, by decide +kernel⟩
theorem bX10_beside : Cond.initialized (mX10_beside).1.cls ∈ zt ∧ Cond.code (mX10_beside).1 (mX10_beside).2.1 (mX10_beside).2.2.1 (mX10_beside).2.2.2.1 ∈ zt ∧ ((mX10_beside).1.cls ≠ "java/lang/invoke/MethodHandle" ∧ (mX10_beside).1.cls ≠ "java/lang/invoke/VarHandle" ∧ (parseMethodDescriptor (mX10_beside).1.desc).map (fun d => d.parameters.length) = some 2) := ⟨zc1 13 (by decide +kernel) rfl, zc7 34 (by decide +kernel) rfl, by decide +kernel⟩
theorem bX10_wind : Cond.initialized (mX10_wind).1.cls ∈ zt ∧ Cond.code (mX10_wind).1 (mX10_wind).2.1 (mX10_wind).2.2.1 (mX10_wind).2.2.2.1 ∈ zt ∧ ((mX10_wind).1.cls ≠ "java/lang/invoke/MethodHandle" ∧ (mX10_wind).1.cls ≠ "java/lang/invoke/VarHandle" ∧ (parseMethodDescriptor (mX10_wind).1.desc).map (fun d => d.parameters.length) = some 1) := ⟨zc1 13 (by decide +kernel) rfl, zc7 38 (by decide +kernel) rfl, by decide +kernel⟩
theorem bX10_slabs : Cond.initialized (mX10_slabs).1.cls ∈ zt ∧ Cond.code (mX10_slabs).1 (mX10_slabs).2.1 (mX10_slabs).2.2.1 (mX10_slabs).2.2.2.1 ∈ zt ∧ ((mX10_slabs).1.cls ≠ "java/lang/invoke/MethodHandle" ∧ (mX10_slabs).1.cls ≠ "java/lang/invoke/VarHandle" ∧ (parseMethodDescriptor (mX10_slabs).1.desc).map (fun d => d.parameters.length) = some 0) := ⟨zc1 13 (by decide +kernel) rfl, zc7 46 (by decide +kernel) rfl, by decide +kernel⟩
theorem bX10_highest : Cond.initialized (mX10_highest).1.cls ∈ zt ∧ Cond.code (mX10_highest).1 (mX10_highest).2.1 (mX10_highest).2.2.1 (mX10_highest).2.2.2.1 ∈ zt ∧ ((mX10_highest).1.cls ≠ "java/lang/invoke/MethodHandle" ∧ (mX10_highest).1.cls ≠ "java/lang/invoke/VarHandle" ∧ (parseMethodDescriptor (mX10_highest).1.desc).map (fun d => d.parameters.length) = some 0) := ⟨zc1 13 (by decide +kernel) rfl, zc7 50 (by decide +kernel) rfl, by decide +kernel⟩
theorem bX10_bare : Cond.initialized (mX10_bare).1.cls ∈ zt ∧ Cond.code (mX10_bare).1 (mX10_bare).2.1 (mX10_bare).2.2.1 (mX10_bare).2.2.2.1 ∈ zt ∧ ((mX10_bare).1.cls ≠ "java/lang/invoke/MethodHandle" ∧ (mX10_bare).1.cls ≠ "java/lang/invoke/VarHandle" ∧ (parseMethodDescriptor (mX10_bare).1.desc).map (fun d => d.parameters.length) = some 0) := ⟨zc1 13 (by decide +kernel) rfl, zc7 54 (by decide +kernel) rfl, by decide +kernel⟩
theorem bX10_steepest : Cond.initialized (mX10_steepest).1.cls ∈ zt ∧ Cond.code (mX10_steepest).1 (mX10_steepest).2.1 (mX10_steepest).2.2.1 (mX10_steepest).2.2.2.1 ∈ zt ∧ ((mX10_steepest).1.cls ≠ "java/lang/invoke/MethodHandle" ∧ (mX10_steepest).1.cls ≠ "java/lang/invoke/VarHandle" ∧ (parseMethodDescriptor (mX10_steepest).1.desc).map (fun d => d.parameters.length) = some 0) := ⟨zc1 13 (by decide +kernel) rfl, zc7 62 (by decide +kernel) rfl, by decide +kernel⟩
theorem bX10_rough : Cond.initialized (mX10_rough).1.cls ∈ zt ∧ Cond.code (mX10_rough).1 (mX10_rough).2.1 (mX10_rough).2.2.1 (mX10_rough).2.2.2.1 ∈ zt ∧ ((mX10_rough).1.cls ≠ "java/lang/invoke/MethodHandle" ∧ (mX10_rough).1.cls ≠ "java/lang/invoke/VarHandle" ∧ (parseMethodDescriptor (mX10_rough).1.desc).map (fun d => d.parameters.length) = some 0) := ⟨zc1 13 (by decide +kernel) rfl, zc7 69 (by decide +kernel) rfl, by decide +kernel⟩
theorem bX10_shadows : Cond.initialized (mX10_shadows).1.cls ∈ zt ∧ Cond.code (mX10_shadows).1 (mX10_shadows).2.1 (mX10_shadows).2.2.1 (mX10_shadows).2.2.2.1 ∈ zt ∧ ((mX10_shadows).1.cls ≠ "java/lang/invoke/MethodHandle" ∧ (mX10_shadows).1.cls ≠ "java/lang/invoke/VarHandle" ∧ (parseMethodDescriptor (mX10_shadows).1.desc).map (fun d => d.parameters.length) = some 0) := ⟨zc1 13 (by decide +kernel) rfl, zc7 58 (by decide +kernel) rfl, by decide +kernel⟩
theorem bX10_givers : Cond.initialized (mX10_givers).1.cls ∈ zt ∧ Cond.code (mX10_givers).1 (mX10_givers).2.1 (mX10_givers).2.2.1 (mX10_givers).2.2.2.1 ∈ zt ∧ ((mX10_givers).1.cls ≠ "java/lang/invoke/MethodHandle" ∧ (mX10_givers).1.cls ≠ "java/lang/invoke/VarHandle" ∧ (parseMethodDescriptor (mX10_givers).1.desc).map (fun d => d.parameters.length) = some 0) := ⟨zc1 13 (by decide +kernel) rfl, zc7 73 (by decide +kernel) rfl, by decide +kernel⟩
theorem bX10_all : Cond.initialized (mX10_all).1.cls ∈ zt ∧ Cond.code (mX10_all).1 (mX10_all).2.1 (mX10_all).2.2.1 (mX10_all).2.2.2.1 ∈ zt ∧ ((mX10_all).1.cls ≠ "java/lang/invoke/MethodHandle" ∧ (mX10_all).1.cls ≠ "java/lang/invoke/VarHandle" ∧ (parseMethodDescriptor (mX10_all).1.desc).map (fun d => d.parameters.length) = some 1) := ⟨zc1 13 (by decide +kernel) rfl, zc7 42 (by decide +kernel) rfl, by decide +kernel⟩
theorem bX10_skyline : Cond.initialized (mX10_skyline).1.cls ∈ zt ∧ Cond.code (mX10_skyline).1 (mX10_skyline).2.1 (mX10_skyline).2.2.1 (mX10_skyline).2.2.2.1 ∈ zt ∧ ((mX10_skyline).1.cls ≠ "java/lang/invoke/MethodHandle" ∧ (mX10_skyline).1.cls ≠ "java/lang/invoke/VarHandle" ∧ (parseMethodDescriptor (mX10_skyline).1.desc).map (fun d => d.parameters.length) = some 2) := ⟨zc1 13 (by decide +kernel) rfl, zc7 77 (by decide +kernel) rfl, by decide +kernel⟩
theorem bX10_common : Cond.initialized (mX10_common).1.cls ∈ zt ∧ Cond.code (mX10_common).1 (mX10_common).2.1 (mX10_common).2.2.1 (mX10_common).2.2.2.1 ∈ zt ∧ ((mX10_common).1.cls ≠ "java/lang/invoke/MethodHandle" ∧ (mX10_common).1.cls ≠ "java/lang/invoke/VarHandle" ∧ (parseMethodDescriptor (mX10_common).1.desc).map (fun d => d.parameters.length) = some 2) := ⟨zc1 13 (by decide +kernel) rfl, zc7 86 (by decide +kernel) rfl, by decide +kernel⟩
theorem bX10_lands : Cond.initialized (mX10_lands).1.cls ∈ zt ∧ Cond.code (mX10_lands).1 (mX10_lands).2.1 (mX10_lands).2.2.1 (mX10_lands).2.2.2.1 ∈ zt ∧ ((mX10_lands).1.cls ≠ "java/lang/invoke/MethodHandle" ∧ (mX10_lands).1.cls ≠ "java/lang/invoke/VarHandle" ∧ (parseMethodDescriptor (mX10_lands).1.desc).map (fun d => d.parameters.length) = some 4) := ⟨zc1 13 (by decide +kernel) rfl, zc7 81 (by decide +kernel) rfl, by decide +kernel⟩
theorem bX10_piles : Cond.initialized (mX10_piles).1.cls ∈ zt ∧ Cond.code (mX10_piles).1 (mX10_piles).2.1 (mX10_piles).2.2.1 (mX10_piles).2.2.2.1 ∈ zt ∧ ((mX10_piles).1.cls ≠ "java/lang/invoke/MethodHandle" ∧ (mX10_piles).1.cls ≠ "java/lang/invoke/VarHandle" ∧ (parseMethodDescriptor (mX10_piles).1.desc).map (fun d => d.parameters.length) = some 3) := ⟨zc1 13 (by decide +kernel) rfl, zc7 102 (by decide +kernel) rfl, by decide +kernel⟩
theorem bX10_laysDunes : Cond.initialized (mX10_laysDunes).1.cls ∈ zt ∧ Cond.code (mX10_laysDunes).1 (mX10_laysDunes).2.1 (mX10_laysDunes).2.2.1 (mX10_laysDunes).2.2.2.1 ∈ zt ∧ ((mX10_laysDunes).1.cls ≠ "java/lang/invoke/MethodHandle" ∧ (mX10_laysDunes).1.cls ≠ "java/lang/invoke/VarHandle" ∧ (parseMethodDescriptor (mX10_laysDunes).1.desc).map (fun d => d.parameters.length) = some 4) := ⟨zc1 13 (by decide +kernel) rfl, zc7 98 (by decide +kernel) rfl, by decide +kernel⟩
theorem bX10_dunesNow : Cond.initialized (mX10_dunesNow).1.cls ∈ zt ∧ Cond.code (mX10_dunesNow).1 (mX10_dunesNow).2.1 (mX10_dunesNow).2.2.1 (mX10_dunesNow).2.2.2.1 ∈ zt ∧ ((mX10_dunesNow).1.cls ≠ "java/lang/invoke/MethodHandle" ∧ (mX10_dunesNow).1.cls ≠ "java/lang/invoke/VarHandle" ∧ (parseMethodDescriptor (mX10_dunesNow).1.desc).map (fun d => d.parameters.length) = some 1) := ⟨zc1 13 (by decide +kernel) rfl, zc7 94 (by decide +kernel) rfl, by decide +kernel⟩
theorem bX10_dunes : Cond.initialized (mX10_dunes).1.cls ∈ zt ∧ Cond.code (mX10_dunes).1 (mX10_dunes).2.1 (mX10_dunes).2.2.1 (mX10_dunes).2.2.2.1 ∈ zt ∧ ((mX10_dunes).1.cls ≠ "java/lang/invoke/MethodHandle" ∧ (mX10_dunes).1.cls ≠ "java/lang/invoke/VarHandle" ∧ (parseMethodDescriptor (mX10_dunes).1.desc).map (fun d => d.parameters.length) = some 1) := ⟨zc1 13 (by decide +kernel) rfl, zc7 90 (by decide +kernel) rfl, by decide +kernel⟩
theorem bX10_hasIn : Cond.initialized (mX10_hasIn).1.cls ∈ zt ∧ Cond.code (mX10_hasIn).1 (mX10_hasIn).2.1 (mX10_hasIn).2.2.1 (mX10_hasIn).2.2.2.1 ∈ zt ∧ ((mX10_hasIn).1.cls ≠ "java/lang/invoke/MethodHandle" ∧ (mX10_hasIn).1.cls ≠ "java/lang/invoke/VarHandle" ∧ (parseMethodDescriptor (mX10_hasIn).1.desc).map (fun d => d.parameters.length) = some 3) := ⟨zc1 13 (by decide +kernel) rfl, zc7 114 (by decide +kernel) rfl, by decide +kernel⟩
theorem bX10_spanOf : Cond.initialized (mX10_spanOf).1.cls ∈ zt ∧ Cond.code (mX10_spanOf).1 (mX10_spanOf).2.1 (mX10_spanOf).2.2.1 (mX10_spanOf).2.2.2.1 ∈ zt ∧ ((mX10_spanOf).1.cls ≠ "java/lang/invoke/MethodHandle" ∧ (mX10_spanOf).1.cls ≠ "java/lang/invoke/VarHandle" ∧ (parseMethodDescriptor (mX10_spanOf).1.desc).map (fun d => d.parameters.length) = some 2) := ⟨zc1 13 (by decide +kernel) rfl, zc7 110 (by decide +kernel) rfl, by decide +kernel⟩
theorem bX10_dune : Cond.initialized (mX10_dune).1.cls ∈ zt ∧ Cond.code (mX10_dune).1 (mX10_dune).2.1 (mX10_dune).2.2.1 (mX10_dune).2.2.2.1 ∈ zt ∧ ((mX10_dune).1.cls ≠ "java/lang/invoke/MethodHandle" ∧ (mX10_dune).1.cls ≠ "java/lang/invoke/VarHandle" ∧ (parseMethodDescriptor (mX10_dune).1.desc).map (fun d => d.parameters.length) = some 3) := ⟨zc1 13 (by decide +kernel) rfl, zc7 106 (by decide +kernel) rfl, by decide +kernel⟩
theorem bX10_duneOf : Cond.initialized (mX10_duneOf).1.cls ∈ zt ∧ Cond.code (mX10_duneOf).1 (mX10_duneOf).2.1 (mX10_duneOf).2.2.1 (mX10_duneOf).2.2.2.1 ∈ zt ∧ ((mX10_duneOf).1.cls ≠ "java/lang/invoke/MethodHandle" ∧ (mX10_duneOf).1.cls ≠ "java/lang/invoke/VarHandle" ∧ (parseMethodDescriptor (mX10_duneOf).1.desc).map (fun d => d.parameters.length) = some 2) := ⟨zc1 13 (by decide +kernel) rfl, zc7 118 (by decide +kernel) rfl, by decide +kernel⟩
theorem bX10_parts : Cond.initialized (mX10_parts).1.cls ∈ zt ∧ Cond.code (mX10_parts).1 (mX10_parts).2.1 (mX10_parts).2.2.1 (mX10_parts).2.2.2.1 ∈ zt ∧ ((mX10_parts).1.cls ≠ "java/lang/invoke/MethodHandle" ∧ (mX10_parts).1.cls ≠ "java/lang/invoke/VarHandle" ∧ (parseMethodDescriptor (mX10_parts).1.desc).map (fun d => d.parameters.length) = some 1) := ⟨zc1 13 (by decide +kernel) rfl, zc7 122 (by decide +kernel) rfl, by decide +kernel⟩
theorem bX10_areOne : Cond.initialized (mX10_areOne).1.cls ∈ zt ∧ Cond.code (mX10_areOne).1 (mX10_areOne).2.1 (mX10_areOne).2.2.1 (mX10_areOne).2.2.2.1 ∈ zt ∧ ((mX10_areOne).1.cls ≠ "java/lang/invoke/MethodHandle" ∧ (mX10_areOne).1.cls ≠ "java/lang/invoke/VarHandle" ∧ (parseMethodDescriptor (mX10_areOne).1.desc).map (fun d => d.parameters.length) = some 3) := ⟨zc1 13 (by decide +kernel) rfl, zc7 133 (by decide +kernel) rfl, by decide +kernel⟩
theorem bX10_saddle : Cond.initialized (mX10_saddle).1.cls ∈ zt ∧ Cond.code (mX10_saddle).1 (mX10_saddle).2.1 (mX10_saddle).2.2.1 (mX10_saddle).2.2.2.1 ∈ zt ∧ ((mX10_saddle).1.cls ≠ "java/lang/invoke/MethodHandle" ∧ (mX10_saddle).1.cls ≠ "java/lang/invoke/VarHandle" ∧ (parseMethodDescriptor (mX10_saddle).1.desc).map (fun d => d.parameters.length) = some 2) := ⟨zc1 13 (by decide +kernel) rfl, zc7 126 (by decide +kernel) rfl, by decide +kernel⟩
theorem bX10_sidled : Cond.initialized (mX10_sidled).1.cls ∈ zt ∧ Cond.code (mX10_sidled).1 (mX10_sidled).2.1 (mX10_sidled).2.2.1 (mX10_sidled).2.2.2.1 ∈ zt ∧ ((mX10_sidled).1.cls ≠ "java/lang/invoke/MethodHandle" ∧ (mX10_sidled).1.cls ≠ "java/lang/invoke/VarHandle" ∧ (parseMethodDescriptor (mX10_sidled).1.desc).map (fun d => d.parameters.length) = some 3) := ⟨zc1 13 (by decide +kernel) rfl, zc7 145 (by decide +kernel) rfl, by decide +kernel⟩
theorem bX10_laysCrests : Cond.initialized (mX10_laysCrests).1.cls ∈ zt ∧ Cond.code (mX10_laysCrests).1 (mX10_laysCrests).2.1 (mX10_laysCrests).2.2.1 (mX10_laysCrests).2.2.2.1 ∈ zt ∧ ((mX10_laysCrests).1.cls ≠ "java/lang/invoke/MethodHandle" ∧ (mX10_laysCrests).1.cls ≠ "java/lang/invoke/VarHandle" ∧ (parseMethodDescriptor (mX10_laysCrests).1.desc).map (fun d => d.parameters.length) = some 0) := ⟨zc1 13 (by decide +kernel) rfl, zc7 141 (by decide +kernel) rfl, by decide +kernel⟩
theorem bX10_crests : Cond.initialized (mX10_crests).1.cls ∈ zt ∧ Cond.code (mX10_crests).1 (mX10_crests).2.1 (mX10_crests).2.2.1 (mX10_crests).2.2.2.1 ∈ zt ∧ ((mX10_crests).1.cls ≠ "java/lang/invoke/MethodHandle" ∧ (mX10_crests).1.cls ≠ "java/lang/invoke/VarHandle" ∧ (parseMethodDescriptor (mX10_crests).1.desc).map (fun d => d.parameters.length) = some 1) := ⟨zc1 13 (by decide +kernel) rfl, zc7 137 (by decide +kernel) rfl, by decide +kernel⟩
theorem bX10_isBox : Cond.initialized (mX10_isBox).1.cls ∈ zt ∧ Cond.code (mX10_isBox).1 (mX10_isBox).2.1 (mX10_isBox).2.2.1 (mX10_isBox).2.2.2.1 ∈ zt ∧ ((mX10_isBox).1.cls ≠ "java/lang/invoke/MethodHandle" ∧ (mX10_isBox).1.cls ≠ "java/lang/invoke/VarHandle" ∧ (parseMethodDescriptor (mX10_isBox).1.desc).map (fun d => d.parameters.length) = some 1) := ⟨zc1 13 (by decide +kernel) rfl, zc7 157 (by decide +kernel) rfl, by decide +kernel⟩
theorem bX10_isKept : Cond.initialized (mX10_isKept).1.cls ∈ zt ∧ Cond.code (mX10_isKept).1 (mX10_isKept).2.1 (mX10_isKept).2.2.1 (mX10_isKept).2.2.2.1 ∈ zt ∧ ((mX10_isKept).1.cls ≠ "java/lang/invoke/MethodHandle" ∧ (mX10_isKept).1.cls ≠ "java/lang/invoke/VarHandle" ∧ (parseMethodDescriptor (mX10_isKept).1.desc).map (fun d => d.parameters.length) = some 1) := ⟨zc1 13 (by decide +kernel) rfl, zc7 153 (by decide +kernel) rfl, by decide +kernel⟩
theorem bX10_inCommon : Cond.initialized (mX10_inCommon).1.cls ∈ zt ∧ Cond.code (mX10_inCommon).1 (mX10_inCommon).2.1 (mX10_inCommon).2.2.1 (mX10_inCommon).2.2.2.1 ∈ zt ∧ ((mX10_inCommon).1.cls ≠ "java/lang/invoke/MethodHandle" ∧ (mX10_inCommon).1.cls ≠ "java/lang/invoke/VarHandle" ∧ (parseMethodDescriptor (mX10_inCommon).1.desc).map (fun d => d.parameters.length) = some 2) := ⟨zc1 13 (by decide +kernel) rfl, zc7 161 (by decide +kernel) rfl, by decide +kernel⟩
theorem bX10_follows : Cond.initialized (mX10_follows).1.cls ∈ zt ∧ Cond.code (mX10_follows).1 (mX10_follows).2.1 (mX10_follows).2.2.1 (mX10_follows).2.2.2.1 ∈ zt ∧ ((mX10_follows).1.cls ≠ "java/lang/invoke/MethodHandle" ∧ (mX10_follows).1.cls ≠ "java/lang/invoke/VarHandle" ∧ (parseMethodDescriptor (mX10_follows).1.desc).map (fun d => d.parameters.length) = some 3) := ⟨zc1 13 (by decide +kernel) rfl, zc7 149 (by decide +kernel) rfl, by decide +kernel⟩
theorem bX10_meets : Cond.initialized (mX10_meets).1.cls ∈ zt ∧ Cond.code (mX10_meets).1 (mX10_meets).2.1 (mX10_meets).2.2.1 (mX10_meets).2.2.2.1 ∈ zt ∧ ((mX10_meets).1.cls ≠ "java/lang/invoke/MethodHandle" ∧ (mX10_meets).1.cls ≠ "java/lang/invoke/VarHandle" ∧ (parseMethodDescriptor (mX10_meets).1.desc).map (fun d => d.parameters.length) = some 3) := ⟨zc1 13 (by decide +kernel) rfl, zc7 169 (by decide +kernel) rfl, by decide +kernel⟩
theorem bX10_fates : Cond.initialized (mX10_fates).1.cls ∈ zt ∧ Cond.code (mX10_fates).1 (mX10_fates).2.1 (mX10_fates).2.2.1 (mX10_fates).2.2.2.1 ∈ zt ∧ ((mX10_fates).1.cls ≠ "java/lang/invoke/MethodHandle" ∧ (mX10_fates).1.cls ≠ "java/lang/invoke/VarHandle" ∧ (parseMethodDescriptor (mX10_fates).1.desc).map (fun d => d.parameters.length) = some 3) := ⟨zc1 13 (by decide +kernel) rfl, zc7 165 (by decide +kernel) rfl, by decide +kernel⟩
theorem bX10_overlap : Cond.initialized (mX10_overlap).1.cls ∈ zt ∧ Cond.code (mX10_overlap).1 (mX10_overlap).2.1 (mX10_overlap).2.2.1 (mX10_overlap).2.2.2.1 ∈ zt ∧ ((mX10_overlap).1.cls ≠ "java/lang/invoke/MethodHandle" ∧ (mX10_overlap).1.cls ≠ "java/lang/invoke/VarHandle" ∧ (parseMethodDescriptor (mX10_overlap).1.desc).map (fun d => d.parameters.length) = some 3) := ⟨zc1 13 (by decide +kernel) rfl, zc7 177 (by decide +kernel) rfl, by decide +kernel⟩
theorem bX10_shift : Cond.initialized (mX10_shift).1.cls ∈ zt ∧ Cond.code (mX10_shift).1 (mX10_shift).2.1 (mX10_shift).2.2.1 (mX10_shift).2.2.2.1 ∈ zt ∧ ((mX10_shift).1.cls ≠ "java/lang/invoke/MethodHandle" ∧ (mX10_shift).1.cls ≠ "java/lang/invoke/VarHandle" ∧ (parseMethodDescriptor (mX10_shift).1.desc).map (fun d => d.parameters.length) = some 2) := ⟨zc1 13 (by decide +kernel) rfl, zc7 173 (by decide +kernel) rfl, by decide +kernel⟩
theorem bX10_would : Cond.initialized (mX10_would).1.cls ∈ zt ∧ Cond.code (mX10_would).1 (mX10_would).2.1 (mX10_would).2.2.1 (mX10_would).2.2.2.1 ∈ zt ∧ ((mX10_would).1.cls ≠ "java/lang/invoke/MethodHandle" ∧ (mX10_would).1.cls ≠ "java/lang/invoke/VarHandle" ∧ (parseMethodDescriptor (mX10_would).1.desc).map (fun d => d.parameters.length) = some 2) := ⟨zc1 13 (by decide +kernel) rfl, zc7 181 (by decide +kernel) rfl, by decide +kernel⟩
theorem bX10_next : Cond.initialized (mX10_next).1.cls ∈ zt ∧ Cond.code (mX10_next).1 (mX10_next).2.1 (mX10_next).2.2.1 (mX10_next).2.2.2.1 ∈ zt ∧ ((mX10_next).1.cls ≠ "java/lang/invoke/MethodHandle" ∧ (mX10_next).1.cls ≠ "java/lang/invoke/VarHandle" ∧ (parseMethodDescriptor (mX10_next).1.desc).map (fun d => d.parameters.length) = some 2) := ⟨zc1 13 (by decide +kernel) rfl, zc7 185 (by decide +kernel) rfl, by decide +kernel⟩
theorem bX10_flux : Cond.initialized (mX10_flux).1.cls ∈ zt ∧ Cond.code (mX10_flux).1 (mX10_flux).2.1 (mX10_flux).2.2.1 (mX10_flux).2.2.2.1 ∈ zt ∧ ((mX10_flux).1.cls ≠ "java/lang/invoke/MethodHandle" ∧ (mX10_flux).1.cls ≠ "java/lang/invoke/VarHandle" ∧ (parseMethodDescriptor (mX10_flux).1.desc).map (fun d => d.parameters.length) = some 2) := ⟨zc1 13 (by decide +kernel) rfl, zc7 189 (by decide +kernel) rfl, by decide +kernel⟩
theorem bX10_game : Cond.initialized (mX10_game).1.cls ∈ zt ∧ Cond.code (mX10_game).1 (mX10_game).2.1 (mX10_game).2.2.1 (mX10_game).2.2.2.1 ∈ zt ∧ ((mX10_game).1.cls ≠ "java/lang/invoke/MethodHandle" ∧ (mX10_game).1.cls ≠ "java/lang/invoke/VarHandle" ∧ (parseMethodDescriptor (mX10_game).1.desc).map (fun d => d.parameters.length) = some 3) := ⟨zc1 13 (by decide +kernel) rfl, zc7 193 (by decide +kernel) rfl, by decide +kernel⟩
theorem bX10_tallest : Cond.initialized (mX10_tallest).1.cls ∈ zt ∧ Cond.code (mX10_tallest).1 (mX10_tallest).2.1 (mX10_tallest).2.2.1 (mX10_tallest).2.2.2.1 ∈ zt ∧ ((mX10_tallest).1.cls ≠ "java/lang/invoke/MethodHandle" ∧ (mX10_tallest).1.cls ≠ "java/lang/invoke/VarHandle" ∧ (parseMethodDescriptor (mX10_tallest).1.desc).map (fun d => d.parameters.length) = some 2) := ⟨zc1 13 (by decide +kernel) rfl, zc7 197 (by decide +kernel) rfl, by decide +kernel⟩
theorem bX10_seen : Cond.initialized (mX10_seen).1.cls ∈ zt ∧ Cond.code (mX10_seen).1 (mX10_seen).2.1 (mX10_seen).2.2.1 (mX10_seen).2.2.2.1 ∈ zt ∧ ((mX10_seen).1.cls ≠ "java/lang/invoke/MethodHandle" ∧ (mX10_seen).1.cls ≠ "java/lang/invoke/VarHandle" ∧ (parseMethodDescriptor (mX10_seen).1.desc).map (fun d => d.parameters.length) = some 4) := ⟨zc1 13 (by decide +kernel) rfl, zc7 202 (by decide +kernel) rfl, by decide +kernel⟩
theorem bX10_untell : Cond.initialized (mX10_untell).1.cls ∈ zt ∧ Cond.code (mX10_untell).1 (mX10_untell).2.1 (mX10_untell).2.2.1 (mX10_untell).2.2.2.1 ∈ zt ∧ ((mX10_untell).1.cls ≠ "java/lang/invoke/MethodHandle" ∧ (mX10_untell).1.cls ≠ "java/lang/invoke/VarHandle" ∧ (parseMethodDescriptor (mX10_untell).1.desc).map (fun d => d.parameters.length) = some 1) := ⟨zc1 13 (by decide +kernel) rfl, zc7 206 (by decide +kernel) rfl, by decide +kernel⟩
theorem bX10_later : Cond.initialized (mX10_later).1.cls ∈ zt ∧ Cond.code (mX10_later).1 (mX10_later).2.1 (mX10_later).2.2.1 (mX10_later).2.2.2.1 ∈ zt ∧ ((mX10_later).1.cls ≠ "java/lang/invoke/MethodHandle" ∧ (mX10_later).1.cls ≠ "java/lang/invoke/VarHandle" ∧ (parseMethodDescriptor (mX10_later).1.desc).map (fun d => d.parameters.length) = some 1) := ⟨zc1 13 (by decide +kernel) rfl, zc7 210 (by decide +kernel) rfl, by decide +kernel⟩
theorem bX10_doesCount : Cond.initialized (mX10_doesCount).1.cls ∈ zt ∧ Cond.code (mX10_doesCount).1 (mX10_doesCount).2.1 (mX10_doesCount).2.2.1 (mX10_doesCount).2.2.2.1 ∈ zt ∧ ((mX10_doesCount).1.cls ≠ "java/lang/invoke/MethodHandle" ∧ (mX10_doesCount).1.cls ≠ "java/lang/invoke/VarHandle" ∧ (parseMethodDescriptor (mX10_doesCount).1.desc).map (fun d => d.parameters.length) = some 2) := ⟨zc1 13 (by decide +kernel) rfl, zc7 231 (by decide +kernel) rfl, by decide +kernel⟩
theorem bX10_isSoAfter : Cond.initialized (mX10_isSoAfter).1.cls ∈ zt ∧ Cond.code (mX10_isSoAfter).1 (mX10_isSoAfter).2.1 (mX10_isSoAfter).2.2.1 (mX10_isSoAfter).2.2.2.1 ∈ zt ∧ ((mX10_isSoAfter).1.cls ≠ "java/lang/invoke/MethodHandle" ∧ (mX10_isSoAfter).1.cls ≠ "java/lang/invoke/VarHandle" ∧ (parseMethodDescriptor (mX10_isSoAfter).1.desc).map (fun d => d.parameters.length) = some 2) := ⟨zc1 13 (by decide +kernel) rfl, zc7 235 (by decide +kernel) rfl, by decide +kernel⟩
theorem bX10_lastSeen : Cond.initialized (mX10_lastSeen).1.cls ∈ zt ∧ Cond.code (mX10_lastSeen).1 (mX10_lastSeen).2.1 (mX10_lastSeen).2.2.1 (mX10_lastSeen).2.2.2.1 ∈ zt ∧ ((mX10_lastSeen).1.cls ≠ "java/lang/invoke/MethodHandle" ∧ (mX10_lastSeen).1.cls ≠ "java/lang/invoke/VarHandle" ∧ (parseMethodDescriptor (mX10_lastSeen).1.desc).map (fun d => d.parameters.length) = some 1) := ⟨zc1 13 (by decide +kernel) rfl, zc7 227 (by decide +kernel) rfl, by decide +kernel⟩
theorem bX10_fitsBy : Cond.initialized (mX10_fitsBy).1.cls ∈ zt ∧ Cond.code (mX10_fitsBy).1 (mX10_fitsBy).2.1 (mX10_fitsBy).2.2.1 (mX10_fitsBy).2.2.2.1 ∈ zt ∧ ((mX10_fitsBy).1.cls ≠ "java/lang/invoke/MethodHandle" ∧ (mX10_fitsBy).1.cls ≠ "java/lang/invoke/VarHandle" ∧ (parseMethodDescriptor (mX10_fitsBy).1.desc).map (fun d => d.parameters.length) = some 2) := ⟨zc1 13 (by decide +kernel) rfl, zc7 223 (by decide +kernel) rfl, by decide +kernel⟩
theorem bX10_laysFits : Cond.initialized (mX10_laysFits).1.cls ∈ zt ∧ Cond.code (mX10_laysFits).1 (mX10_laysFits).2.1 (mX10_laysFits).2.2.1 (mX10_laysFits).2.2.2.1 ∈ zt ∧ ((mX10_laysFits).1.cls ≠ "java/lang/invoke/MethodHandle" ∧ (mX10_laysFits).1.cls ≠ "java/lang/invoke/VarHandle" ∧ (parseMethodDescriptor (mX10_laysFits).1.desc).map (fun d => d.parameters.length) = some 1) := ⟨zc1 13 (by decide +kernel) rfl, zc7 219 (by decide +kernel) rfl, by decide +kernel⟩
theorem bX10_fits : Cond.initialized (mX10_fits).1.cls ∈ zt ∧ Cond.code (mX10_fits).1 (mX10_fits).2.1 (mX10_fits).2.2.1 (mX10_fits).2.2.2.1 ∈ zt ∧ ((mX10_fits).1.cls ≠ "java/lang/invoke/MethodHandle" ∧ (mX10_fits).1.cls ≠ "java/lang/invoke/VarHandle" ∧ (parseMethodDescriptor (mX10_fits).1.desc).map (fun d => d.parameters.length) = some 1) := ⟨zc1 13 (by decide +kernel) rfl, zc7 215 (by decide +kernel) rfl, by decide +kernel⟩
theorem bX10_fit : Cond.initialized (mX10_fit).1.cls ∈ zt ∧ Cond.code (mX10_fit).1 (mX10_fit).2.1 (mX10_fit).2.2.1 (mX10_fit).2.2.2.1 ∈ zt ∧ ((mX10_fit).1.cls ≠ "java/lang/invoke/MethodHandle" ∧ (mX10_fit).1.cls ≠ "java/lang/invoke/VarHandle" ∧ (parseMethodDescriptor (mX10_fit).1.desc).map (fun d => d.parameters.length) = some 2) := ⟨zc1 13 (by decide +kernel) rfl, zc7 239 (by decide +kernel) rfl, by decide +kernel⟩
theorem bX10_leftBy : Cond.initialized (mX10_leftBy).1.cls ∈ zt ∧ Cond.code (mX10_leftBy).1 (mX10_leftBy).2.1 (mX10_leftBy).2.2.1 (mX10_leftBy).2.2.2.1 ∈ zt ∧ ((mX10_leftBy).1.cls ≠ "java/lang/invoke/MethodHandle" ∧ (mX10_leftBy).1.cls ≠ "java/lang/invoke/VarHandle" ∧ (parseMethodDescriptor (mX10_leftBy).1.desc).map (fun d => d.parameters.length) = some 1) := ⟨zc1 13 (by decide +kernel) rfl, zc8 7 (by decide +kernel) rfl, by decide +kernel⟩
theorem bX10_ask : Cond.initialized (mX10_ask).1.cls ∈ zt ∧ Cond.code (mX10_ask).1 (mX10_ask).2.1 (mX10_ask).2.2.1 (mX10_ask).2.2.2.1 ∈ zt ∧ ((mX10_ask).1.cls ≠ "java/lang/invoke/MethodHandle" ∧ (mX10_ask).1.cls ≠ "java/lang/invoke/VarHandle" ∧ (parseMethodDescriptor (mX10_ask).1.desc).map (fun d => d.parameters.length) = some 3) := ⟨zc1 13 (by decide +kernel) rfl, zc8 3 (by decide +kernel) rfl, by decide +kernel⟩
theorem bX10_image : Cond.initialized (mX10_image).1.cls ∈ zt ∧ Cond.code (mX10_image).1 (mX10_image).2.1 (mX10_image).2.2.1 (mX10_image).2.2.2.1 ∈ zt ∧ ((mX10_image).1.cls ≠ "java/lang/invoke/MethodHandle" ∧ (mX10_image).1.cls ≠ "java/lang/invoke/VarHandle" ∧ (parseMethodDescriptor (mX10_image).1.desc).map (fun d => d.parameters.length) = some 1) := ⟨zc1 13 (by decide +kernel) rfl, zc8 11 (by decide +kernel) rfl, by decide +kernel⟩
theorem bX10_back : Cond.initialized (mX10_back).1.cls ∈ zt ∧ Cond.code (mX10_back).1 (mX10_back).2.1 (mX10_back).2.2.1 (mX10_back).2.2.2.1 ∈ zt ∧ ((mX10_back).1.cls ≠ "java/lang/invoke/MethodHandle" ∧ (mX10_back).1.cls ≠ "java/lang/invoke/VarHandle" ∧ (parseMethodDescriptor (mX10_back).1.desc).map (fun d => d.parameters.length) = some 1) := ⟨zc1 13 (by decide +kernel) rfl, zc8 16 (by decide +kernel) rfl, by decide +kernel⟩
theorem bX10_roundTries : Cond.initialized (mX10_roundTries).1.cls ∈ zt ∧ Cond.code (mX10_roundTries).1 (mX10_roundTries).2.1 (mX10_roundTries).2.2.1 (mX10_roundTries).2.2.2.1 ∈ zt ∧ ((mX10_roundTries).1.cls ≠ "java/lang/invoke/MethodHandle" ∧ (mX10_roundTries).1.cls ≠ "java/lang/invoke/VarHandle" ∧ (parseMethodDescriptor (mX10_roundTries).1.desc).map (fun d => d.parameters.length) = some 0) := ⟨zc1 13 (by decide +kernel) rfl, zc8 24 (by decide +kernel) rfl, by decide +kernel⟩
theorem bX10_about : Cond.initialized (mX10_about).1.cls ∈ zt ∧ Cond.code (mX10_about).1 (mX10_about).2.1 (mX10_about).2.2.1 (mX10_about).2.2.2.1 ∈ zt ∧ ((mX10_about).1.cls ≠ "java/lang/invoke/MethodHandle" ∧ (mX10_about).1.cls ≠ "java/lang/invoke/VarHandle" ∧ (parseMethodDescriptor (mX10_about).1.desc).map (fun d => d.parameters.length) = some 1) := ⟨zc1 13 (by decide +kernel) rfl, zc8 20 (by decide +kernel) rfl, by decide +kernel⟩
theorem bJ13_bitCount_95d88 : Cond.initialized (mJ13_bitCount_95d88).1.cls ∈ zt ∧ Cond.code (mJ13_bitCount_95d88).1 (mJ13_bitCount_95d88).2.1 (mJ13_bitCount_95d88).2.2.1 (mJ13_bitCount_95d88).2.2.2.1 ∈ zt ∧ ((mJ13_bitCount_95d88).1.cls ≠ "java/lang/invoke/MethodHandle" ∧ (mJ13_bitCount_95d88).1.cls ≠ "java/lang/invoke/VarHandle" ∧ (parseMethodDescriptor (mJ13_bitCount_95d88).1.desc).map (fun d => d.parameters.length) = some 1) := ⟨zc1 19 (by decide +kernel) rfl, zc5 49 (by decide +kernel) rfl, by decide +kernel⟩
theorem bJ7_fill_53178 : Cond.initialized (mJ7_fill_53178).1.cls ∈ zt ∧ Cond.code (mJ7_fill_53178).1 (mJ7_fill_53178).2.1 (mJ7_fill_53178).2.2.1 (mJ7_fill_53178).2.2.2.1 ∈ zt ∧ ((mJ7_fill_53178).1.cls ≠ "java/lang/invoke/MethodHandle" ∧ (mJ7_fill_53178).1.cls ≠ "java/lang/invoke/VarHandle" ∧ (parseMethodDescriptor (mJ7_fill_53178).1.desc).map (fun d => d.parameters.length) = some 2) := ⟨zc1 5 (by decide +kernel) rfl, zc1 76 (by decide +kernel) rfl, by decide +kernel⟩
theorem bJ3_checkIndex_8e157 : Cond.initialized (mJ3_checkIndex_8e157).1.cls ∈ zt ∧ Cond.code (mJ3_checkIndex_8e157).1 (mJ3_checkIndex_8e157).2.1 (mJ3_checkIndex_8e157).2.2.1 (mJ3_checkIndex_8e157).2.2.2.1 ∈ zt ∧ ((mJ3_checkIndex_8e157).1.cls ≠ "java/lang/invoke/MethodHandle" ∧ (mJ3_checkIndex_8e157).1.cls ≠ "java/lang/invoke/VarHandle" ∧ (parseMethodDescriptor (mJ3_checkIndex_8e157).1.desc).map (fun d => d.parameters.length) = some 3) := ⟨zc1 16 (by decide +kernel) rfl, zc3 58 (by decide +kernel) rfl, by decide +kernel⟩
theorem kX0_init_27 : zLv mX0_init mX0_clear 27 0 := ⟨⟨bX0_clear.1, bX0_clear.2.1, bX0_clear.2.2, by decide, by decide⟩, zc1 70 (by decide +kernel) rfl, zc1 71 (by decide +kernel) rfl, zc1 72 (by decide +kernel) rfl⟩
theorem kX0_clear_52 : zLs mX0_clear mJ7_fill_53178 52 2 := ⟨⟨bJ7_fill_53178.1, bJ7_fill_53178.2.1, bJ7_fill_53178.2.2, by decide, by decide⟩, zc1 74 (by decide +kernel) rfl, zc1 75 (by decide +kernel) rfl⟩
theorem kX1_init_24 : zLb mX1_init mX5_init 0 := ⟨bX5_init.1, bX5_init.2.1, bX5_init.2.2, by decide, by decide⟩
theorem kX1_forget_25 : zLv mX1_forget mX5_copy 25 1 := ⟨⟨bX5_copy.1, bX5_copy.2.1, bX5_copy.2.2, by decide, by decide⟩, zc2 176 (by decide +kernel) rfl, zc2 169 (by decide +kernel) rfl, zc2 170 (by decide +kernel) rfl⟩
theorem kX1_add_29 : zLv mX1_add mX1_dropOldest 29 0 := ⟨⟨bX1_dropOldest.1, bX1_dropOldest.2.1, bX1_dropOldest.2.2, by decide, by decide⟩, zc4 12 (by decide +kernel) rfl, zc4 14 (by decide +kernel) rfl, zc0 30 (by decide +kernel) rfl⟩
theorem kX1_add_25 : zLv mX1_add mX5_copy 25 1 := ⟨⟨bX5_copy.1, bX5_copy.2.1, bX5_copy.2.2, by decide, by decide⟩, zc2 176 (by decide +kernel) rfl, zc2 169 (by decide +kernel) rfl, zc2 170 (by decide +kernel) rfl⟩
theorem kX1_goBack_25 : zLv mX1_goBack mX5_copy 25 1 := ⟨⟨bX5_copy.1, bX5_copy.2.1, bX5_copy.2.2, by decide, by decide⟩, zc2 176 (by decide +kernel) rfl, zc2 169 (by decide +kernel) rfl, zc2 170 (by decide +kernel) rfl⟩
theorem kX1_goOn_25 : zLv mX1_goOn mX5_copy 25 1 := ⟨⟨bX5_copy.1, bX5_copy.2.1, bX5_copy.2.2, by decide, by decide⟩, zc2 176 (by decide +kernel) rfl, zc2 169 (by decide +kernel) rfl, zc2 170 (by decide +kernel) rfl⟩
theorem kX2_shape_54 : zLv mX2_shape mX2_numberCells 54 0 := ⟨⟨bX2_numberCells.1, bX2_numberCells.2.1, bX2_numberCells.2.2, by decide, by decide⟩, zc2 124 (by decide +kernel) rfl, zc2 126 (by decide +kernel) rfl, zc0 1 (by decide +kernel) rfl⟩
theorem kX2_shape_57 : zLv mX2_shape mX2_joinCells 57 0 := ⟨⟨bX2_joinCells.1, bX2_joinCells.2.1, bX2_joinCells.2.2, by decide, by decide⟩, zc2 128 (by decide +kernel) rfl, zc2 130 (by decide +kernel) rfl, zc0 2 (by decide +kernel) rfl⟩
theorem kX2_joinCells_60 : zLv mX2_joinCells mX2_moved 60 3 := ⟨⟨bX2_moved.1, bX2_moved.2.1, bX2_moved.2.2, by decide, by decide⟩, zc2 132 (by decide +kernel) rfl, zc2 133 (by decide +kernel) rfl, zc2 134 (by decide +kernel) rfl⟩
theorem kX3_joinLevel_38 : zLv mX3_joinLevel mX3_join 38 1 := ⟨⟨bX3_join.1, bX3_join.2.1, bX3_join.2.2, by decide, by decide⟩, zc4 117 (by decide +kernel) rfl, zc4 119 (by decide +kernel) rfl, zc0 36 (by decide +kernel) rfl⟩
theorem kX3_joinCrests_42 : zLv mX3_joinCrests mX7_isCrest 42 2 := ⟨⟨bX7_isCrest.1, bX7_isCrest.2.1, bX7_isCrest.2.2, by decide, by decide⟩, zc4 187 (by decide +kernel) rfl, zc3 191 (by decide +kernel) rfl, zc3 192 (by decide +kernel) rfl⟩
theorem kX3_joinCrests_38 : zLv mX3_joinCrests mX3_join 38 1 := ⟨⟨bX3_join.1, bX3_join.2.1, bX3_join.2.2, by decide, by decide⟩, zc4 117 (by decide +kernel) rfl, zc4 119 (by decide +kernel) rfl, zc0 36 (by decide +kernel) rfl⟩
theorem kX3_join_48 : zLs mX3_join mJ7_fill_53178 48 2 := ⟨⟨bJ7_fill_53178.1, bJ7_fill_53178.2.1, bJ7_fill_53178.2.2, by decide, by decide⟩, zc4 121 (by decide +kernel) rfl, zc1 75 (by decide +kernel) rfl⟩
theorem kX3_join_54 : zLv mX3_join mX3_spread 54 2 := ⟨⟨bX3_spread.1, bX3_spread.2.1, bX3_spread.2.2, by decide, by decide⟩, zc4 122 (by decide +kernel) rfl, zc4 124 (by decide +kernel) rfl, zc0 37 (by decide +kernel) rfl⟩
theorem kX3_spread_58 : zLv mX3_spread mX3_reach 58 1 := ⟨⟨bX3_reach.1, bX3_reach.2.1, bX3_reach.2.2, by decide, by decide⟩, zc4 126 (by decide +kernel) rfl, zc4 128 (by decide +kernel) rfl, zc0 38 (by decide +kernel) rfl⟩
theorem kX3_spread_62 : zLv mX3_spread mX2_neighbour 62 2 := ⟨⟨bX2_neighbour.1, bX2_neighbour.2.1, bX2_neighbour.2.2, by decide, by decide⟩, zc4 130 (by decide +kernel) rfl, zc2 157 (by decide +kernel) rfl, zc2 158 (by decide +kernel) rfl⟩
theorem kX4_init_11 : zLi mX4_init mX0_init 11 0 := ⟨⟨bX0_init.1, bX0_init.2.1, bX0_init.2.2, by decide, by decide⟩, zc1 66 (by decide +kernel) rfl, zc1 67 (by decide +kernel) rfl, rfl, rfl⟩
theorem kX4_read_32 : zLv mX4_read mX0_clear 32 0 := ⟨⟨bX0_clear.1, bX0_clear.2.1, bX0_clear.2.2, by decide, by decide⟩, zc3 6 (by decide +kernel) rfl, zc1 71 (by decide +kernel) rfl, zc1 72 (by decide +kernel) rfl⟩
theorem kX4_read_35 : zLv mX4_read mX8_scan 35 0 := ⟨⟨bX8_scan.1, bX8_scan.2.1, bX8_scan.2.2, by decide, by decide⟩, zc3 7 (by decide +kernel) rfl, zc3 8 (by decide +kernel) rfl, zc3 9 (by decide +kernel) rfl⟩
theorem kX4_read_40 : zLv mX4_read mX4_kind 40 0 := ⟨⟨bX4_kind.1, bX4_kind.2.1, bX4_kind.2.2, by decide, by decide⟩, zc3 85 (by decide +kernel) rfl, zc3 87 (by decide +kernel) rfl, zc0 11 (by decide +kernel) rfl⟩
theorem kX4_read_44 : zLv mX4_read mX4_readLineWord 44 1 := ⟨⟨bX4_readLineWord.1, bX4_readLineWord.2.1, bX4_readLineWord.2.2, by decide, by decide⟩, zc3 89 (by decide +kernel) rfl, zc3 91 (by decide +kernel) rfl, zc0 12 (by decide +kernel) rfl⟩
theorem kX4_read_48 : zLv mX4_read mX0_setTold 48 1 := ⟨⟨bX0_setTold.1, bX0_setTold.2.1, bX0_setTold.2.2, by decide, by decide⟩, zc3 113 (by decide +kernel) rfl, zc3 114 (by decide +kernel) rfl, zc3 115 (by decide +kernel) rfl⟩
theorem kX4_read_52 : zLv mX4_read mX4_readRest 52 1 := ⟨⟨bX4_readRest.1, bX4_readRest.2.1, bX4_readRest.2.2, by decide, by decide⟩, zc3 117 (by decide +kernel) rfl, zc3 119 (by decide +kernel) rfl, zc0 17 (by decide +kernel) rfl⟩
theorem kX4_read_55 : zLv mX4_read mX4_expect 55 1 := ⟨⟨bX4_expect.1, bX4_expect.2.1, bX4_expect.2.2, by decide, by decide⟩, zc3 129 (by decide +kernel) rfl, zc3 131 (by decide +kernel) rfl, zc0 20 (by decide +kernel) rfl⟩
theorem kX4_advance_40 : zLv mX4_advance mX4_kind 40 0 := ⟨⟨bX4_kind.1, bX4_kind.2.1, bX4_kind.2.2, by decide, by decide⟩, zc3 85 (by decide +kernel) rfl, zc3 87 (by decide +kernel) rfl, zc0 11 (by decide +kernel) rfl⟩
theorem kX4_refuseToken_40 : zLv mX4_refuseToken mX4_kind 40 0 := ⟨⟨bX4_kind.1, bX4_kind.2.1, bX4_kind.2.2, by decide, by decide⟩, zc3 85 (by decide +kernel) rfl, zc3 87 (by decide +kernel) rfl, zc0 11 (by decide +kernel) rfl⟩
theorem kX4_refuseToken_69 : zLv mX4_refuseToken mX4_refuse 69 2 := ⟨⟨bX4_refuse.1, bX4_refuse.2.1, bX4_refuse.2.2, by decide, by decide⟩, zc3 101 (by decide +kernel) rfl, zc3 103 (by decide +kernel) rfl, zc0 15 (by decide +kernel) rfl⟩
theorem kX4_readLineWord_40 : zLv mX4_readLineWord mX4_kind 40 0 := ⟨⟨bX4_kind.1, bX4_kind.2.1, bX4_kind.2.2, by decide, by decide⟩, zc3 85 (by decide +kernel) rfl, zc3 87 (by decide +kernel) rfl, zc0 11 (by decide +kernel) rfl⟩
theorem kX4_readLineWord_73 : zLv mX4_readLineWord mX4_value 73 0 := ⟨⟨bX4_value.1, bX4_value.2.1, bX4_value.2.2, by decide, by decide⟩, zc3 93 (by decide +kernel) rfl, zc3 95 (by decide +kernel) rfl, zc0 13 (by decide +kernel) rfl⟩
theorem kX4_readLineWord_76 : zLv mX4_readLineWord mX4_refuseToken 76 0 := ⟨⟨bX4_refuseToken.1, bX4_refuseToken.2.1, bX4_refuseToken.2.2, by decide, by decide⟩, zc3 97 (by decide +kernel) rfl, zc3 99 (by decide +kernel) rfl, zc0 14 (by decide +kernel) rfl⟩
theorem kX4_readLineWord_69 : zLv mX4_readLineWord mX4_refuse 69 2 := ⟨⟨bX4_refuse.1, bX4_refuse.2.1, bX4_refuse.2.2, by decide, by decide⟩, zc3 101 (by decide +kernel) rfl, zc3 103 (by decide +kernel) rfl, zc0 15 (by decide +kernel) rfl⟩
theorem kX4_readLineWord_82 : zLv mX4_readLineWord mX0_isTold 82 1 := ⟨⟨bX0_isTold.1, bX0_isTold.2.1, bX0_isTold.2.2, by decide, by decide⟩, zc3 105 (by decide +kernel) rfl, zc3 106 (by decide +kernel) rfl, zc3 107 (by decide +kernel) rfl⟩
theorem kX4_readLineWord_86 : zLv mX4_readLineWord mX4_advance 86 0 := ⟨⟨bX4_advance.1, bX4_advance.2.1, bX4_advance.2.2, by decide, by decide⟩, zc3 109 (by decide +kernel) rfl, zc3 111 (by decide +kernel) rfl, zc0 16 (by decide +kernel) rfl⟩
theorem kX4_readRest_89 : zLv mX4_readRest mX4_readSize 89 0 := ⟨⟨bX4_readSize.1, bX4_readSize.2.1, bX4_readSize.2.2, by decide, by decide⟩, zc3 121 (by decide +kernel) rfl, zc3 123 (by decide +kernel) rfl, zc0 18 (by decide +kernel) rfl⟩
theorem kX4_readRest_92 : zLv mX4_readRest mX4_readNumber 92 2 := ⟨⟨bX4_readNumber.1, bX4_readNumber.2.1, bX4_readNumber.2.2, by decide, by decide⟩, zc3 125 (by decide +kernel) rfl, zc3 127 (by decide +kernel) rfl, zc0 19 (by decide +kernel) rfl⟩
theorem kX4_readRest_99 : zLv mX4_readRest mX4_readHeap 99 0 := ⟨⟨bX4_readHeap.1, bX4_readHeap.2.1, bX4_readHeap.2.2, by decide, by decide⟩, zc3 133 (by decide +kernel) rfl, zc3 135 (by decide +kernel) rfl, zc0 21 (by decide +kernel) rfl⟩
theorem kX4_readRest_102 : zLv mX4_readRest mX4_readGrass 102 0 := ⟨⟨bX4_readGrass.1, bX4_readGrass.2.1, bX4_readGrass.2.2, by decide, by decide⟩, zc3 137 (by decide +kernel) rfl, zc3 139 (by decide +kernel) rfl, zc0 22 (by decide +kernel) rfl⟩
theorem kX4_readRest_105 : zLv mX4_readRest mX4_readWind 105 0 := ⟨⟨bX4_readWind.1, bX4_readWind.2.1, bX4_readWind.2.2, by decide, by decide⟩, zc3 141 (by decide +kernel) rfl, zc3 143 (by decide +kernel) rfl, zc0 23 (by decide +kernel) rfl⟩
theorem kX4_readRest_108 : zLv mX4_readRest mX4_readRule 108 1 := ⟨⟨bX4_readRule.1, bX4_readRule.2.1, bX4_readRule.2.2, by decide, by decide⟩, zc3 145 (by decide +kernel) rfl, zc3 147 (by decide +kernel) rfl, zc0 24 (by decide +kernel) rfl⟩
theorem kX4_readSize_92 : zLv mX4_readSize mX4_readNumber 92 2 := ⟨⟨bX4_readNumber.1, bX4_readNumber.2.1, bX4_readNumber.2.2, by decide, by decide⟩, zc3 125 (by decide +kernel) rfl, zc3 127 (by decide +kernel) rfl, zc0 19 (by decide +kernel) rfl⟩
theorem kX4_readSize_40 : zLv mX4_readSize mX4_kind 40 0 := ⟨⟨bX4_kind.1, bX4_kind.2.1, bX4_kind.2.2, by decide, by decide⟩, zc3 85 (by decide +kernel) rfl, zc3 87 (by decide +kernel) rfl, zc0 11 (by decide +kernel) rfl⟩
theorem kX4_readSize_73 : zLv mX4_readSize mX4_value 73 0 := ⟨⟨bX4_value.1, bX4_value.2.1, bX4_value.2.2, by decide, by decide⟩, zc3 93 (by decide +kernel) rfl, zc3 95 (by decide +kernel) rfl, zc0 13 (by decide +kernel) rfl⟩
theorem kX4_readSize_55 : zLv mX4_readSize mX4_expect 55 1 := ⟨⟨bX4_expect.1, bX4_expect.2.1, bX4_expect.2.2, by decide, by decide⟩, zc3 129 (by decide +kernel) rfl, zc3 131 (by decide +kernel) rfl, zc0 20 (by decide +kernel) rfl⟩
theorem kX4_readHeap_92 : zLv mX4_readHeap mX4_readNumber 92 2 := ⟨⟨bX4_readNumber.1, bX4_readNumber.2.1, bX4_readNumber.2.2, by decide, by decide⟩, zc3 125 (by decide +kernel) rfl, zc3 127 (by decide +kernel) rfl, zc0 19 (by decide +kernel) rfl⟩
theorem kX4_readGrass_92 : zLv mX4_readGrass mX4_readNumber 92 2 := ⟨⟨bX4_readNumber.1, bX4_readNumber.2.1, bX4_readNumber.2.2, by decide, by decide⟩, zc3 125 (by decide +kernel) rfl, zc3 127 (by decide +kernel) rfl, zc0 19 (by decide +kernel) rfl⟩
theorem kX4_readGrass_69 : zLv mX4_readGrass mX4_refuse 69 2 := ⟨⟨bX4_refuse.1, bX4_refuse.2.1, bX4_refuse.2.2, by decide, by decide⟩, zc3 101 (by decide +kernel) rfl, zc3 103 (by decide +kernel) rfl, zc0 15 (by decide +kernel) rfl⟩
theorem kX4_readWind_40 : zLv mX4_readWind mX4_kind 40 0 := ⟨⟨bX4_kind.1, bX4_kind.2.1, bX4_kind.2.2, by decide, by decide⟩, zc3 85 (by decide +kernel) rfl, zc3 87 (by decide +kernel) rfl, zc0 11 (by decide +kernel) rfl⟩
theorem kX4_readWind_73 : zLv mX4_readWind mX4_value 73 0 := ⟨⟨bX4_value.1, bX4_value.2.1, bX4_value.2.2, by decide, by decide⟩, zc3 93 (by decide +kernel) rfl, zc3 95 (by decide +kernel) rfl, zc0 13 (by decide +kernel) rfl⟩
theorem kX4_readWind_55 : zLv mX4_readWind mX4_expect 55 1 := ⟨⟨bX4_expect.1, bX4_expect.2.1, bX4_expect.2.2, by decide, by decide⟩, zc3 129 (by decide +kernel) rfl, zc3 131 (by decide +kernel) rfl, zc0 20 (by decide +kernel) rfl⟩
theorem kX4_readWind_92 : zLv mX4_readWind mX4_readNumber 92 2 := ⟨⟨bX4_readNumber.1, bX4_readNumber.2.1, bX4_readNumber.2.2, by decide, by decide⟩, zc3 125 (by decide +kernel) rfl, zc3 127 (by decide +kernel) rfl, zc0 19 (by decide +kernel) rfl⟩
theorem kX4_readRule_92 : zLv mX4_readRule mX4_readNumber 92 2 := ⟨⟨bX4_readNumber.1, bX4_readNumber.2.1, bX4_readNumber.2.2, by decide, by decide⟩, zc3 125 (by decide +kernel) rfl, zc3 127 (by decide +kernel) rfl, zc0 19 (by decide +kernel) rfl⟩
theorem kX4_expect_86 : zLv mX4_expect mX4_advance 86 0 := ⟨⟨bX4_advance.1, bX4_advance.2.1, bX4_advance.2.2, by decide, by decide⟩, zc3 109 (by decide +kernel) rfl, zc3 111 (by decide +kernel) rfl, zc0 16 (by decide +kernel) rfl⟩
theorem kX4_expect_76 : zLv mX4_expect mX4_refuseToken 76 0 := ⟨⟨bX4_refuseToken.1, bX4_refuseToken.2.1, bX4_refuseToken.2.2, by decide, by decide⟩, zc3 97 (by decide +kernel) rfl, zc3 99 (by decide +kernel) rfl, zc0 14 (by decide +kernel) rfl⟩
theorem kX4_readNumber_40 : zLv mX4_readNumber mX4_kind 40 0 := ⟨⟨bX4_kind.1, bX4_kind.2.1, bX4_kind.2.2, by decide, by decide⟩, zc3 85 (by decide +kernel) rfl, zc3 87 (by decide +kernel) rfl, zc0 11 (by decide +kernel) rfl⟩
theorem kX4_readNumber_76 : zLv mX4_readNumber mX4_refuseToken 76 0 := ⟨⟨bX4_refuseToken.1, bX4_refuseToken.2.1, bX4_refuseToken.2.2, by decide, by decide⟩, zc3 97 (by decide +kernel) rfl, zc3 99 (by decide +kernel) rfl, zc0 14 (by decide +kernel) rfl⟩
theorem kX4_readNumber_73 : zLv mX4_readNumber mX4_value 73 0 := ⟨⟨bX4_value.1, bX4_value.2.1, bX4_value.2.2, by decide, by decide⟩, zc3 93 (by decide +kernel) rfl, zc3 95 (by decide +kernel) rfl, zc0 13 (by decide +kernel) rfl⟩
theorem kX4_readNumber_69 : zLv mX4_readNumber mX4_refuse 69 2 := ⟨⟨bX4_refuse.1, bX4_refuse.2.1, bX4_refuse.2.2, by decide, by decide⟩, zc3 101 (by decide +kernel) rfl, zc3 103 (by decide +kernel) rfl, zc0 15 (by decide +kernel) rfl⟩
theorem kX4_readNumber_86 : zLv mX4_readNumber mX4_advance 86 0 := ⟨⟨bX4_advance.1, bX4_advance.2.1, bX4_advance.2.2, by decide, by decide⟩, zc3 109 (by decide +kernel) rfl, zc3 111 (by decide +kernel) rfl, zc0 16 (by decide +kernel) rfl⟩
theorem kX5_begin_37 : zLy mX5_begin 37 := ⟨zc2 140 (by decide +kernel) rfl, zc2 142 (by decide +kernel) rfl, zc2 141 (by decide +kernel) rfl, zc1 12 (by decide +kernel) rfl, by decide, by decide⟩
theorem kX5_copy_37 : zLy mX5_copy 37 := ⟨zc2 140 (by decide +kernel) rfl, zc2 142 (by decide +kernel) rfl, zc2 141 (by decide +kernel) rfl, zc1 12 (by decide +kernel) rfl, by decide, by decide⟩
theorem kX5_highest_51 : zLm mX5_highest 51 Lib.Math.max.name Lib.Math.max.code 2 := ⟨zc4 68 (by decide +kernel) rfl, zc3 188 (by decide +kernel) rfl, zc1 18 (by decide +kernel) rfl, zc3 189 (by decide +kernel) rfl, by decide, by decide⟩
theorem kX6_seedsFor_44 : zLv mX6_seedsFor mX7_startFrom 44 2 := ⟨⟨bX7_startFrom.1, bX7_startFrom.2.1, bX7_startFrom.2.2, by decide, by decide⟩, zc5 19 (by decide +kernel) rfl, zc4 230 (by decide +kernel) rfl, zc4 231 (by decide +kernel) rfl⟩
theorem kX6_seedsFor_50 : zLv mX6_seedsFor mX7_blowOn 50 1 := ⟨⟨bX7_blowOn.1, bX7_blowOn.2.1, bX7_blowOn.2.2, by decide, by decide⟩, zc5 20 (by decide +kernel) rfl, zc3 207 (by decide +kernel) rfl, zc3 208 (by decide +kernel) rfl⟩
theorem kX6_survey_61 : zLs mX6_survey mX6_holds 61 2 := ⟨⟨bX6_holds.1, bX6_holds.2.1, bX6_holds.2.2, by decide, by decide⟩, zc5 68 (by decide +kernel) rfl, zc5 58 (by decide +kernel) rfl⟩
theorem kX6_survey_44 : zLv mX6_survey mX7_startFrom 44 2 := ⟨⟨bX7_startFrom.1, bX7_startFrom.2.1, bX7_startFrom.2.2, by decide, by decide⟩, zc5 19 (by decide +kernel) rfl, zc4 230 (by decide +kernel) rfl, zc4 231 (by decide +kernel) rfl⟩
theorem kX6_survey_50 : zLv mX6_survey mX7_blowOn 50 1 := ⟨⟨bX7_blowOn.1, bX7_blowOn.2.1, bX7_blowOn.2.2, by decide, by decide⟩, zc5 20 (by decide +kernel) rfl, zc3 207 (by decide +kernel) rfl, zc3 208 (by decide +kernel) rfl⟩
theorem kX6_survey_70 : zLy mX6_survey 70 := ⟨zc5 69 (by decide +kernel) rfl, zc2 142 (by decide +kernel) rfl, zc2 141 (by decide +kernel) rfl, zc1 12 (by decide +kernel) rfl, by decide, by decide⟩
theorem kX6_mostAlike_61 : zLs mX6_mostAlike mX6_holds 61 2 := ⟨⟨bX6_holds.1, bX6_holds.2.1, bX6_holds.2.2, by decide, by decide⟩, zc5 68 (by decide +kernel) rfl, zc5 58 (by decide +kernel) rfl⟩
theorem kX6_mostAlike_76 : zLv mX6_mostAlike mX6_alike 76 3 := ⟨⟨bX6_alike.1, bX6_alike.2.1, bX6_alike.2.2, by decide, by decide⟩, zc5 74 (by decide +kernel) rfl, zc5 76 (by decide +kernel) rfl, zc0 50 (by decide +kernel) rfl⟩
theorem kX6_mostAlike_80 : zLm mX6_mostAlike 80 Lib.Math.max.name Lib.Math.max.code 2 := ⟨zc5 78 (by decide +kernel) rfl, zc3 188 (by decide +kernel) rfl, zc1 18 (by decide +kernel) rfl, zc3 189 (by decide +kernel) rfl, by decide, by decide⟩
theorem kX6_alike_61 : zLs mX6_alike mX6_holds 61 2 := ⟨⟨bX6_holds.1, bX6_holds.2.1, bX6_holds.2.2, by decide, by decide⟩, zc5 68 (by decide +kernel) rfl, zc5 58 (by decide +kernel) rfl⟩
theorem kX7_startFrom_30 : zLv mX7_startFrom mX5_copy 30 1 := ⟨⟨bX5_copy.1, bX5_copy.2.1, bX5_copy.2.2, by decide, by decide⟩, zc4 233 (by decide +kernel) rfl, zc2 169 (by decide +kernel) rfl, zc2 170 (by decide +kernel) rfl⟩
theorem kX7_startFrom_39 : zLs mX7_startFrom mJ7_fill_53178 39 2 := ⟨⟨bJ7_fill_53178.1, bJ7_fill_53178.2.1, bJ7_fill_53178.2.2, by decide, by decide⟩, zc4 234 (by decide +kernel) rfl, zc1 75 (by decide +kernel) rfl⟩
theorem kX7_blowOn_45 : zLv mX7_blowOn mX7_tryOnce 45 0 := ⟨⟨bX7_tryOnce.1, bX7_tryOnce.2.1, bX7_tryOnce.2.2, by decide, by decide⟩, zc3 210 (by decide +kernel) rfl, zc3 212 (by decide +kernel) rfl, zc0 27 (by decide +kernel) rfl⟩
theorem kX7_tryOnce_52 : zLv mX7_tryOnce mX2_windAt 52 1 := ⟨⟨bX2_windAt.1, bX2_windAt.2.1, bX2_windAt.2.2, by decide, by decide⟩, zc3 214 (by decide +kernel) rfl, zc3 171 (by decide +kernel) rfl, zc3 172 (by decide +kernel) rfl⟩
theorem kX7_tryOnce_61 : zLv mX7_tryOnce mX5_drawOf 61 1 := ⟨⟨bX5_drawOf.1, bX5_drawOf.2.1, bX5_drawOf.2.2, by decide, by decide⟩, zc3 215 (by decide +kernel) rfl, zc3 216 (by decide +kernel) rfl, zc3 217 (by decide +kernel) rfl⟩
theorem kX7_tryOnce_64 : zLv mX7_tryOnce mX7_yields 64 2 := ⟨⟨bX7_yields.1, bX7_yields.2.1, bX7_yields.2.2, by decide, by decide⟩, zc3 219 (by decide +kernel) rfl, zc3 220 (by decide +kernel) rfl, zc3 221 (by decide +kernel) rfl⟩
theorem kX7_tryOnce_68 : zLv mX7_tryOnce mX7_lift 68 1 := ⟨⟨bX7_lift.1, bX7_lift.2.1, bX7_lift.2.2, by decide, by decide⟩, zc3 224 (by decide +kernel) rfl, zc3 225 (by decide +kernel) rfl, zc3 226 (by decide +kernel) rfl⟩
theorem kX7_tryOnce_72 : zLv mX7_tryOnce mX7_carry 72 2 := ⟨⟨bX7_carry.1, bX7_carry.2.1, bX7_carry.2.2, by decide, by decide⟩, zc3 232 (by decide +kernel) rfl, zc3 234 (by decide +kernel) rfl, zc0 29 (by decide +kernel) rfl⟩
theorem kX7_tryOnce_76 : zLv mX7_tryOnce mX7_drop 76 1 := ⟨⟨bX7_drop.1, bX7_drop.2.1, bX7_drop.2.2, by decide, by decide⟩, zc4 4 (by decide +kernel) rfl, zc4 5 (by decide +kernel) rfl, zc4 6 (by decide +kernel) rfl⟩
theorem kX7_yields_85 : zLv mX7_yields mX7_shaded 85 2 := ⟨⟨bX7_shaded.1, bX7_shaded.2.1, bX7_shaded.2.2, by decide, by decide⟩, zc3 223 (by decide +kernel) rfl, zc3 175 (by decide +kernel) rfl, zc3 176 (by decide +kernel) rfl⟩
theorem kX7_carry_88 : zLv mX7_carry mX7_hopOn 88 2 := ⟨⟨bX7_hopOn.1, bX7_hopOn.2.1, bX7_hopOn.2.2, by decide, by decide⟩, zc3 236 (by decide +kernel) rfl, zc3 237 (by decide +kernel) rfl, zc3 238 (by decide +kernel) rfl⟩
theorem kX7_carry_85 : zLv mX7_carry mX7_shaded 85 2 := ⟨⟨bX7_shaded.1, bX7_shaded.2.1, bX7_shaded.2.2, by decide, by decide⟩, zc3 223 (by decide +kernel) rfl, zc3 175 (by decide +kernel) rfl, zc3 176 (by decide +kernel) rfl⟩
theorem kX7_carry_61 : zLv mX7_carry mX5_drawOf 61 1 := ⟨⟨bX5_drawOf.1, bX5_drawOf.2.1, bX5_drawOf.2.2, by decide, by decide⟩, zc3 215 (by decide +kernel) rfl, zc3 216 (by decide +kernel) rfl, zc3 217 (by decide +kernel) rfl⟩
theorem kX7_carry_91 : zLv mX7_carry mX5_stickAt 91 1 := ⟨⟨bX5_stickAt.1, bX5_stickAt.2.1, bX5_stickAt.2.2, by decide, by decide⟩, zc4 0 (by decide +kernel) rfl, zc4 1 (by decide +kernel) rfl, zc4 2 (by decide +kernel) rfl⟩
theorem kX7_hopOn_97 : zLv mX7_hopOn mX2_neighbour 97 2 := ⟨⟨bX2_neighbour.1, bX2_neighbour.2.1, bX2_neighbour.2.2, by decide, by decide⟩, zc2 156 (by decide +kernel) rfl, zc2 157 (by decide +kernel) rfl, zc2 158 (by decide +kernel) rfl⟩
theorem kX7_hopOn_100 : zLv mX7_hopOn mX7_cross 100 3 := ⟨⟨bX7_cross.1, bX7_cross.2.1, bX7_cross.2.2, by decide, by decide⟩, zc2 164 (by decide +kernel) rfl, zc2 166 (by decide +kernel) rfl, zc0 6 (by decide +kernel) rfl⟩
theorem kX7_shaded_104 : zLv mX7_shaded mX2_roundOf 104 1 := ⟨⟨bX2_roundOf.1, bX2_roundOf.2.1, bX2_roundOf.2.2, by decide, by decide⟩, zc3 178 (by decide +kernel) rfl, zc3 179 (by decide +kernel) rfl, zc3 180 (by decide +kernel) rfl⟩
theorem kX7_shaded_97 : zLv mX7_shaded mX2_neighbour 97 2 := ⟨⟨bX2_neighbour.1, bX2_neighbour.2.1, bX2_neighbour.2.2, by decide, by decide⟩, zc2 156 (by decide +kernel) rfl, zc2 157 (by decide +kernel) rfl, zc2 158 (by decide +kernel) rfl⟩
theorem kX7_isCrest_97 : zLv mX7_isCrest mX2_neighbour 97 2 := ⟨⟨bX2_neighbour.1, bX2_neighbour.2.1, bX2_neighbour.2.2, by decide, by decide⟩, zc2 156 (by decide +kernel) rfl, zc2 157 (by decide +kernel) rfl, zc2 158 (by decide +kernel) rfl⟩
theorem kX7_lift_107 : zLv mX7_lift mX7_wayUp 107 1 := ⟨⟨bX7_wayUp.1, bX7_wayUp.2.1, bX7_wayUp.2.2, by decide, by decide⟩, zc3 228 (by decide +kernel) rfl, zc3 230 (by decide +kernel) rfl, zc0 28 (by decide +kernel) rfl⟩
theorem kX7_lift_97 : zLv mX7_lift mX2_neighbour 97 2 := ⟨⟨bX2_neighbour.1, bX2_neighbour.2.1, bX2_neighbour.2.2, by decide, by decide⟩, zc2 156 (by decide +kernel) rfl, zc2 157 (by decide +kernel) rfl, zc2 158 (by decide +kernel) rfl⟩
theorem kX7_lift_110 : zLv mX7_lift mX7_slide 110 2 := ⟨⟨bX7_slide.1, bX7_slide.2.1, bX7_slide.2.2, by decide, by decide⟩, zc2 160 (by decide +kernel) rfl, zc2 162 (by decide +kernel) rfl, zc0 5 (by decide +kernel) rfl⟩
theorem kX7_drop_114 : zLv mX7_drop mX7_wayDown 114 1 := ⟨⟨bX7_wayDown.1, bX7_wayDown.2.1, bX7_wayDown.2.2, by decide, by decide⟩, zc2 152 (by decide +kernel) rfl, zc2 154 (by decide +kernel) rfl, zc0 4 (by decide +kernel) rfl⟩
theorem kX7_drop_110 : zLv mX7_drop mX7_slide 110 2 := ⟨⟨bX7_slide.1, bX7_slide.2.1, bX7_slide.2.2, by decide, by decide⟩, zc2 160 (by decide +kernel) rfl, zc2 162 (by decide +kernel) rfl, zc0 5 (by decide +kernel) rfl⟩
theorem kX7_drop_97 : zLv mX7_drop mX2_neighbour 97 2 := ⟨⟨bX2_neighbour.1, bX2_neighbour.2.1, bX2_neighbour.2.2, by decide, by decide⟩, zc2 156 (by decide +kernel) rfl, zc2 157 (by decide +kernel) rfl, zc2 158 (by decide +kernel) rfl⟩
theorem kX7_settle_118 : zLv mX7_settle mX7_firstSteep 118 0 := ⟨⟨bX7_firstSteep.1, bX7_firstSteep.2.1, bX7_firstSteep.2.2, by decide, by decide⟩, zc2 148 (by decide +kernel) rfl, zc2 150 (by decide +kernel) rfl, zc0 3 (by decide +kernel) rfl⟩
theorem kX7_settle_114 : zLv mX7_settle mX7_wayDown 114 1 := ⟨⟨bX7_wayDown.1, bX7_wayDown.2.1, bX7_wayDown.2.2, by decide, by decide⟩, zc2 152 (by decide +kernel) rfl, zc2 154 (by decide +kernel) rfl, zc0 4 (by decide +kernel) rfl⟩
theorem kX7_settle_110 : zLv mX7_settle mX7_slide 110 2 := ⟨⟨bX7_slide.1, bX7_slide.2.1, bX7_slide.2.2, by decide, by decide⟩, zc2 160 (by decide +kernel) rfl, zc2 162 (by decide +kernel) rfl, zc0 5 (by decide +kernel) rfl⟩
theorem kX7_firstSteep_114 : zLv mX7_firstSteep mX7_wayDown 114 1 := ⟨⟨bX7_wayDown.1, bX7_wayDown.2.1, bX7_wayDown.2.2, by decide, by decide⟩, zc2 152 (by decide +kernel) rfl, zc2 154 (by decide +kernel) rfl, zc0 4 (by decide +kernel) rfl⟩
theorem kX7_wayUp_97 : zLv mX7_wayUp mX2_neighbour 97 2 := ⟨⟨bX2_neighbour.1, bX2_neighbour.2.1, bX2_neighbour.2.2, by decide, by decide⟩, zc2 156 (by decide +kernel) rfl, zc2 157 (by decide +kernel) rfl, zc2 158 (by decide +kernel) rfl⟩
theorem kX7_wayDown_97 : zLv mX7_wayDown mX2_neighbour 97 2 := ⟨⟨bX2_neighbour.1, bX2_neighbour.2.1, bX2_neighbour.2.2, by decide, by decide⟩, zc2 156 (by decide +kernel) rfl, zc2 157 (by decide +kernel) rfl, zc2 158 (by decide +kernel) rfl⟩
theorem kX7_slide_97 : zLv mX7_slide mX2_neighbour 97 2 := ⟨⟨bX2_neighbour.1, bX2_neighbour.2.1, bX2_neighbour.2.2, by decide, by decide⟩, zc2 156 (by decide +kernel) rfl, zc2 157 (by decide +kernel) rfl, zc2 158 (by decide +kernel) rfl⟩
theorem kX7_slide_100 : zLv mX7_slide mX7_cross 100 3 := ⟨⟨bX7_cross.1, bX7_cross.2.1, bX7_cross.2.2, by decide, by decide⟩, zc2 164 (by decide +kernel) rfl, zc2 166 (by decide +kernel) rfl, zc0 6 (by decide +kernel) rfl⟩
theorem kX8_scan_31 : zLs mX8_scan mX8_isBlank 31 1 := ⟨⟨bX8_isBlank.1, bX8_isBlank.2.1, bX8_isBlank.2.2, by decide, by decide⟩, zc3 11 (by decide +kernel) rfl, zc3 12 (by decide +kernel) rfl⟩
theorem kX8_scan_35 : zLv mX8_scan mX8_scanToken 35 2 := ⟨⟨bX8_scanToken.1, bX8_scanToken.2.1, bX8_scanToken.2.2, by decide, by decide⟩, zc3 14 (by decide +kernel) rfl, zc3 16 (by decide +kernel) rfl, zc0 7 (by decide +kernel) rfl⟩
theorem kX8_scanToken_39 : zLs mX8_scanToken mX8_isLetter 39 1 := ⟨⟨bX8_isLetter.1, bX8_isLetter.2.1, bX8_isLetter.2.2, by decide, by decide⟩, zc3 18 (by decide +kernel) rfl, zc3 19 (by decide +kernel) rfl⟩
theorem kX8_scanToken_42 : zLv mX8_scanToken mX8_scanWord 42 1 := ⟨⟨bX8_scanWord.1, bX8_scanWord.2.1, bX8_scanWord.2.2, by decide, by decide⟩, zc3 21 (by decide +kernel) rfl, zc3 23 (by decide +kernel) rfl, zc0 8 (by decide +kernel) rfl⟩
theorem kX8_scanToken_46 : zLs mX8_scanToken mX8_isDigit 46 1 := ⟨⟨bX8_isDigit.1, bX8_isDigit.2.1, bX8_isDigit.2.2, by decide, by decide⟩, zc3 78 (by decide +kernel) rfl, zc3 79 (by decide +kernel) rfl⟩
theorem kX8_scanToken_49 : zLv mX8_scanToken mX8_scanNumber 49 1 := ⟨⟨bX8_scanNumber.1, bX8_scanNumber.2.1, bX8_scanNumber.2.2, by decide, by decide⟩, zc3 81 (by decide +kernel) rfl, zc3 83 (by decide +kernel) rfl, zc0 10 (by decide +kernel) rfl⟩
theorem kX8_scanWord_39 : zLs mX8_scanWord mX8_isLetter 39 1 := ⟨⟨bX8_isLetter.1, bX8_isLetter.2.1, bX8_isLetter.2.2, by decide, by decide⟩, zc3 18 (by decide +kernel) rfl, zc3 19 (by decide +kernel) rfl⟩
theorem kX8_scanWord_52 : zLv mX8_scanWord mX8_wordNumber 52 1 := ⟨⟨bX8_wordNumber.1, bX8_wordNumber.2.1, bX8_wordNumber.2.2, by decide, by decide⟩, zc3 25 (by decide +kernel) rfl, zc3 27 (by decide +kernel) rfl, zc0 9 (by decide +kernel) rfl⟩
theorem kX8_scanNumber_46 : zLs mX8_scanNumber mX8_isDigit 46 1 := ⟨⟨bX8_isDigit.1, bX8_isDigit.2.1, bX8_isDigit.2.2, by decide, by decide⟩, zc3 78 (by decide +kernel) rfl, zc3 79 (by decide +kernel) rfl⟩
theorem kX8_scanNumber_39 : zLs mX8_scanNumber mX8_isLetter 39 1 := ⟨⟨bX8_isLetter.1, bX8_isLetter.2.1, bX8_isLetter.2.2, by decide, by decide⟩, zc3 18 (by decide +kernel) rfl, zc3 19 (by decide +kernel) rfl⟩
theorem kX9_init_9 : zLb mX9_init mX8_init 0 := ⟨bX8_init.1, bX8_init.2.1, bX8_init.2.2, by decide, by decide⟩
theorem kX9_init_18 : zLi mX9_init mX4_init 18 1 := ⟨⟨bX4_init.1, bX4_init.2.1, bX4_init.2.2, by decide, by decide⟩, zc1 60 (by decide +kernel) rfl, zc1 61 (by decide +kernel) rfl, rfl, rfl⟩
theorem kX9_init_27 : zLb mX9_init mX2_init 0 := ⟨bX2_init.1, bX2_init.2.1, bX2_init.2.2, by decide, by decide⟩
theorem kX9_init_34 : zLb mX9_init mX5_init 0 := ⟨bX5_init.1, bX5_init.2.1, bX5_init.2.2, by decide, by decide⟩
theorem kX9_init_47 : zLi mX9_init mX7_init 47 2 := ⟨⟨bX7_init.1, bX7_init.2.1, bX7_init.2.2, by decide, by decide⟩, zc2 8 (by decide +kernel) rfl, zc2 9 (by decide +kernel) rfl, rfl, rfl⟩
theorem kX9_init_59 : zLi mX9_init mX1_init 59 0 := ⟨⟨bX1_init.1, bX1_init.2.1, bX1_init.2.2, by decide, by decide⟩, zc2 33 (by decide +kernel) rfl, zc2 34 (by decide +kernel) rfl, rfl, rfl⟩
theorem kX9_init_66 : zLi mX9_init mX6_init 66 4 := ⟨⟨bX6_init.1, bX6_init.2.1, bX6_init.2.2, by decide, by decide⟩, zc2 54 (by decide +kernel) rfl, zc2 55 (by decide +kernel) rfl, rfl, rfl⟩
theorem kX9_init_75 : zLi mX9_init mX3_init 75 1 := ⟨⟨bX3_init.1, bX3_init.2.1, bX3_init.2.2, by decide, by decide⟩, zc2 90 (by decide +kernel) rfl, zc2 91 (by decide +kernel) rfl, rfl, rfl⟩
theorem kX9_init_105 : zLv mX9_init mX9_adopt 105 1 := ⟨⟨bX9_adopt.1, bX9_adopt.2.1, bX9_adopt.2.2, by decide, by decide⟩, zc2 116 (by decide +kernel) rfl, zc2 118 (by decide +kernel) rfl, zc0 0 (by decide +kernel) rfl⟩
theorem kX9_feed_112 : zLv mX9_feed mX8_append 112 1 := ⟨⟨bX8_append.1, bX8_append.2.1, bX8_append.2.2, by decide, by decide⟩, zc2 230 (by decide +kernel) rfl, zc2 231 (by decide +kernel) rfl, zc2 232 (by decide +kernel) rfl⟩
theorem kX9_field_116 : zLv mX9_field mX4_read 116 0 := ⟨⟨bX4_read.1, bX4_read.2.1, bX4_read.2.2, by decide, by decide⟩, zc3 2 (by decide +kernel) rfl, zc3 3 (by decide +kernel) rfl, zc3 4 (by decide +kernel) rfl⟩
theorem kX9_field_105 : zLv mX9_field mX9_adopt 105 1 := ⟨⟨bX9_adopt.1, bX9_adopt.2.1, bX9_adopt.2.2, by decide, by decide⟩, zc2 116 (by decide +kernel) rfl, zc2 118 (by decide +kernel) rfl, zc0 0 (by decide +kernel) rfl⟩
theorem kX9_adopt_129 : zLv mX9_adopt mX2_shape 129 1 := ⟨⟨bX2_shape.1, bX2_shape.2.1, bX2_shape.2.2, by decide, by decide⟩, zc2 120 (by decide +kernel) rfl, zc2 121 (by decide +kernel) rfl, zc2 122 (by decide +kernel) rfl⟩
theorem kX9_adopt_132 : zLv mX9_adopt mX5_begin 132 1 := ⟨⟨bX5_begin.1, bX5_begin.2.1, bX5_begin.2.2, by decide, by decide⟩, zc2 136 (by decide +kernel) rfl, zc2 137 (by decide +kernel) rfl, zc2 138 (by decide +kernel) rfl⟩
theorem kX9_adopt_135 : zLv mX9_adopt mX7_settle 135 0 := ⟨⟨bX7_settle.1, bX7_settle.2.1, bX7_settle.2.2, by decide, by decide⟩, zc2 143 (by decide +kernel) rfl, zc2 144 (by decide +kernel) rfl, zc2 145 (by decide +kernel) rfl⟩
theorem kX9_adopt_138 : zLv mX9_adopt mX5_copy 138 1 := ⟨⟨bX5_copy.1, bX5_copy.2.1, bX5_copy.2.2, by decide, by decide⟩, zc2 168 (by decide +kernel) rfl, zc2 169 (by decide +kernel) rfl, zc2 170 (by decide +kernel) rfl⟩
theorem kX9_adopt_142 : zLv mX9_adopt mX1_forget 142 1 := ⟨⟨bX1_forget.1, bX1_forget.2.1, bX1_forget.2.2, by decide, by decide⟩, zc2 172 (by decide +kernel) rfl, zc2 173 (by decide +kernel) rfl, zc2 174 (by decide +kernel) rfl⟩
theorem kX9_cell_148 : zLv mX9_cell mX2_has 148 1 := ⟨⟨bX2_has.1, bX2_has.2.1, bX2_has.2.2, by decide, by decide⟩, zc3 162 (by decide +kernel) rfl, zc3 163 (by decide +kernel) rfl, zc3 164 (by decide +kernel) rfl⟩
theorem kX9_cell_155 : zLv mX9_cell mX9_windNow 155 0 := ⟨⟨bX9_windNow.1, bX9_windNow.2.1, bX9_windNow.2.2, by decide, by decide⟩, zc3 166 (by decide +kernel) rfl, zc3 168 (by decide +kernel) rfl, zc0 25 (by decide +kernel) rfl⟩
theorem kX9_cell_159 : zLv mX9_cell mX7_shaded 159 2 := ⟨⟨bX7_shaded.1, bX7_shaded.2.1, bX7_shaded.2.2, by decide, by decide⟩, zc3 174 (by decide +kernel) rfl, zc3 175 (by decide +kernel) rfl, zc3 176 (by decide +kernel) rfl⟩
theorem kX9_cell_166 : zLv mX9_cell mX9_steepness 166 1 := ⟨⟨bX9_steepness.1, bX9_steepness.2.1, bX9_steepness.2.2, by decide, by decide⟩, zc3 182 (by decide +kernel) rfl, zc3 184 (by decide +kernel) rfl, zc0 26 (by decide +kernel) rfl⟩
theorem kX9_cell_170 : zLv mX9_cell mX7_isCrest 170 2 := ⟨⟨bX7_isCrest.1, bX7_isCrest.2.1, bX7_isCrest.2.2, by decide, by decide⟩, zc3 190 (by decide +kernel) rfl, zc3 191 (by decide +kernel) rfl, zc3 192 (by decide +kernel) rfl⟩
theorem kX9_beside_148 : zLv mX9_beside mX2_has 148 1 := ⟨⟨bX2_has.1, bX2_has.2.1, bX2_has.2.2, by decide, by decide⟩, zc3 162 (by decide +kernel) rfl, zc3 163 (by decide +kernel) rfl, zc3 164 (by decide +kernel) rfl⟩
theorem kX9_beside_173 : zLv mX9_beside mX2_neighbour 173 2 := ⟨⟨bX2_neighbour.1, bX2_neighbour.2.1, bX2_neighbour.2.2, by decide, by decide⟩, zc3 186 (by decide +kernel) rfl, zc2 157 (by decide +kernel) rfl, zc2 158 (by decide +kernel) rfl⟩
theorem kX9_wind_180 : zLv mX9_wind mX2_windAt 180 1 := ⟨⟨bX2_windAt.1, bX2_windAt.2.1, bX2_windAt.2.2, by decide, by decide⟩, zc3 170 (by decide +kernel) rfl, zc3 171 (by decide +kernel) rfl, zc3 172 (by decide +kernel) rfl⟩
theorem kX9_windNow_180 : zLv mX9_windNow mX2_windAt 180 1 := ⟨⟨bX2_windAt.1, bX2_windAt.2.1, bX2_windAt.2.2, by decide, by decide⟩, zc3 170 (by decide +kernel) rfl, zc3 171 (by decide +kernel) rfl, zc3 172 (by decide +kernel) rfl⟩
theorem kX9_steepness_173 : zLv mX9_steepness mX2_neighbour 173 2 := ⟨⟨bX2_neighbour.1, bX2_neighbour.2.1, bX2_neighbour.2.2, by decide, by decide⟩, zc3 186 (by decide +kernel) rfl, zc2 157 (by decide +kernel) rfl, zc2 158 (by decide +kernel) rfl⟩
theorem kX9_steepness_183 : zLm mX9_steepness 183 Lib.Math.max.name Lib.Math.max.code 2 := ⟨zc3 187 (by decide +kernel) rfl, zc3 188 (by decide +kernel) rfl, zc1 18 (by decide +kernel) rfl, zc3 189 (by decide +kernel) rfl, by decide, by decide⟩
theorem kX9_blow_188 : zLv mX9_blow mX7_blowOn 188 1 := ⟨⟨bX7_blowOn.1, bX7_blowOn.2.1, bX7_blowOn.2.2, by decide, by decide⟩, zc3 206 (by decide +kernel) rfl, zc3 207 (by decide +kernel) rfl, zc3 208 (by decide +kernel) rfl⟩
theorem kX9_blow_191 : zLv mX9_blow mX1_add 191 1 := ⟨⟨bX1_add.1, bX1_add.2.1, bX1_add.2.2, by decide, by decide⟩, zc4 8 (by decide +kernel) rfl, zc4 9 (by decide +kernel) rfl, zc4 10 (by decide +kernel) rfl⟩
theorem kX9_put_148 : zLv mX9_put mX2_has 148 1 := ⟨⟨bX2_has.1, bX2_has.2.1, bX2_has.2.2, by decide, by decide⟩, zc3 162 (by decide +kernel) rfl, zc3 163 (by decide +kernel) rfl, zc3 164 (by decide +kernel) rfl⟩
theorem kX9_put_194 : zLv mX9_put mX7_drop 194 1 := ⟨⟨bX7_drop.1, bX7_drop.2.1, bX7_drop.2.2, by decide, by decide⟩, zc4 20 (by decide +kernel) rfl, zc4 5 (by decide +kernel) rfl, zc4 6 (by decide +kernel) rfl⟩
theorem kX9_put_191 : zLv mX9_put mX1_add 191 1 := ⟨⟨bX1_add.1, bX1_add.2.1, bX1_add.2.2, by decide, by decide⟩, zc4 8 (by decide +kernel) rfl, zc4 9 (by decide +kernel) rfl, zc4 10 (by decide +kernel) rfl⟩
theorem kX9_take_148 : zLv mX9_take mX2_has 148 1 := ⟨⟨bX2_has.1, bX2_has.2.1, bX2_has.2.2, by decide, by decide⟩, zc3 162 (by decide +kernel) rfl, zc3 163 (by decide +kernel) rfl, zc3 164 (by decide +kernel) rfl⟩
theorem kX9_take_197 : zLv mX9_take mX7_lift 197 1 := ⟨⟨bX7_lift.1, bX7_lift.2.1, bX7_lift.2.2, by decide, by decide⟩, zc4 25 (by decide +kernel) rfl, zc3 225 (by decide +kernel) rfl, zc3 226 (by decide +kernel) rfl⟩
theorem kX9_take_191 : zLv mX9_take mX1_add 191 1 := ⟨⟨bX1_add.1, bX1_add.2.1, bX1_add.2.2, by decide, by decide⟩, zc4 8 (by decide +kernel) rfl, zc4 9 (by decide +kernel) rfl, zc4 10 (by decide +kernel) rfl⟩
theorem kX9_sow_148 : zLv mX9_sow mX2_has 148 1 := ⟨⟨bX2_has.1, bX2_has.2.1, bX2_has.2.2, by decide, by decide⟩, zc3 162 (by decide +kernel) rfl, zc3 163 (by decide +kernel) rfl, zc3 164 (by decide +kernel) rfl⟩
theorem kX9_sow_191 : zLv mX9_sow mX1_add 191 1 := ⟨⟨bX1_add.1, bX1_add.2.1, bX1_add.2.2, by decide, by decide⟩, zc4 8 (by decide +kernel) rfl, zc4 9 (by decide +kernel) rfl, zc4 10 (by decide +kernel) rfl⟩
theorem kX9_sow_200 : zLv mX9_sow mX9_grassy 200 0 := ⟨⟨bX9_grassy.1, bX9_grassy.2.1, bX9_grassy.2.2, by decide, by decide⟩, zc4 30 (by decide +kernel) rfl, zc4 32 (by decide +kernel) rfl, zc0 31 (by decide +kernel) rfl⟩
theorem kX9_turn_191 : zLv mX9_turn mX1_add 191 1 := ⟨⟨bX1_add.1, bX1_add.2.1, bX1_add.2.2, by decide, by decide⟩, zc4 8 (by decide +kernel) rfl, zc4 9 (by decide +kernel) rfl, zc4 10 (by decide +kernel) rfl⟩
theorem kX9_undo_212 : zLv mX9_undo mX1_goBack 212 1 := ⟨⟨bX1_goBack.1, bX1_goBack.2.1, bX1_goBack.2.2, by decide, by decide⟩, zc4 44 (by decide +kernel) rfl, zc4 45 (by decide +kernel) rfl, zc4 46 (by decide +kernel) rfl⟩
theorem kX9_redo_216 : zLv mX9_redo mX1_goOn 216 1 := ⟨⟨bX1_goOn.1, bX1_goOn.2.1, bX1_goOn.2.2, by decide, by decide⟩, zc4 52 (by decide +kernel) rfl, zc4 53 (by decide +kernel) rfl, zc4 54 (by decide +kernel) rfl⟩
theorem kX9_all_219 : zLv mX9_all mX5_slabs 219 0 := ⟨⟨bX5_slabs.1, bX5_slabs.2.1, bX5_slabs.2.2, by decide, by decide⟩, zc4 60 (by decide +kernel) rfl, zc4 61 (by decide +kernel) rfl, zc4 62 (by decide +kernel) rfl⟩
theorem kX9_all_222 : zLv mX9_all mX5_highest 222 0 := ⟨⟨bX5_highest.1, bX5_highest.2.1, bX5_highest.2.2, by decide, by decide⟩, zc4 64 (by decide +kernel) rfl, zc4 65 (by decide +kernel) rfl, zc4 66 (by decide +kernel) rfl⟩
theorem kX9_all_225 : zLv mX9_all mX5_bareCells 225 1 := ⟨⟨bX5_bareCells.1, bX5_bareCells.2.1, bX5_bareCells.2.2, by decide, by decide⟩, zc4 69 (by decide +kernel) rfl, zc4 70 (by decide +kernel) rfl, zc4 71 (by decide +kernel) rfl⟩
theorem kX9_all_228 : zLv mX9_all mX9_shadedCells 228 0 := ⟨⟨bX9_shadedCells.1, bX9_shadedCells.2.1, bX9_shadedCells.2.2, by decide, by decide⟩, zc4 73 (by decide +kernel) rfl, zc4 75 (by decide +kernel) rfl, zc0 32 (by decide +kernel) rfl⟩
theorem kX9_all_231 : zLv mX9_all mX9_greatestDifference 231 0 := ⟨⟨bX9_greatestDifference.1, bX9_greatestDifference.2.1, bX9_greatestDifference.2.2, by decide, by decide⟩, zc4 77 (by decide +kernel) rfl, zc4 79 (by decide +kernel) rfl, zc0 33 (by decide +kernel) rfl⟩
theorem kX9_all_234 : zLv mX9_all mX9_allDifferences 234 0 := ⟨⟨bX9_allDifferences.1, bX9_allDifferences.2.1, bX9_allDifferences.2.2, by decide, by decide⟩, zc4 81 (by decide +kernel) rfl, zc4 83 (by decide +kernel) rfl, zc0 34 (by decide +kernel) rfl⟩
theorem kX9_all_237 : zLv mX9_all mX9_yieldingCells 237 0 := ⟨⟨bX9_yieldingCells.1, bX9_yieldingCells.2.1, bX9_yieldingCells.2.2, by decide, by decide⟩, zc4 88 (by decide +kernel) rfl, zc4 90 (by decide +kernel) rfl, zc0 35 (by decide +kernel) rfl⟩
theorem kX9_shadedCells_155 : zLv mX9_shadedCells mX9_windNow 155 0 := ⟨⟨bX9_windNow.1, bX9_windNow.2.1, bX9_windNow.2.2, by decide, by decide⟩, zc3 166 (by decide +kernel) rfl, zc3 168 (by decide +kernel) rfl, zc0 25 (by decide +kernel) rfl⟩
theorem kX9_shadedCells_159 : zLv mX9_shadedCells mX7_shaded 159 2 := ⟨⟨bX7_shaded.1, bX7_shaded.2.1, bX7_shaded.2.2, by decide, by decide⟩, zc3 174 (by decide +kernel) rfl, zc3 175 (by decide +kernel) rfl, zc3 176 (by decide +kernel) rfl⟩
theorem kX9_greatestDifference_166 : zLv mX9_greatestDifference mX9_steepness 166 1 := ⟨⟨bX9_steepness.1, bX9_steepness.2.1, bX9_steepness.2.2, by decide, by decide⟩, zc3 182 (by decide +kernel) rfl, zc3 184 (by decide +kernel) rfl, zc0 26 (by decide +kernel) rfl⟩
theorem kX9_greatestDifference_183 : zLm mX9_greatestDifference 183 Lib.Math.max.name Lib.Math.max.code 2 := ⟨zc3 187 (by decide +kernel) rfl, zc3 188 (by decide +kernel) rfl, zc1 18 (by decide +kernel) rfl, zc3 189 (by decide +kernel) rfl, by decide, by decide⟩
theorem kX9_allDifferences_173 : zLv mX9_allDifferences mX2_neighbour 173 2 := ⟨⟨bX2_neighbour.1, bX2_neighbour.2.1, bX2_neighbour.2.2, by decide, by decide⟩, zc3 186 (by decide +kernel) rfl, zc2 157 (by decide +kernel) rfl, zc2 158 (by decide +kernel) rfl⟩
theorem kX9_allDifferences_240 : zLm mX9_allDifferences 240 Lib.Math.abs.name Lib.Math.abs.code 1 := ⟨zc4 85 (by decide +kernel) rfl, zc4 86 (by decide +kernel) rfl, zc1 18 (by decide +kernel) rfl, zc4 87 (by decide +kernel) rfl, by decide, by decide⟩
theorem kX9_yieldingCells_155 : zLv mX9_yieldingCells mX9_windNow 155 0 := ⟨⟨bX9_windNow.1, bX9_windNow.2.1, bX9_windNow.2.2, by decide, by decide⟩, zc3 166 (by decide +kernel) rfl, zc3 168 (by decide +kernel) rfl, zc0 25 (by decide +kernel) rfl⟩
theorem kX9_yieldingCells_243 : zLv mX9_yieldingCells mX7_yields 243 2 := ⟨⟨bX7_yields.1, bX7_yields.2.1, bX7_yields.2.2, by decide, by decide⟩, zc4 92 (by decide +kernel) rfl, zc3 220 (by decide +kernel) rfl, zc3 221 (by decide +kernel) rfl⟩
theorem kX9_skyline_183 : zLm mX9_skyline 183 Lib.Math.max.name Lib.Math.max.code 2 := ⟨zc3 187 (by decide +kernel) rfl, zc3 188 (by decide +kernel) rfl, zc1 18 (by decide +kernel) rfl, zc3 189 (by decide +kernel) rfl, by decide, by decide⟩
theorem kX9_lands_148 : zLv mX9_lands mX2_has 148 1 := ⟨⟨bX2_has.1, bX2_has.2.1, bX2_has.2.2, by decide, by decide⟩, zc3 162 (by decide +kernel) rfl, zc3 163 (by decide +kernel) rfl, zc3 164 (by decide +kernel) rfl⟩
theorem kX9_lands_155 : zLv mX9_lands mX9_windNow 155 0 := ⟨⟨bX9_windNow.1, bX9_windNow.2.1, bX9_windNow.2.2, by decide, by decide⟩, zc3 166 (by decide +kernel) rfl, zc3 168 (by decide +kernel) rfl, zc0 25 (by decide +kernel) rfl⟩
theorem kX9_lands_243 : zLv mX9_lands mX7_yields 243 2 := ⟨⟨bX7_yields.1, bX7_yields.2.1, bX7_yields.2.2, by decide, by decide⟩, zc4 92 (by decide +kernel) rfl, zc3 220 (by decide +kernel) rfl, zc3 221 (by decide +kernel) rfl⟩
theorem kX9_lands_138 : zLv mX9_lands mX5_copy 138 1 := ⟨⟨bX5_copy.1, bX5_copy.2.1, bX5_copy.2.2, by decide, by decide⟩, zc2 168 (by decide +kernel) rfl, zc2 169 (by decide +kernel) rfl, zc2 170 (by decide +kernel) rfl⟩
theorem kX9_lands_197 : zLv mX9_lands mX7_lift 197 1 := ⟨⟨bX7_lift.1, bX7_lift.2.1, bX7_lift.2.2, by decide, by decide⟩, zc4 25 (by decide +kernel) rfl, zc3 225 (by decide +kernel) rfl, zc3 226 (by decide +kernel) rfl⟩
theorem kX9_lands_260 : zLv mX9_lands mX7_hopOn 260 2 := ⟨⟨bX7_hopOn.1, bX7_hopOn.2.1, bX7_hopOn.2.2, by decide, by decide⟩, zc4 102 (by decide +kernel) rfl, zc3 237 (by decide +kernel) rfl, zc3 238 (by decide +kernel) rfl⟩
theorem kX9_lands_159 : zLv mX9_lands mX7_shaded 159 2 := ⟨⟨bX7_shaded.1, bX7_shaded.2.1, bX7_shaded.2.2, by decide, by decide⟩, zc3 174 (by decide +kernel) rfl, zc3 175 (by decide +kernel) rfl, zc3 176 (by decide +kernel) rfl⟩
theorem kX9_lands_263 : zLv mX9_lands mX5_stickAt 263 1 := ⟨⟨bX5_stickAt.1, bX5_stickAt.2.1, bX5_stickAt.2.2, by decide, by decide⟩, zc4 103 (by decide +kernel) rfl, zc4 1 (by decide +kernel) rfl, zc4 2 (by decide +kernel) rfl⟩
theorem kX9_lands_268 : zLs mX9_lands mX9_lowestTerms 268 3 := ⟨⟨bX9_lowestTerms.1, bX9_lowestTerms.2.1, bX9_lowestTerms.2.2, by decide, by decide⟩, zc4 105 (by decide +kernel) rfl, zc4 106 (by decide +kernel) rfl⟩
theorem kX9_dunes_274 : zLv mX9_dunes mX3_joinLevel 274 2 := ⟨⟨bX3_joinLevel.1, bX3_joinLevel.2.1, bX3_joinLevel.2.2, by decide, by decide⟩, zc4 113 (by decide +kernel) rfl, zc4 114 (by decide +kernel) rfl, zc4 115 (by decide +kernel) rfl⟩
theorem kX9_dune_274 : zLv mX9_dune mX3_joinLevel 274 2 := ⟨⟨bX3_joinLevel.1, bX3_joinLevel.2.1, bX3_joinLevel.2.2, by decide, by decide⟩, zc4 113 (by decide +kernel) rfl, zc4 114 (by decide +kernel) rfl, zc4 115 (by decide +kernel) rfl⟩
theorem kX9_dune_279 : zLv mX9_dune mX3_firstCell 279 1 := ⟨⟨bX3_firstCell.1, bX3_firstCell.2.1, bX3_firstCell.2.2, by decide, by decide⟩, zc4 135 (by decide +kernel) rfl, zc4 136 (by decide +kernel) rfl, zc4 137 (by decide +kernel) rfl⟩
theorem kX9_dune_282 : zLv mX9_dune mX3_size 282 1 := ⟨⟨bX3_size.1, bX3_size.2.1, bX3_size.2.2, by decide, by decide⟩, zc4 139 (by decide +kernel) rfl, zc4 140 (by decide +kernel) rfl, zc4 141 (by decide +kernel) rfl⟩
theorem kX9_dune_285 : zLv mX9_dune mX9_slabsOf 285 1 := ⟨⟨bX9_slabsOf.1, bX9_slabsOf.2.1, bX9_slabsOf.2.2, by decide, by decide⟩, zc4 143 (by decide +kernel) rfl, zc4 145 (by decide +kernel) rfl, zc0 39 (by decide +kernel) rfl⟩
theorem kX9_dune_288 : zLv mX9_dune mX9_peakOf 288 1 := ⟨⟨bX9_peakOf.1, bX9_peakOf.2.1, bX9_peakOf.2.2, by decide, by decide⟩, zc4 147 (by decide +kernel) rfl, zc4 149 (by decide +kernel) rfl, zc0 40 (by decide +kernel) rfl⟩
theorem kX9_dune_291 : zLv mX9_dune mX9_linesOf 291 2 := ⟨⟨bX9_linesOf.1, bX9_linesOf.2.1, bX9_linesOf.2.2, by decide, by decide⟩, zc4 151 (by decide +kernel) rfl, zc4 153 (by decide +kernel) rfl, zc0 41 (by decide +kernel) rfl⟩
theorem kX9_duneOf_148 : zLv mX9_duneOf mX2_has 148 1 := ⟨⟨bX2_has.1, bX2_has.2.1, bX2_has.2.2, by decide, by decide⟩, zc3 162 (by decide +kernel) rfl, zc3 163 (by decide +kernel) rfl, zc3 164 (by decide +kernel) rfl⟩
theorem kX9_duneOf_274 : zLv mX9_duneOf mX3_joinLevel 274 2 := ⟨⟨bX3_joinLevel.1, bX3_joinLevel.2.1, bX3_joinLevel.2.2, by decide, by decide⟩, zc4 113 (by decide +kernel) rfl, zc4 114 (by decide +kernel) rfl, zc4 115 (by decide +kernel) rfl⟩
theorem kX9_linesOf_298 : zLs mX9_linesOf mJ7_fill_53178 298 2 := ⟨⟨bJ7_fill_53178.1, bJ7_fill_53178.2.1, bJ7_fill_53178.2.2, by decide, by decide⟩, zc4 155 (by decide +kernel) rfl, zc1 75 (by decide +kernel) rfl⟩
theorem kX9_parts_274 : zLv mX9_parts mX3_joinLevel 274 2 := ⟨⟨bX3_joinLevel.1, bX3_joinLevel.2.1, bX3_joinLevel.2.2, by decide, by decide⟩, zc4 113 (by decide +kernel) rfl, zc4 114 (by decide +kernel) rfl, zc4 115 (by decide +kernel) rfl⟩
theorem kX9_parts_303 : zLv mX9_parts mX9_leastFrom 303 1 := ⟨⟨bX9_leastFrom.1, bX9_leastFrom.2.1, bX9_leastFrom.2.2, by decide, by decide⟩, zc4 164 (by decide +kernel) rfl, zc4 166 (by decide +kernel) rfl, zc0 42 (by decide +kernel) rfl⟩
theorem kX9_saddle_148 : zLv mX9_saddle mX2_has 148 1 := ⟨⟨bX2_has.1, bX2_has.2.1, bX2_has.2.2, by decide, by decide⟩, zc3 162 (by decide +kernel) rfl, zc3 163 (by decide +kernel) rfl, zc3 164 (by decide +kernel) rfl⟩
theorem kX9_saddle_306 : zLm mX9_saddle 306 Lib.Math.min.name Lib.Math.min.code 2 := ⟨zc4 172 (by decide +kernel) rfl, zc4 173 (by decide +kernel) rfl, zc1 18 (by decide +kernel) rfl, zc4 174 (by decide +kernel) rfl, by decide, by decide⟩
theorem kX9_saddle_274 : zLv mX9_saddle mX3_joinLevel 274 2 := ⟨⟨bX3_joinLevel.1, bX3_joinLevel.2.1, bX3_joinLevel.2.2, by decide, by decide⟩, zc4 113 (by decide +kernel) rfl, zc4 114 (by decide +kernel) rfl, zc4 115 (by decide +kernel) rfl⟩
theorem kX9_saddle_309 : zLv mX9_saddle mX9_greatestBelow 309 1 := ⟨⟨bX9_greatestBelow.1, bX9_greatestBelow.2.1, bX9_greatestBelow.2.2, by decide, by decide⟩, zc4 175 (by decide +kernel) rfl, zc4 177 (by decide +kernel) rfl, zc0 43 (by decide +kernel) rfl⟩
theorem kX9_greatestBelow_183 : zLm mX9_greatestBelow 183 Lib.Math.max.name Lib.Math.max.code 2 := ⟨zc3 187 (by decide +kernel) rfl, zc3 188 (by decide +kernel) rfl, zc1 18 (by decide +kernel) rfl, zc3 189 (by decide +kernel) rfl, by decide, by decide⟩
theorem kX9_crests_155 : zLv mX9_crests mX9_windNow 155 0 := ⟨⟨bX9_windNow.1, bX9_windNow.2.1, bX9_windNow.2.2, by decide, by decide⟩, zc3 166 (by decide +kernel) rfl, zc3 168 (by decide +kernel) rfl, zc0 25 (by decide +kernel) rfl⟩
theorem kX9_crests_312 : zLv mX9_crests mX3_joinCrests 312 2 := ⟨⟨bX3_joinCrests.1, bX3_joinCrests.2.1, bX3_joinCrests.2.2, by decide, by decide⟩, zc4 183 (by decide +kernel) rfl, zc4 184 (by decide +kernel) rfl, zc4 185 (by decide +kernel) rfl⟩
theorem kX9_crests_282 : zLv mX9_crests mX3_size 282 1 := ⟨⟨bX3_size.1, bX3_size.2.1, bX3_size.2.2, by decide, by decide⟩, zc4 139 (by decide +kernel) rfl, zc4 140 (by decide +kernel) rfl, zc4 141 (by decide +kernel) rfl⟩
theorem kX9_crests_279 : zLv mX9_crests mX3_firstCell 279 1 := ⟨⟨bX3_firstCell.1, bX3_firstCell.2.1, bX3_firstCell.2.2, by decide, by decide⟩, zc4 135 (by decide +kernel) rfl, zc4 136 (by decide +kernel) rfl, zc4 137 (by decide +kernel) rfl⟩
theorem kX9_follows_316 : zLv mX9_follows mX9_isKept 316 1 := ⟨⟨bX9_isKept.1, bX9_isKept.2.1, bX9_isKept.2.2, by decide, by decide⟩, zc4 192 (by decide +kernel) rfl, zc4 194 (by decide +kernel) rfl, zc0 44 (by decide +kernel) rfl⟩
theorem kX9_follows_319 : zLv mX9_follows mX9_joinBoth 319 2 := ⟨⟨bX9_joinBoth.1, bX9_joinBoth.2.1, bX9_joinBoth.2.2, by decide, by decide⟩, zc4 196 (by decide +kernel) rfl, zc4 198 (by decide +kernel) rfl, zc0 45 (by decide +kernel) rfl⟩
theorem kX9_follows_298 : zLs mX9_follows mJ7_fill_53178 298 2 := ⟨⟨bJ7_fill_53178.1, bJ7_fill_53178.2.1, bJ7_fill_53178.2.2, by decide, by decide⟩, zc4 155 (by decide +kernel) rfl, zc1 75 (by decide +kernel) rfl⟩
theorem kX9_fates_316 : zLv mX9_fates mX9_isKept 316 1 := ⟨⟨bX9_isKept.1, bX9_isKept.2.1, bX9_isKept.2.2, by decide, by decide⟩, zc4 192 (by decide +kernel) rfl, zc4 194 (by decide +kernel) rfl, zc0 44 (by decide +kernel) rfl⟩
theorem kX9_fates_319 : zLv mX9_fates mX9_joinBoth 319 2 := ⟨⟨bX9_joinBoth.1, bX9_joinBoth.2.1, bX9_joinBoth.2.2, by decide, by decide⟩, zc4 196 (by decide +kernel) rfl, zc4 198 (by decide +kernel) rfl, zc0 45 (by decide +kernel) rfl⟩
theorem kX9_fates_323 : zLv mX9_fates mX9_meetingMany 323 2 := ⟨⟨bX9_meetingMany.1, bX9_meetingMany.2.1, bX9_meetingMany.2.2, by decide, by decide⟩, zc4 204 (by decide +kernel) rfl, zc4 206 (by decide +kernel) rfl, zc0 46 (by decide +kernel) rfl⟩
theorem kX9_fates_327 : zLv mX9_fates mX9_meetingNone 327 2 := ⟨⟨bX9_meetingNone.1, bX9_meetingNone.2.1, bX9_meetingNone.2.2, by decide, by decide⟩, zc4 208 (by decide +kernel) rfl, zc4 210 (by decide +kernel) rfl, zc0 47 (by decide +kernel) rfl⟩
theorem kX9_joinBoth_274 : zLv mX9_joinBoth mX3_joinLevel 274 2 := ⟨⟨bX3_joinLevel.1, bX3_joinLevel.2.1, bX3_joinLevel.2.2, by decide, by decide⟩, zc4 113 (by decide +kernel) rfl, zc4 114 (by decide +kernel) rfl, zc4 115 (by decide +kernel) rfl⟩
theorem kX9_meetingMany_298 : zLs mX9_meetingMany mJ7_fill_53178 298 2 := ⟨⟨bJ7_fill_53178.1, bJ7_fill_53178.2.1, bJ7_fill_53178.2.2, by decide, by decide⟩, zc4 155 (by decide +kernel) rfl, zc1 75 (by decide +kernel) rfl⟩
theorem kX9_meetingNone_298 : zLs mX9_meetingNone mJ7_fill_53178 298 2 := ⟨⟨bJ7_fill_53178.1, bJ7_fill_53178.2.1, bJ7_fill_53178.2.2, by decide, by decide⟩, zc4 155 (by decide +kernel) rfl, zc1 75 (by decide +kernel) rfl⟩
theorem kX9_shift_316 : zLv mX9_shift mX9_isKept 316 1 := ⟨⟨bX9_isKept.1, bX9_isKept.2.1, bX9_isKept.2.2, by decide, by decide⟩, zc4 192 (by decide +kernel) rfl, zc4 194 (by decide +kernel) rfl, zc0 44 (by decide +kernel) rfl⟩
theorem kX9_shift_330 : zLv mX9_shift mX9_overlap 330 3 := ⟨⟨bX9_overlap.1, bX9_overlap.2.1, bX9_overlap.2.2, by decide, by decide⟩, zc4 216 (by decide +kernel) rfl, zc4 218 (by decide +kernel) rfl, zc0 48 (by decide +kernel) rfl⟩
theorem kX9_overlap_334 : zLv mX9_overlap mX2_moved 334 3 := ⟨⟨bX2_moved.1, bX2_moved.2.1, bX2_moved.2.2, by decide, by decide⟩, zc4 220 (by decide +kernel) rfl, zc2 133 (by decide +kernel) rfl, zc2 134 (by decide +kernel) rfl⟩
theorem kX9_overlap_306 : zLm mX9_overlap 306 Lib.Math.min.name Lib.Math.min.code 2 := ⟨zc4 172 (by decide +kernel) rfl, zc4 173 (by decide +kernel) rfl, zc1 18 (by decide +kernel) rfl, zc4 174 (by decide +kernel) rfl, by decide, by decide⟩
theorem kX9_would_148 : zLv mX9_would mX2_has 148 1 := ⟨⟨bX2_has.1, bX2_has.2.1, bX2_has.2.2, by decide, by decide⟩, zc3 162 (by decide +kernel) rfl, zc3 163 (by decide +kernel) rfl, zc3 164 (by decide +kernel) rfl⟩
theorem kX9_would_341 : zLv mX9_would mX9_runTrial 341 2 := ⟨⟨bX9_runTrial.1, bX9_runTrial.2.1, bX9_runTrial.2.2, by decide, by decide⟩, zc4 225 (by decide +kernel) rfl, zc4 227 (by decide +kernel) rfl, zc0 49 (by decide +kernel) rfl⟩
theorem kX9_next_341 : zLv mX9_next mX9_runTrial 341 2 := ⟨⟨bX9_runTrial.1, bX9_runTrial.2.1, bX9_runTrial.2.2, by decide, by decide⟩, zc4 225 (by decide +kernel) rfl, zc4 227 (by decide +kernel) rfl, zc0 49 (by decide +kernel) rfl⟩
theorem kX9_flux_341 : zLv mX9_flux mX9_runTrial 341 2 := ⟨⟨bX9_runTrial.1, bX9_runTrial.2.1, bX9_runTrial.2.2, by decide, by decide⟩, zc4 225 (by decide +kernel) rfl, zc4 227 (by decide +kernel) rfl, zc0 49 (by decide +kernel) rfl⟩
theorem kX9_game_341 : zLv mX9_game mX9_runTrial 341 2 := ⟨⟨bX9_runTrial.1, bX9_runTrial.2.1, bX9_runTrial.2.2, by decide, by decide⟩, zc4 225 (by decide +kernel) rfl, zc4 227 (by decide +kernel) rfl, zc0 49 (by decide +kernel) rfl⟩
theorem kX9_game_222 : zLv mX9_game mX5_highest 222 0 := ⟨⟨bX5_highest.1, bX5_highest.2.1, bX5_highest.2.2, by decide, by decide⟩, zc4 64 (by decide +kernel) rfl, zc4 65 (by decide +kernel) rfl, zc4 66 (by decide +kernel) rfl⟩
theorem kX9_game_225 : zLv mX9_game mX5_bareCells 225 1 := ⟨⟨bX5_bareCells.1, bX5_bareCells.2.1, bX5_bareCells.2.2, by decide, by decide⟩, zc4 69 (by decide +kernel) rfl, zc4 70 (by decide +kernel) rfl, zc4 71 (by decide +kernel) rfl⟩
theorem kX9_game_274 : zLv mX9_game mX3_joinLevel 274 2 := ⟨⟨bX3_joinLevel.1, bX3_joinLevel.2.1, bX3_joinLevel.2.2, by decide, by decide⟩, zc4 113 (by decide +kernel) rfl, zc4 114 (by decide +kernel) rfl, zc4 115 (by decide +kernel) rfl⟩
theorem kX9_tallest_341 : zLv mX9_tallest mX9_runTrial 341 2 := ⟨⟨bX9_runTrial.1, bX9_runTrial.2.1, bX9_runTrial.2.2, by decide, by decide⟩, zc4 225 (by decide +kernel) rfl, zc4 227 (by decide +kernel) rfl, zc0 49 (by decide +kernel) rfl⟩
theorem kX9_tallest_222 : zLv mX9_tallest mX5_highest 222 0 := ⟨⟨bX5_highest.1, bX5_highest.2.1, bX5_highest.2.2, by decide, by decide⟩, zc4 64 (by decide +kernel) rfl, zc4 65 (by decide +kernel) rfl, zc4 66 (by decide +kernel) rfl⟩
theorem kX9_runTrial_353 : zLv mX9_runTrial mX7_startFrom 353 2 := ⟨⟨bX7_startFrom.1, bX7_startFrom.2.1, bX7_startFrom.2.2, by decide, by decide⟩, zc4 229 (by decide +kernel) rfl, zc4 230 (by decide +kernel) rfl, zc4 231 (by decide +kernel) rfl⟩
theorem kX9_runTrial_188 : zLv mX9_runTrial mX7_blowOn 188 1 := ⟨⟨bX7_blowOn.1, bX7_blowOn.2.1, bX7_blowOn.2.2, by decide, by decide⟩, zc3 206 (by decide +kernel) rfl, zc3 207 (by decide +kernel) rfl, zc3 208 (by decide +kernel) rfl⟩
theorem kX9_seen_148 : zLv mX9_seen mX2_has 148 1 := ⟨⟨bX2_has.1, bX2_has.2.1, bX2_has.2.2, by decide, by decide⟩, zc3 162 (by decide +kernel) rfl, zc3 163 (by decide +kernel) rfl, zc3 164 (by decide +kernel) rfl⟩
theorem kX9_seen_357 : zLv mX9_seen mX6_seedsFor 357 4 := ⟨⟨bX6_seedsFor.1, bX6_seedsFor.2.1, bX6_seedsFor.2.2, by decide, by decide⟩, zc5 15 (by decide +kernel) rfl, zc5 16 (by decide +kernel) rfl, zc5 17 (by decide +kernel) rfl⟩
theorem kX9_seen_361 : zLv mX9_seen mX6_tell 361 2 := ⟨⟨bX6_tell.1, bX6_tell.2.1, bX6_tell.2.2, by decide, by decide⟩, zc5 21 (by decide +kernel) rfl, zc5 22 (by decide +kernel) rfl, zc5 23 (by decide +kernel) rfl⟩
theorem kX9_untell_365 : zLv mX9_untell mX6_takeBack 365 2 := ⟨⟨bX6_takeBack.1, bX6_takeBack.2.1, bX6_takeBack.2.2, by decide, by decide⟩, zc5 29 (by decide +kernel) rfl, zc5 30 (by decide +kernel) rfl, zc5 31 (by decide +kernel) rfl⟩
theorem kX9_fits_369 : zLv mX9_fits mX6_fitting 369 1 := ⟨⟨bX6_fitting.1, bX6_fitting.2.1, bX6_fitting.2.2, by decide, by decide⟩, zc5 42 (by decide +kernel) rfl, zc5 43 (by decide +kernel) rfl, zc5 44 (by decide +kernel) rfl⟩
theorem kX9_fits_373 : zLs mX9_fits mJ13_bitCount_95d88 373 1 := ⟨⟨bJ13_bitCount_95d88.1, bJ13_bitCount_95d88.2.1, bJ13_bitCount_95d88.2.2, by decide, by decide⟩, zc5 47 (by decide +kernel) rfl, zc5 48 (by decide +kernel) rfl⟩
theorem kX9_fit_369 : zLv mX9_fit mX6_fitting 369 1 := ⟨⟨bX6_fitting.1, bX6_fitting.2.1, bX6_fitting.2.2, by decide, by decide⟩, zc5 42 (by decide +kernel) rfl, zc5 43 (by decide +kernel) rfl, zc5 44 (by decide +kernel) rfl⟩
theorem kX9_fit_379 : zLs mX9_fit mX6_holds 379 2 := ⟨⟨bX6_holds.1, bX6_holds.2.1, bX6_holds.2.2, by decide, by decide⟩, zc5 57 (by decide +kernel) rfl, zc5 58 (by decide +kernel) rfl⟩
theorem kX9_ask_369 : zLv mX9_ask mX6_fitting 369 1 := ⟨⟨bX6_fitting.1, bX6_fitting.2.1, bX6_fitting.2.2, by decide, by decide⟩, zc5 42 (by decide +kernel) rfl, zc5 43 (by decide +kernel) rfl, zc5 44 (by decide +kernel) rfl⟩
theorem kX9_ask_383 : zLv mX9_ask mX6_survey 383 2 := ⟨⟨bX6_survey.1, bX6_survey.2.1, bX6_survey.2.2, by decide, by decide⟩, zc5 64 (by decide +kernel) rfl, zc5 65 (by decide +kernel) rfl, zc5 66 (by decide +kernel) rfl⟩
theorem kX9_ask_387 : zLv mX9_ask mX6_mostAlike 387 2 := ⟨⟨bX6_mostAlike.1, bX6_mostAlike.2.1, bX6_mostAlike.2.2, by decide, by decide⟩, zc5 70 (by decide +kernel) rfl, zc5 71 (by decide +kernel) rfl, zc5 72 (by decide +kernel) rfl⟩
theorem kX9_image_138 : zLv mX9_image mX5_copy 138 1 := ⟨⟨bX5_copy.1, bX5_copy.2.1, bX5_copy.2.2, by decide, by decide⟩, zc2 168 (by decide +kernel) rfl, zc2 169 (by decide +kernel) rfl, zc2 170 (by decide +kernel) rfl⟩
theorem kX9_image_219 : zLv mX9_image mX5_slabs 219 0 := ⟨⟨bX5_slabs.1, bX5_slabs.2.1, bX5_slabs.2.2, by decide, by decide⟩, zc4 60 (by decide +kernel) rfl, zc4 61 (by decide +kernel) rfl, zc4 62 (by decide +kernel) rfl⟩
theorem kX9_back_316 : zLv mX9_back mX9_isKept 316 1 := ⟨⟨bX9_isKept.1, bX9_isKept.2.1, bX9_isKept.2.2, by decide, by decide⟩, zc4 192 (by decide +kernel) rfl, zc4 194 (by decide +kernel) rfl, zc0 44 (by decide +kernel) rfl⟩
theorem kX9_back_138 : zLv mX9_back mX5_copy 138 1 := ⟨⟨bX5_copy.1, bX5_copy.2.1, bX5_copy.2.2, by decide, by decide⟩, zc2 168 (by decide +kernel) rfl, zc2 169 (by decide +kernel) rfl, zc2 170 (by decide +kernel) rfl⟩
theorem kX9_back_142 : zLv mX9_back mX1_forget 142 1 := ⟨⟨bX1_forget.1, bX1_forget.2.1, bX1_forget.2.2, by decide, by decide⟩, zc2 172 (by decide +kernel) rfl, zc2 173 (by decide +kernel) rfl, zc2 174 (by decide +kernel) rfl⟩
theorem kX9_back_219 : zLv mX9_back mX5_slabs 219 0 := ⟨⟨bX5_slabs.1, bX5_slabs.2.1, bX5_slabs.2.2, by decide, by decide⟩, zc4 60 (by decide +kernel) rfl, zc4 61 (by decide +kernel) rfl, zc4 62 (by decide +kernel) rfl⟩
theorem kX9_about_200 : zLv mX9_about mX9_grassy 200 0 := ⟨⟨bX9_grassy.1, bX9_grassy.2.1, bX9_grassy.2.2, by decide, by decide⟩, zc4 30 (by decide +kernel) rfl, zc4 32 (by decide +kernel) rfl, zc0 31 (by decide +kernel) rfl⟩
theorem kX10_init_93 : zLv mX10_init mX10_begins 93 0 := ⟨⟨bX10_begins.1, bX10_begins.2.1, bX10_begins.2.2, by decide, by decide⟩, zc5 97 (by decide +kernel) rfl, zc5 99 (by decide +kernel) rfl, zc0 51 (by decide +kernel) rfl⟩
theorem kX10_init_96 : zLv mX10_init mX10_takesOver 96 0 := ⟨⟨bX10_takesOver.1, bX10_takesOver.2.1, bX10_takesOver.2.2, by decide, by decide⟩, zc5 101 (by decide +kernel) rfl, zc5 103 (by decide +kernel) rfl, zc0 52 (by decide +kernel) rfl⟩
theorem kX10_feed_102 : zLv mX10_feed mX10_four 102 1 := ⟨⟨bX10_four.1, bX10_four.2.1, bX10_four.2.2, by decide, by decide⟩, zc6 47 (by decide +kernel) rfl, zc6 49 (by decide +kernel) rfl, zc0 62 (by decide +kernel) rfl⟩
theorem kX10_end_106 : zLs mX10_end mX10_isIn 106 3 := ⟨⟨bX10_isIn.1, bX10_isIn.2.1, bX10_isIn.2.2, by decide, by decide⟩, zc6 55 (by decide +kernel) rfl, zc6 56 (by decide +kernel) rfl⟩
theorem kX10_goOn_116 : zLv mX10_goOn mX10_here 116 1 := ⟨⟨bX10_here.1, bX10_here.2.1, bX10_here.2.2, by decide, by decide⟩, zc6 66 (by decide +kernel) rfl, zc6 68 (by decide +kernel) rfl, zc0 64 (by decide +kernel) rfl⟩
theorem kX10_goOn_133 : zLs mX10_goOn mX10_isLetter 133 1 := ⟨⟨bX10_isLetter.1, bX10_isLetter.2.1, bX10_isLetter.2.2, by decide, by decide⟩, zc6 70 (by decide +kernel) rfl, zc6 71 (by decide +kernel) rfl⟩
theorem kX10_goOn_137 : zLs mX10_goOn mX10_isDigit 137 1 := ⟨⟨bX10_isDigit.1, bX10_isDigit.2.1, bX10_isDigit.2.2, by decide, by decide⟩, zc6 73 (by decide +kernel) rfl, zc6 74 (by decide +kernel) rfl⟩
theorem kX10_numberHere_143 : zLv mX10_numberHere mX10_wrong 143 1 := ⟨⟨bX10_wrong.1, bX10_wrong.2.1, bX10_wrong.2.2, by decide, by decide⟩, zc6 89 (by decide +kernel) rfl, zc6 91 (by decide +kernel) rfl, zc0 68 (by decide +kernel) rfl⟩
theorem kX10_numberHere_106 : zLs mX10_numberHere mX10_isIn 106 3 := ⟨⟨bX10_isIn.1, bX10_isIn.2.1, bX10_isIn.2.2, by decide, by decide⟩, zc6 55 (by decide +kernel) rfl, zc6 56 (by decide +kernel) rfl⟩
theorem kX10_number_146 : zLv mX10_number mX10_numberHere 146 2 := ⟨⟨bX10_numberHere.1, bX10_numberHere.2.1, bX10_numberHere.2.2, by decide, by decide⟩, zc6 101 (by decide +kernel) rfl, zc6 103 (by decide +kernel) rfl, zc0 71 (by decide +kernel) rfl⟩
theorem kX10_number_150 : zLv mX10_number mX10_isGood 150 0 := ⟨⟨bX10_isGood.1, bX10_isGood.2.1, bX10_isGood.2.2, by decide, by decide⟩, zc6 76 (by decide +kernel) rfl, zc6 78 (by decide +kernel) rfl, zc0 65 (by decide +kernel) rfl⟩
theorem kX10_number_154 : zLv mX10_number mX10_goOn 154 0 := ⟨⟨bX10_goOn.1, bX10_goOn.2.1, bX10_goOn.2.2, by decide, by decide⟩, zc6 62 (by decide +kernel) rfl, zc6 64 (by decide +kernel) rfl, zc0 63 (by decide +kernel) rfl⟩
theorem kX10_once_143 : zLv mX10_once mX10_wrong 143 1 := ⟨⟨bX10_wrong.1, bX10_wrong.2.1, bX10_wrong.2.2, by decide, by decide⟩, zc6 89 (by decide +kernel) rfl, zc6 91 (by decide +kernel) rfl, zc0 68 (by decide +kernel) rfl⟩
theorem kX10_once_154 : zLv mX10_once mX10_goOn 154 0 := ⟨⟨bX10_goOn.1, bX10_goOn.2.1, bX10_goOn.2.2, by decide, by decide⟩, zc6 62 (by decide +kernel) rfl, zc6 64 (by decide +kernel) rfl, zc0 63 (by decide +kernel) rfl⟩
theorem kX10_sizeLine_143 : zLv mX10_sizeLine mX10_wrong 143 1 := ⟨⟨bX10_wrong.1, bX10_wrong.2.1, bX10_wrong.2.2, by decide, by decide⟩, zc6 89 (by decide +kernel) rfl, zc6 91 (by decide +kernel) rfl, zc0 68 (by decide +kernel) rfl⟩
theorem kX10_sizeLine_150 : zLv mX10_sizeLine mX10_isGood 150 0 := ⟨⟨bX10_isGood.1, bX10_isGood.2.1, bX10_isGood.2.2, by decide, by decide⟩, zc6 76 (by decide +kernel) rfl, zc6 78 (by decide +kernel) rfl, zc0 65 (by decide +kernel) rfl⟩
theorem kX10_sizeLine_164 : zLv mX10_sizeLine mX10_once 164 1 := ⟨⟨bX10_once.1, bX10_once.2.1, bX10_once.2.2, by decide, by decide⟩, zc6 93 (by decide +kernel) rfl, zc6 95 (by decide +kernel) rfl, zc0 69 (by decide +kernel) rfl⟩
theorem kX10_sizeLine_167 : zLv mX10_sizeLine mX10_number 167 2 := ⟨⟨bX10_number.1, bX10_number.2.1, bX10_number.2.2, by decide, by decide⟩, zc6 97 (by decide +kernel) rfl, zc6 99 (by decide +kernel) rfl, zc0 70 (by decide +kernel) rfl⟩
theorem kX10_sizeLine_172 : zLv mX10_sizeLine mX10_isWord 172 1 := ⟨⟨bX10_isWord.1, bX10_isWord.2.1, bX10_isWord.2.2, by decide, by decide⟩, zc6 81 (by decide +kernel) rfl, zc6 83 (by decide +kernel) rfl, zc0 66 (by decide +kernel) rfl⟩
theorem kX10_sizeLine_154 : zLv mX10_sizeLine mX10_goOn 154 0 := ⟨⟨bX10_goOn.1, bX10_goOn.2.1, bX10_goOn.2.2, by decide, by decide⟩, zc6 62 (by decide +kernel) rfl, zc6 64 (by decide +kernel) rfl, zc0 63 (by decide +kernel) rfl⟩
theorem kX10_simple_164 : zLv mX10_simple mX10_once 164 1 := ⟨⟨bX10_once.1, bX10_once.2.1, bX10_once.2.2, by decide, by decide⟩, zc6 93 (by decide +kernel) rfl, zc6 95 (by decide +kernel) rfl, zc0 69 (by decide +kernel) rfl⟩
theorem kX10_simple_167 : zLv mX10_simple mX10_number 167 2 := ⟨⟨bX10_number.1, bX10_number.2.1, bX10_number.2.2, by decide, by decide⟩, zc6 97 (by decide +kernel) rfl, zc6 99 (by decide +kernel) rfl, zc0 70 (by decide +kernel) rfl⟩
theorem kX10_simple_150 : zLv mX10_simple mX10_isGood 150 0 := ⟨⟨bX10_isGood.1, bX10_isGood.2.1, bX10_isGood.2.2, by decide, by decide⟩, zc6 76 (by decide +kernel) rfl, zc6 78 (by decide +kernel) rfl, zc0 65 (by decide +kernel) rfl⟩
theorem kX10_heapLine_143 : zLv mX10_heapLine mX10_wrong 143 1 := ⟨⟨bX10_wrong.1, bX10_wrong.2.1, bX10_wrong.2.2, by decide, by decide⟩, zc6 89 (by decide +kernel) rfl, zc6 91 (by decide +kernel) rfl, zc0 68 (by decide +kernel) rfl⟩
theorem kX10_heapLine_150 : zLv mX10_heapLine mX10_isGood 150 0 := ⟨⟨bX10_isGood.1, bX10_isGood.2.1, bX10_isGood.2.2, by decide, by decide⟩, zc6 76 (by decide +kernel) rfl, zc6 78 (by decide +kernel) rfl, zc0 65 (by decide +kernel) rfl⟩
theorem kX10_heapLine_154 : zLv mX10_heapLine mX10_goOn 154 0 := ⟨⟨bX10_goOn.1, bX10_goOn.2.1, bX10_goOn.2.2, by decide, by decide⟩, zc6 62 (by decide +kernel) rfl, zc6 64 (by decide +kernel) rfl, zc0 63 (by decide +kernel) rfl⟩
theorem kX10_heapLine_167 : zLv mX10_heapLine mX10_number 167 2 := ⟨⟨bX10_number.1, bX10_number.2.1, bX10_number.2.2, by decide, by decide⟩, zc6 97 (by decide +kernel) rfl, zc6 99 (by decide +kernel) rfl, zc0 70 (by decide +kernel) rfl⟩
theorem kX10_grassLine_154 : zLv mX10_grassLine mX10_goOn 154 0 := ⟨⟨bX10_goOn.1, bX10_goOn.2.1, bX10_goOn.2.2, by decide, by decide⟩, zc6 62 (by decide +kernel) rfl, zc6 64 (by decide +kernel) rfl, zc0 63 (by decide +kernel) rfl⟩
theorem kX10_grassLine_167 : zLv mX10_grassLine mX10_number 167 2 := ⟨⟨bX10_number.1, bX10_number.2.1, bX10_number.2.2, by decide, by decide⟩, zc6 97 (by decide +kernel) rfl, zc6 99 (by decide +kernel) rfl, zc0 70 (by decide +kernel) rfl⟩
theorem kX10_grassLine_146 : zLv mX10_grassLine mX10_numberHere 146 2 := ⟨⟨bX10_numberHere.1, bX10_numberHere.2.1, bX10_numberHere.2.2, by decide, by decide⟩, zc6 101 (by decide +kernel) rfl, zc6 103 (by decide +kernel) rfl, zc0 71 (by decide +kernel) rfl⟩
theorem kX10_grassLine_150 : zLv mX10_grassLine mX10_isGood 150 0 := ⟨⟨bX10_isGood.1, bX10_isGood.2.1, bX10_isGood.2.2, by decide, by decide⟩, zc6 76 (by decide +kernel) rfl, zc6 78 (by decide +kernel) rfl, zc0 65 (by decide +kernel) rfl⟩
theorem kX10_grassLine_143 : zLv mX10_grassLine mX10_wrong 143 1 := ⟨⟨bX10_wrong.1, bX10_wrong.2.1, bX10_wrong.2.2, by decide, by decide⟩, zc6 89 (by decide +kernel) rfl, zc6 91 (by decide +kernel) rfl, zc0 68 (by decide +kernel) rfl⟩
theorem kX10_wayHere_172 : zLv mX10_wayHere mX10_isWord 172 1 := ⟨⟨bX10_isWord.1, bX10_isWord.2.1, bX10_isWord.2.2, by decide, by decide⟩, zc6 81 (by decide +kernel) rfl, zc6 83 (by decide +kernel) rfl, zc0 66 (by decide +kernel) rfl⟩
theorem kX10_windLine_164 : zLv mX10_windLine mX10_once 164 1 := ⟨⟨bX10_once.1, bX10_once.2.1, bX10_once.2.2, by decide, by decide⟩, zc6 93 (by decide +kernel) rfl, zc6 95 (by decide +kernel) rfl, zc0 69 (by decide +kernel) rfl⟩
theorem kX10_windLine_184 : zLv mX10_windLine mX10_wayHere 184 0 := ⟨⟨bX10_wayHere.1, bX10_wayHere.2.1, bX10_wayHere.2.2, by decide, by decide⟩, zc6 130 (by decide +kernel) rfl, zc6 132 (by decide +kernel) rfl, zc0 77 (by decide +kernel) rfl⟩
theorem kX10_windLine_143 : zLv mX10_windLine mX10_wrong 143 1 := ⟨⟨bX10_wrong.1, bX10_wrong.2.1, bX10_wrong.2.2, by decide, by decide⟩, zc6 89 (by decide +kernel) rfl, zc6 91 (by decide +kernel) rfl, zc0 68 (by decide +kernel) rfl⟩
theorem kX10_windLine_150 : zLv mX10_windLine mX10_isGood 150 0 := ⟨⟨bX10_isGood.1, bX10_isGood.2.1, bX10_isGood.2.2, by decide, by decide⟩, zc6 76 (by decide +kernel) rfl, zc6 78 (by decide +kernel) rfl, zc0 65 (by decide +kernel) rfl⟩
theorem kX10_windLine_154 : zLv mX10_windLine mX10_goOn 154 0 := ⟨⟨bX10_goOn.1, bX10_goOn.2.1, bX10_goOn.2.2, by decide, by decide⟩, zc6 62 (by decide +kernel) rfl, zc6 64 (by decide +kernel) rfl, zc0 63 (by decide +kernel) rfl⟩
theorem kX10_windLine_167 : zLv mX10_windLine mX10_number 167 2 := ⟨⟨bX10_number.1, bX10_number.2.1, bX10_number.2.2, by decide, by decide⟩, zc6 97 (by decide +kernel) rfl, zc6 99 (by decide +kernel) rfl, zc0 70 (by decide +kernel) rfl⟩
theorem kX10_stickLine_164 : zLv mX10_stickLine mX10_once 164 1 := ⟨⟨bX10_once.1, bX10_once.2.1, bX10_once.2.2, by decide, by decide⟩, zc6 93 (by decide +kernel) rfl, zc6 95 (by decide +kernel) rfl, zc0 69 (by decide +kernel) rfl⟩
theorem kX10_stickLine_167 : zLv mX10_stickLine mX10_number 167 2 := ⟨⟨bX10_number.1, bX10_number.2.1, bX10_number.2.2, by decide, by decide⟩, zc6 97 (by decide +kernel) rfl, zc6 99 (by decide +kernel) rfl, zc0 70 (by decide +kernel) rfl⟩
theorem kX10_otherLine_172 : zLv mX10_otherLine mX10_isWord 172 1 := ⟨⟨bX10_isWord.1, bX10_isWord.2.1, bX10_isWord.2.2, by decide, by decide⟩, zc6 81 (by decide +kernel) rfl, zc6 83 (by decide +kernel) rfl, zc0 66 (by decide +kernel) rfl⟩
theorem kX10_otherLine_190 : zLv mX10_otherLine mX10_simple 190 4 := ⟨⟨bX10_simple.1, bX10_simple.2.1, bX10_simple.2.2, by decide, by decide⟩, zc6 111 (by decide +kernel) rfl, zc6 113 (by decide +kernel) rfl, zc0 73 (by decide +kernel) rfl⟩
theorem kX10_otherLine_196 : zLv mX10_otherLine mX10_heapLine 196 0 := ⟨⟨bX10_heapLine.1, bX10_heapLine.2.1, bX10_heapLine.2.2, by decide, by decide⟩, zc6 116 (by decide +kernel) rfl, zc6 118 (by decide +kernel) rfl, zc0 74 (by decide +kernel) rfl⟩
theorem kX10_otherLine_201 : zLv mX10_otherLine mX10_grassLine 201 0 := ⟨⟨bX10_grassLine.1, bX10_grassLine.2.1, bX10_grassLine.2.2, by decide, by decide⟩, zc6 121 (by decide +kernel) rfl, zc6 123 (by decide +kernel) rfl, zc0 75 (by decide +kernel) rfl⟩
theorem kX10_otherLine_206 : zLv mX10_otherLine mX10_windLine 206 0 := ⟨⟨bX10_windLine.1, bX10_windLine.2.1, bX10_windLine.2.2, by decide, by decide⟩, zc6 126 (by decide +kernel) rfl, zc6 128 (by decide +kernel) rfl, zc0 76 (by decide +kernel) rfl⟩
theorem kX10_otherLine_217 : zLv mX10_otherLine mX10_stickLine 217 0 := ⟨⟨bX10_stickLine.1, bX10_stickLine.2.1, bX10_stickLine.2.2, by decide, by decide⟩, zc6 142 (by decide +kernel) rfl, zc6 144 (by decide +kernel) rfl, zc0 78 (by decide +kernel) rfl⟩
theorem kX10_otherLine_143 : zLv mX10_otherLine mX10_wrong 143 1 := ⟨⟨bX10_wrong.1, bX10_wrong.2.1, bX10_wrong.2.2, by decide, by decide⟩, zc6 89 (by decide +kernel) rfl, zc6 91 (by decide +kernel) rfl, zc0 68 (by decide +kernel) rfl⟩
theorem kX10_takesOver_222 : zLs mX10_takesOver mX10_takesHalf 222 1 := ⟨⟨bX10_takesHalf.1, bX10_takesHalf.2.1, bX10_takesHalf.2.2, by decide, by decide⟩, zc5 105 (by decide +kernel) rfl, zc5 106 (by decide +kernel) rfl⟩
theorem kX10_takesOver_226 : zLv mX10_takesOver mX10_cells 226 0 := ⟨⟨bX10_cells.1, bX10_cells.2.1, bX10_cells.2.2, by decide, by decide⟩, zc5 108 (by decide +kernel) rfl, zc5 110 (by decide +kernel) rfl, zc0 53 (by decide +kernel) rfl⟩
theorem kX10_takesOver_229 : zLv mX10_takesOver mX10_settles 229 0 := ⟨⟨bX10_settles.1, bX10_settles.2.1, bX10_settles.2.2, by decide, by decide⟩, zc5 120 (by decide +kernel) rfl, zc5 122 (by decide +kernel) rfl, zc0 56 (by decide +kernel) rfl⟩
theorem kX10_takesOver_232 : zLv mX10_takesOver mX10_asTold 232 1 := ⟨⟨bX10_asTold.1, bX10_asTold.2.1, bX10_asTold.2.2, by decide, by decide⟩, zc5 140 (by decide +kernel) rfl, zc5 142 (by decide +kernel) rfl, zc0 61 (by decide +kernel) rfl⟩
theorem kX10_field_93 : zLv mX10_field mX10_begins 93 0 := ⟨⟨bX10_begins.1, bX10_begins.2.1, bX10_begins.2.2, by decide, by decide⟩, zc5 97 (by decide +kernel) rfl, zc5 99 (by decide +kernel) rfl, zc0 51 (by decide +kernel) rfl⟩
theorem kX10_field_154 : zLv mX10_field mX10_goOn 154 0 := ⟨⟨bX10_goOn.1, bX10_goOn.2.1, bX10_goOn.2.2, by decide, by decide⟩, zc6 62 (by decide +kernel) rfl, zc6 64 (by decide +kernel) rfl, zc0 63 (by decide +kernel) rfl⟩
theorem kX10_field_150 : zLv mX10_field mX10_isGood 150 0 := ⟨⟨bX10_isGood.1, bX10_isGood.2.1, bX10_isGood.2.2, by decide, by decide⟩, zc6 76 (by decide +kernel) rfl, zc6 78 (by decide +kernel) rfl, zc0 65 (by decide +kernel) rfl⟩
theorem kX10_field_172 : zLv mX10_field mX10_isWord 172 1 := ⟨⟨bX10_isWord.1, bX10_isWord.2.1, bX10_isWord.2.2, by decide, by decide⟩, zc6 81 (by decide +kernel) rfl, zc6 83 (by decide +kernel) rfl, zc0 66 (by decide +kernel) rfl⟩
theorem kX10_field_246 : zLv mX10_field mX10_sizeLine 246 0 := ⟨⟨bX10_sizeLine.1, bX10_sizeLine.2.1, bX10_sizeLine.2.2, by decide, by decide⟩, zc6 85 (by decide +kernel) rfl, zc6 87 (by decide +kernel) rfl, zc0 67 (by decide +kernel) rfl⟩
theorem kX10_field_249 : zLv mX10_field mX10_otherLine 249 0 := ⟨⟨bX10_otherLine.1, bX10_otherLine.2.1, bX10_otherLine.2.2, by decide, by decide⟩, zc6 106 (by decide +kernel) rfl, zc6 108 (by decide +kernel) rfl, zc0 72 (by decide +kernel) rfl⟩
theorem kX10_field_143 : zLv mX10_field mX10_wrong 143 1 := ⟨⟨bX10_wrong.1, bX10_wrong.2.1, bX10_wrong.2.2, by decide, by decide⟩, zc6 89 (by decide +kernel) rfl, zc6 91 (by decide +kernel) rfl, zc0 68 (by decide +kernel) rfl⟩
theorem kX10_field_96 : zLv mX10_field mX10_takesOver 96 0 := ⟨⟨bX10_takesOver.1, bX10_takesOver.2.1, bX10_takesOver.2.2, by decide, by decide⟩, zc5 101 (by decide +kernel) rfl, zc5 103 (by decide +kernel) rfl, zc0 52 (by decide +kernel) rfl⟩
theorem kX10_field_226 : zLv mX10_field mX10_cells 226 0 := ⟨⟨bX10_cells.1, bX10_cells.2.1, bX10_cells.2.2, by decide, by decide⟩, zc5 108 (by decide +kernel) rfl, zc5 110 (by decide +kernel) rfl, zc0 53 (by decide +kernel) rfl⟩
theorem kX10_cells_255 : zLv mX10_cells mX10_columns 255 0 := ⟨⟨bX10_columns.1, bX10_columns.2.1, bX10_columns.2.2, by decide, by decide⟩, zc5 112 (by decide +kernel) rfl, zc5 114 (by decide +kernel) rfl, zc0 54 (by decide +kernel) rfl⟩
theorem kX10_cells_258 : zLv mX10_cells mX10_rows 258 0 := ⟨⟨bX10_rows.1, bX10_rows.2.1, bX10_rows.2.2, by decide, by decide⟩, zc5 116 (by decide +kernel) rfl, zc5 118 (by decide +kernel) rfl, zc0 55 (by decide +kernel) rfl⟩
theorem kX10_isCell_226 : zLv mX10_isCell mX10_cells 226 0 := ⟨⟨bX10_cells.1, bX10_cells.2.1, bX10_cells.2.2, by decide, by decide⟩, zc5 108 (by decide +kernel) rfl, zc5 110 (by decide +kernel) rfl, zc0 53 (by decide +kernel) rfl⟩
theorem kX10_isCell_106 : zLs mX10_isCell mX10_isIn 106 3 := ⟨⟨bX10_isIn.1, bX10_isIn.2.1, bX10_isIn.2.2, by decide, by decide⟩, zc6 55 (by decide +kernel) rfl, zc6 56 (by decide +kernel) rfl⟩
theorem kX10_along_255 : zLv mX10_along mX10_columns 255 0 := ⟨⟨bX10_columns.1, bX10_columns.2.1, bX10_columns.2.2, by decide, by decide⟩, zc5 112 (by decide +kernel) rfl, zc5 114 (by decide +kernel) rfl, zc0 54 (by decide +kernel) rfl⟩
theorem kX10_along_258 : zLv mX10_along mX10_rows 258 0 := ⟨⟨bX10_rows.1, bX10_rows.2.1, bX10_rows.2.2, by decide, by decide⟩, zc5 116 (by decide +kernel) rfl, zc5 118 (by decide +kernel) rfl, zc0 55 (by decide +kernel) rfl⟩
theorem kX10_roundOf_255 : zLv mX10_roundOf mX10_columns 255 0 := ⟨⟨bX10_columns.1, bX10_columns.2.1, bX10_columns.2.2, by decide, by decide⟩, zc5 112 (by decide +kernel) rfl, zc5 114 (by decide +kernel) rfl, zc0 54 (by decide +kernel) rfl⟩
theorem kX10_roundOf_258 : zLv mX10_roundOf mX10_rows 258 0 := ⟨⟨bX10_rows.1, bX10_rows.2.1, bX10_rows.2.2, by decide, by decide⟩, zc5 116 (by decide +kernel) rfl, zc5 118 (by decide +kernel) rfl, zc0 55 (by decide +kernel) rfl⟩
theorem kX10_windNow_270 : zLv mX10_windNow mX10_windOf 270 1 := ⟨⟨bX10_windOf.1, bX10_windOf.2.1, bX10_windOf.2.2, by decide, by decide⟩, zc6 199 (by decide +kernel) rfl, zc6 201 (by decide +kernel) rfl, zc0 88 (by decide +kernel) rfl⟩
theorem kX10_isShadow_273 : zLv mX10_isShadow mX10_windNow 273 0 := ⟨⟨bX10_windNow.1, bX10_windNow.2.1, bX10_windNow.2.2, by decide, by decide⟩, zc6 195 (by decide +kernel) rfl, zc6 197 (by decide +kernel) rfl, zc0 87 (by decide +kernel) rfl⟩
theorem kX10_isShadow_276 : zLv mX10_isShadow mX10_roundOf 276 1 := ⟨⟨bX10_roundOf.1, bX10_roundOf.2.1, bX10_roundOf.2.2, by decide, by decide⟩, zc6 203 (by decide +kernel) rfl, zc6 205 (by decide +kernel) rfl, zc0 89 (by decide +kernel) rfl⟩
theorem kX10_isShadow_279 : zLs mX10_isShadow mX10_against 279 1 := ⟨⟨bX10_against.1, bX10_against.2.1, bX10_against.2.2, by decide, by decide⟩, zc6 207 (by decide +kernel) rfl, zc6 208 (by decide +kernel) rfl⟩
theorem kX10_isShadow_282 : zLv mX10_isShadow mX10_along 282 3 := ⟨⟨bX10_along.1, bX10_along.2.1, bX10_along.2.2, by decide, by decide⟩, zc5 128 (by decide +kernel) rfl, zc5 130 (by decide +kernel) rfl, zc0 58 (by decide +kernel) rfl⟩
theorem kX10_gives_286 : zLv mX10_gives mX10_isShadow 286 1 := ⟨⟨bX10_isShadow.1, bX10_isShadow.2.1, bX10_isShadow.2.2, by decide, by decide⟩, zc6 191 (by decide +kernel) rfl, zc6 193 (by decide +kernel) rfl, zc0 86 (by decide +kernel) rfl⟩
theorem kX10_wayTo_282 : zLv mX10_wayTo mX10_along 282 3 := ⟨⟨bX10_along.1, bX10_along.2.1, bX10_along.2.2, by decide, by decide⟩, zc5 128 (by decide +kernel) rfl, zc5 130 (by decide +kernel) rfl, zc0 58 (by decide +kernel) rfl⟩
theorem kX10_slides_282 : zLv mX10_slides mX10_along 282 3 := ⟨⟨bX10_along.1, bX10_along.2.1, bX10_along.2.2, by decide, by decide⟩, zc5 128 (by decide +kernel) rfl, zc5 130 (by decide +kernel) rfl, zc0 58 (by decide +kernel) rfl⟩
theorem kX10_slides_289 : zLv mX10_slides mX10_crosses 289 3 := ⟨⟨bX10_crosses.1, bX10_crosses.2.1, bX10_crosses.2.2, by decide, by decide⟩, zc5 136 (by decide +kernel) rfl, zc5 138 (by decide +kernel) rfl, zc0 60 (by decide +kernel) rfl⟩
theorem kX10_crosses_282 : zLv mX10_crosses mX10_along 282 3 := ⟨⟨bX10_along.1, bX10_along.2.1, bX10_along.2.2, by decide, by decide⟩, zc5 128 (by decide +kernel) rfl, zc5 130 (by decide +kernel) rfl, zc0 58 (by decide +kernel) rfl⟩
theorem kX10_crosses_255 : zLv mX10_crosses mX10_columns 255 0 := ⟨⟨bX10_columns.1, bX10_columns.2.1, bX10_columns.2.2, by decide, by decide⟩, zc5 112 (by decide +kernel) rfl, zc5 114 (by decide +kernel) rfl, zc0 54 (by decide +kernel) rfl⟩
theorem kX10_fills_293 : zLv mX10_fills mX10_wayTo 293 2 := ⟨⟨bX10_wayTo.1, bX10_wayTo.2.1, bX10_wayTo.2.2, by decide, by decide⟩, zc5 124 (by decide +kernel) rfl, zc5 126 (by decide +kernel) rfl, zc0 57 (by decide +kernel) rfl⟩
theorem kX10_fills_282 : zLv mX10_fills mX10_along 282 3 := ⟨⟨bX10_along.1, bX10_along.2.1, bX10_along.2.2, by decide, by decide⟩, zc5 128 (by decide +kernel) rfl, zc5 130 (by decide +kernel) rfl, zc0 58 (by decide +kernel) rfl⟩
theorem kX10_fills_279 : zLs mX10_fills mX10_against 279 1 := ⟨⟨bX10_against.1, bX10_against.2.1, bX10_against.2.2, by decide, by decide⟩, zc6 207 (by decide +kernel) rfl, zc6 208 (by decide +kernel) rfl⟩
theorem kX10_fills_297 : zLv mX10_fills mX10_slides 297 2 := ⟨⟨bX10_slides.1, bX10_slides.2.1, bX10_slides.2.2, by decide, by decide⟩, zc5 132 (by decide +kernel) rfl, zc5 134 (by decide +kernel) rfl, zc0 59 (by decide +kernel) rfl⟩
theorem kX10_spills_293 : zLv mX10_spills mX10_wayTo 293 2 := ⟨⟨bX10_wayTo.1, bX10_wayTo.2.1, bX10_wayTo.2.2, by decide, by decide⟩, zc5 124 (by decide +kernel) rfl, zc5 126 (by decide +kernel) rfl, zc0 57 (by decide +kernel) rfl⟩
theorem kX10_spills_282 : zLv mX10_spills mX10_along 282 3 := ⟨⟨bX10_along.1, bX10_along.2.1, bX10_along.2.2, by decide, by decide⟩, zc5 128 (by decide +kernel) rfl, zc5 130 (by decide +kernel) rfl, zc0 58 (by decide +kernel) rfl⟩
theorem kX10_spills_297 : zLv mX10_spills mX10_slides 297 2 := ⟨⟨bX10_slides.1, bX10_slides.2.1, bX10_slides.2.2, by decide, by decide⟩, zc5 132 (by decide +kernel) rfl, zc5 134 (by decide +kernel) rfl, zc0 59 (by decide +kernel) rfl⟩
theorem kX10_settles_226 : zLv mX10_settles mX10_cells 226 0 := ⟨⟨bX10_cells.1, bX10_cells.2.1, bX10_cells.2.2, by decide, by decide⟩, zc5 108 (by decide +kernel) rfl, zc5 110 (by decide +kernel) rfl, zc0 53 (by decide +kernel) rfl⟩
theorem kX10_settles_293 : zLv mX10_settles mX10_wayTo 293 2 := ⟨⟨bX10_wayTo.1, bX10_wayTo.2.1, bX10_wayTo.2.2, by decide, by decide⟩, zc5 124 (by decide +kernel) rfl, zc5 126 (by decide +kernel) rfl, zc0 57 (by decide +kernel) rfl⟩
theorem kX10_settles_282 : zLv mX10_settles mX10_along 282 3 := ⟨⟨bX10_along.1, bX10_along.2.1, bX10_along.2.2, by decide, by decide⟩, zc5 128 (by decide +kernel) rfl, zc5 130 (by decide +kernel) rfl, zc0 58 (by decide +kernel) rfl⟩
theorem kX10_settles_297 : zLv mX10_settles mX10_slides 297 2 := ⟨⟨bX10_slides.1, bX10_slides.2.1, bX10_slides.2.2, by decide, by decide⟩, zc5 132 (by decide +kernel) rfl, zc5 134 (by decide +kernel) rfl, zc0 59 (by decide +kernel) rfl⟩
theorem kX10_flies_273 : zLv mX10_flies mX10_windNow 273 0 := ⟨⟨bX10_windNow.1, bX10_windNow.2.1, bX10_windNow.2.2, by decide, by decide⟩, zc6 195 (by decide +kernel) rfl, zc6 197 (by decide +kernel) rfl, zc0 87 (by decide +kernel) rfl⟩
theorem kX10_flies_289 : zLv mX10_flies mX10_crosses 289 3 := ⟨⟨bX10_crosses.1, bX10_crosses.2.1, bX10_crosses.2.2, by decide, by decide⟩, zc5 136 (by decide +kernel) rfl, zc5 138 (by decide +kernel) rfl, zc0 60 (by decide +kernel) rfl⟩
theorem kX10_flies_282 : zLv mX10_flies mX10_along 282 3 := ⟨⟨bX10_along.1, bX10_along.2.1, bX10_along.2.2, by decide, by decide⟩, zc5 128 (by decide +kernel) rfl, zc5 130 (by decide +kernel) rfl, zc0 58 (by decide +kernel) rfl⟩
theorem kX10_flies_286 : zLv mX10_flies mX10_isShadow 286 1 := ⟨⟨bX10_isShadow.1, bX10_isShadow.2.1, bX10_isShadow.2.2, by decide, by decide⟩, zc6 191 (by decide +kernel) rfl, zc6 193 (by decide +kernel) rfl, zc0 86 (by decide +kernel) rfl⟩
theorem kX10_flies_300 : zLv mX10_flies mX10_draw 300 1 := ⟨⟨bX10_draw.1, bX10_draw.2.1, bX10_draw.2.2, by decide, by decide⟩, zc6 183 (by decide +kernel) rfl, zc6 185 (by decide +kernel) rfl, zc0 84 (by decide +kernel) rfl⟩
theorem kX10_tries_226 : zLv mX10_tries mX10_cells 226 0 := ⟨⟨bX10_cells.1, bX10_cells.2.1, bX10_cells.2.2, by decide, by decide⟩, zc5 108 (by decide +kernel) rfl, zc5 110 (by decide +kernel) rfl, zc0 53 (by decide +kernel) rfl⟩
theorem kX10_tries_300 : zLv mX10_tries mX10_draw 300 1 := ⟨⟨bX10_draw.1, bX10_draw.2.1, bX10_draw.2.2, by decide, by decide⟩, zc6 183 (by decide +kernel) rfl, zc6 185 (by decide +kernel) rfl, zc0 84 (by decide +kernel) rfl⟩
theorem kX10_tries_303 : zLv mX10_tries mX10_gives 303 1 := ⟨⟨bX10_gives.1, bX10_gives.2.1, bX10_gives.2.2, by decide, by decide⟩, zc6 187 (by decide +kernel) rfl, zc6 189 (by decide +kernel) rfl, zc0 85 (by decide +kernel) rfl⟩
theorem kX10_tries_306 : zLv mX10_tries mX10_fills 306 1 := ⟨⟨bX10_fills.1, bX10_fills.2.1, bX10_fills.2.2, by decide, by decide⟩, zc6 210 (by decide +kernel) rfl, zc6 212 (by decide +kernel) rfl, zc0 90 (by decide +kernel) rfl⟩
theorem kX10_tries_309 : zLv mX10_tries mX10_flies 309 1 := ⟨⟨bX10_flies.1, bX10_flies.2.1, bX10_flies.2.2, by decide, by decide⟩, zc6 214 (by decide +kernel) rfl, zc6 216 (by decide +kernel) rfl, zc0 91 (by decide +kernel) rfl⟩
theorem kX10_tries_312 : zLv mX10_tries mX10_spills 312 1 := ⟨⟨bX10_spills.1, bX10_spills.2.1, bX10_spills.2.2, by decide, by decide⟩, zc6 218 (by decide +kernel) rfl, zc6 220 (by decide +kernel) rfl, zc0 92 (by decide +kernel) rfl⟩
theorem kX10_blows_315 : zLv mX10_blows mX10_tries 315 0 := ⟨⟨bX10_tries.1, bX10_tries.2.1, bX10_tries.2.2, by decide, by decide⟩, zc6 179 (by decide +kernel) rfl, zc6 181 (by decide +kernel) rfl, zc0 83 (by decide +kernel) rfl⟩
theorem kX10_blows_317 : zLs mX10_blows mX10_truth 317 1 := ⟨⟨bX10_truth.1, bX10_truth.2.1, bX10_truth.2.2, by decide, by decide⟩, zc6 222 (by decide +kernel) rfl, zc6 223 (by decide +kernel) rfl⟩
theorem kX10_undo_321 : zLv mX10_undo mX10_exchanges 321 1 := ⟨⟨bX10_exchanges.1, bX10_exchanges.2.1, bX10_exchanges.2.2, by decide, by decide⟩, zc6 155 (by decide +kernel) rfl, zc6 157 (by decide +kernel) rfl, zc0 79 (by decide +kernel) rfl⟩
theorem kX10_redo_321 : zLv mX10_redo mX10_exchanges 321 1 := ⟨⟨bX10_exchanges.1, bX10_exchanges.2.1, bX10_exchanges.2.2, by decide, by decide⟩, zc6 155 (by decide +kernel) rfl, zc6 157 (by decide +kernel) rfl, zc0 79 (by decide +kernel) rfl⟩
theorem kX10_blow_106 : zLs mX10_blow mX10_isIn 106 3 := ⟨⟨bX10_isIn.1, bX10_isIn.2.1, bX10_isIn.2.2, by decide, by decide⟩, zc6 55 (by decide +kernel) rfl, zc6 56 (by decide +kernel) rfl⟩
theorem kX10_blow_324 : zLv mX10_blow mX10_act 324 0 := ⟨⟨bX10_act.1, bX10_act.2.1, bX10_act.2.2, by decide, by decide⟩, zc6 167 (by decide +kernel) rfl, zc6 169 (by decide +kernel) rfl, zc0 80 (by decide +kernel) rfl⟩
theorem kX10_blow_327 : zLv mX10_blow mX10_goesOn 327 0 := ⟨⟨bX10_goesOn.1, bX10_goesOn.2.1, bX10_goesOn.2.2, by decide, by decide⟩, zc6 171 (by decide +kernel) rfl, zc6 173 (by decide +kernel) rfl, zc0 81 (by decide +kernel) rfl⟩
theorem kX10_blow_330 : zLv mX10_blow mX10_blows 330 1 := ⟨⟨bX10_blows.1, bX10_blows.2.1, bX10_blows.2.2, by decide, by decide⟩, zc6 175 (by decide +kernel) rfl, zc6 177 (by decide +kernel) rfl, zc0 82 (by decide +kernel) rfl⟩
theorem kX10_blow_333 : zLv mX10_blow mX10_keepsRow 333 0 := ⟨⟨bX10_keepsRow.1, bX10_keepsRow.2.1, bX10_keepsRow.2.2, by decide, by decide⟩, zc6 225 (by decide +kernel) rfl, zc6 227 (by decide +kernel) rfl, zc0 93 (by decide +kernel) rfl⟩
theorem kX10_put_336 : zLv mX10_put mX10_isCell 336 1 := ⟨⟨bX10_isCell.1, bX10_isCell.2.1, bX10_isCell.2.2, by decide, by decide⟩, zc6 233 (by decide +kernel) rfl, zc6 235 (by decide +kernel) rfl, zc0 94 (by decide +kernel) rfl⟩
theorem kX10_put_106 : zLs mX10_put mX10_isIn 106 3 := ⟨⟨bX10_isIn.1, bX10_isIn.2.1, bX10_isIn.2.2, by decide, by decide⟩, zc6 55 (by decide +kernel) rfl, zc6 56 (by decide +kernel) rfl⟩
theorem kX10_put_324 : zLv mX10_put mX10_act 324 0 := ⟨⟨bX10_act.1, bX10_act.2.1, bX10_act.2.2, by decide, by decide⟩, zc6 167 (by decide +kernel) rfl, zc6 169 (by decide +kernel) rfl, zc0 80 (by decide +kernel) rfl⟩
theorem kX10_put_327 : zLv mX10_put mX10_goesOn 327 0 := ⟨⟨bX10_goesOn.1, bX10_goesOn.2.1, bX10_goesOn.2.2, by decide, by decide⟩, zc6 171 (by decide +kernel) rfl, zc6 173 (by decide +kernel) rfl, zc0 81 (by decide +kernel) rfl⟩
theorem kX10_put_312 : zLv mX10_put mX10_spills 312 1 := ⟨⟨bX10_spills.1, bX10_spills.2.1, bX10_spills.2.2, by decide, by decide⟩, zc6 218 (by decide +kernel) rfl, zc6 220 (by decide +kernel) rfl, zc0 92 (by decide +kernel) rfl⟩
theorem kX10_put_333 : zLv mX10_put mX10_keepsRow 333 0 := ⟨⟨bX10_keepsRow.1, bX10_keepsRow.2.1, bX10_keepsRow.2.2, by decide, by decide⟩, zc6 225 (by decide +kernel) rfl, zc6 227 (by decide +kernel) rfl, zc0 93 (by decide +kernel) rfl⟩
theorem kX10_take_336 : zLv mX10_take mX10_isCell 336 1 := ⟨⟨bX10_isCell.1, bX10_isCell.2.1, bX10_isCell.2.2, by decide, by decide⟩, zc6 233 (by decide +kernel) rfl, zc6 235 (by decide +kernel) rfl, zc0 94 (by decide +kernel) rfl⟩
theorem kX10_take_324 : zLv mX10_take mX10_act 324 0 := ⟨⟨bX10_act.1, bX10_act.2.1, bX10_act.2.2, by decide, by decide⟩, zc6 167 (by decide +kernel) rfl, zc6 169 (by decide +kernel) rfl, zc0 80 (by decide +kernel) rfl⟩
theorem kX10_take_327 : zLv mX10_take mX10_goesOn 327 0 := ⟨⟨bX10_goesOn.1, bX10_goesOn.2.1, bX10_goesOn.2.2, by decide, by decide⟩, zc6 171 (by decide +kernel) rfl, zc6 173 (by decide +kernel) rfl, zc0 81 (by decide +kernel) rfl⟩
theorem kX10_take_306 : zLv mX10_take mX10_fills 306 1 := ⟨⟨bX10_fills.1, bX10_fills.2.1, bX10_fills.2.2, by decide, by decide⟩, zc6 210 (by decide +kernel) rfl, zc6 212 (by decide +kernel) rfl, zc0 90 (by decide +kernel) rfl⟩
theorem kX10_take_333 : zLv mX10_take mX10_keepsRow 333 0 := ⟨⟨bX10_keepsRow.1, bX10_keepsRow.2.1, bX10_keepsRow.2.2, by decide, by decide⟩, zc6 225 (by decide +kernel) rfl, zc6 227 (by decide +kernel) rfl, zc0 93 (by decide +kernel) rfl⟩
theorem kX10_sownMany_226 : zLv mX10_sownMany mX10_cells 226 0 := ⟨⟨bX10_cells.1, bX10_cells.2.1, bX10_cells.2.2, by decide, by decide⟩, zc5 108 (by decide +kernel) rfl, zc5 110 (by decide +kernel) rfl, zc0 53 (by decide +kernel) rfl⟩
theorem kX10_sow_336 : zLv mX10_sow mX10_isCell 336 1 := ⟨⟨bX10_isCell.1, bX10_isCell.2.1, bX10_isCell.2.2, by decide, by decide⟩, zc6 233 (by decide +kernel) rfl, zc6 235 (by decide +kernel) rfl, zc0 94 (by decide +kernel) rfl⟩
theorem kX10_sow_317 : zLs mX10_sow mX10_truth 317 1 := ⟨⟨bX10_truth.1, bX10_truth.2.1, bX10_truth.2.2, by decide, by decide⟩, zc6 222 (by decide +kernel) rfl, zc6 223 (by decide +kernel) rfl⟩
theorem kX10_sow_324 : zLv mX10_sow mX10_act 324 0 := ⟨⟨bX10_act.1, bX10_act.2.1, bX10_act.2.2, by decide, by decide⟩, zc6 167 (by decide +kernel) rfl, zc6 169 (by decide +kernel) rfl, zc0 80 (by decide +kernel) rfl⟩
theorem kX10_sow_339 : zLv mX10_sow mX10_sownMany 339 0 := ⟨⟨bX10_sownMany.1, bX10_sownMany.2.1, bX10_sownMany.2.2, by decide, by decide⟩, zc7 5 (by decide +kernel) rfl, zc7 7 (by decide +kernel) rfl, zc0 95 (by decide +kernel) rfl⟩
theorem kX10_isRule_106 : zLs mX10_isRule mX10_isIn 106 3 := ⟨⟨bX10_isIn.1, bX10_isIn.2.1, bX10_isIn.2.2, by decide, by decide⟩, zc6 55 (by decide +kernel) rfl, zc6 56 (by decide +kernel) rfl⟩
theorem kX10_turn_106 : zLs mX10_turn mX10_isIn 106 3 := ⟨⟨bX10_isIn.1, bX10_isIn.2.1, bX10_isIn.2.2, by decide, by decide⟩, zc6 55 (by decide +kernel) rfl, zc6 56 (by decide +kernel) rfl⟩
theorem kX10_turn_342 : zLs mX10_turn mX10_isRule 342 2 := ⟨⟨bX10_isRule.1, bX10_isRule.2.1, bX10_isRule.2.2, by decide, by decide⟩, zc7 13 (by decide +kernel) rfl, zc7 14 (by decide +kernel) rfl⟩
theorem kX10_turn_324 : zLv mX10_turn mX10_act 324 0 := ⟨⟨bX10_act.1, bX10_act.2.1, bX10_act.2.2, by decide, by decide⟩, zc6 167 (by decide +kernel) rfl, zc6 169 (by decide +kernel) rfl, zc0 80 (by decide +kernel) rfl⟩
theorem kX10_lowestBeside_293 : zLv mX10_lowestBeside mX10_wayTo 293 2 := ⟨⟨bX10_wayTo.1, bX10_wayTo.2.1, bX10_wayTo.2.2, by decide, by decide⟩, zc5 124 (by decide +kernel) rfl, zc5 126 (by decide +kernel) rfl, zc0 57 (by decide +kernel) rfl⟩
theorem kX10_lowestBeside_282 : zLv mX10_lowestBeside mX10_along 282 3 := ⟨⟨bX10_along.1, bX10_along.2.1, bX10_along.2.2, by decide, by decide⟩, zc5 128 (by decide +kernel) rfl, zc5 130 (by decide +kernel) rfl, zc0 58 (by decide +kernel) rfl⟩
theorem kX10_isCrest_273 : zLv mX10_isCrest mX10_windNow 273 0 := ⟨⟨bX10_windNow.1, bX10_windNow.2.1, bX10_windNow.2.2, by decide, by decide⟩, zc6 195 (by decide +kernel) rfl, zc6 197 (by decide +kernel) rfl, zc0 87 (by decide +kernel) rfl⟩
theorem kX10_isCrest_279 : zLs mX10_isCrest mX10_against 279 1 := ⟨⟨bX10_against.1, bX10_against.2.1, bX10_against.2.2, by decide, by decide⟩, zc6 207 (by decide +kernel) rfl, zc6 208 (by decide +kernel) rfl⟩
theorem kX10_isCrest_282 : zLv mX10_isCrest mX10_along 282 3 := ⟨⟨bX10_along.1, bX10_along.2.1, bX10_along.2.2, by decide, by decide⟩, zc5 128 (by decide +kernel) rfl, zc5 130 (by decide +kernel) rfl, zc0 58 (by decide +kernel) rfl⟩
theorem kX10_cell_336 : zLv mX10_cell mX10_isCell 336 1 := ⟨⟨bX10_isCell.1, bX10_isCell.2.1, bX10_isCell.2.2, by decide, by decide⟩, zc6 233 (by decide +kernel) rfl, zc6 235 (by decide +kernel) rfl, zc0 94 (by decide +kernel) rfl⟩
theorem kX10_cell_327 : zLv mX10_cell mX10_goesOn 327 0 := ⟨⟨bX10_goesOn.1, bX10_goesOn.2.1, bX10_goesOn.2.2, by decide, by decide⟩, zc6 171 (by decide +kernel) rfl, zc6 173 (by decide +kernel) rfl, zc0 81 (by decide +kernel) rfl⟩
theorem kX10_cell_286 : zLv mX10_cell mX10_isShadow 286 1 := ⟨⟨bX10_isShadow.1, bX10_isShadow.2.1, bX10_isShadow.2.2, by decide, by decide⟩, zc6 191 (by decide +kernel) rfl, zc6 193 (by decide +kernel) rfl, zc0 86 (by decide +kernel) rfl⟩
theorem kX10_cell_317 : zLs mX10_cell mX10_truth 317 1 := ⟨⟨bX10_truth.1, bX10_truth.2.1, bX10_truth.2.2, by decide, by decide⟩, zc6 222 (by decide +kernel) rfl, zc6 223 (by decide +kernel) rfl⟩
theorem kX10_cell_346 : zLv mX10_cell mX10_lowestBeside 346 1 := ⟨⟨bX10_lowestBeside.1, bX10_lowestBeside.2.1, bX10_lowestBeside.2.2, by decide, by decide⟩, zc7 20 (by decide +kernel) rfl, zc7 22 (by decide +kernel) rfl, zc0 96 (by decide +kernel) rfl⟩
theorem kX10_cell_349 : zLs mX10_cell mX10_greater 349 2 := ⟨⟨bX10_greater.1, bX10_greater.2.1, bX10_greater.2.2, by decide, by decide⟩, zc7 24 (by decide +kernel) rfl, zc7 25 (by decide +kernel) rfl⟩
theorem kX10_cell_352 : zLv mX10_cell mX10_isCrest 352 1 := ⟨⟨bX10_isCrest.1, bX10_isCrest.2.1, bX10_isCrest.2.2, by decide, by decide⟩, zc7 27 (by decide +kernel) rfl, zc7 29 (by decide +kernel) rfl, zc0 97 (by decide +kernel) rfl⟩
theorem kX10_beside_336 : zLv mX10_beside mX10_isCell 336 1 := ⟨⟨bX10_isCell.1, bX10_isCell.2.1, bX10_isCell.2.2, by decide, by decide⟩, zc6 233 (by decide +kernel) rfl, zc6 235 (by decide +kernel) rfl, zc0 94 (by decide +kernel) rfl⟩
theorem kX10_beside_106 : zLs mX10_beside mX10_isIn 106 3 := ⟨⟨bX10_isIn.1, bX10_isIn.2.1, bX10_isIn.2.2, by decide, by decide⟩, zc6 55 (by decide +kernel) rfl, zc6 56 (by decide +kernel) rfl⟩
theorem kX10_beside_282 : zLv mX10_beside mX10_along 282 3 := ⟨⟨bX10_along.1, bX10_along.2.1, bX10_along.2.2, by decide, by decide⟩, zc5 128 (by decide +kernel) rfl, zc5 130 (by decide +kernel) rfl, zc0 58 (by decide +kernel) rfl⟩
theorem kX10_wind_106 : zLs mX10_wind mX10_isIn 106 3 := ⟨⟨bX10_isIn.1, bX10_isIn.2.1, bX10_isIn.2.2, by decide, by decide⟩, zc6 55 (by decide +kernel) rfl, zc6 56 (by decide +kernel) rfl⟩
theorem kX10_wind_270 : zLv mX10_wind mX10_windOf 270 1 := ⟨⟨bX10_windOf.1, bX10_windOf.2.1, bX10_windOf.2.2, by decide, by decide⟩, zc6 199 (by decide +kernel) rfl, zc6 201 (by decide +kernel) rfl, zc0 88 (by decide +kernel) rfl⟩
theorem kX10_slabs_226 : zLv mX10_slabs mX10_cells 226 0 := ⟨⟨bX10_cells.1, bX10_cells.2.1, bX10_cells.2.2, by decide, by decide⟩, zc5 108 (by decide +kernel) rfl, zc5 110 (by decide +kernel) rfl, zc0 53 (by decide +kernel) rfl⟩
theorem kX10_highest_226 : zLv mX10_highest mX10_cells 226 0 := ⟨⟨bX10_cells.1, bX10_cells.2.1, bX10_cells.2.2, by decide, by decide⟩, zc5 108 (by decide +kernel) rfl, zc5 110 (by decide +kernel) rfl, zc0 53 (by decide +kernel) rfl⟩
theorem kX10_highest_349 : zLs mX10_highest mX10_greater 349 2 := ⟨⟨bX10_greater.1, bX10_greater.2.1, bX10_greater.2.2, by decide, by decide⟩, zc7 24 (by decide +kernel) rfl, zc7 25 (by decide +kernel) rfl⟩
theorem kX10_bare_226 : zLv mX10_bare mX10_cells 226 0 := ⟨⟨bX10_cells.1, bX10_cells.2.1, bX10_cells.2.2, by decide, by decide⟩, zc5 108 (by decide +kernel) rfl, zc5 110 (by decide +kernel) rfl, zc0 53 (by decide +kernel) rfl⟩
theorem kX10_bare_317 : zLs mX10_bare mX10_truth 317 1 := ⟨⟨bX10_truth.1, bX10_truth.2.1, bX10_truth.2.2, by decide, by decide⟩, zc6 222 (by decide +kernel) rfl, zc6 223 (by decide +kernel) rfl⟩
theorem kX10_steepest_226 : zLv mX10_steepest mX10_cells 226 0 := ⟨⟨bX10_cells.1, bX10_cells.2.1, bX10_cells.2.2, by decide, by decide⟩, zc5 108 (by decide +kernel) rfl, zc5 110 (by decide +kernel) rfl, zc0 53 (by decide +kernel) rfl⟩
theorem kX10_steepest_282 : zLv mX10_steepest mX10_along 282 3 := ⟨⟨bX10_along.1, bX10_along.2.1, bX10_along.2.2, by decide, by decide⟩, zc5 128 (by decide +kernel) rfl, zc5 130 (by decide +kernel) rfl, zc0 58 (by decide +kernel) rfl⟩
theorem kX10_steepest_355 : zLs mX10_steepest mX10_off 355 2 := ⟨⟨bX10_off.1, bX10_off.2.1, bX10_off.2.2, by decide, by decide⟩, zc7 63 (by decide +kernel) rfl, zc7 64 (by decide +kernel) rfl⟩
theorem kX10_steepest_349 : zLs mX10_steepest mX10_greater 349 2 := ⟨⟨bX10_greater.1, bX10_greater.2.1, bX10_greater.2.2, by decide, by decide⟩, zc7 24 (by decide +kernel) rfl, zc7 25 (by decide +kernel) rfl⟩
theorem kX10_rough_226 : zLv mX10_rough mX10_cells 226 0 := ⟨⟨bX10_cells.1, bX10_cells.2.1, bX10_cells.2.2, by decide, by decide⟩, zc5 108 (by decide +kernel) rfl, zc5 110 (by decide +kernel) rfl, zc0 53 (by decide +kernel) rfl⟩
theorem kX10_rough_282 : zLv mX10_rough mX10_along 282 3 := ⟨⟨bX10_along.1, bX10_along.2.1, bX10_along.2.2, by decide, by decide⟩, zc5 128 (by decide +kernel) rfl, zc5 130 (by decide +kernel) rfl, zc0 58 (by decide +kernel) rfl⟩
theorem kX10_rough_355 : zLs mX10_rough mX10_off 355 2 := ⟨⟨bX10_off.1, bX10_off.2.1, bX10_off.2.2, by decide, by decide⟩, zc7 63 (by decide +kernel) rfl, zc7 64 (by decide +kernel) rfl⟩
theorem kX10_shadows_226 : zLv mX10_shadows mX10_cells 226 0 := ⟨⟨bX10_cells.1, bX10_cells.2.1, bX10_cells.2.2, by decide, by decide⟩, zc5 108 (by decide +kernel) rfl, zc5 110 (by decide +kernel) rfl, zc0 53 (by decide +kernel) rfl⟩
theorem kX10_shadows_286 : zLv mX10_shadows mX10_isShadow 286 1 := ⟨⟨bX10_isShadow.1, bX10_isShadow.2.1, bX10_isShadow.2.2, by decide, by decide⟩, zc6 191 (by decide +kernel) rfl, zc6 193 (by decide +kernel) rfl, zc0 86 (by decide +kernel) rfl⟩
theorem kX10_shadows_317 : zLs mX10_shadows mX10_truth 317 1 := ⟨⟨bX10_truth.1, bX10_truth.2.1, bX10_truth.2.2, by decide, by decide⟩, zc6 222 (by decide +kernel) rfl, zc6 223 (by decide +kernel) rfl⟩
theorem kX10_givers_226 : zLv mX10_givers mX10_cells 226 0 := ⟨⟨bX10_cells.1, bX10_cells.2.1, bX10_cells.2.2, by decide, by decide⟩, zc5 108 (by decide +kernel) rfl, zc5 110 (by decide +kernel) rfl, zc0 53 (by decide +kernel) rfl⟩
theorem kX10_givers_303 : zLv mX10_givers mX10_gives 303 1 := ⟨⟨bX10_gives.1, bX10_gives.2.1, bX10_gives.2.2, by decide, by decide⟩, zc6 187 (by decide +kernel) rfl, zc6 189 (by decide +kernel) rfl, zc0 85 (by decide +kernel) rfl⟩
theorem kX10_givers_317 : zLs mX10_givers mX10_truth 317 1 := ⟨⟨bX10_truth.1, bX10_truth.2.1, bX10_truth.2.2, by decide, by decide⟩, zc6 222 (by decide +kernel) rfl, zc6 223 (by decide +kernel) rfl⟩
theorem kX10_all_327 : zLv mX10_all mX10_goesOn 327 0 := ⟨⟨bX10_goesOn.1, bX10_goesOn.2.1, bX10_goesOn.2.2, by decide, by decide⟩, zc6 171 (by decide +kernel) rfl, zc6 173 (by decide +kernel) rfl, zc0 81 (by decide +kernel) rfl⟩
theorem kX10_all_358 : zLv mX10_all mX10_slabs 358 0 := ⟨⟨bX10_slabs.1, bX10_slabs.2.1, bX10_slabs.2.2, by decide, by decide⟩, zc7 43 (by decide +kernel) rfl, zc7 45 (by decide +kernel) rfl, zc0 98 (by decide +kernel) rfl⟩
theorem kX10_all_361 : zLv mX10_all mX10_highest 361 0 := ⟨⟨bX10_highest.1, bX10_highest.2.1, bX10_highest.2.2, by decide, by decide⟩, zc7 47 (by decide +kernel) rfl, zc7 49 (by decide +kernel) rfl, zc0 99 (by decide +kernel) rfl⟩
theorem kX10_all_364 : zLv mX10_all mX10_bare 364 0 := ⟨⟨bX10_bare.1, bX10_bare.2.1, bX10_bare.2.2, by decide, by decide⟩, zc7 51 (by decide +kernel) rfl, zc7 53 (by decide +kernel) rfl, zc0 100 (by decide +kernel) rfl⟩
theorem kX10_all_367 : zLv mX10_all mX10_shadows 367 0 := ⟨⟨bX10_shadows.1, bX10_shadows.2.1, bX10_shadows.2.2, by decide, by decide⟩, zc7 55 (by decide +kernel) rfl, zc7 57 (by decide +kernel) rfl, zc0 101 (by decide +kernel) rfl⟩
theorem kX10_all_370 : zLv mX10_all mX10_steepest 370 0 := ⟨⟨bX10_steepest.1, bX10_steepest.2.1, bX10_steepest.2.2, by decide, by decide⟩, zc7 59 (by decide +kernel) rfl, zc7 61 (by decide +kernel) rfl, zc0 102 (by decide +kernel) rfl⟩
theorem kX10_all_373 : zLv mX10_all mX10_rough 373 0 := ⟨⟨bX10_rough.1, bX10_rough.2.1, bX10_rough.2.2, by decide, by decide⟩, zc7 66 (by decide +kernel) rfl, zc7 68 (by decide +kernel) rfl, zc0 103 (by decide +kernel) rfl⟩
theorem kX10_all_376 : zLv mX10_all mX10_givers 376 0 := ⟨⟨bX10_givers.1, bX10_givers.2.1, bX10_givers.2.2, by decide, by decide⟩, zc7 70 (by decide +kernel) rfl, zc7 72 (by decide +kernel) rfl, zc0 104 (by decide +kernel) rfl⟩
theorem kX10_skyline_106 : zLs mX10_skyline mX10_isIn 106 3 := ⟨⟨bX10_isIn.1, bX10_isIn.2.1, bX10_isIn.2.2, by decide, by decide⟩, zc6 55 (by decide +kernel) rfl, zc6 56 (by decide +kernel) rfl⟩
theorem kX10_skyline_255 : zLv mX10_skyline mX10_columns 255 0 := ⟨⟨bX10_columns.1, bX10_columns.2.1, bX10_columns.2.2, by decide, by decide⟩, zc5 112 (by decide +kernel) rfl, zc5 114 (by decide +kernel) rfl, zc0 54 (by decide +kernel) rfl⟩
theorem kX10_skyline_258 : zLv mX10_skyline mX10_rows 258 0 := ⟨⟨bX10_rows.1, bX10_rows.2.1, bX10_rows.2.2, by decide, by decide⟩, zc5 116 (by decide +kernel) rfl, zc5 118 (by decide +kernel) rfl, zc0 55 (by decide +kernel) rfl⟩
theorem kX10_skyline_226 : zLv mX10_skyline mX10_cells 226 0 := ⟨⟨bX10_cells.1, bX10_cells.2.1, bX10_cells.2.2, by decide, by decide⟩, zc5 108 (by decide +kernel) rfl, zc5 110 (by decide +kernel) rfl, zc0 53 (by decide +kernel) rfl⟩
theorem kX10_skyline_349 : zLs mX10_skyline mX10_greater 349 2 := ⟨⟨bX10_greater.1, bX10_greater.2.1, bX10_greater.2.2, by decide, by decide⟩, zc7 24 (by decide +kernel) rfl, zc7 25 (by decide +kernel) rfl⟩
theorem kX10_lands_336 : zLv mX10_lands mX10_isCell 336 1 := ⟨⟨bX10_isCell.1, bX10_isCell.2.1, bX10_isCell.2.2, by decide, by decide⟩, zc6 233 (by decide +kernel) rfl, zc6 235 (by decide +kernel) rfl, zc0 94 (by decide +kernel) rfl⟩
theorem kX10_lands_106 : zLs mX10_lands mX10_isIn 106 3 := ⟨⟨bX10_isIn.1, bX10_isIn.2.1, bX10_isIn.2.2, by decide, by decide⟩, zc6 55 (by decide +kernel) rfl, zc6 56 (by decide +kernel) rfl⟩
theorem kX10_lands_327 : zLv mX10_lands mX10_goesOn 327 0 := ⟨⟨bX10_goesOn.1, bX10_goesOn.2.1, bX10_goesOn.2.2, by decide, by decide⟩, zc6 171 (by decide +kernel) rfl, zc6 173 (by decide +kernel) rfl, zc0 81 (by decide +kernel) rfl⟩
theorem kX10_lands_303 : zLv mX10_lands mX10_gives 303 1 := ⟨⟨bX10_gives.1, bX10_gives.2.1, bX10_gives.2.2, by decide, by decide⟩, zc6 187 (by decide +kernel) rfl, zc6 189 (by decide +kernel) rfl, zc0 85 (by decide +kernel) rfl⟩
theorem kX10_lands_306 : zLv mX10_lands mX10_fills 306 1 := ⟨⟨bX10_fills.1, bX10_fills.2.1, bX10_fills.2.2, by decide, by decide⟩, zc6 210 (by decide +kernel) rfl, zc6 212 (by decide +kernel) rfl, zc0 90 (by decide +kernel) rfl⟩
theorem kX10_lands_273 : zLv mX10_lands mX10_windNow 273 0 := ⟨⟨bX10_windNow.1, bX10_windNow.2.1, bX10_windNow.2.2, by decide, by decide⟩, zc6 195 (by decide +kernel) rfl, zc6 197 (by decide +kernel) rfl, zc0 87 (by decide +kernel) rfl⟩
theorem kX10_lands_282 : zLv mX10_lands mX10_along 282 3 := ⟨⟨bX10_along.1, bX10_along.2.1, bX10_along.2.2, by decide, by decide⟩, zc5 128 (by decide +kernel) rfl, zc5 130 (by decide +kernel) rfl, zc0 58 (by decide +kernel) rfl⟩
theorem kX10_lands_286 : zLv mX10_lands mX10_isShadow 286 1 := ⟨⟨bX10_isShadow.1, bX10_isShadow.2.1, bX10_isShadow.2.2, by decide, by decide⟩, zc6 191 (by decide +kernel) rfl, zc6 193 (by decide +kernel) rfl, zc0 86 (by decide +kernel) rfl⟩
theorem kX10_lands_383 : zLs mX10_lands mX10_common 383 2 := ⟨⟨bX10_common.1, bX10_common.2.1, bX10_common.2.2, by decide, by decide⟩, zc7 84 (by decide +kernel) rfl, zc7 85 (by decide +kernel) rfl⟩
theorem kX10_laysDunes_226 : zLv mX10_laysDunes mX10_cells 226 0 := ⟨⟨bX10_cells.1, bX10_cells.2.1, bX10_cells.2.2, by decide, by decide⟩, zc5 108 (by decide +kernel) rfl, zc5 110 (by decide +kernel) rfl, zc0 53 (by decide +kernel) rfl⟩
theorem kX10_laysDunes_390 : zLv mX10_laysDunes mX10_piles 390 3 := ⟨⟨bX10_piles.1, bX10_piles.2.1, bX10_piles.2.2, by decide, by decide⟩, zc7 99 (by decide +kernel) rfl, zc7 101 (by decide +kernel) rfl, zc0 107 (by decide +kernel) rfl⟩
theorem kX10_laysDunes_282 : zLv mX10_laysDunes mX10_along 282 3 := ⟨⟨bX10_along.1, bX10_along.2.1, bX10_along.2.2, by decide, by decide⟩, zc5 128 (by decide +kernel) rfl, zc5 130 (by decide +kernel) rfl, zc0 58 (by decide +kernel) rfl⟩
theorem kX10_dunesNow_393 : zLv mX10_dunesNow mX10_laysDunes 393 4 := ⟨⟨bX10_laysDunes.1, bX10_laysDunes.2.1, bX10_laysDunes.2.2, by decide, by decide⟩, zc7 95 (by decide +kernel) rfl, zc7 97 (by decide +kernel) rfl, zc0 106 (by decide +kernel) rfl⟩
theorem kX10_dunes_397 : zLv mX10_dunes mX10_dunesNow 397 1 := ⟨⟨bX10_dunesNow.1, bX10_dunesNow.2.1, bX10_dunesNow.2.2, by decide, by decide⟩, zc7 91 (by decide +kernel) rfl, zc7 93 (by decide +kernel) rfl, zc0 105 (by decide +kernel) rfl⟩
theorem kX10_hasIn_226 : zLv mX10_hasIn mX10_cells 226 0 := ⟨⟨bX10_cells.1, bX10_cells.2.1, bX10_cells.2.2, by decide, by decide⟩, zc5 108 (by decide +kernel) rfl, zc5 110 (by decide +kernel) rfl, zc0 53 (by decide +kernel) rfl⟩
theorem kX10_hasIn_255 : zLv mX10_hasIn mX10_columns 255 0 := ⟨⟨bX10_columns.1, bX10_columns.2.1, bX10_columns.2.2, by decide, by decide⟩, zc5 112 (by decide +kernel) rfl, zc5 114 (by decide +kernel) rfl, zc0 54 (by decide +kernel) rfl⟩
theorem kX10_spanOf_255 : zLv mX10_spanOf mX10_columns 255 0 := ⟨⟨bX10_columns.1, bX10_columns.2.1, bX10_columns.2.2, by decide, by decide⟩, zc5 112 (by decide +kernel) rfl, zc5 114 (by decide +kernel) rfl, zc0 54 (by decide +kernel) rfl⟩
theorem kX10_spanOf_258 : zLv mX10_spanOf mX10_rows 258 0 := ⟨⟨bX10_rows.1, bX10_rows.2.1, bX10_rows.2.2, by decide, by decide⟩, zc5 116 (by decide +kernel) rfl, zc5 118 (by decide +kernel) rfl, zc0 55 (by decide +kernel) rfl⟩
theorem kX10_spanOf_400 : zLv mX10_spanOf mX10_hasIn 400 3 := ⟨⟨bX10_hasIn.1, bX10_hasIn.2.1, bX10_hasIn.2.2, by decide, by decide⟩, zc7 111 (by decide +kernel) rfl, zc7 113 (by decide +kernel) rfl, zc0 109 (by decide +kernel) rfl⟩
theorem kX10_spanOf_317 : zLs mX10_spanOf mX10_truth 317 1 := ⟨⟨bX10_truth.1, bX10_truth.2.1, bX10_truth.2.2, by decide, by decide⟩, zc6 222 (by decide +kernel) rfl, zc6 223 (by decide +kernel) rfl⟩
theorem kX10_dune_397 : zLv mX10_dune mX10_dunesNow 397 1 := ⟨⟨bX10_dunesNow.1, bX10_dunesNow.2.1, bX10_dunesNow.2.2, by decide, by decide⟩, zc7 91 (by decide +kernel) rfl, zc7 93 (by decide +kernel) rfl, zc0 105 (by decide +kernel) rfl⟩
theorem kX10_dune_106 : zLs mX10_dune mX10_isIn 106 3 := ⟨⟨bX10_isIn.1, bX10_isIn.2.1, bX10_isIn.2.2, by decide, by decide⟩, zc6 55 (by decide +kernel) rfl, zc6 56 (by decide +kernel) rfl⟩
theorem kX10_dune_226 : zLv mX10_dune mX10_cells 226 0 := ⟨⟨bX10_cells.1, bX10_cells.2.1, bX10_cells.2.2, by decide, by decide⟩, zc5 108 (by decide +kernel) rfl, zc5 110 (by decide +kernel) rfl, zc0 53 (by decide +kernel) rfl⟩
theorem kX10_dune_404 : zLv mX10_dune mX10_spanOf 404 2 := ⟨⟨bX10_spanOf.1, bX10_spanOf.2.1, bX10_spanOf.2.2, by decide, by decide⟩, zc7 107 (by decide +kernel) rfl, zc7 109 (by decide +kernel) rfl, zc0 108 (by decide +kernel) rfl⟩
theorem kX10_duneOf_336 : zLv mX10_duneOf mX10_isCell 336 1 := ⟨⟨bX10_isCell.1, bX10_isCell.2.1, bX10_isCell.2.2, by decide, by decide⟩, zc6 233 (by decide +kernel) rfl, zc6 235 (by decide +kernel) rfl, zc0 94 (by decide +kernel) rfl⟩
theorem kX10_duneOf_397 : zLv mX10_duneOf mX10_dunesNow 397 1 := ⟨⟨bX10_dunesNow.1, bX10_dunesNow.2.1, bX10_dunesNow.2.2, by decide, by decide⟩, zc7 91 (by decide +kernel) rfl, zc7 93 (by decide +kernel) rfl, zc0 105 (by decide +kernel) rfl⟩
theorem kX10_parts_327 : zLv mX10_parts mX10_goesOn 327 0 := ⟨⟨bX10_goesOn.1, bX10_goesOn.2.1, bX10_goesOn.2.2, by decide, by decide⟩, zc6 171 (by decide +kernel) rfl, zc6 173 (by decide +kernel) rfl, zc0 81 (by decide +kernel) rfl⟩
theorem kX10_parts_361 : zLv mX10_parts mX10_highest 361 0 := ⟨⟨bX10_highest.1, bX10_highest.2.1, bX10_highest.2.2, by decide, by decide⟩, zc7 47 (by decide +kernel) rfl, zc7 49 (by decide +kernel) rfl, zc0 99 (by decide +kernel) rfl⟩
theorem kX10_parts_397 : zLv mX10_parts mX10_dunesNow 397 1 := ⟨⟨bX10_dunesNow.1, bX10_dunesNow.2.1, bX10_dunesNow.2.2, by decide, by decide⟩, zc7 91 (by decide +kernel) rfl, zc7 93 (by decide +kernel) rfl, zc0 105 (by decide +kernel) rfl⟩
theorem kX10_areOne_397 : zLv mX10_areOne mX10_dunesNow 397 1 := ⟨⟨bX10_dunesNow.1, bX10_dunesNow.2.1, bX10_dunesNow.2.2, by decide, by decide⟩, zc7 91 (by decide +kernel) rfl, zc7 93 (by decide +kernel) rfl, zc0 105 (by decide +kernel) rfl⟩
theorem kX10_saddle_336 : zLv mX10_saddle mX10_isCell 336 1 := ⟨⟨bX10_isCell.1, bX10_isCell.2.1, bX10_isCell.2.2, by decide, by decide⟩, zc6 233 (by decide +kernel) rfl, zc6 235 (by decide +kernel) rfl, zc0 94 (by decide +kernel) rfl⟩
theorem kX10_saddle_407 : zLs mX10_saddle mX10_lesser 407 2 := ⟨⟨bX10_lesser.1, bX10_lesser.2.1, bX10_lesser.2.2, by decide, by decide⟩, zc7 127 (by decide +kernel) rfl, zc7 128 (by decide +kernel) rfl⟩
theorem kX10_saddle_410 : zLv mX10_saddle mX10_areOne 410 3 := ⟨⟨bX10_areOne.1, bX10_areOne.2.1, bX10_areOne.2.2, by decide, by decide⟩, zc7 130 (by decide +kernel) rfl, zc7 132 (by decide +kernel) rfl, zc0 110 (by decide +kernel) rfl⟩
theorem kX10_sidled_282 : zLv mX10_sidled mX10_along 282 3 := ⟨⟨bX10_along.1, bX10_along.2.1, bX10_along.2.2, by decide, by decide⟩, zc5 128 (by decide +kernel) rfl, zc5 130 (by decide +kernel) rfl, zc0 58 (by decide +kernel) rfl⟩
theorem kX10_laysCrests_327 : zLv mX10_laysCrests mX10_goesOn 327 0 := ⟨⟨bX10_goesOn.1, bX10_goesOn.2.1, bX10_goesOn.2.2, by decide, by decide⟩, zc6 171 (by decide +kernel) rfl, zc6 173 (by decide +kernel) rfl, zc0 81 (by decide +kernel) rfl⟩
theorem kX10_laysCrests_226 : zLv mX10_laysCrests mX10_cells 226 0 := ⟨⟨bX10_cells.1, bX10_cells.2.1, bX10_cells.2.2, by decide, by decide⟩, zc5 108 (by decide +kernel) rfl, zc5 110 (by decide +kernel) rfl, zc0 53 (by decide +kernel) rfl⟩
theorem kX10_laysCrests_352 : zLv mX10_laysCrests mX10_isCrest 352 1 := ⟨⟨bX10_isCrest.1, bX10_isCrest.2.1, bX10_isCrest.2.2, by decide, by decide⟩, zc7 27 (by decide +kernel) rfl, zc7 29 (by decide +kernel) rfl, zc0 97 (by decide +kernel) rfl⟩
theorem kX10_laysCrests_390 : zLv mX10_laysCrests mX10_piles 390 3 := ⟨⟨bX10_piles.1, bX10_piles.2.1, bX10_piles.2.2, by decide, by decide⟩, zc7 99 (by decide +kernel) rfl, zc7 101 (by decide +kernel) rfl, zc0 107 (by decide +kernel) rfl⟩
theorem kX10_laysCrests_255 : zLv mX10_laysCrests mX10_columns 255 0 := ⟨⟨bX10_columns.1, bX10_columns.2.1, bX10_columns.2.2, by decide, by decide⟩, zc5 112 (by decide +kernel) rfl, zc5 114 (by decide +kernel) rfl, zc0 54 (by decide +kernel) rfl⟩
theorem kX10_laysCrests_258 : zLv mX10_laysCrests mX10_rows 258 0 := ⟨⟨bX10_rows.1, bX10_rows.2.1, bX10_rows.2.2, by decide, by decide⟩, zc5 116 (by decide +kernel) rfl, zc5 118 (by decide +kernel) rfl, zc0 55 (by decide +kernel) rfl⟩
theorem kX10_laysCrests_413 : zLv mX10_laysCrests mX10_sidled 413 3 := ⟨⟨bX10_sidled.1, bX10_sidled.2.1, bX10_sidled.2.2, by decide, by decide⟩, zc7 142 (by decide +kernel) rfl, zc7 144 (by decide +kernel) rfl, zc0 112 (by decide +kernel) rfl⟩
theorem kX10_crests_106 : zLs mX10_crests mX10_isIn 106 3 := ⟨⟨bX10_isIn.1, bX10_isIn.2.1, bX10_isIn.2.2, by decide, by decide⟩, zc6 55 (by decide +kernel) rfl, zc6 56 (by decide +kernel) rfl⟩
theorem kX10_crests_416 : zLv mX10_crests mX10_laysCrests 416 0 := ⟨⟨bX10_laysCrests.1, bX10_laysCrests.2.1, bX10_laysCrests.2.2, by decide, by decide⟩, zc7 138 (by decide +kernel) rfl, zc7 140 (by decide +kernel) rfl, zc0 111 (by decide +kernel) rfl⟩
theorem kX10_crests_226 : zLv mX10_crests mX10_cells 226 0 := ⟨⟨bX10_cells.1, bX10_cells.2.1, bX10_cells.2.2, by decide, by decide⟩, zc5 108 (by decide +kernel) rfl, zc5 110 (by decide +kernel) rfl, zc0 53 (by decide +kernel) rfl⟩
theorem kX10_isBox_106 : zLs mX10_isBox mX10_isIn 106 3 := ⟨⟨bX10_isIn.1, bX10_isIn.2.1, bX10_isIn.2.2, by decide, by decide⟩, zc6 55 (by decide +kernel) rfl, zc6 56 (by decide +kernel) rfl⟩
theorem kX10_isKept_419 : zLv mX10_isKept mX10_isBox 419 1 := ⟨⟨bX10_isBox.1, bX10_isBox.2.1, bX10_isBox.2.2, by decide, by decide⟩, zc7 154 (by decide +kernel) rfl, zc7 156 (by decide +kernel) rfl, zc0 114 (by decide +kernel) rfl⟩
theorem kX10_inCommon_226 : zLv mX10_inCommon mX10_cells 226 0 := ⟨⟨bX10_cells.1, bX10_cells.2.1, bX10_cells.2.2, by decide, by decide⟩, zc5 108 (by decide +kernel) rfl, zc5 110 (by decide +kernel) rfl, zc0 53 (by decide +kernel) rfl⟩
theorem kX10_inCommon_317 : zLs mX10_inCommon mX10_truth 317 1 := ⟨⟨bX10_truth.1, bX10_truth.2.1, bX10_truth.2.2, by decide, by decide⟩, zc6 222 (by decide +kernel) rfl, zc6 223 (by decide +kernel) rfl⟩
theorem kX10_follows_422 : zLv mX10_follows mX10_isKept 422 1 := ⟨⟨bX10_isKept.1, bX10_isKept.2.1, bX10_isKept.2.2, by decide, by decide⟩, zc7 150 (by decide +kernel) rfl, zc7 152 (by decide +kernel) rfl, zc0 113 (by decide +kernel) rfl⟩
theorem kX10_follows_397 : zLv mX10_follows mX10_dunesNow 397 1 := ⟨⟨bX10_dunesNow.1, bX10_dunesNow.2.1, bX10_dunesNow.2.2, by decide, by decide⟩, zc7 91 (by decide +kernel) rfl, zc7 93 (by decide +kernel) rfl, zc0 105 (by decide +kernel) rfl⟩
theorem kX10_follows_106 : zLs mX10_follows mX10_isIn 106 3 := ⟨⟨bX10_isIn.1, bX10_isIn.2.1, bX10_isIn.2.2, by decide, by decide⟩, zc6 55 (by decide +kernel) rfl, zc6 56 (by decide +kernel) rfl⟩
theorem kX10_follows_393 : zLv mX10_follows mX10_laysDunes 393 4 := ⟨⟨bX10_laysDunes.1, bX10_laysDunes.2.1, bX10_laysDunes.2.2, by decide, by decide⟩, zc7 95 (by decide +kernel) rfl, zc7 97 (by decide +kernel) rfl, zc0 106 (by decide +kernel) rfl⟩
theorem kX10_follows_425 : zLv mX10_follows mX10_inCommon 425 2 := ⟨⟨bX10_inCommon.1, bX10_inCommon.2.1, bX10_inCommon.2.2, by decide, by decide⟩, zc7 158 (by decide +kernel) rfl, zc7 160 (by decide +kernel) rfl, zc0 115 (by decide +kernel) rfl⟩
theorem kX10_meets_425 : zLv mX10_meets mX10_inCommon 425 2 := ⟨⟨bX10_inCommon.1, bX10_inCommon.2.1, bX10_inCommon.2.2, by decide, by decide⟩, zc7 158 (by decide +kernel) rfl, zc7 160 (by decide +kernel) rfl, zc0 115 (by decide +kernel) rfl⟩
theorem kX10_meets_317 : zLs mX10_meets mX10_truth 317 1 := ⟨⟨bX10_truth.1, bX10_truth.2.1, bX10_truth.2.2, by decide, by decide⟩, zc6 222 (by decide +kernel) rfl, zc6 223 (by decide +kernel) rfl⟩
theorem kX10_fates_422 : zLv mX10_fates mX10_isKept 422 1 := ⟨⟨bX10_isKept.1, bX10_isKept.2.1, bX10_isKept.2.2, by decide, by decide⟩, zc7 150 (by decide +kernel) rfl, zc7 152 (by decide +kernel) rfl, zc0 113 (by decide +kernel) rfl⟩
theorem kX10_fates_106 : zLs mX10_fates mX10_isIn 106 3 := ⟨⟨bX10_isIn.1, bX10_isIn.2.1, bX10_isIn.2.2, by decide, by decide⟩, zc6 55 (by decide +kernel) rfl, zc6 56 (by decide +kernel) rfl⟩
theorem kX10_fates_397 : zLv mX10_fates mX10_dunesNow 397 1 := ⟨⟨bX10_dunesNow.1, bX10_dunesNow.2.1, bX10_dunesNow.2.2, by decide, by decide⟩, zc7 91 (by decide +kernel) rfl, zc7 93 (by decide +kernel) rfl, zc0 105 (by decide +kernel) rfl⟩
theorem kX10_fates_393 : zLv mX10_fates mX10_laysDunes 393 4 := ⟨⟨bX10_laysDunes.1, bX10_laysDunes.2.1, bX10_laysDunes.2.2, by decide, by decide⟩, zc7 95 (by decide +kernel) rfl, zc7 97 (by decide +kernel) rfl, zc0 106 (by decide +kernel) rfl⟩
theorem kX10_fates_428 : zLv mX10_fates mX10_meets 428 3 := ⟨⟨bX10_meets.1, bX10_meets.2.1, bX10_meets.2.2, by decide, by decide⟩, zc7 166 (by decide +kernel) rfl, zc7 168 (by decide +kernel) rfl, zc0 116 (by decide +kernel) rfl⟩
theorem kX10_fates_317 : zLs mX10_fates mX10_truth 317 1 := ⟨⟨bX10_truth.1, bX10_truth.2.1, bX10_truth.2.2, by decide, by decide⟩, zc6 222 (by decide +kernel) rfl, zc6 223 (by decide +kernel) rfl⟩
theorem kX10_overlap_226 : zLv mX10_overlap mX10_cells 226 0 := ⟨⟨bX10_cells.1, bX10_cells.2.1, bX10_cells.2.2, by decide, by decide⟩, zc5 108 (by decide +kernel) rfl, zc5 110 (by decide +kernel) rfl, zc0 53 (by decide +kernel) rfl⟩
theorem kX10_overlap_413 : zLv mX10_overlap mX10_sidled 413 3 := ⟨⟨bX10_sidled.1, bX10_sidled.2.1, bX10_sidled.2.2, by decide, by decide⟩, zc7 142 (by decide +kernel) rfl, zc7 144 (by decide +kernel) rfl, zc0 112 (by decide +kernel) rfl⟩
theorem kX10_overlap_407 : zLs mX10_overlap mX10_lesser 407 2 := ⟨⟨bX10_lesser.1, bX10_lesser.2.1, bX10_lesser.2.2, by decide, by decide⟩, zc7 127 (by decide +kernel) rfl, zc7 128 (by decide +kernel) rfl⟩
theorem kX10_shift_422 : zLv mX10_shift mX10_isKept 422 1 := ⟨⟨bX10_isKept.1, bX10_isKept.2.1, bX10_isKept.2.2, by decide, by decide⟩, zc7 150 (by decide +kernel) rfl, zc7 152 (by decide +kernel) rfl, zc0 113 (by decide +kernel) rfl⟩
theorem kX10_shift_106 : zLs mX10_shift mX10_isIn 106 3 := ⟨⟨bX10_isIn.1, bX10_isIn.2.1, bX10_isIn.2.2, by decide, by decide⟩, zc6 55 (by decide +kernel) rfl, zc6 56 (by decide +kernel) rfl⟩
theorem kX10_shift_258 : zLv mX10_shift mX10_rows 258 0 := ⟨⟨bX10_rows.1, bX10_rows.2.1, bX10_rows.2.2, by decide, by decide⟩, zc5 116 (by decide +kernel) rfl, zc5 118 (by decide +kernel) rfl, zc0 55 (by decide +kernel) rfl⟩
theorem kX10_shift_255 : zLv mX10_shift mX10_columns 255 0 := ⟨⟨bX10_columns.1, bX10_columns.2.1, bX10_columns.2.2, by decide, by decide⟩, zc5 112 (by decide +kernel) rfl, zc5 114 (by decide +kernel) rfl, zc0 54 (by decide +kernel) rfl⟩
theorem kX10_shift_432 : zLv mX10_shift mX10_overlap 432 3 := ⟨⟨bX10_overlap.1, bX10_overlap.2.1, bX10_overlap.2.2, by decide, by decide⟩, zc7 174 (by decide +kernel) rfl, zc7 176 (by decide +kernel) rfl, zc0 117 (by decide +kernel) rfl⟩
theorem kX10_would_106 : zLs mX10_would mX10_isIn 106 3 := ⟨⟨bX10_isIn.1, bX10_isIn.2.1, bX10_isIn.2.2, by decide, by decide⟩, zc6 55 (by decide +kernel) rfl, zc6 56 (by decide +kernel) rfl⟩
theorem kX10_would_336 : zLv mX10_would mX10_isCell 336 1 := ⟨⟨bX10_isCell.1, bX10_isCell.2.1, bX10_isCell.2.2, by decide, by decide⟩, zc6 233 (by decide +kernel) rfl, zc6 235 (by decide +kernel) rfl, zc0 94 (by decide +kernel) rfl⟩
theorem kX10_would_327 : zLv mX10_would mX10_goesOn 327 0 := ⟨⟨bX10_goesOn.1, bX10_goesOn.2.1, bX10_goesOn.2.2, by decide, by decide⟩, zc6 171 (by decide +kernel) rfl, zc6 173 (by decide +kernel) rfl, zc0 81 (by decide +kernel) rfl⟩
theorem kX10_would_330 : zLv mX10_would mX10_blows 330 1 := ⟨⟨bX10_blows.1, bX10_blows.2.1, bX10_blows.2.2, by decide, by decide⟩, zc6 175 (by decide +kernel) rfl, zc6 177 (by decide +kernel) rfl, zc0 82 (by decide +kernel) rfl⟩
theorem kX10_next_106 : zLs mX10_next mX10_isIn 106 3 := ⟨⟨bX10_isIn.1, bX10_isIn.2.1, bX10_isIn.2.2, by decide, by decide⟩, zc6 55 (by decide +kernel) rfl, zc6 56 (by decide +kernel) rfl⟩
theorem kX10_next_327 : zLv mX10_next mX10_goesOn 327 0 := ⟨⟨bX10_goesOn.1, bX10_goesOn.2.1, bX10_goesOn.2.2, by decide, by decide⟩, zc6 171 (by decide +kernel) rfl, zc6 173 (by decide +kernel) rfl, zc0 81 (by decide +kernel) rfl⟩
theorem kX10_next_330 : zLv mX10_next mX10_blows 330 1 := ⟨⟨bX10_blows.1, bX10_blows.2.1, bX10_blows.2.2, by decide, by decide⟩, zc6 175 (by decide +kernel) rfl, zc6 177 (by decide +kernel) rfl, zc0 82 (by decide +kernel) rfl⟩
theorem kX10_flux_255 : zLv mX10_flux mX10_columns 255 0 := ⟨⟨bX10_columns.1, bX10_columns.2.1, bX10_columns.2.2, by decide, by decide⟩, zc5 112 (by decide +kernel) rfl, zc5 114 (by decide +kernel) rfl, zc0 54 (by decide +kernel) rfl⟩
theorem kX10_flux_106 : zLs mX10_flux mX10_isIn 106 3 := ⟨⟨bX10_isIn.1, bX10_isIn.2.1, bX10_isIn.2.2, by decide, by decide⟩, zc6 55 (by decide +kernel) rfl, zc6 56 (by decide +kernel) rfl⟩
theorem kX10_flux_327 : zLv mX10_flux mX10_goesOn 327 0 := ⟨⟨bX10_goesOn.1, bX10_goesOn.2.1, bX10_goesOn.2.2, by decide, by decide⟩, zc6 171 (by decide +kernel) rfl, zc6 173 (by decide +kernel) rfl, zc0 81 (by decide +kernel) rfl⟩
theorem kX10_flux_330 : zLv mX10_flux mX10_blows 330 1 := ⟨⟨bX10_blows.1, bX10_blows.2.1, bX10_blows.2.2, by decide, by decide⟩, zc6 175 (by decide +kernel) rfl, zc6 177 (by decide +kernel) rfl, zc0 82 (by decide +kernel) rfl⟩
theorem kX10_game_106 : zLs mX10_game mX10_isIn 106 3 := ⟨⟨bX10_isIn.1, bX10_isIn.2.1, bX10_isIn.2.2, by decide, by decide⟩, zc6 55 (by decide +kernel) rfl, zc6 56 (by decide +kernel) rfl⟩
theorem kX10_game_327 : zLv mX10_game mX10_goesOn 327 0 := ⟨⟨bX10_goesOn.1, bX10_goesOn.2.1, bX10_goesOn.2.2, by decide, by decide⟩, zc6 171 (by decide +kernel) rfl, zc6 173 (by decide +kernel) rfl, zc0 81 (by decide +kernel) rfl⟩
theorem kX10_game_330 : zLv mX10_game mX10_blows 330 1 := ⟨⟨bX10_blows.1, bX10_blows.2.1, bX10_blows.2.2, by decide, by decide⟩, zc6 175 (by decide +kernel) rfl, zc6 177 (by decide +kernel) rfl, zc0 82 (by decide +kernel) rfl⟩
theorem kX10_game_361 : zLv mX10_game mX10_highest 361 0 := ⟨⟨bX10_highest.1, bX10_highest.2.1, bX10_highest.2.2, by decide, by decide⟩, zc7 47 (by decide +kernel) rfl, zc7 49 (by decide +kernel) rfl, zc0 99 (by decide +kernel) rfl⟩
theorem kX10_game_364 : zLv mX10_game mX10_bare 364 0 := ⟨⟨bX10_bare.1, bX10_bare.2.1, bX10_bare.2.2, by decide, by decide⟩, zc7 51 (by decide +kernel) rfl, zc7 53 (by decide +kernel) rfl, zc0 100 (by decide +kernel) rfl⟩
theorem kX10_game_393 : zLv mX10_game mX10_laysDunes 393 4 := ⟨⟨bX10_laysDunes.1, bX10_laysDunes.2.1, bX10_laysDunes.2.2, by decide, by decide⟩, zc7 95 (by decide +kernel) rfl, zc7 97 (by decide +kernel) rfl, zc0 106 (by decide +kernel) rfl⟩
theorem kX10_tallest_106 : zLs mX10_tallest mX10_isIn 106 3 := ⟨⟨bX10_isIn.1, bX10_isIn.2.1, bX10_isIn.2.2, by decide, by decide⟩, zc6 55 (by decide +kernel) rfl, zc6 56 (by decide +kernel) rfl⟩
theorem kX10_tallest_435 : zLv mX10_tallest mX10_game 435 3 := ⟨⟨bX10_game.1, bX10_game.2.1, bX10_game.2.2, by decide, by decide⟩, zc7 198 (by decide +kernel) rfl, zc7 191 (by decide +kernel) rfl, zc7 192 (by decide +kernel) rfl⟩
theorem kX10_seen_106 : zLs mX10_seen mX10_isIn 106 3 := ⟨⟨bX10_isIn.1, bX10_isIn.2.1, bX10_isIn.2.2, by decide, by decide⟩, zc6 55 (by decide +kernel) rfl, zc6 56 (by decide +kernel) rfl⟩
theorem kX10_seen_336 : zLv mX10_seen mX10_isCell 336 1 := ⟨⟨bX10_isCell.1, bX10_isCell.2.1, bX10_isCell.2.2, by decide, by decide⟩, zc6 233 (by decide +kernel) rfl, zc6 235 (by decide +kernel) rfl, zc0 94 (by decide +kernel) rfl⟩
theorem kX10_seen_317 : zLs mX10_seen mX10_truth 317 1 := ⟨⟨bX10_truth.1, bX10_truth.2.1, bX10_truth.2.2, by decide, by decide⟩, zc6 222 (by decide +kernel) rfl, zc6 223 (by decide +kernel) rfl⟩
theorem kX10_untell_106 : zLs mX10_untell mX10_isIn 106 3 := ⟨⟨bX10_isIn.1, bX10_isIn.2.1, bX10_isIn.2.2, by decide, by decide⟩, zc6 55 (by decide +kernel) rfl, zc6 56 (by decide +kernel) rfl⟩
theorem kX10_later_106 : zLs mX10_later mX10_isIn 106 3 := ⟨⟨bX10_isIn.1, bX10_isIn.2.1, bX10_isIn.2.2, by decide, by decide⟩, zc6 55 (by decide +kernel) rfl, zc6 56 (by decide +kernel) rfl⟩
theorem kX10_isSoAfter_442 : zLv mX10_isSoAfter mX10_doesCount 442 2 := ⟨⟨bX10_doesCount.1, bX10_doesCount.2.1, bX10_doesCount.2.2, by decide, by decide⟩, zc7 228 (by decide +kernel) rfl, zc7 230 (by decide +kernel) rfl, zc0 121 (by decide +kernel) rfl⟩
theorem kX10_isSoAfter_317 : zLs mX10_isSoAfter mX10_truth 317 1 := ⟨⟨bX10_truth.1, bX10_truth.2.1, bX10_truth.2.2, by decide, by decide⟩, zc6 222 (by decide +kernel) rfl, zc6 223 (by decide +kernel) rfl⟩
theorem kX10_lastSeen_442 : zLv mX10_lastSeen mX10_doesCount 442 2 := ⟨⟨bX10_doesCount.1, bX10_doesCount.2.1, bX10_doesCount.2.2, by decide, by decide⟩, zc7 228 (by decide +kernel) rfl, zc7 230 (by decide +kernel) rfl, zc0 121 (by decide +kernel) rfl⟩
theorem kX10_lastSeen_349 : zLs mX10_lastSeen mX10_greater 349 2 := ⟨⟨bX10_greater.1, bX10_greater.2.1, bX10_greater.2.2, by decide, by decide⟩, zc7 24 (by decide +kernel) rfl, zc7 25 (by decide +kernel) rfl⟩
theorem kX10_fitsBy_232 : zLv mX10_fitsBy mX10_asTold 232 1 := ⟨⟨bX10_asTold.1, bX10_asTold.2.1, bX10_asTold.2.2, by decide, by decide⟩, zc5 140 (by decide +kernel) rfl, zc5 142 (by decide +kernel) rfl, zc0 61 (by decide +kernel) rfl⟩
theorem kX10_fitsBy_445 : zLv mX10_fitsBy mX10_lastSeen 445 1 := ⟨⟨bX10_lastSeen.1, bX10_lastSeen.2.1, bX10_lastSeen.2.2, by decide, by decide⟩, zc7 224 (by decide +kernel) rfl, zc7 226 (by decide +kernel) rfl, zc0 120 (by decide +kernel) rfl⟩
theorem kX10_fitsBy_448 : zLv mX10_fitsBy mX10_isSoAfter 448 2 := ⟨⟨bX10_isSoAfter.1, bX10_isSoAfter.2.1, bX10_isSoAfter.2.2, by decide, by decide⟩, zc7 232 (by decide +kernel) rfl, zc7 234 (by decide +kernel) rfl, zc0 122 (by decide +kernel) rfl⟩
theorem kX10_fitsBy_315 : zLv mX10_fitsBy mX10_tries 315 0 := ⟨⟨bX10_tries.1, bX10_tries.2.1, bX10_tries.2.2, by decide, by decide⟩, zc6 179 (by decide +kernel) rfl, zc6 181 (by decide +kernel) rfl, zc0 83 (by decide +kernel) rfl⟩
theorem kX10_laysFits_451 : zLv mX10_laysFits mX10_fitsBy 451 2 := ⟨⟨bX10_fitsBy.1, bX10_fitsBy.2.1, bX10_fitsBy.2.2, by decide, by decide⟩, zc7 220 (by decide +kernel) rfl, zc7 222 (by decide +kernel) rfl, zc0 119 (by decide +kernel) rfl⟩
theorem kX10_laysFits_317 : zLs mX10_laysFits mX10_truth 317 1 := ⟨⟨bX10_truth.1, bX10_truth.2.1, bX10_truth.2.2, by decide, by decide⟩, zc6 222 (by decide +kernel) rfl, zc6 223 (by decide +kernel) rfl⟩
theorem kX10_fits_454 : zLv mX10_fits mX10_laysFits 454 1 := ⟨⟨bX10_laysFits.1, bX10_laysFits.2.1, bX10_laysFits.2.2, by decide, by decide⟩, zc7 216 (by decide +kernel) rfl, zc7 218 (by decide +kernel) rfl, zc0 118 (by decide +kernel) rfl⟩
theorem kX10_fit_454 : zLv mX10_fit mX10_laysFits 454 1 := ⟨⟨bX10_laysFits.1, bX10_laysFits.2.1, bX10_laysFits.2.2, by decide, by decide⟩, zc7 216 (by decide +kernel) rfl, zc7 218 (by decide +kernel) rfl, zc0 118 (by decide +kernel) rfl⟩
theorem kX10_fit_106 : zLs mX10_fit mX10_isIn 106 3 := ⟨⟨bX10_isIn.1, bX10_isIn.2.1, bX10_isIn.2.2, by decide, by decide⟩, zc6 55 (by decide +kernel) rfl, zc6 56 (by decide +kernel) rfl⟩
theorem kX10_leftBy_317 : zLs mX10_leftBy mX10_truth 317 1 := ⟨⟨bX10_truth.1, bX10_truth.2.1, bX10_truth.2.2, by decide, by decide⟩, zc6 222 (by decide +kernel) rfl, zc6 223 (by decide +kernel) rfl⟩
theorem kX10_leftBy_349 : zLs mX10_leftBy mX10_greater 349 2 := ⟨⟨bX10_greater.1, bX10_greater.2.1, bX10_greater.2.2, by decide, by decide⟩, zc7 24 (by decide +kernel) rfl, zc7 25 (by decide +kernel) rfl⟩
theorem kX10_ask_106 : zLs mX10_ask mX10_isIn 106 3 := ⟨⟨bX10_isIn.1, bX10_isIn.2.1, bX10_isIn.2.2, by decide, by decide⟩, zc6 55 (by decide +kernel) rfl, zc6 56 (by decide +kernel) rfl⟩
theorem kX10_ask_454 : zLv mX10_ask mX10_laysFits 454 1 := ⟨⟨bX10_laysFits.1, bX10_laysFits.2.1, bX10_laysFits.2.2, by decide, by decide⟩, zc7 216 (by decide +kernel) rfl, zc7 218 (by decide +kernel) rfl, zc0 118 (by decide +kernel) rfl⟩
theorem kX10_ask_232 : zLv mX10_ask mX10_asTold 232 1 := ⟨⟨bX10_asTold.1, bX10_asTold.2.1, bX10_asTold.2.2, by decide, by decide⟩, zc5 140 (by decide +kernel) rfl, zc5 142 (by decide +kernel) rfl, zc0 61 (by decide +kernel) rfl⟩
theorem kX10_ask_330 : zLv mX10_ask mX10_blows 330 1 := ⟨⟨bX10_blows.1, bX10_blows.2.1, bX10_blows.2.2, by decide, by decide⟩, zc6 175 (by decide +kernel) rfl, zc6 177 (by decide +kernel) rfl, zc0 82 (by decide +kernel) rfl⟩
theorem kX10_ask_226 : zLv mX10_ask mX10_cells 226 0 := ⟨⟨bX10_cells.1, bX10_cells.2.1, bX10_cells.2.2, by decide, by decide⟩, zc5 108 (by decide +kernel) rfl, zc5 110 (by decide +kernel) rfl, zc0 53 (by decide +kernel) rfl⟩
theorem kX10_ask_457 : zLv mX10_ask mX10_leftBy 457 1 := ⟨⟨bX10_leftBy.1, bX10_leftBy.2.1, bX10_leftBy.2.2, by decide, by decide⟩, zc8 4 (by decide +kernel) rfl, zc8 6 (by decide +kernel) rfl, zc0 123 (by decide +kernel) rfl⟩
theorem kX10_image_419 : zLv mX10_image mX10_isBox 419 1 := ⟨⟨bX10_isBox.1, bX10_isBox.2.1, bX10_isBox.2.2, by decide, by decide⟩, zc7 154 (by decide +kernel) rfl, zc7 156 (by decide +kernel) rfl, zc0 114 (by decide +kernel) rfl⟩
theorem kX10_image_460 : zLv mX10_image mX10_all 460 1 := ⟨⟨bX10_all.1, bX10_all.2.1, bX10_all.2.2, by decide, by decide⟩, zc8 12 (by decide +kernel) rfl, zc7 40 (by decide +kernel) rfl, zc7 41 (by decide +kernel) rfl⟩
theorem kX10_back_422 : zLv mX10_back mX10_isKept 422 1 := ⟨⟨bX10_isKept.1, bX10_isKept.2.1, bX10_isKept.2.2, by decide, by decide⟩, zc7 150 (by decide +kernel) rfl, zc7 152 (by decide +kernel) rfl, zc0 113 (by decide +kernel) rfl⟩
theorem kX10_back_460 : zLv mX10_back mX10_all 460 1 := ⟨⟨bX10_all.1, bX10_all.2.1, bX10_all.2.2, by decide, by decide⟩, zc8 12 (by decide +kernel) rfl, zc7 40 (by decide +kernel) rfl, zc7 41 (by decide +kernel) rfl⟩
theorem kX10_about_255 : zLv mX10_about mX10_columns 255 0 := ⟨⟨bX10_columns.1, bX10_columns.2.1, bX10_columns.2.2, by decide, by decide⟩, zc5 112 (by decide +kernel) rfl, zc5 114 (by decide +kernel) rfl, zc0 54 (by decide +kernel) rfl⟩
theorem kX10_about_258 : zLv mX10_about mX10_rows 258 0 := ⟨⟨bX10_rows.1, bX10_rows.2.1, bX10_rows.2.2, by decide, by decide⟩, zc5 116 (by decide +kernel) rfl, zc5 118 (by decide +kernel) rfl, zc0 55 (by decide +kernel) rfl⟩
theorem kX10_about_226 : zLv mX10_about mX10_cells 226 0 := ⟨⟨bX10_cells.1, bX10_cells.2.1, bX10_cells.2.2, by decide, by decide⟩, zc5 108 (by decide +kernel) rfl, zc5 110 (by decide +kernel) rfl, zc0 53 (by decide +kernel) rfl⟩
theorem kX10_about_339 : zLv mX10_about mX10_sownMany 339 0 := ⟨⟨bX10_sownMany.1, bX10_sownMany.2.1, bX10_sownMany.2.2, by decide, by decide⟩, zc7 5 (by decide +kernel) rfl, zc7 7 (by decide +kernel) rfl, zc0 95 (by decide +kernel) rfl⟩
theorem kX10_about_463 : zLv mX10_about mX10_roundTries 463 0 := ⟨⟨bX10_roundTries.1, bX10_roundTries.2.1, bX10_roundTries.2.2, by decide, by decide⟩, zc8 21 (by decide +kernel) rfl, zc8 23 (by decide +kernel) rfl, zc0 124 (by decide +kernel) rfl⟩
end
section
def zSL1 : List (Nat × Nat) := [(0, 9), (0, 8), (1, 900), (1, 901), (1, 901), (1, 901), (0, 4), (0, 0), (1, 4), (1, 96), (1, 96), (1, 8), (1, 8), (0, 2), (1, 96), (1, 96), (1, 384), (1, 8), (1, 8), (0, 5), (1, 96), (1, 96), (1, 4), (0, 5), (1, 96), (1, 96), (1, 4), (0, 5), (1, 96), (1, 96), (1, 4), (0, 7), (1, 12), (0, 7), (1, 12), (0, 1), (4, 21), (0, 5), (1, 96), (1, 96), (1, 4), (0, 5), (1, 96), (1, 96), (1, 4), (0, 5), (1, 96), (1, 96), (1, 4), (0, 5), (1, 96), (1, 96), (1, 4), (0, 5), (1, 96), (1, 96), (1, 4), (0, 5), (1, 96), (1, 96), (1, 4), (0, 5), (1, 96), (1, 96), (1, 4), (0, 5), (1, 96), (1, 96), (1, 4), (0, 5), (1, 96), (1, 96), (1, 4), (0, 5), (1, 96), (1, 96), (1, 4), (0, 5), (1, 96), (1, 96), (1, 4), (0, 5), (1, 96), (1, 96), (1, 4), (0, 5), (1, 96), (1, 96), (1, 4), (0, 5), (1, 96), (1, 96), (1, 4), (0, 5), (1, 96), (1, 96), (1, 4), (0, 5), (1, 96), (1, 96), (1, 4), (0, 5), (1, 96), (1, 96), (1, 4), (0, 5), (1, 96), (1, 96), (1, 4), (0, 5), (1, 96), (1, 96), (1, 4), (0, 5), (1, 96), (1, 96), (1, 4), (0, 5), (1, 96), (1, 96), (1, 4), (0, 6), (1, 20), (1, 20), (3, 20), (1, 4800), (0, 3), (2, 96), (1, 96), (1, 96), (0, 3), (2, 96), (1, 96), (1, 96), (4, 3), (0, 5), (1, 96), (1, 96), (1, 4), (0, 5), (1, 96), (1, 96), (1, 4), (0, 5), (1, 96), (1, 96), (1, 4), (2, 3), (1, 96)]
def zFL1 : List (List Nat) := [[], [2, 7, 14, 20, 24, 28, 32, 34, 36, 122, 127, 131, 135, 148, 149, 0], [3, 0, 4, 5, 6, 0], [], [], [], [], [2, 8, 0, 0, 0], [0, 0, 0, 0, 0, 0, 0, 0, 9, 10, 11, 12, 13], [], [], [], [], [], [0, 0, 0, 0, 0, 0, 15, 16, 17, 18, 19], [], [], [], [], [], [21, 22, 23, 0, 0], [], [], [], [25, 26, 27, 0, 0], [], [], [], [29, 30, 31, 0, 0], [], [], [], [14, 24, 33, 0, 0], [], [14, 28, 35, 0, 0], [], [37, 0, 0], [], [39, 40, 41, 0, 0], [], [], [], [43, 44, 45, 0, 0], [], [], [], [47, 48, 49, 0, 0], [], [], [], [51, 52, 53, 0, 0], [], [], [], [55, 56, 57, 0, 0], [], [], [], [59, 60, 61, 0, 0], [], [], [], [63, 64, 65, 0, 0], [], [], [], [67, 68, 69, 0, 0], [], [], [], [71, 72, 73, 0, 0], [], [], [], [75, 76, 77, 0, 0], [], [], [], [79, 80, 81, 0, 0], [], [], [], [83, 84, 85, 0, 0], [], [], [], [87, 88, 89, 0, 0], [], [], [], [91, 92, 93, 0, 0], [], [], [], [95, 96, 97, 0, 0], [], [], [], [99, 100, 101, 0, 0], [], [], [], [103, 104, 105, 0, 0], [], [], [], [107, 108, 109, 0, 0], [], [], [], [111, 112, 113, 0, 0], [], [], [], [115, 116, 117, 0, 0], [], [], [], [119, 120, 121, 0, 0], [], [], [], [14, 20, 28, 34, 123, 124, 125, 126, 0], [], [], [], [], [14, 128, 129, 0, 130, 0], [], [], [], [14, 132, 133, 0, 134, 0], [], [], [], [], [137, 138, 139, 0, 0], [], [], [], [141, 142, 143, 0, 0], [], [], [], [145, 146, 147, 0, 0], [], [], [], [], []]
def z1 (o : Bool) : zS := (o, zSL1, fun a k => (zFL1.getD a []).getD k 0)
def zSL2 : List (Nat × Nat) := [(0, 10), (1, 900), (1, 20), (1, 16), (1, 16), (1, 192), (1, 192), (1, 96), (2, 8), (1, 198), (1, 198), (1, 3960), (1, 96), (1, 96), (1, 96), (1, 594), (2, 3), (1, 20), (1, 20), (1, 20), (1, 20), (1, 20), (1, 20), (2, 50), (1, 4800)]
def zFL2 : List (List Nat) := [[], [2, 0, 0, 0, 0, 0, 0, 0, 0, 0, 0, 0, 3, 4, 5, 6, 7, 8, 9, 0, 0, 10, 11, 0, 0, 0, 0, 12, 0, 0, 13, 14, 15, 0, 16, 17, 18, 19, 20, 21, 22, 23, 0, 0, 24, 25], [], [], [], [], [], [], [], [], [], [], [], [], [], [], [], [], [], [], [], [], [], [], [], []]
def z2 (o : Bool) : zS := (o, zSL2, fun a k => (zFL2.getD a []).getD k 0)
def zsds : List Nat := [20, 24, 28, 38, 42, 46, 50, 54, 58, 62, 66, 70, 74, 78, 82, 86, 90, 94, 98, 102, 106, 110, 114, 118, 136, 140, 144]
/-! the objects of which there are several: a Sand s, a Storm a over a Sand s, a Lumps b -/
def zSd (s : Nat) : Prop := s ∈ zsds
def zSt (a s : Nat) : Prop := (a = 32 ∧ s = 24) ∨ (a = 34 ∧ s = 28)
def zLu (b : Nat) : Prop := b = 127 ∨ b = 131
theorem zsd_all : ∀ s ∈ zsds, (zh (z1 true) s = (0, 5) ∧ zh (z1 true) (s + 1) = (1, 96) ∧ zh (z1 true) (s + 2) = (1, 96) ∧ zh (z1 true) (s + 3) = (1, 4)) ∧ (z1 true).2.2 s 0 = s + 1 ∧ (z1 true).2.2 s 1 = s + 2 ∧ (z1 true).2.2 s 2 = s + 3 ∧ s ≠ 0 ∧ 20 ≤ s ∧ s ≤ 144 := by decide +kernel
section ZW
variable {o : Bool} {s a b : Nat}
theorem zsd_0 (h : zSd s) : zh (z1 o) s = (0, 5) := (zsd_all s h).1.1
theorem zsd_1 (h : zSd s) : zh (z1 o) (s + 1) = (1, 96) := (zsd_all s h).1.2.1
theorem zsd_2 (h : zSd s) : zh (z1 o) (s + 2) = (1, 96) := (zsd_all s h).1.2.2.1
theorem zsd_3 (h : zSd s) : zh (z1 o) (s + 3) = (1, 4) := (zsd_all s h).1.2.2.2
theorem zsd_f0 (h : zSd s) : (z1 o).2.2 s 0 = s + 1 := (zsd_all s h).2.1
theorem zsd_f1 (h : zSd s) : (z1 o).2.2 s 1 = s + 2 := (zsd_all s h).2.2.1
theorem zsd_f2 (h : zSd s) : (z1 o).2.2 s 2 = s + 3 := (zsd_all s h).2.2.2.1
theorem zsd_nz (h : zSd s) : s ≠ 0 := (zsd_all s h).2.2.2.2.1
theorem zsd_lo (h : zSd s) : 20 ≤ s ∧ s ≤ 144 := (zsd_all s h).2.2.2.2.2
theorem zst_s (h : zSt a s) : zSd s := by rcases h with ⟨-, rfl⟩ | ⟨-, rfl⟩ <;> (unfold zSd; decide)
theorem zst_0 (h : zSt a s) : zh (z1 o) a = (0, 7) := by rcases h with ⟨rfl, rfl⟩ | ⟨rfl, rfl⟩ <;> rfl
theorem zst_c (h : zSt a s) : zh (z1 o) (a + 1) = (1, 12) := by rcases h with ⟨rfl, rfl⟩ | ⟨rfl, rfl⟩ <;> rfl
theorem zst_f0 (h : zSt a s) : (z1 o).2.2 a 0 = 14 := by rcases h with ⟨rfl, rfl⟩ | ⟨rfl, rfl⟩ <;> rfl
theorem zst_f1 (h : zSt a s) : (z1 o).2.2 a 1 = s := by rcases h with ⟨rfl, rfl⟩ | ⟨rfl, rfl⟩ <;> rfl
theorem zst_f2 (h : zSt a s) : (z1 o).2.2 a 2 = a + 1 := by rcases h with ⟨rfl, rfl⟩ | ⟨rfl, rfl⟩ <;> rfl
theorem zst_nz (h : zSt a s) : a ≠ 0 := by rcases h with ⟨rfl, rfl⟩ | ⟨rfl, rfl⟩ <;> decide
theorem zlu_0 (h : zLu b) : zh (z1 o) b = (0, 3) := by rcases h with rfl | rfl <;> rfl
theorem zlu_1 (h : zLu b) : zh (z1 o) (b + 1) = (2, 96) := by rcases h with rfl | rfl <;> rfl
theorem zlu_2 (h : zLu b) : zh (z1 o) (b + 2) = (1, 96) := by rcases h with rfl | rfl <;> rfl
theorem zlu_3 (h : zLu b) : zh (z1 o) (b + 3) = (1, 96) := by rcases h with rfl | rfl <;> rfl
theorem zlu_f0 (h : zLu b) : (z1 o).2.2 b 0 = 14 := by rcases h with rfl | rfl <;> rfl
theorem zlu_f1 (h : zLu b) : (z1 o).2.2 b 1 = b + 1 := by rcases h with rfl | rfl <;> rfl
theorem zlu_f2 (h : zLu b) : (z1 o).2.2 b 2 = b + 2 := by rcases h with rfl | rfl <;> rfl
theorem zlu_f4 (h : zLu b) : (z1 o).2.2 b 4 = b + 3 := by rcases h with rfl | rfl <;> rfl
theorem zlu_nz (h : zLu b) : b ≠ 0 := by rcases h with rfl | rfl <;> decide
end ZW
/-! rows by a field's number as an Int -/
section ZG
variable {g : zG} {d : zD} {mm kw : Nat × Nat} {σ0 σ : zS} {Q : zP} {pc : Nat} {l : List (Nat × Value)} {st : List Value} {M : zM} {idx ci j a b : Nat} {ji x : Int} {own : String}
theorem zt_geti (ji : Int) (hj : (j : Int) = ji) (hd : decode d.2.1 pc = .ok (.getfield idx, 3)) (hL : zLf d.1.cls idx ci j) (hs : zh σ a = (0, ci)) (hk : zfk ci j = 0 ∨ zfk ci j = 3) (k : zR g d mm σ0 Q (pc + 3) l (zI (M a ji) :: st) kw σ M) : zR g d mm σ0 Q pc l (zA g a :: st) kw σ M := by subst hj; exact zr_geti hd hL hs hk k
theorem zt_getl (ji : Int) (hj : (j : Int) = ji) (hd : decode d.2.1 pc = .ok (.getfield idx, 3)) (hL : zLf d.1.cls idx ci j) (hs : zh σ a = (0, ci)) (hk : zfk ci j = 1) (k : zR g d mm σ0 Q (pc + 3) l (zL (M a ji) :: st) kw σ M) : zR g d mm σ0 Q pc l (zA g a :: st) kw σ M := by subst hj; exact zr_getl hd hL hs hk k
theorem zt_puti (ji : Int) (hj : (j : Int) = ji) (hd : decode d.2.1 pc = .ok (.putfield idx, 3)) (hL : zLf d.1.cls idx ci j) (hC : zLc ci) (hT : zLt ci j false own .int) (hk : zfk ci j = 0) (hs : zh σ a = (0, ci)) (k : zR g d mm σ0 Q (pc + 3) l st kw σ (zu M a ji x)) : zR g d mm σ0 Q pc l (zI x :: zA g a :: st) kw σ M := by subst hj; exact zr_puti hd hL hC hT hk hs k
theorem zt_putl (ji : Int) (hj : (j : Int) = ji) (hd : decode d.2.1 pc = .ok (.putfield idx, 3)) (hL : zLf d.1.cls idx ci j) (hC : zLc ci) (hT : zLt ci j false own .long) (hk : zfk ci j = 1) (hs : zh σ a = (0, ci)) (k : zR g d mm σ0 Q (pc + 3) l st kw σ (zu M a ji x)) : zR g d mm σ0 Q pc l (zL x :: zA g a :: st) kw σ M := by subst hj; exact zr_putl hd hL hC hT hk hs k
theorem zt_putz (ji : Int) (hj : (j : Int) = ji) (hd : decode d.2.1 pc = .ok (.putfield idx, 3)) (hL : zLf d.1.cls idx ci j) (hC : zLc ci) (hT : zLt ci j false own .boolean) (hk : zfk ci j = 3) (hx : x = 0 ∨ x = 1) (hs : zh σ a = (0, ci)) (k : zR g d mm σ0 Q (pc + 3) l st kw σ (zu M a ji x)) : zR g d mm σ0 Q pc l (zI x :: zA g a :: st) kw σ M := by subst hj; exact zr_putz hd hL hC hT hk hx hs k
end ZG
theorem zc_in (x y : Int) : zin (zcmp x y) := by unfold zcmp zin; split <;> (try split) <;> omega
theorem zc_eq {x y : Int} : zcmp x y = 0 ↔ x = y := by unfold zcmp; split <;> (try split) <;> omega
theorem zc_ne {x y : Int} : zcmp x y ≠ 0 ↔ x ≠ y := not_congr zc_eq
theorem zc_lt {x y : Int} : zcmp x y < 0 ↔ x < y := by unfold zcmp; split <;> (try split) <;> omega
theorem zc_le {x y : Int} : zcmp x y ≤ 0 ↔ x ≤ y := by unfold zcmp; split <;> (try split) <;> omega
theorem zc_gt {x y : Int} : 0 < zcmp x y ↔ y < x := by unfold zcmp; split <;> (try split) <;> omega
theorem zc_ge {x y : Int} : 0 ≤ zcmp x y ↔ y ≤ x := by unfold zcmp; split <;> (try split) <;> omega
end
section
theorem dX2_has_0 : decode cX2_has 0 = .ok (.iload_n 1, 1) := by decide +kernel
theorem dX2_has_1 : decode cX2_has 1 = .ok (.ifCond .lt 15, 3) := by decide +kernel
theorem dX2_has_4 : decode cX2_has 4 = .ok (.iload_n 1, 1) := by decide +kernel
theorem dX2_has_5 : decode cX2_has 5 = .ok (.aload_n 0, 1) := by decide +kernel
theorem dX2_has_6 : decode cX2_has 6 = .ok (.getfield 38, 3) := by decide +kernel
theorem dX2_has_9 : decode cX2_has 9 = .ok (.if_icmp .ge 7, 3) := by decide +kernel
theorem dX2_has_12 : decode cX2_has 12 = .ok (.iconst 1, 1) := by decide +kernel
theorem dX2_has_13 : decode cX2_has 13 = .ok (.goto 4, 3) := by decide +kernel
theorem dX2_has_16 : decode cX2_has 16 = .ok (.iconst 0, 1) := by decide +kernel
theorem dX2_has_17 : decode cX2_has 17 = .ok (.ireturn, 1) := by decide +kernel
set_option maxRecDepth 100000 in
theorem SX2_has_0 {g : zG} {o : Bool} {M : zM} {q : Int → zM → Prop} {x1 : Int} (W : (-2147483648 ≤ x1 ∧ x1 ≤ 2147483647) ∧ ((x1 < 0) → q 0 M) ∧ ((¬ (x1 < 0)) → (-2147483648 ≤ (M 14 2) ∧ (M 14 2) ≤ 2147483647) ∧ (((M 14 2) ≤ x1) → q 0 M) ∧ ((¬ ((M 14 2) ≤ x1)) → q 1 M))) : zT g (z1 o) mX2_has (zQi (z1 o) q) 0 [(0, zA g 14), (1, zI x1)] [] M := by
  refine zr_iload_n 1 dX2_has_0 rfl ?_
  obtain ⟨c1, W⟩ := W
  refine zr_if_lt (tgt := 16) dX2_has_1 (by decide) c1 (fun h => ?_) (fun h => ?_)
  · have W := W.1 h
    refine zr_iconst dX2_has_16 ?_
    exact zt_zret dX2_has_17 rfl (by decide) W
  · have W := W.2 h
    refine zr_iload_n 1 dX2_has_4 rfl ?_
    refine zr_aload_n 0 dX2_has_5 rfl ?_
    refine zt_geti 2 rfl dX2_has_6 fX2_38 rfl (by decide) ?_
    obtain ⟨c2, W⟩ := W
    refine zr_icmp_ge (tgt := 16) dX2_has_9 (by decide) c1 c2 (fun h => ?_) (fun h => ?_)
    · have W := W.1 h
      refine zr_iconst dX2_has_16 ?_
      exact zt_zret dX2_has_17 rfl (by decide) W
    · have W := W.2 h
      refine zr_iconst dX2_has_12 ?_
      refine zr_goto (tgt := 17) dX2_has_13 (by decide) ?_
      exact zt_zret dX2_has_17 rfl (by decide) W
theorem dX2_neighbour_0 : decode cX2_neighbour 0 = .ok (.aload_n 0, 1) := by decide +kernel
theorem dX2_neighbour_1 : decode cX2_neighbour 1 = .ok (.getfield 18, 3) := by decide +kernel
theorem dX2_neighbour_4 : decode cX2_neighbour 4 = .ok (.iload_n 1, 1) := by decide +kernel
theorem dX2_neighbour_5 : decode cX2_neighbour 5 = .ok (.iconst 4, 1) := by decide +kernel
theorem dX2_neighbour_6 : decode cX2_neighbour 6 = .ok (.imul, 1) := by decide +kernel
theorem dX2_neighbour_7 : decode cX2_neighbour 7 = .ok (.iload_n 2, 1) := by decide +kernel
theorem dX2_neighbour_8 : decode cX2_neighbour 8 = .ok (.iadd, 1) := by decide +kernel
theorem dX2_neighbour_9 : decode cX2_neighbour 9 = .ok (.iaload, 1) := by decide +kernel
theorem dX2_neighbour_10 : decode cX2_neighbour 10 = .ok (.ireturn, 1) := by decide +kernel
set_option maxRecDepth 100000 in
theorem SX2_neighbour_0 {g : zG} {o : Bool} {M : zM} {q : Int → zM → Prop} {x1 x2 : Int} (W : (0 ≤ ((x1 * 4) + x2) ∧ ((x1 * 4) + x2) < 384) ∧ q (M 17 ((x1 * 4) + x2)) M) : zT g (z1 o) mX2_neighbour (zQi (z1 o) q) 0 [(0, zA g 14), (1, zI x1), (2, zI x2)] [] M := by
  refine zr_aload_n 0 dX2_neighbour_0 rfl ?_
  refine zr_getr (b := 17) dX2_neighbour_1 fX2_18 rfl rfl rfl (by decide) ?_
  refine zr_iload_n 1 dX2_neighbour_4 rfl ?_
  refine zr_iconst dX2_neighbour_5 ?_
  refine zr_imul dX2_neighbour_6 ?_
  refine zr_iload_n 2 dX2_neighbour_7 rfl ?_
  refine zr_iadd dX2_neighbour_8 ?_
  obtain ⟨c1, W⟩ := W
  refine zr_iald dX2_neighbour_9 rfl (by decide) c1 ?_
  exact zt_iret dX2_neighbour_10 rfl W
theorem dX2_roundOf_0 : decode cX2_roundOf 0 = .ok (.iload_n 1, 1) := by decide +kernel
theorem dX2_roundOf_1 : decode cX2_roundOf 1 = .ok (.ifCond .eq 8, 3) := by decide +kernel
theorem dX2_roundOf_4 : decode cX2_roundOf 4 = .ok (.iload_n 1, 1) := by decide +kernel
theorem dX2_roundOf_5 : decode cX2_roundOf 5 = .ok (.iconst 2, 1) := by decide +kernel
theorem dX2_roundOf_6 : decode cX2_roundOf 6 = .ok (.if_icmp .ne 10, 3) := by decide +kernel
theorem dX2_roundOf_9 : decode cX2_roundOf 9 = .ok (.aload_n 0, 1) := by decide +kernel
theorem dX2_roundOf_10 : decode cX2_roundOf 10 = .ok (.getfield 33, 3) := by decide +kernel
theorem dX2_roundOf_13 : decode cX2_roundOf 13 = .ok (.goto 7, 3) := by decide +kernel
theorem dX2_roundOf_16 : decode cX2_roundOf 16 = .ok (.aload_n 0, 1) := by decide +kernel
theorem dX2_roundOf_17 : decode cX2_roundOf 17 = .ok (.getfield 37, 3) := by decide +kernel
theorem dX2_roundOf_20 : decode cX2_roundOf 20 = .ok (.ireturn, 1) := by decide +kernel
set_option maxRecDepth 100000 in
theorem SX2_roundOf_0 {g : zG} {o : Bool} {M : zM} {q : Int → zM → Prop} {x1 : Int} (W : (-2147483648 ≤ x1 ∧ x1 ≤ 2147483647) ∧ ((x1 = 0) → q (M 14 0) M) ∧ ((¬ (x1 = 0)) → ((x1 ≠ 2) → q (M 14 1) M) ∧ ((x1 = 2) → q (M 14 0) M))) : zT g (z1 o) mX2_roundOf (zQi (z1 o) q) 0 [(0, zA g 14), (1, zI x1)] [] M := by
  refine zr_iload_n 1 dX2_roundOf_0 rfl ?_
  obtain ⟨c1, W⟩ := W
  refine zr_if_eq (tgt := 9) dX2_roundOf_1 (by decide) c1 (fun h => ?_) (fun h => ?_)
  · have W := W.1 h
    refine zr_aload_n 0 dX2_roundOf_9 rfl ?_
    refine zt_geti 0 rfl dX2_roundOf_10 fX2_33 rfl (by decide) ?_
    refine zr_goto (tgt := 20) dX2_roundOf_13 (by decide) ?_
    exact zt_iret dX2_roundOf_20 rfl W
  · have W := W.2 h
    refine zr_iload_n 1 dX2_roundOf_4 rfl ?_
    refine zr_iconst dX2_roundOf_5 ?_
    refine zr_icmp_ne (tgt := 16) dX2_roundOf_6 (by decide) c1 ⟨by decide, by decide⟩ (fun h => ?_) (fun h => ?_)
    · have W := W.1 h
      refine zr_aload_n 0 dX2_roundOf_16 rfl ?_
      refine zt_geti 1 rfl dX2_roundOf_17 fX2_37 rfl (by decide) ?_
      exact zt_iret dX2_roundOf_20 rfl W
    · have W := W.2 h
      refine zr_aload_n 0 dX2_roundOf_9 rfl ?_
      refine zt_geti 0 rfl dX2_roundOf_10 fX2_33 rfl (by decide) ?_
      refine zr_goto (tgt := 20) dX2_roundOf_13 (by decide) ?_
      exact zt_iret dX2_roundOf_20 rfl W
theorem dX2_windAt_0 : decode cX2_windAt 0 = .ok (.aload_n 0, 1) := by decide +kernel
theorem dX2_windAt_1 : decode cX2_windAt 1 = .ok (.getfield 49, 3) := by decide +kernel
theorem dX2_windAt_4 : decode cX2_windAt 4 = .ok (.ifCond .le 12, 3) := by decide +kernel
theorem dX2_windAt_7 : decode cX2_windAt 7 = .ok (.iload_n 1, 1) := by decide +kernel
theorem dX2_windAt_8 : decode cX2_windAt 8 = .ok (.aload_n 0, 1) := by decide +kernel
theorem dX2_windAt_9 : decode cX2_windAt 9 = .ok (.getfield 49, 3) := by decide +kernel
theorem dX2_windAt_12 : decode cX2_windAt 12 = .ok (.irem, 1) := by decide +kernel
theorem dX2_windAt_13 : decode cX2_windAt 13 = .ok (.goto 4, 3) := by decide +kernel
theorem dX2_windAt_16 : decode cX2_windAt 16 = .ok (.iconst 0, 1) := by decide +kernel
theorem dX2_windAt_17 : decode cX2_windAt 17 = .ok (.istore_n 2, 1) := by decide +kernel
theorem dX2_windAt_18 : decode cX2_windAt 18 = .ok (.iconst 0, 1) := by decide +kernel
theorem dX2_windAt_19 : decode cX2_windAt 19 = .ok (.istore_n 3, 1) := by decide +kernel
theorem dX2_windAt_20 : decode cX2_windAt 20 = .ok (.iload_n 3, 1) := by decide +kernel
theorem dX2_windAt_21 : decode cX2_windAt 21 = .ok (.aload_n 0, 1) := by decide +kernel
theorem dX2_windAt_22 : decode cX2_windAt 22 = .ok (.getfield 48, 3) := by decide +kernel
theorem dX2_windAt_25 : decode cX2_windAt 25 = .ok (.if_icmp .ge 35, 3) := by decide +kernel
theorem dX2_windAt_28 : decode cX2_windAt 28 = .ok (.iload_n 2, 1) := by decide +kernel
theorem dX2_windAt_29 : decode cX2_windAt 29 = .ok (.aload_n 0, 1) := by decide +kernel
theorem dX2_windAt_30 : decode cX2_windAt 30 = .ok (.getfield 24, 3) := by decide +kernel
theorem dX2_windAt_33 : decode cX2_windAt 33 = .ok (.iload_n 3, 1) := by decide +kernel
theorem dX2_windAt_34 : decode cX2_windAt 34 = .ok (.iaload, 1) := by decide +kernel
theorem dX2_windAt_35 : decode cX2_windAt 35 = .ok (.if_icmp .ge 10, 3) := by decide +kernel
theorem dX2_windAt_38 : decode cX2_windAt 38 = .ok (.aload_n 0, 1) := by decide +kernel
theorem dX2_windAt_39 : decode cX2_windAt 39 = .ok (.getfield 21, 3) := by decide +kernel
theorem dX2_windAt_42 : decode cX2_windAt 42 = .ok (.iload_n 3, 1) := by decide +kernel
theorem dX2_windAt_43 : decode cX2_windAt 43 = .ok (.iaload, 1) := by decide +kernel
theorem dX2_windAt_44 : decode cX2_windAt 44 = .ok (.ireturn, 1) := by decide +kernel
theorem dX2_windAt_45 : decode cX2_windAt 45 = .ok (.iload_n 2, 1) := by decide +kernel
theorem dX2_windAt_46 : decode cX2_windAt 46 = .ok (.aload_n 0, 1) := by decide +kernel
theorem dX2_windAt_47 : decode cX2_windAt 47 = .ok (.getfield 24, 3) := by decide +kernel
theorem dX2_windAt_50 : decode cX2_windAt 50 = .ok (.iload_n 3, 1) := by decide +kernel
theorem dX2_windAt_51 : decode cX2_windAt 51 = .ok (.iaload, 1) := by decide +kernel
theorem dX2_windAt_52 : decode cX2_windAt 52 = .ok (.isub, 1) := by decide +kernel
theorem dX2_windAt_53 : decode cX2_windAt 53 = .ok (.istore_n 2, 1) := by decide +kernel
theorem dX2_windAt_54 : decode cX2_windAt 54 = .ok (.iinc 3 1, 3) := by decide +kernel
theorem dX2_windAt_57 : decode cX2_windAt 57 = .ok (.goto (-37), 3) := by decide +kernel
theorem dX2_windAt_60 : decode cX2_windAt 60 = .ok (.iconst 0, 1) := by decide +kernel
theorem dX2_windAt_61 : decode cX2_windAt 61 = .ok (.ireturn, 1) := by decide +kernel
set_option maxRecDepth 100000 in
theorem SX2_windAt_0 {g : zG} {o : Bool} {M : zM} {q : Int → zM → Prop} {x1 : Int} (W : (-2147483648 ≤ (M 14 5) ∧ (M 14 5) ≤ 2147483647) ∧ (((M 14 5) ≤ 0) → zT g (z1 o) mX2_windAt (zQi (z1 o) q) 20 [(0, zA g 14), (2, zI 0), (3, zI 0)] [] M) ∧ ((¬ ((M 14 5) ≤ 0)) → (0 ≤ x1 ∧ x1 ≤ 2147483647) ∧ (0 < (M 14 5) ∧ (M 14 5) ≤ 2147483647) ∧ zT g (z1 o) mX2_windAt (zQi (z1 o) q) 20 [(0, zA g 14), (2, zI (x1 % (M 14 5))), (3, zI 0)] [] M)) : zT g (z1 o) mX2_windAt (zQi (z1 o) q) 0 [(0, zA g 14), (1, zI x1)] [] M := by
  refine zr_aload_n 0 dX2_windAt_0 rfl ?_
  refine zt_geti 5 rfl dX2_windAt_1 fX2_49 rfl (by decide) ?_
  obtain ⟨c1, W⟩ := W
  refine zr_if_le (tgt := 16) dX2_windAt_4 (by decide) c1 (fun h => ?_) (fun h => ?_)
  · have W := W.1 h
    refine zr_iconst dX2_windAt_16 ?_
    refine zr_istore_n (l' := [(0, zA g 14), (2, zI 0)]) dX2_windAt_17 (by decide) [1, 0] rfl ?_
    refine zr_iconst dX2_windAt_18 ?_
    refine zr_istore_n (l' := [(0, zA g 14), (2, zI 0), (3, zI 0)]) dX2_windAt_19 (by decide) [1, 2, 0] rfl ?_
    exact W
  · have W := W.2 h
    refine zr_iload_n 1 dX2_windAt_7 rfl ?_
    refine zr_aload_n 0 dX2_windAt_8 rfl ?_
    refine zt_geti 5 rfl dX2_windAt_9 fX2_49 rfl (by decide) ?_
    obtain ⟨c2, W⟩ := W
    obtain ⟨c3, W⟩ := W
    refine zr_irem dX2_windAt_12 c2 c3 ?_
    refine zr_goto (tgt := 17) dX2_windAt_13 (by decide) ?_
    refine zr_istore_n (l' := [(0, zA g 14), (2, zI (x1 % (M 14 5)))]) dX2_windAt_17 (by decide) [1, 0] rfl ?_
    refine zr_iconst dX2_windAt_18 ?_
    refine zr_istore_n (l' := [(0, zA g 14), (2, zI (x1 % (M 14 5))), (3, zI 0)]) dX2_windAt_19 (by decide) [1, 2, 0] rfl ?_
    exact W
set_option maxRecDepth 100000 in
theorem SX2_windAt_20 {g : zG} {o : Bool} {M : zM} {q : Int → zM → Prop} {x2 x3 : Int} (W : (-2147483648 ≤ x3 ∧ x3 ≤ 2147483647) ∧ (-2147483648 ≤ (M 14 4) ∧ (M 14 4) ≤ 2147483647) ∧ (((M 14 4) ≤ x3) → q 0 M) ∧ ((¬ ((M 14 4) ≤ x3)) → (0 ≤ x3 ∧ x3 < 8) ∧ (-2147483648 ≤ x2 ∧ x2 ≤ 2147483647) ∧ (-2147483648 ≤ (M 19 x3) ∧ (M 19 x3) ≤ 2147483647) ∧ (((M 19 x3) ≤ x2) → zT g (z1 o) mX2_windAt (zQi (z1 o) q) 20 [(0, zA g 14), (2, zI (x2 - (M 19 x3))), (3, zI (x3 + 1))] [] M) ∧ ((¬ ((M 19 x3) ≤ x2)) → q (M 18 x3) M))) : zT g (z1 o) mX2_windAt (zQi (z1 o) q) 20 [(0, zA g 14), (2, zI x2), (3, zI x3)] [] M := by
  refine zr_iload_n 2 dX2_windAt_20 rfl ?_
  refine zr_aload_n 0 dX2_windAt_21 rfl ?_
  refine zt_geti 4 rfl dX2_windAt_22 fX2_48 rfl (by decide) ?_
  obtain ⟨c1, W⟩ := W
  obtain ⟨c2, W⟩ := W
  refine zr_icmp_ge (tgt := 60) dX2_windAt_25 (by decide) c1 c2 (fun h => ?_) (fun h => ?_)
  · have W := W.1 h
    refine zr_iconst dX2_windAt_60 ?_
    exact zt_iret dX2_windAt_61 rfl W
  · have W := W.2 h
    refine zr_iload_n 1 dX2_windAt_28 rfl ?_
    refine zr_aload_n 0 dX2_windAt_29 rfl ?_
    refine zr_getr (b := 19) dX2_windAt_30 fX2_24 rfl rfl rfl (by decide) ?_
    refine zr_iload_n 2 dX2_windAt_33 rfl ?_
    obtain ⟨c3, W⟩ := W
    refine zr_iald dX2_windAt_34 rfl (by decide) c3 ?_
    obtain ⟨c4, W⟩ := W
    obtain ⟨c5, W⟩ := W
    refine zr_icmp_ge (tgt := 45) dX2_windAt_35 (by decide) c4 c5 (fun h => ?_) (fun h => ?_)
    · have W := W.1 h
      refine zr_iload_n 1 dX2_windAt_45 rfl ?_
      refine zr_aload_n 0 dX2_windAt_46 rfl ?_
      refine zr_getr (b := 19) dX2_windAt_47 fX2_24 rfl rfl rfl (by decide) ?_
      refine zr_iload_n 2 dX2_windAt_50 rfl ?_
      refine zr_iald dX2_windAt_51 rfl (by decide) c3 ?_
      refine zr_isub dX2_windAt_52 ?_
      refine zr_istore_n (l' := [(0, zA g 14), (2, zI (x2 - (M 19 x3))), (3, zI x3)]) dX2_windAt_53 (by decide) [1, 0, 2] rfl ?_
      refine zr_iinc (q := 2) (l' := [(0, zA g 14), (2, zI (x2 - (M 19 x3))), (3, zI (x3 + 1))]) dX2_windAt_54 rfl (by decide) [1, 2, 0] rfl ?_
      refine zr_goto (tgt := 20) dX2_windAt_57 (by decide) ?_
      exact W
    · have W := W.2 h
      refine zr_aload_n 0 dX2_windAt_38 rfl ?_
      refine zr_getr (b := 18) dX2_windAt_39 fX2_21 rfl rfl rfl (by decide) ?_
      refine zr_iload_n 2 dX2_windAt_42 rfl ?_
      refine zr_iald dX2_windAt_43 rfl (by decide) c3 ?_
      exact zt_iret dX2_windAt_44 rfl W
theorem dX2_moved_0 : decode cX2_moved 0 = .ok (.aload_n 0, 1) := by decide +kernel
theorem dX2_moved_1 : decode cX2_moved 1 = .ok (.getfield 9, 3) := by decide +kernel
theorem dX2_moved_4 : decode cX2_moved 4 = .ok (.iload_n 1, 1) := by decide +kernel
theorem dX2_moved_5 : decode cX2_moved 5 = .ok (.iaload, 1) := by decide +kernel
theorem dX2_moved_6 : decode cX2_moved 6 = .ok (.iload_n 2, 1) := by decide +kernel
theorem dX2_moved_7 : decode cX2_moved 7 = .ok (.iadd, 1) := by decide +kernel
theorem dX2_moved_8 : decode cX2_moved 8 = .ok (.istore 4, 2) := by decide +kernel
theorem dX2_moved_10 : decode cX2_moved 10 = .ok (.aload_n 0, 1) := by decide +kernel
theorem dX2_moved_11 : decode cX2_moved 11 = .ok (.getfield 15, 3) := by decide +kernel
theorem dX2_moved_14 : decode cX2_moved 14 = .ok (.iload_n 1, 1) := by decide +kernel
theorem dX2_moved_15 : decode cX2_moved 15 = .ok (.iaload, 1) := by decide +kernel
theorem dX2_moved_16 : decode cX2_moved 16 = .ok (.iload_n 3, 1) := by decide +kernel
theorem dX2_moved_17 : decode cX2_moved 17 = .ok (.iadd, 1) := by decide +kernel
theorem dX2_moved_18 : decode cX2_moved 18 = .ok (.istore 5, 2) := by decide +kernel
theorem dX2_moved_20 : decode cX2_moved 20 = .ok (.iload 5, 2) := by decide +kernel
theorem dX2_moved_22 : decode cX2_moved 22 = .ok (.aload_n 0, 1) := by decide +kernel
theorem dX2_moved_23 : decode cX2_moved 23 = .ok (.getfield 37, 3) := by decide +kernel
theorem dX2_moved_26 : decode cX2_moved 26 = .ok (.if_icmp .lt 13, 3) := by decide +kernel
theorem dX2_moved_29 : decode cX2_moved 29 = .ok (.iload 5, 2) := by decide +kernel
theorem dX2_moved_31 : decode cX2_moved 31 = .ok (.aload_n 0, 1) := by decide +kernel
theorem dX2_moved_32 : decode cX2_moved 32 = .ok (.getfield 37, 3) := by decide +kernel
theorem dX2_moved_35 : decode cX2_moved 35 = .ok (.isub, 1) := by decide +kernel
theorem dX2_moved_36 : decode cX2_moved 36 = .ok (.goto 5, 3) := by decide +kernel
theorem dX2_moved_39 : decode cX2_moved 39 = .ok (.iload 5, 2) := by decide +kernel
theorem dX2_moved_41 : decode cX2_moved 41 = .ok (.aload_n 0, 1) := by decide +kernel
theorem dX2_moved_42 : decode cX2_moved 42 = .ok (.getfield 33, 3) := by decide +kernel
theorem dX2_moved_45 : decode cX2_moved 45 = .ok (.imul, 1) := by decide +kernel
theorem dX2_moved_46 : decode cX2_moved 46 = .ok (.iload 4, 2) := by decide +kernel
theorem dX2_moved_48 : decode cX2_moved 48 = .ok (.aload_n 0, 1) := by decide +kernel
theorem dX2_moved_49 : decode cX2_moved 49 = .ok (.getfield 33, 3) := by decide +kernel
theorem dX2_moved_52 : decode cX2_moved 52 = .ok (.if_icmp .lt 13, 3) := by decide +kernel
theorem dX2_moved_55 : decode cX2_moved 55 = .ok (.iload 4, 2) := by decide +kernel
theorem dX2_moved_57 : decode cX2_moved 57 = .ok (.aload_n 0, 1) := by decide +kernel
theorem dX2_moved_58 : decode cX2_moved 58 = .ok (.getfield 33, 3) := by decide +kernel
theorem dX2_moved_61 : decode cX2_moved 61 = .ok (.isub, 1) := by decide +kernel
theorem dX2_moved_62 : decode cX2_moved 62 = .ok (.goto 5, 3) := by decide +kernel
theorem dX2_moved_65 : decode cX2_moved 65 = .ok (.iload 4, 2) := by decide +kernel
theorem dX2_moved_67 : decode cX2_moved 67 = .ok (.iadd, 1) := by decide +kernel
theorem dX2_moved_68 : decode cX2_moved 68 = .ok (.ireturn, 1) := by decide +kernel
set_option maxRecDepth 100000 in
theorem SX2_moved_0 {g : zG} {o : Bool} {M : zM} {q : Int → zM → Prop} {x1 x2 x3 : Int} (W : (0 ≤ x1 ∧ x1 < 96) ∧ (-2147483648 ≤ ((M 16 x1) + x3) ∧ ((M 16 x1) + x3) ≤ 2147483647) ∧ (-2147483648 ≤ (M 14 1) ∧ (M 14 1) ≤ 2147483647) ∧ ((((M 16 x1) + x3) < (M 14 1)) → (-2147483648 ≤ ((M 15 x1) + x2) ∧ ((M 15 x1) + x2) ≤ 2147483647) ∧ (-2147483648 ≤ (M 14 0) ∧ (M 14 0) ≤ 2147483647) ∧ ((((M 15 x1) + x2) < (M 14 0)) → q ((((M 16 x1) + x3) * (M 14 0)) + ((M 15 x1) + x2)) M) ∧ ((¬ (((M 15 x1) + x2) < (M 14 0))) → q ((((M 16 x1) + x3) * (M 14 0)) + (((M 15 x1) + x2) - (M 14 0))) M)) ∧ ((¬ (((M 16 x1) + x3) < (M 14 1))) → (-2147483648 ≤ ((M 15 x1) + x2) ∧ ((M 15 x1) + x2) ≤ 2147483647) ∧ (-2147483648 ≤ (M 14 0) ∧ (M 14 0) ≤ 2147483647) ∧ ((((M 15 x1) + x2) < (M 14 0)) → q (((((M 16 x1) + x3) - (M 14 1)) * (M 14 0)) + ((M 15 x1) + x2)) M) ∧ ((¬ (((M 15 x1) + x2) < (M 14 0))) → q (((((M 16 x1) + x3) - (M 14 1)) * (M 14 0)) + (((M 15 x1) + x2) - (M 14 0))) M))) : zT g (z1 o) mX2_moved (zQi (z1 o) q) 0 [(0, zA g 14), (1, zI x1), (2, zI x2), (3, zI x3)] [] M := by
  refine zr_aload_n 0 dX2_moved_0 rfl ?_
  refine zr_getr (b := 15) dX2_moved_1 fX2_9 rfl rfl rfl (by decide) ?_
  refine zr_iload_n 1 dX2_moved_4 rfl ?_
  obtain ⟨c1, W⟩ := W
  refine zr_iald dX2_moved_5 rfl (by decide) c1 ?_
  refine zr_iload_n 2 dX2_moved_6 rfl ?_
  refine zr_iadd dX2_moved_7 ?_
  refine zr_istore (l' := [(0, zA g 14), (1, zI x1), (3, zI x3), (4, zI ((M 15 x1) + x2))]) dX2_moved_8 (by decide) [1, 2, 4, 0] rfl ?_
  refine zr_aload_n 0 dX2_moved_10 rfl ?_
  refine zr_getr (b := 16) dX2_moved_11 fX2_15 rfl rfl rfl (by decide) ?_
  refine zr_iload_n 1 dX2_moved_14 rfl ?_
  refine zr_iald dX2_moved_15 rfl (by decide) c1 ?_
  refine zr_iload_n 2 dX2_moved_16 rfl ?_
  refine zr_iadd dX2_moved_17 ?_
  refine zr_istore (l' := [(0, zA g 14), (4, zI ((M 15 x1) + x2)), (5, zI ((M 16 x1) + x3))]) dX2_moved_18 (by decide) [1, 4, 0] rfl ?_
  refine zr_iload 2 dX2_moved_20 rfl ?_
  refine zr_aload_n 0 dX2_moved_22 rfl ?_
  refine zt_geti 1 rfl dX2_moved_23 fX2_37 rfl (by decide) ?_
  obtain ⟨c2, W⟩ := W
  obtain ⟨c3, W⟩ := W
  refine zr_icmp_lt (tgt := 39) dX2_moved_26 (by decide) c2 c3 (fun h => ?_) (fun h => ?_)
  · have W := W.1 h
    refine zr_iload 2 dX2_moved_39 rfl ?_
    refine zr_aload_n 0 dX2_moved_41 rfl ?_
    refine zt_geti 0 rfl dX2_moved_42 fX2_33 rfl (by decide) ?_
    refine zr_imul dX2_moved_45 ?_
    refine zr_iload 1 dX2_moved_46 rfl ?_
    refine zr_aload_n 0 dX2_moved_48 rfl ?_
    refine zt_geti 0 rfl dX2_moved_49 fX2_33 rfl (by decide) ?_
    obtain ⟨c4, W⟩ := W
    obtain ⟨c5, W⟩ := W
    refine zr_icmp_lt (tgt := 65) dX2_moved_52 (by decide) c4 c5 (fun h => ?_) (fun h => ?_)
    · have W := W.1 h
      refine zr_iload 1 dX2_moved_65 rfl ?_
      refine zr_iadd dX2_moved_67 ?_
      exact zt_iret dX2_moved_68 rfl W
    · have W := W.2 h
      refine zr_iload 1 dX2_moved_55 rfl ?_
      refine zr_aload_n 0 dX2_moved_57 rfl ?_
      refine zt_geti 0 rfl dX2_moved_58 fX2_33 rfl (by decide) ?_
      refine zr_isub dX2_moved_61 ?_
      refine zr_goto (tgt := 67) dX2_moved_62 (by decide) ?_
      refine zr_iadd dX2_moved_67 ?_
      exact zt_iret dX2_moved_68 rfl W
  · have W := W.2 h
    refine zr_iload 2 dX2_moved_29 rfl ?_
    refine zr_aload_n 0 dX2_moved_31 rfl ?_
    refine zt_geti 1 rfl dX2_moved_32 fX2_37 rfl (by decide) ?_
    refine zr_isub dX2_moved_35 ?_
    refine zr_goto (tgt := 41) dX2_moved_36 (by decide) ?_
    refine zr_aload_n 0 dX2_moved_41 rfl ?_
    refine zt_geti 0 rfl dX2_moved_42 fX2_33 rfl (by decide) ?_
    refine zr_imul dX2_moved_45 ?_
    refine zr_iload 1 dX2_moved_46 rfl ?_
    refine zr_aload_n 0 dX2_moved_48 rfl ?_
    refine zt_geti 0 rfl dX2_moved_49 fX2_33 rfl (by decide) ?_
    obtain ⟨c6, W⟩ := W
    obtain ⟨c7, W⟩ := W
    refine zr_icmp_lt (tgt := 65) dX2_moved_52 (by decide) c6 c7 (fun h => ?_) (fun h => ?_)
    · have W := W.1 h
      refine zr_iload 1 dX2_moved_65 rfl ?_
      refine zr_iadd dX2_moved_67 ?_
      exact zt_iret dX2_moved_68 rfl W
    · have W := W.2 h
      refine zr_iload 1 dX2_moved_55 rfl ?_
      refine zr_aload_n 0 dX2_moved_57 rfl ?_
      refine zt_geti 0 rfl dX2_moved_58 fX2_33 rfl (by decide) ?_
      refine zr_isub dX2_moved_61 ?_
      refine zr_goto (tgt := 67) dX2_moved_62 (by decide) ?_
      refine zr_iadd dX2_moved_67 ?_
      exact zt_iret dX2_moved_68 rfl W
theorem dX5_slabs_0 : decode cX5_slabs 0 = .ok (.iconst 0, 1) := by decide +kernel
theorem dX5_slabs_1 : decode cX5_slabs 1 = .ok (.istore_n 1, 1) := by decide +kernel
theorem dX5_slabs_2 : decode cX5_slabs 2 = .ok (.iconst 0, 1) := by decide +kernel
theorem dX5_slabs_3 : decode cX5_slabs 3 = .ok (.istore_n 2, 1) := by decide +kernel
theorem dX5_slabs_4 : decode cX5_slabs 4 = .ok (.iload_n 2, 1) := by decide +kernel
theorem dX5_slabs_5 : decode cX5_slabs 5 = .ok (.bipush 96, 2) := by decide +kernel
theorem dX5_slabs_7 : decode cX5_slabs 7 = .ok (.if_icmp .ge 18, 3) := by decide +kernel
theorem dX5_slabs_10 : decode cX5_slabs 10 = .ok (.iload_n 1, 1) := by decide +kernel
theorem dX5_slabs_11 : decode cX5_slabs 11 = .ok (.aload_n 0, 1) := by decide +kernel
theorem dX5_slabs_12 : decode cX5_slabs 12 = .ok (.getfield 9, 3) := by decide +kernel
theorem dX5_slabs_15 : decode cX5_slabs 15 = .ok (.iload_n 2, 1) := by decide +kernel
theorem dX5_slabs_16 : decode cX5_slabs 16 = .ok (.iaload, 1) := by decide +kernel
theorem dX5_slabs_17 : decode cX5_slabs 17 = .ok (.iadd, 1) := by decide +kernel
theorem dX5_slabs_18 : decode cX5_slabs 18 = .ok (.istore_n 1, 1) := by decide +kernel
theorem dX5_slabs_19 : decode cX5_slabs 19 = .ok (.iinc 2 1, 3) := by decide +kernel
theorem dX5_slabs_22 : decode cX5_slabs 22 = .ok (.goto (-18), 3) := by decide +kernel
theorem dX5_slabs_25 : decode cX5_slabs 25 = .ok (.iload_n 1, 1) := by decide +kernel
theorem dX5_slabs_26 : decode cX5_slabs 26 = .ok (.ireturn, 1) := by decide +kernel
set_option maxRecDepth 100000 in
theorem SX5_slabs_0 {g : zG} {o : Bool} {s : Nat} (hs : zSd s) {M : zM} {q : Int → zM → Prop} (W : zT g (z1 o) mX5_slabs (zQi (z1 o) q) 4 [(0, zA g s), (1, zI 0), (2, zI 0)] [] M) : zT g (z1 o) mX5_slabs (zQi (z1 o) q) 0 [(0, zA g s)] [] M := by
  refine zr_iconst dX5_slabs_0 ?_
  refine zr_istore_n (l' := [(0, zA g s), (1, zI 0)]) dX5_slabs_1 (by decide) [1, 0] rfl ?_
  refine zr_iconst dX5_slabs_2 ?_
  refine zr_istore_n (l' := [(0, zA g s), (1, zI 0), (2, zI 0)]) dX5_slabs_3 (by decide) [1, 2, 0] rfl ?_
  exact W
set_option maxRecDepth 100000 in
theorem SX5_slabs_4 {g : zG} {o : Bool} {s : Nat} (hs : zSd s) {M : zM} {q : Int → zM → Prop} {x1 x2 : Int} (W : (-2147483648 ≤ x2 ∧ x2 ≤ 2147483647) ∧ ((96 ≤ x2) → q x1 M) ∧ ((¬ (96 ≤ x2)) → (0 ≤ x2 ∧ x2 < 96) ∧ zT g (z1 o) mX5_slabs (zQi (z1 o) q) 4 [(0, zA g s), (1, zI (x1 + (M (s + 1) x2))), (2, zI (x2 + 1))] [] M)) : zT g (z1 o) mX5_slabs (zQi (z1 o) q) 4 [(0, zA g s), (1, zI x1), (2, zI x2)] [] M := by
  refine zr_iload_n 2 dX5_slabs_4 rfl ?_
  refine zr_bipush dX5_slabs_5 (by decide) ?_
  obtain ⟨c1, W⟩ := W
  refine zr_icmp_ge (tgt := 25) dX5_slabs_7 (by decide) c1 ⟨by decide, by decide⟩ (fun h => ?_) (fun h => ?_)
  · have W := W.1 h
    refine zr_iload_n 1 dX5_slabs_25 rfl ?_
    exact zt_iret dX5_slabs_26 rfl W
  · have W := W.2 h
    refine zr_iload_n 1 dX5_slabs_10 rfl ?_
    refine zr_aload_n 0 dX5_slabs_11 rfl ?_
    refine zr_getr (b := (s + 1)) dX5_slabs_12 fX5_9 (zsd_0 hs) rfl (zsd_f0 hs) (Nat.succ_ne_zero _) ?_
    refine zr_iload_n 2 dX5_slabs_15 rfl ?_
    obtain ⟨c2, W⟩ := W
    refine zr_iald dX5_slabs_16 (zsd_1 hs) (by decide) c2 ?_
    refine zr_iadd dX5_slabs_17 ?_
    refine zr_istore_n (l' := [(0, zA g s), (1, zI (x1 + (M (s + 1) x2))), (2, zI x2)]) dX5_slabs_18 (by decide) [1, 0, 2] rfl ?_
    refine zr_iinc (q := 2) (l' := [(0, zA g s), (1, zI (x1 + (M (s + 1) x2))), (2, zI (x2 + 1))]) dX5_slabs_19 rfl (by decide) [1, 2, 0] rfl ?_
    refine zr_goto (tgt := 4) dX5_slabs_22 (by decide) ?_
    exact W
theorem dX5_highest_0 : decode cX5_highest 0 = .ok (.iconst 0, 1) := by decide +kernel
theorem dX5_highest_1 : decode cX5_highest 1 = .ok (.istore_n 1, 1) := by decide +kernel
theorem dX5_highest_2 : decode cX5_highest 2 = .ok (.iconst 0, 1) := by decide +kernel
theorem dX5_highest_3 : decode cX5_highest 3 = .ok (.istore_n 2, 1) := by decide +kernel
theorem dX5_highest_4 : decode cX5_highest 4 = .ok (.iload_n 2, 1) := by decide +kernel
theorem dX5_highest_5 : decode cX5_highest 5 = .ok (.bipush 96, 2) := by decide +kernel
theorem dX5_highest_7 : decode cX5_highest 7 = .ok (.if_icmp .ge 20, 3) := by decide +kernel
theorem dX5_highest_10 : decode cX5_highest 10 = .ok (.iload_n 1, 1) := by decide +kernel
theorem dX5_highest_11 : decode cX5_highest 11 = .ok (.aload_n 0, 1) := by decide +kernel
theorem dX5_highest_12 : decode cX5_highest 12 = .ok (.getfield 9, 3) := by decide +kernel
theorem dX5_highest_15 : decode cX5_highest 15 = .ok (.iload_n 2, 1) := by decide +kernel
theorem dX5_highest_16 : decode cX5_highest 16 = .ok (.iaload, 1) := by decide +kernel
theorem dX5_highest_17 : decode cX5_highest 17 = .ok (.invokestatic 51, 3) := by decide +kernel
theorem dX5_highest_20 : decode cX5_highest 20 = .ok (.istore_n 1, 1) := by decide +kernel
theorem dX5_highest_21 : decode cX5_highest 21 = .ok (.iinc 2 1, 3) := by decide +kernel
theorem dX5_highest_24 : decode cX5_highest 24 = .ok (.goto (-20), 3) := by decide +kernel
theorem dX5_highest_27 : decode cX5_highest 27 = .ok (.iload_n 1, 1) := by decide +kernel
theorem dX5_highest_28 : decode cX5_highest 28 = .ok (.ireturn, 1) := by decide +kernel
set_option maxRecDepth 100000 in
theorem SX5_highest_0 {g : zG} {o : Bool} {s : Nat} (hs : zSd s) {M : zM} {q : Int → zM → Prop} (W : zT g (z1 o) mX5_highest (zQi (z1 o) q) 4 [(0, zA g s), (1, zI 0), (2, zI 0)] [] M) : zT g (z1 o) mX5_highest (zQi (z1 o) q) 0 [(0, zA g s)] [] M := by
  refine zr_iconst dX5_highest_0 ?_
  refine zr_istore_n (l' := [(0, zA g s), (1, zI 0)]) dX5_highest_1 (by decide) [1, 0] rfl ?_
  refine zr_iconst dX5_highest_2 ?_
  refine zr_istore_n (l' := [(0, zA g s), (1, zI 0), (2, zI 0)]) dX5_highest_3 (by decide) [1, 2, 0] rfl ?_
  exact W
set_option maxRecDepth 100000 in
theorem SX5_highest_4 {g : zG} {o : Bool} {s : Nat} (hs : zSd s) {M : zM} {q : Int → zM → Prop} {x1 x2 : Int} (W : (-2147483648 ≤ x2 ∧ x2 ≤ 2147483647) ∧ ((96 ≤ x2) → q x1 M) ∧ ((¬ (96 ≤ x2)) → (0 ≤ x2 ∧ x2 < 96) ∧ (-2147483648 ≤ x1 ∧ x1 ≤ 2147483647) ∧ (-2147483648 ≤ (M (s + 1) x2) ∧ (M (s + 1) x2) ≤ 2147483647) ∧ zT g (z1 o) mX5_highest (zQi (z1 o) q) 4 [(0, zA g s), (1, zI (max x1 (M (s + 1) x2))), (2, zI (x2 + 1))] [] M)) : zT g (z1 o) mX5_highest (zQi (z1 o) q) 4 [(0, zA g s), (1, zI x1), (2, zI x2)] [] M := by
  refine zr_iload_n 2 dX5_highest_4 rfl ?_
  refine zr_bipush dX5_highest_5 (by decide) ?_
  obtain ⟨c1, W⟩ := W
  refine zr_icmp_ge (tgt := 27) dX5_highest_7 (by decide) c1 ⟨by decide, by decide⟩ (fun h => ?_) (fun h => ?_)
  · have W := W.1 h
    refine zr_iload_n 1 dX5_highest_27 rfl ?_
    exact zt_iret dX5_highest_28 rfl W
  · have W := W.2 h
    refine zr_iload_n 1 dX5_highest_10 rfl ?_
    refine zr_aload_n 0 dX5_highest_11 rfl ?_
    refine zr_getr (b := (s + 1)) dX5_highest_12 fX5_9 (zsd_0 hs) rfl (zsd_f0 hs) (Nat.succ_ne_zero _) ?_
    refine zr_iload_n 2 dX5_highest_15 rfl ?_
    obtain ⟨c2, W⟩ := W
    refine zr_iald dX5_highest_16 (zsd_1 hs) (by decide) c2 ?_
    obtain ⟨c3, W⟩ := W
    obtain ⟨c4, W⟩ := W
    refine zr_max dX5_highest_17 kX5_highest_51 c3 c4 (Nat.le_of_ble_eq_true rfl) ⟨Nat.le_refl _, Nat.le_refl _⟩ ?_
    refine zr_istore_n (l' := [(0, zA g s), (1, zI (max x1 (M (s + 1) x2))), (2, zI x2)]) dX5_highest_20 (by decide) [1, 0, 2] rfl ?_
    refine zr_iinc (q := 2) (l' := [(0, zA g s), (1, zI (max x1 (M (s + 1) x2))), (2, zI (x2 + 1))]) dX5_highest_21 rfl (by decide) [1, 2, 0] rfl ?_
    refine zr_goto (tgt := 4) dX5_highest_24 (by decide) ?_
    exact W
theorem dX5_bareCells_0 : decode cX5_bareCells 0 = .ok (.iconst 0, 1) := by decide +kernel
theorem dX5_bareCells_1 : decode cX5_bareCells 1 = .ok (.istore_n 2, 1) := by decide +kernel
theorem dX5_bareCells_2 : decode cX5_bareCells 2 = .ok (.iconst 0, 1) := by decide +kernel
theorem dX5_bareCells_3 : decode cX5_bareCells 3 = .ok (.istore_n 3, 1) := by decide +kernel
theorem dX5_bareCells_4 : decode cX5_bareCells 4 = .ok (.iload_n 3, 1) := by decide +kernel
theorem dX5_bareCells_5 : decode cX5_bareCells 5 = .ok (.iload_n 1, 1) := by decide +kernel
theorem dX5_bareCells_6 : decode cX5_bareCells 6 = .ok (.if_icmp .ge 21, 3) := by decide +kernel
theorem dX5_bareCells_9 : decode cX5_bareCells 9 = .ok (.aload_n 0, 1) := by decide +kernel
theorem dX5_bareCells_10 : decode cX5_bareCells 10 = .ok (.getfield 9, 3) := by decide +kernel
theorem dX5_bareCells_13 : decode cX5_bareCells 13 = .ok (.iload_n 3, 1) := by decide +kernel
theorem dX5_bareCells_14 : decode cX5_bareCells 14 = .ok (.iaload, 1) := by decide +kernel
theorem dX5_bareCells_15 : decode cX5_bareCells 15 = .ok (.ifCond .ne 6, 3) := by decide +kernel
theorem dX5_bareCells_18 : decode cX5_bareCells 18 = .ok (.iinc 2 1, 3) := by decide +kernel
theorem dX5_bareCells_21 : decode cX5_bareCells 21 = .ok (.iinc 3 1, 3) := by decide +kernel
theorem dX5_bareCells_24 : decode cX5_bareCells 24 = .ok (.goto (-20), 3) := by decide +kernel
theorem dX5_bareCells_27 : decode cX5_bareCells 27 = .ok (.iload_n 2, 1) := by decide +kernel
theorem dX5_bareCells_28 : decode cX5_bareCells 28 = .ok (.ireturn, 1) := by decide +kernel
set_option maxRecDepth 100000 in
theorem SX5_bareCells_0 {g : zG} {o : Bool} {s : Nat} (hs : zSd s) {M : zM} {q : Int → zM → Prop} {x1 : Int} (W : zT g (z1 o) mX5_bareCells (zQi (z1 o) q) 4 [(0, zA g s), (1, zI x1), (2, zI 0), (3, zI 0)] [] M) : zT g (z1 o) mX5_bareCells (zQi (z1 o) q) 0 [(0, zA g s), (1, zI x1)] [] M := by
  refine zr_iconst dX5_bareCells_0 ?_
  refine zr_istore_n (l' := [(0, zA g s), (1, zI x1), (2, zI 0)]) dX5_bareCells_1 (by decide) [1, 2, 0] rfl ?_
  refine zr_iconst dX5_bareCells_2 ?_
  refine zr_istore_n (l' := [(0, zA g s), (1, zI x1), (2, zI 0), (3, zI 0)]) dX5_bareCells_3 (by decide) [1, 2, 3, 0] rfl ?_
  exact W
set_option maxRecDepth 100000 in
theorem SX5_bareCells_4 {g : zG} {o : Bool} {s : Nat} (hs : zSd s) {M : zM} {q : Int → zM → Prop} {x1 x2 x3 : Int} (W : (-2147483648 ≤ x3 ∧ x3 ≤ 2147483647) ∧ (-2147483648 ≤ x1 ∧ x1 ≤ 2147483647) ∧ ((x1 ≤ x3) → q x2 M) ∧ ((¬ (x1 ≤ x3)) → (0 ≤ x3 ∧ x3 < 96) ∧ (-2147483648 ≤ (M (s + 1) x3) ∧ (M (s + 1) x3) ≤ 2147483647) ∧ (((M (s + 1) x3) ≠ 0) → zT g (z1 o) mX5_bareCells (zQi (z1 o) q) 4 [(0, zA g s), (1, zI x1), (2, zI x2), (3, zI (x3 + 1))] [] M) ∧ (((M (s + 1) x3) = 0) → zT g (z1 o) mX5_bareCells (zQi (z1 o) q) 4 [(0, zA g s), (1, zI x1), (2, zI (x2 + 1)), (3, zI (x3 + 1))] [] M))) : zT g (z1 o) mX5_bareCells (zQi (z1 o) q) 4 [(0, zA g s), (1, zI x1), (2, zI x2), (3, zI x3)] [] M := by
  refine zr_iload_n 3 dX5_bareCells_4 rfl ?_
  refine zr_iload_n 1 dX5_bareCells_5 rfl ?_
  obtain ⟨c1, W⟩ := W
  obtain ⟨c2, W⟩ := W
  refine zr_icmp_ge (tgt := 27) dX5_bareCells_6 (by decide) c1 c2 (fun h => ?_) (fun h => ?_)
  · have W := W.1 h
    refine zr_iload_n 2 dX5_bareCells_27 rfl ?_
    exact zt_iret dX5_bareCells_28 rfl W
  · have W := W.2 h
    refine zr_aload_n 0 dX5_bareCells_9 rfl ?_
    refine zr_getr (b := (s + 1)) dX5_bareCells_10 fX5_9 (zsd_0 hs) rfl (zsd_f0 hs) (Nat.succ_ne_zero _) ?_
    refine zr_iload_n 3 dX5_bareCells_13 rfl ?_
    obtain ⟨c3, W⟩ := W
    refine zr_iald dX5_bareCells_14 (zsd_1 hs) (by decide) c3 ?_
    obtain ⟨c4, W⟩ := W
    refine zr_if_ne (tgt := 21) dX5_bareCells_15 (by decide) c4 (fun h => ?_) (fun h => ?_)
    · have W := W.1 h
      refine zr_iinc (q := 3) (l' := [(0, zA g s), (1, zI x1), (2, zI x2), (3, zI (x3 + 1))]) dX5_bareCells_21 rfl (by decide) [1, 2, 3, 0] rfl ?_
      refine zr_goto (tgt := 4) dX5_bareCells_24 (by decide) ?_
      exact W
    · have W := W.2 h
      refine zr_iinc (q := 2) (l' := [(0, zA g s), (1, zI x1), (2, zI (x2 + 1)), (3, zI x3)]) dX5_bareCells_18 rfl (by decide) [1, 2, 0, 3] rfl ?_
      refine zr_iinc (q := 3) (l' := [(0, zA g s), (1, zI x1), (2, zI (x2 + 1)), (3, zI (x3 + 1))]) dX5_bareCells_21 rfl (by decide) [1, 2, 3, 0] rfl ?_
      refine zr_goto (tgt := 4) dX5_bareCells_24 (by decide) ?_
      exact W
theorem dX5_stickAt_0 : decode cX5_stickAt 0 = .ok (.aload_n 0, 1) := by decide +kernel
theorem dX5_stickAt_1 : decode cX5_stickAt 1 = .ok (.getfield 18, 3) := by decide +kernel
theorem dX5_stickAt_4 : decode cX5_stickAt 4 = .ok (.aload_n 0, 1) := by decide +kernel
theorem dX5_stickAt_5 : decode cX5_stickAt 5 = .ok (.getfield 9, 3) := by decide +kernel
theorem dX5_stickAt_8 : decode cX5_stickAt 8 = .ok (.iload_n 1, 1) := by decide +kernel
theorem dX5_stickAt_9 : decode cX5_stickAt 9 = .ok (.iaload, 1) := by decide +kernel
theorem dX5_stickAt_10 : decode cX5_stickAt 10 = .ok (.ifCond .le 7, 3) := by decide +kernel
theorem dX5_stickAt_13 : decode cX5_stickAt 13 = .ok (.iconst 2, 1) := by decide +kernel
theorem dX5_stickAt_14 : decode cX5_stickAt 14 = .ok (.goto 4, 3) := by decide +kernel
theorem dX5_stickAt_17 : decode cX5_stickAt 17 = .ok (.iconst 3, 1) := by decide +kernel
theorem dX5_stickAt_18 : decode cX5_stickAt 18 = .ok (.iaload, 1) := by decide +kernel
theorem dX5_stickAt_19 : decode cX5_stickAt 19 = .ok (.ireturn, 1) := by decide +kernel
set_option maxRecDepth 100000 in
theorem SX5_stickAt_0 {g : zG} {o : Bool} {s : Nat} (hs : zSd s) {M : zM} {q : Int → zM → Prop} {x1 : Int} (W : (0 ≤ x1 ∧ x1 < 96) ∧ (-2147483648 ≤ (M (s + 1) x1) ∧ (M (s + 1) x1) ≤ 2147483647) ∧ (((M (s + 1) x1) ≤ 0) → q (M (s + 3) 3) M) ∧ ((¬ ((M (s + 1) x1) ≤ 0)) → q (M (s + 3) 2) M)) : zT g (z1 o) mX5_stickAt (zQi (z1 o) q) 0 [(0, zA g s), (1, zI x1)] [] M := by
  refine zr_aload_n 0 dX5_stickAt_0 rfl ?_
  refine zr_getr (b := (s + 3)) dX5_stickAt_1 fX5_18 (zsd_0 hs) rfl (zsd_f2 hs) (Nat.succ_ne_zero _) ?_
  refine zr_aload_n 0 dX5_stickAt_4 rfl ?_
  refine zr_getr (b := (s + 1)) dX5_stickAt_5 fX5_9 (zsd_0 hs) rfl (zsd_f0 hs) (Nat.succ_ne_zero _) ?_
  refine zr_iload_n 1 dX5_stickAt_8 rfl ?_
  obtain ⟨c1, W⟩ := W
  refine zr_iald dX5_stickAt_9 (zsd_1 hs) (by decide) c1 ?_
  obtain ⟨c2, W⟩ := W
  refine zr_if_le (tgt := 17) dX5_stickAt_10 (by decide) c2 (fun h => ?_) (fun h => ?_)
  · have W := W.1 h
    refine zr_iconst dX5_stickAt_17 ?_
    refine zr_iald dX5_stickAt_18 (zsd_3 hs) (by decide) ⟨by decide, by decide⟩ ?_
    exact zt_iret dX5_stickAt_19 rfl W
  · have W := W.2 h
    refine zr_iconst dX5_stickAt_13 ?_
    refine zr_goto (tgt := 18) dX5_stickAt_14 (by decide) ?_
    refine zr_iald dX5_stickAt_18 (zsd_3 hs) (by decide) ⟨by decide, by decide⟩ ?_
    exact zt_iret dX5_stickAt_19 rfl W
theorem dX5_drawOf_0 : decode cX5_drawOf 0 = .ok (.aload_n 0, 1) := by decide +kernel
theorem dX5_drawOf_1 : decode cX5_drawOf 1 = .ok (.aload_n 0, 1) := by decide +kernel
theorem dX5_drawOf_2 : decode cX5_drawOf 2 = .ok (.getfield 47, 3) := by decide +kernel
theorem dX5_drawOf_5 : decode cX5_drawOf 5 = .ok (.sipush 137, 3) := by decide +kernel
theorem dX5_drawOf_8 : decode cX5_drawOf 8 = .ok (.imul, 1) := by decide +kernel
theorem dX5_drawOf_9 : decode cX5_drawOf 9 = .ok (.bipush 71, 2) := by decide +kernel
theorem dX5_drawOf_11 : decode cX5_drawOf 11 = .ok (.iadd, 1) := by decide +kernel
theorem dX5_drawOf_12 : decode cX5_drawOf 12 = .ok (.sipush 10007, 3) := by decide +kernel
theorem dX5_drawOf_15 : decode cX5_drawOf 15 = .ok (.irem, 1) := by decide +kernel
theorem dX5_drawOf_16 : decode cX5_drawOf 16 = .ok (.putfield 47, 3) := by decide +kernel
theorem dX5_drawOf_19 : decode cX5_drawOf 19 = .ok (.iload_n 1, 1) := by decide +kernel
theorem dX5_drawOf_20 : decode cX5_drawOf 20 = .ok (.ifCond .le 12, 3) := by decide +kernel
theorem dX5_drawOf_23 : decode cX5_drawOf 23 = .ok (.aload_n 0, 1) := by decide +kernel
theorem dX5_drawOf_24 : decode cX5_drawOf 24 = .ok (.getfield 47, 3) := by decide +kernel
theorem dX5_drawOf_27 : decode cX5_drawOf 27 = .ok (.iload_n 1, 1) := by decide +kernel
theorem dX5_drawOf_28 : decode cX5_drawOf 28 = .ok (.irem, 1) := by decide +kernel
theorem dX5_drawOf_29 : decode cX5_drawOf 29 = .ok (.goto 4, 3) := by decide +kernel
theorem dX5_drawOf_32 : decode cX5_drawOf 32 = .ok (.iconst 0, 1) := by decide +kernel
theorem dX5_drawOf_33 : decode cX5_drawOf 33 = .ok (.ireturn, 1) := by decide +kernel
set_option maxRecDepth 100000 in
theorem SX5_drawOf_0 {g : zG} {o : Bool} {s : Nat} (hs : zSd s) {M : zM} {q : Int → zM → Prop} {x1 : Int} (W : (0 ≤ (((M s 3) * 137) + 71) ∧ (((M s 3) * 137) + 71) ≤ 2147483647) ∧ (-2147483648 ≤ x1 ∧ x1 ≤ 2147483647) ∧ ((x1 ≤ 0) → q 0 (zu M s 3 ((((M s 3) * 137) + 71) % 10007))) ∧ ((¬ (x1 ≤ 0)) → (0 ≤ ((zu M s 3 ((((M s 3) * 137) + 71) % 10007)) s 3) ∧ ((zu M s 3 ((((M s 3) * 137) + 71) % 10007)) s 3) ≤ 2147483647) ∧ (0 < x1 ∧ x1 ≤ 2147483647) ∧ q (((zu M s 3 ((((M s 3) * 137) + 71) % 10007)) s 3) % x1) (zu M s 3 ((((M s 3) * 137) + 71) % 10007)))) : zT g (z1 o) mX5_drawOf (zQi (z1 o) q) 0 [(0, zA g s), (1, zI x1)] [] M := by
  refine zr_aload_n 0 dX5_drawOf_0 rfl ?_
  refine zr_aload_n 0 dX5_drawOf_1 rfl ?_
  refine zt_geti 3 rfl dX5_drawOf_2 fX5_47 (zsd_0 hs) (by decide) ?_
  refine zr_sipush dX5_drawOf_5 (by decide) ?_
  refine zr_imul dX5_drawOf_8 ?_
  refine zr_bipush dX5_drawOf_9 (by decide) ?_
  refine zr_iadd dX5_drawOf_11 ?_
  refine zr_sipush dX5_drawOf_12 (by decide) ?_
  obtain ⟨c1, W⟩ := W
  refine zr_irem dX5_drawOf_15 c1 ⟨by decide, by decide⟩ ?_
  refine zt_puti 3 rfl dX5_drawOf_16 fX5_47 lcX5 ltX5_3 rfl (zsd_0 hs) ?_
  refine zr_iload_n 1 dX5_drawOf_19 rfl ?_
  obtain ⟨c2, W⟩ := W
  refine zr_if_le (tgt := 32) dX5_drawOf_20 (by decide) c2 (fun h => ?_) (fun h => ?_)
  · have W := W.1 h
    refine zr_iconst dX5_drawOf_32 ?_
    exact zt_iret dX5_drawOf_33 rfl W
  · have W := W.2 h
    refine zr_aload_n 0 dX5_drawOf_23 rfl ?_
    refine zt_geti 3 rfl dX5_drawOf_24 fX5_47 (zsd_0 hs) (by decide) ?_
    refine zr_iload_n 1 dX5_drawOf_27 rfl ?_
    obtain ⟨c3, W⟩ := W
    obtain ⟨c4, W⟩ := W
    refine zr_irem dX5_drawOf_28 c3 c4 ?_
    refine zr_goto (tgt := 33) dX5_drawOf_29 (by decide) ?_
    exact zt_iret dX5_drawOf_33 rfl W
theorem dX5_copy_0 : decode cX5_copy 0 = .ok (.aload_n 1, 1) := by decide +kernel
theorem dX5_copy_1 : decode cX5_copy 1 = .ok (.getfield 9, 3) := by decide +kernel
theorem dX5_copy_4 : decode cX5_copy 4 = .ok (.iconst 0, 1) := by decide +kernel
theorem dX5_copy_5 : decode cX5_copy 5 = .ok (.aload_n 0, 1) := by decide +kernel
theorem dX5_copy_6 : decode cX5_copy 6 = .ok (.getfield 9, 3) := by decide +kernel
theorem dX5_copy_9 : decode cX5_copy 9 = .ok (.iconst 0, 1) := by decide +kernel
theorem dX5_copy_10 : decode cX5_copy 10 = .ok (.bipush 96, 2) := by decide +kernel
theorem dX5_copy_12 : decode cX5_copy 12 = .ok (.invokestatic 37, 3) := by decide +kernel
theorem dX5_copy_15 : decode cX5_copy 15 = .ok (.aload_n 1, 1) := by decide +kernel
theorem dX5_copy_16 : decode cX5_copy 16 = .ok (.getfield 15, 3) := by decide +kernel
theorem dX5_copy_19 : decode cX5_copy 19 = .ok (.iconst 0, 1) := by decide +kernel
theorem dX5_copy_20 : decode cX5_copy 20 = .ok (.aload_n 0, 1) := by decide +kernel
theorem dX5_copy_21 : decode cX5_copy 21 = .ok (.getfield 15, 3) := by decide +kernel
theorem dX5_copy_24 : decode cX5_copy 24 = .ok (.iconst 0, 1) := by decide +kernel
theorem dX5_copy_25 : decode cX5_copy 25 = .ok (.bipush 96, 2) := by decide +kernel
theorem dX5_copy_27 : decode cX5_copy 27 = .ok (.invokestatic 37, 3) := by decide +kernel
theorem dX5_copy_30 : decode cX5_copy 30 = .ok (.aload_n 1, 1) := by decide +kernel
theorem dX5_copy_31 : decode cX5_copy 31 = .ok (.getfield 18, 3) := by decide +kernel
theorem dX5_copy_34 : decode cX5_copy 34 = .ok (.iconst 0, 1) := by decide +kernel
theorem dX5_copy_35 : decode cX5_copy 35 = .ok (.aload_n 0, 1) := by decide +kernel
theorem dX5_copy_36 : decode cX5_copy 36 = .ok (.getfield 18, 3) := by decide +kernel
theorem dX5_copy_39 : decode cX5_copy 39 = .ok (.iconst 0, 1) := by decide +kernel
theorem dX5_copy_40 : decode cX5_copy 40 = .ok (.iconst 4, 1) := by decide +kernel
theorem dX5_copy_41 : decode cX5_copy 41 = .ok (.invokestatic 37, 3) := by decide +kernel
theorem dX5_copy_44 : decode cX5_copy 44 = .ok (.aload_n 0, 1) := by decide +kernel
theorem dX5_copy_45 : decode cX5_copy 45 = .ok (.aload_n 1, 1) := by decide +kernel
theorem dX5_copy_46 : decode cX5_copy 46 = .ok (.getfield 47, 3) := by decide +kernel
theorem dX5_copy_49 : decode cX5_copy 49 = .ok (.putfield 47, 3) := by decide +kernel
theorem dX5_copy_52 : decode cX5_copy 52 = .ok (.aload_n 0, 1) := by decide +kernel
theorem dX5_copy_53 : decode cX5_copy 53 = .ok (.aload_n 1, 1) := by decide +kernel
theorem dX5_copy_54 : decode cX5_copy 54 = .ok (.getfield 48, 3) := by decide +kernel
theorem dX5_copy_57 : decode cX5_copy 57 = .ok (.putfield 48, 3) := by decide +kernel
theorem dX5_copy_60 : decode cX5_copy 60 = .ok (.return_, 1) := by decide +kernel
set_option maxRecDepth 100000 in
theorem SX5_copy_0 {g : zG} {o : Bool} {s : Nat} (hs : zSd s) {t : Nat} (ht : zSd t) {M : zM} {q : zM → Prop} (W : ∀ N1 : zM, N1 = zrw M (s + 1) (zcpy (M (t + 1)) (M (s + 1)) 0 0 96) → ∀ N3 : zM, N3 = zrw N1 (s + 2) (zcpy (N1 (t + 2)) (N1 (s + 2)) 0 0 96) → ∀ N5 : zM, N5 = zrw N3 (s + 3) (zcpy (N3 (t + 3)) (N3 (s + 3)) 0 0 4) → ∀ N7 : zM, N7 = zu N5 s 3 (N5 t 3) → q (zu N7 s 4 (N7 t 4))) : zT g (z1 o) mX5_copy (zQv (z1 o) q) 0 [(0, zA g s), (1, zA g t)] [] M := by
  refine zr_aload_n 1 dX5_copy_0 rfl ?_
  refine zr_getr (b := (t + 1)) dX5_copy_1 fX5_9 (zsd_0 ht) rfl (zsd_f0 ht) (Nat.succ_ne_zero _) ?_
  refine zr_iconst dX5_copy_4 ?_
  refine zr_aload_n 0 dX5_copy_5 rfl ?_
  refine zr_getr (b := (s + 1)) dX5_copy_6 fX5_9 (zsd_0 hs) rfl (zsd_f0 hs) (Nat.succ_ne_zero _) ?_
  refine zr_iconst dX5_copy_9 ?_
  refine zr_bipush dX5_copy_10 (by decide) ?_
  refine zr_copy dX5_copy_12 kX5_copy_37 (zsd_1 ht) (zsd_1 hs) (by decide) (by decide) (by decide) (by decide) (by decide) ⟨by decide, by decide⟩ (Nat.le_of_ble_eq_true rfl) ?_
  refine zr_aload_n 1 dX5_copy_15 rfl ?_
  refine zr_getr (b := (t + 2)) dX5_copy_16 fX5_15 (zsd_0 ht) rfl (zsd_f1 ht) (Nat.succ_ne_zero _) ?_
  refine zr_iconst dX5_copy_19 ?_
  refine zr_aload_n 0 dX5_copy_20 rfl ?_
  refine zr_getr (b := (s + 2)) dX5_copy_21 fX5_15 (zsd_0 hs) rfl (zsd_f1 hs) (Nat.succ_ne_zero _) ?_
  refine zr_iconst dX5_copy_24 ?_
  refine zr_bipush dX5_copy_25 (by decide) ?_
  obtain ⟨N1, e2⟩ : ∃ N : zM, N = zrw M (s + 1) (zcpy (M (t + 1)) (M (s + 1)) 0 0 96) := ⟨_, rfl⟩
  rw [← e2]
  have W := W N1 e2
  refine zr_copy dX5_copy_27 kX5_copy_37 (zsd_2 ht) (zsd_2 hs) (by decide) (by decide) (by decide) (by decide) (by decide) ⟨by decide, by decide⟩ (Nat.le_of_ble_eq_true rfl) ?_
  refine zr_aload_n 1 dX5_copy_30 rfl ?_
  refine zr_getr (b := (t + 3)) dX5_copy_31 fX5_18 (zsd_0 ht) rfl (zsd_f2 ht) (Nat.succ_ne_zero _) ?_
  refine zr_iconst dX5_copy_34 ?_
  refine zr_aload_n 0 dX5_copy_35 rfl ?_
  refine zr_getr (b := (s + 3)) dX5_copy_36 fX5_18 (zsd_0 hs) rfl (zsd_f2 hs) (Nat.succ_ne_zero _) ?_
  refine zr_iconst dX5_copy_39 ?_
  refine zr_iconst dX5_copy_40 ?_
  obtain ⟨N3, e4⟩ : ∃ N : zM, N = zrw N1 (s + 2) (zcpy (N1 (t + 2)) (N1 (s + 2)) 0 0 96) := ⟨_, rfl⟩
  rw [← e4]
  have W := W N3 e4
  refine zr_copy dX5_copy_41 kX5_copy_37 (zsd_3 ht) (zsd_3 hs) (by decide) (by decide) (by decide) (by decide) (by decide) ⟨by decide, by decide⟩ (Nat.le_of_ble_eq_true rfl) ?_
  refine zr_aload_n 0 dX5_copy_44 rfl ?_
  refine zr_aload_n 1 dX5_copy_45 rfl ?_
  refine zt_geti 3 rfl dX5_copy_46 fX5_47 (zsd_0 ht) (by decide) ?_
  obtain ⟨N5, e6⟩ : ∃ N : zM, N = zrw N3 (s + 3) (zcpy (N3 (t + 3)) (N3 (s + 3)) 0 0 4) := ⟨_, rfl⟩
  rw [← e6]
  have W := W N5 e6
  refine zt_puti 3 rfl dX5_copy_49 fX5_47 lcX5 ltX5_3 rfl (zsd_0 hs) ?_
  refine zr_aload_n 0 dX5_copy_52 rfl ?_
  refine zr_aload_n 1 dX5_copy_53 rfl ?_
  refine zt_geti 4 rfl dX5_copy_54 fX5_48 (zsd_0 ht) (by decide) ?_
  obtain ⟨N7, e8⟩ : ∃ N : zM, N = zu N5 s 3 (N5 t 3) := ⟨_, rfl⟩
  rw [← e8]
  have W := W N7 e8
  refine zt_puti 4 rfl dX5_copy_57 fX5_48 lcX5 ltX5_4 rfl (zsd_0 hs) ?_
  exact zt_ret dX5_copy_60 rfl W
theorem dX5_begin_0 : decode cX5_begin 0 = .ok (.aload_n 1, 1) := by decide +kernel
theorem dX5_begin_1 : decode cX5_begin 1 = .ok (.getfield 21, 3) := by decide +kernel
theorem dX5_begin_4 : decode cX5_begin 4 = .ok (.aload_n 1, 1) := by decide +kernel
theorem dX5_begin_5 : decode cX5_begin 5 = .ok (.getfield 27, 3) := by decide +kernel
theorem dX5_begin_8 : decode cX5_begin 8 = .ok (.imul, 1) := by decide +kernel
theorem dX5_begin_9 : decode cX5_begin 9 = .ok (.istore_n 2, 1) := by decide +kernel
theorem dX5_begin_10 : decode cX5_begin 10 = .ok (.iconst 0, 1) := by decide +kernel
theorem dX5_begin_11 : decode cX5_begin 11 = .ok (.istore_n 3, 1) := by decide +kernel
theorem dX5_begin_12 : decode cX5_begin 12 = .ok (.iload_n 3, 1) := by decide +kernel
theorem dX5_begin_13 : decode cX5_begin 13 = .ok (.bipush 96, 2) := by decide +kernel
theorem dX5_begin_15 : decode cX5_begin 15 = .ok (.if_icmp .ge 35, 3) := by decide +kernel
theorem dX5_begin_18 : decode cX5_begin 18 = .ok (.aload_n 0, 1) := by decide +kernel
theorem dX5_begin_19 : decode cX5_begin 19 = .ok (.getfield 9, 3) := by decide +kernel
theorem dX5_begin_22 : decode cX5_begin 22 = .ok (.iload_n 3, 1) := by decide +kernel
theorem dX5_begin_23 : decode cX5_begin 23 = .ok (.iload_n 3, 1) := by decide +kernel
theorem dX5_begin_24 : decode cX5_begin 24 = .ok (.iload_n 2, 1) := by decide +kernel
theorem dX5_begin_25 : decode cX5_begin 25 = .ok (.if_icmp .ge 17, 3) := by decide +kernel
theorem dX5_begin_28 : decode cX5_begin 28 = .ok (.aload_n 1, 1) := by decide +kernel
theorem dX5_begin_29 : decode cX5_begin 29 = .ok (.getfield 30, 3) := by decide +kernel
theorem dX5_begin_32 : decode cX5_begin 32 = .ok (.aload_n 1, 1) := by decide +kernel
theorem dX5_begin_33 : decode cX5_begin 33 = .ok (.getfield 33, 3) := by decide +kernel
theorem dX5_begin_36 : decode cX5_begin 36 = .ok (.iload_n 3, 1) := by decide +kernel
theorem dX5_begin_37 : decode cX5_begin 37 = .ok (.iaload, 1) := by decide +kernel
theorem dX5_begin_38 : decode cX5_begin 38 = .ok (.iadd, 1) := by decide +kernel
theorem dX5_begin_39 : decode cX5_begin 39 = .ok (.goto 4, 3) := by decide +kernel
theorem dX5_begin_42 : decode cX5_begin 42 = .ok (.iconst 0, 1) := by decide +kernel
theorem dX5_begin_43 : decode cX5_begin 43 = .ok (.iastore, 1) := by decide +kernel
theorem dX5_begin_44 : decode cX5_begin 44 = .ok (.iinc 3 1, 3) := by decide +kernel
theorem dX5_begin_47 : decode cX5_begin 47 = .ok (.goto (-35), 3) := by decide +kernel
theorem dX5_begin_50 : decode cX5_begin 50 = .ok (.aload_n 1, 1) := by decide +kernel
theorem dX5_begin_51 : decode cX5_begin 51 = .ok (.getfield 36, 3) := by decide +kernel
theorem dX5_begin_54 : decode cX5_begin 54 = .ok (.iconst 0, 1) := by decide +kernel
theorem dX5_begin_55 : decode cX5_begin 55 = .ok (.aload_n 0, 1) := by decide +kernel
theorem dX5_begin_56 : decode cX5_begin 56 = .ok (.getfield 15, 3) := by decide +kernel
theorem dX5_begin_59 : decode cX5_begin 59 = .ok (.iconst 0, 1) := by decide +kernel
theorem dX5_begin_60 : decode cX5_begin 60 = .ok (.bipush 96, 2) := by decide +kernel
theorem dX5_begin_62 : decode cX5_begin 62 = .ok (.invokestatic 37, 3) := by decide +kernel
theorem dX5_begin_65 : decode cX5_begin 65 = .ok (.aload_n 1, 1) := by decide +kernel
theorem dX5_begin_66 : decode cX5_begin 66 = .ok (.getfield 43, 3) := by decide +kernel
theorem dX5_begin_69 : decode cX5_begin 69 = .ok (.iconst 0, 1) := by decide +kernel
theorem dX5_begin_70 : decode cX5_begin 70 = .ok (.aload_n 0, 1) := by decide +kernel
theorem dX5_begin_71 : decode cX5_begin 71 = .ok (.getfield 18, 3) := by decide +kernel
theorem dX5_begin_74 : decode cX5_begin 74 = .ok (.iconst 0, 1) := by decide +kernel
theorem dX5_begin_75 : decode cX5_begin 75 = .ok (.iconst 4, 1) := by decide +kernel
theorem dX5_begin_76 : decode cX5_begin 76 = .ok (.invokestatic 37, 3) := by decide +kernel
theorem dX5_begin_79 : decode cX5_begin 79 = .ok (.aload_n 0, 1) := by decide +kernel
theorem dX5_begin_80 : decode cX5_begin 80 = .ok (.aload_n 1, 1) := by decide +kernel
theorem dX5_begin_81 : decode cX5_begin 81 = .ok (.getfield 44, 3) := by decide +kernel
theorem dX5_begin_84 : decode cX5_begin 84 = .ok (.putfield 47, 3) := by decide +kernel
theorem dX5_begin_87 : decode cX5_begin 87 = .ok (.aload_n 0, 1) := by decide +kernel
theorem dX5_begin_88 : decode cX5_begin 88 = .ok (.iconst 0, 1) := by decide +kernel
theorem dX5_begin_89 : decode cX5_begin 89 = .ok (.putfield 48, 3) := by decide +kernel
theorem dX5_begin_92 : decode cX5_begin 92 = .ok (.return_, 1) := by decide +kernel
set_option maxRecDepth 100000 in
theorem SX5_begin_0 {g : zG} {o : Bool} {s : Nat} (hs : zSd s) {M : zM} {q : zM → Prop} (W : zT g (z1 o) mX5_begin (zQv (z1 o) q) 12 [(0, zA g s), (1, zA g 8), (2, zI ((M 8 0) * (M 8 1))), (3, zI 0)] [] M) : zT g (z1 o) mX5_begin (zQv (z1 o) q) 0 [(0, zA g s), (1, zA g 8)] [] M := by
  refine zr_aload_n 1 dX5_begin_0 rfl ?_
  refine zt_geti 0 rfl dX5_begin_1 fX5_21 rfl (by decide) ?_
  refine zr_aload_n 1 dX5_begin_4 rfl ?_
  refine zt_geti 1 rfl dX5_begin_5 fX5_27 rfl (by decide) ?_
  refine zr_imul dX5_begin_8 ?_
  refine zr_istore_n (l' := [(0, zA g s), (1, zA g 8), (2, zI ((M 8 0) * (M 8 1)))]) dX5_begin_9 (by decide) [1, 2, 0] rfl ?_
  refine zr_iconst dX5_begin_10 ?_
  refine zr_istore_n (l' := [(0, zA g s), (1, zA g 8), (2, zI ((M 8 0) * (M 8 1))), (3, zI 0)]) dX5_begin_11 (by decide) [1, 2, 3, 0] rfl ?_
  exact W
set_option maxRecDepth 100000 in
theorem SX5_begin_12 {g : zG} {o : Bool} {s : Nat} (hs : zSd s) {M : zM} {q : zM → Prop} {x2 x3 : Int} (W : (-2147483648 ≤ x3 ∧ x3 ≤ 2147483647) ∧ ((96 ≤ x3) → ∀ N2 : zM, N2 = zrw M (s + 2) (zcpy (M 11) (M (s + 2)) 0 0 96) → ∀ N4 : zM, N4 = zrw N2 (s + 3) (zcpy (N2 9) (N2 (s + 3)) 0 0 4) → ∀ N6 : zM, N6 = zu N4 s 3 (N4 8 4) → q (zu N6 s 4 0)) ∧ ((¬ (96 ≤ x3)) → (-2147483648 ≤ x2 ∧ x2 ≤ 2147483647) ∧ ((x2 ≤ x3) → (0 ≤ x3 ∧ x3 < 96) ∧ zT g (z1 o) mX5_begin (zQv (z1 o) q) 12 [(0, zA g s), (1, zA g 8), (2, zI x2), (3, zI (x3 + 1))] [] (zu M (s + 1) x3 0)) ∧ ((¬ (x2 ≤ x3)) → (0 ≤ x3 ∧ x3 < 96) ∧ zT g (z1 o) mX5_begin (zQv (z1 o) q) 12 [(0, zA g s), (1, zA g 8), (2, zI x2), (3, zI (x3 + 1))] [] (zu M (s + 1) x3 ((M 8 2) + (M 10 x3)))))) : zT g (z1 o) mX5_begin (zQv (z1 o) q) 12 [(0, zA g s), (1, zA g 8), (2, zI x2), (3, zI x3)] [] M := by
  refine zr_iload_n 3 dX5_begin_12 rfl ?_
  refine zr_bipush dX5_begin_13 (by decide) ?_
  obtain ⟨c1, W⟩ := W
  refine zr_icmp_ge (tgt := 50) dX5_begin_15 (by decide) c1 ⟨by decide, by decide⟩ (fun h => ?_) (fun h => ?_)
  · have W := W.1 h
    refine zr_aload_n 1 dX5_begin_50 rfl ?_
    refine zr_getr (b := 11) dX5_begin_51 fX5_36 rfl rfl rfl (by decide) ?_
    refine zr_iconst dX5_begin_54 ?_
    refine zr_aload_n 0 dX5_begin_55 rfl ?_
    refine zr_getr (b := (s + 2)) dX5_begin_56 fX5_15 (zsd_0 hs) rfl (zsd_f1 hs) (Nat.succ_ne_zero _) ?_
    refine zr_iconst dX5_begin_59 ?_
    refine zr_bipush dX5_begin_60 (by decide) ?_
    refine zr_copy dX5_begin_62 kX5_begin_37 rfl (zsd_2 hs) (by decide) (by decide) (by decide) (by decide) (by decide) ⟨by decide, by decide⟩ (Nat.le_of_ble_eq_true rfl) ?_
    refine zr_aload_n 1 dX5_begin_65 rfl ?_
    refine zr_getr (b := 9) dX5_begin_66 fX5_43 rfl rfl rfl (by decide) ?_
    refine zr_iconst dX5_begin_69 ?_
    refine zr_aload_n 0 dX5_begin_70 rfl ?_
    refine zr_getr (b := (s + 3)) dX5_begin_71 fX5_18 (zsd_0 hs) rfl (zsd_f2 hs) (Nat.succ_ne_zero _) ?_
    refine zr_iconst dX5_begin_74 ?_
    refine zr_iconst dX5_begin_75 ?_
    obtain ⟨N2, e3⟩ : ∃ N : zM, N = zrw M (s + 2) (zcpy (M 11) (M (s + 2)) 0 0 96) := ⟨_, rfl⟩
    rw [← e3]
    have W := W N2 e3
    refine zr_copy dX5_begin_76 kX5_begin_37 rfl (zsd_3 hs) (by decide) (by decide) (by decide) (by decide) (by decide) ⟨by decide, by decide⟩ (Nat.le_of_ble_eq_true rfl) ?_
    refine zr_aload_n 0 dX5_begin_79 rfl ?_
    refine zr_aload_n 1 dX5_begin_80 rfl ?_
    refine zt_geti 4 rfl dX5_begin_81 fX5_44 rfl (by decide) ?_
    obtain ⟨N4, e5⟩ : ∃ N : zM, N = zrw N2 (s + 3) (zcpy (N2 9) (N2 (s + 3)) 0 0 4) := ⟨_, rfl⟩
    rw [← e5]
    have W := W N4 e5
    refine zt_puti 3 rfl dX5_begin_84 fX5_47 lcX5 ltX5_3 rfl (zsd_0 hs) ?_
    refine zr_aload_n 0 dX5_begin_87 rfl ?_
    refine zr_iconst dX5_begin_88 ?_
    obtain ⟨N6, e7⟩ : ∃ N : zM, N = zu N4 s 3 (N4 8 4) := ⟨_, rfl⟩
    rw [← e7]
    have W := W N6 e7
    refine zt_puti 4 rfl dX5_begin_89 fX5_48 lcX5 ltX5_4 rfl (zsd_0 hs) ?_
    exact zt_ret dX5_begin_92 rfl W
  · have W := W.2 h
    refine zr_aload_n 0 dX5_begin_18 rfl ?_
    refine zr_getr (b := (s + 1)) dX5_begin_19 fX5_9 (zsd_0 hs) rfl (zsd_f0 hs) (Nat.succ_ne_zero _) ?_
    refine zr_iload_n 3 dX5_begin_22 rfl ?_
    refine zr_iload_n 3 dX5_begin_23 rfl ?_
    refine zr_iload_n 2 dX5_begin_24 rfl ?_
    obtain ⟨c8, W⟩ := W
    refine zr_icmp_ge (tgt := 42) dX5_begin_25 (by decide) c1 c8 (fun h => ?_) (fun h => ?_)
    · have W := W.1 h
      refine zr_iconst dX5_begin_42 ?_
      obtain ⟨c9, W⟩ := W
      refine zr_iast dX5_begin_43 (zsd_1 hs) (by decide) c9 ?_
      refine zr_iinc (q := 3) (l' := [(0, zA g s), (1, zA g 8), (2, zI x2), (3, zI (x3 + 1))]) dX5_begin_44 rfl (by decide) [1, 2, 3, 0] rfl ?_
      refine zr_goto (tgt := 12) dX5_begin_47 (by decide) ?_
      exact W
    · have W := W.2 h
      refine zr_aload_n 1 dX5_begin_28 rfl ?_
      refine zt_geti 2 rfl dX5_begin_29 fX5_30 rfl (by decide) ?_
      refine zr_aload_n 1 dX5_begin_32 rfl ?_
      refine zr_getr (b := 10) dX5_begin_33 fX5_33 rfl rfl rfl (by decide) ?_
      refine zr_iload_n 3 dX5_begin_36 rfl ?_
      obtain ⟨c10, W⟩ := W
      refine zr_iald dX5_begin_37 rfl (by decide) c10 ?_
      refine zr_iadd dX5_begin_38 ?_
      refine zr_goto (tgt := 43) dX5_begin_39 (by decide) ?_
      refine zr_iast dX5_begin_43 (zsd_1 hs) (by decide) c10 ?_
      refine zr_iinc (q := 3) (l' := [(0, zA g s), (1, zA g 8), (2, zI x2), (3, zI (x3 + 1))]) dX5_begin_44 rfl (by decide) [1, 2, 3, 0] rfl ?_
      refine zr_goto (tgt := 12) dX5_begin_47 (by decide) ?_
      exact W
theorem dJ7_fill_53178_0 : decode cJ7_fill_53178 0 = .ok (.iconst 0, 1) := by decide +kernel
theorem dJ7_fill_53178_1 : decode cJ7_fill_53178 1 = .ok (.istore_n 2, 1) := by decide +kernel
theorem dJ7_fill_53178_2 : decode cJ7_fill_53178 2 = .ok (.aload_n 0, 1) := by decide +kernel
theorem dJ7_fill_53178_3 : decode cJ7_fill_53178 3 = .ok (.arraylength, 1) := by decide +kernel
theorem dJ7_fill_53178_4 : decode cJ7_fill_53178 4 = .ok (.istore_n 3, 1) := by decide +kernel
theorem dJ7_fill_53178_5 : decode cJ7_fill_53178 5 = .ok (.iload_n 2, 1) := by decide +kernel
theorem dJ7_fill_53178_6 : decode cJ7_fill_53178 6 = .ok (.iload_n 3, 1) := by decide +kernel
theorem dJ7_fill_53178_7 : decode cJ7_fill_53178 7 = .ok (.if_icmp .ge 13, 3) := by decide +kernel
theorem dJ7_fill_53178_10 : decode cJ7_fill_53178 10 = .ok (.aload_n 0, 1) := by decide +kernel
theorem dJ7_fill_53178_11 : decode cJ7_fill_53178 11 = .ok (.iload_n 2, 1) := by decide +kernel
theorem dJ7_fill_53178_12 : decode cJ7_fill_53178 12 = .ok (.iload_n 1, 1) := by decide +kernel
theorem dJ7_fill_53178_13 : decode cJ7_fill_53178 13 = .ok (.iastore, 1) := by decide +kernel
theorem dJ7_fill_53178_14 : decode cJ7_fill_53178 14 = .ok (.iinc 2 1, 3) := by decide +kernel
theorem dJ7_fill_53178_17 : decode cJ7_fill_53178 17 = .ok (.goto (-12), 3) := by decide +kernel
theorem dJ7_fill_53178_20 : decode cJ7_fill_53178 20 = .ok (.return_, 1) := by decide +kernel
set_option maxRecDepth 100000 in
theorem SJ7_fill_53178_0 {g : zG} {o : Bool} {h0 n0 : Nat} (hh0 : zh (z1 o) h0 = (1, n0)) (hz0 : h0 ≠ 0) (hn0 : n0 ≤ 100000) {M : zM} {q : zM → Prop} {x1 : Int} (W : zT g (z1 o) mJ7_fill_53178 (zQv (z1 o) q) 5 [(0, zA g h0), (1, zI x1), (2, zI 0), (3, zI (n0 : Int))] [] M) : zT g (z1 o) mJ7_fill_53178 (zQv (z1 o) q) 0 [(0, zA g h0), (1, zI x1)] [] M := by
  refine zr_iconst dJ7_fill_53178_0 ?_
  refine zr_istore_n (l' := [(0, zA g h0), (1, zI x1), (2, zI 0)]) dJ7_fill_53178_1 (by decide) [1, 2, 0] rfl ?_
  refine zr_aload_n 0 dJ7_fill_53178_2 rfl ?_
  refine zr_alen dJ7_fill_53178_3 hh0 (by decide) ?_
  refine zr_istore_n (l' := [(0, zA g h0), (1, zI x1), (2, zI 0), (3, zI (n0 : Int))]) dJ7_fill_53178_4 (by decide) [1, 2, 3, 0] rfl ?_
  exact W
set_option maxRecDepth 100000 in
theorem SJ7_fill_53178_5 {g : zG} {o : Bool} {h0 n0 : Nat} (hh0 : zh (z1 o) h0 = (1, n0)) (hz0 : h0 ≠ 0) (hn0 : n0 ≤ 100000) {M : zM} {q : zM → Prop} {x1 x2 x3 : Int} (W : (-2147483648 ≤ x2 ∧ x2 ≤ 2147483647) ∧ (-2147483648 ≤ x3 ∧ x3 ≤ 2147483647) ∧ ((x3 ≤ x2) → q M) ∧ ((¬ (x3 ≤ x2)) → (0 ≤ x2 ∧ x2 < n0) ∧ zT g (z1 o) mJ7_fill_53178 (zQv (z1 o) q) 5 [(0, zA g h0), (1, zI x1), (2, zI (x2 + 1)), (3, zI x3)] [] (zu M h0 x2 x1))) : zT g (z1 o) mJ7_fill_53178 (zQv (z1 o) q) 5 [(0, zA g h0), (1, zI x1), (2, zI x2), (3, zI x3)] [] M := by
  refine zr_iload_n 2 dJ7_fill_53178_5 rfl ?_
  refine zr_iload_n 3 dJ7_fill_53178_6 rfl ?_
  obtain ⟨c1, W⟩ := W
  obtain ⟨c2, W⟩ := W
  refine zr_icmp_ge (tgt := 20) dJ7_fill_53178_7 (by decide) c1 c2 (fun h => ?_) (fun h => ?_)
  · have W := W.1 h
    exact zt_ret dJ7_fill_53178_20 rfl W
  · have W := W.2 h
    refine zr_aload_n 0 dJ7_fill_53178_10 rfl ?_
    refine zr_iload_n 2 dJ7_fill_53178_11 rfl ?_
    refine zr_iload_n 1 dJ7_fill_53178_12 rfl ?_
    obtain ⟨c3, W⟩ := W
    refine zr_iast dJ7_fill_53178_13 hh0 hn0 c3 ?_
    refine zr_iinc (q := 2) (l' := [(0, zA g h0), (1, zI x1), (2, zI (x2 + 1)), (3, zI x3)]) dJ7_fill_53178_14 rfl (by decide) [1, 2, 0, 3] rfl ?_
    refine zr_goto (tgt := 5) dJ7_fill_53178_17 (by decide) ?_
    exact W
end
section
/-! the field: columns C, rows R, cells numbered row by row -/
def Geo (C R : Int) : Prop := 3 ≤ C ∧ C ≤ 12 ∧ 1 ≤ R ∧ R ≤ 8
def alg (C R c w k : Int) : Int := if w = 0 then C * (c / C) + (c % C + k) % C else if w = 1 then C * ((c / C + k) % R) + c % C else if w = 2 then C * (c / C) + (c % C + k * (C - 1)) % C else C * ((c / C + k * (R - 1)) % R) + c % C
def opp (w : Int) : Int := if w < 2 then w + 2 else w - 2
def rnd (C R w : Int) : Int := if w = 0 ∨ w = 2 then C else R
theorem alg0 (C R c k : Int) : alg C R c 0 k = C * (c / C) + (c % C + k) % C := if_pos rfl
theorem alg1 (C R c k : Int) : alg C R c 1 k = C * ((c / C + k) % R) + c % C := by unfold alg; rw [if_neg (by decide), if_pos rfl]
theorem alg2 (C R c k : Int) : alg C R c 2 k = C * (c / C) + (c % C + k * (C - 1)) % C := by unfold alg; rw [if_neg (by decide), if_neg (by decide), if_pos rfl]
theorem alg3 (C R c k : Int) : alg C R c 3 k = C * ((c / C + k * (R - 1)) % R) + c % C := by unfold alg; rw [if_neg (by decide), if_neg (by decide), if_neg (by decide)]
theorem geo_n {C R : Int} (h : Geo C R) : 3 ≤ C * R ∧ C * R ≤ 96 := by
  obtain ⟨h1, h2, h3, h4⟩ := h
  constructor
  · have := Int.mul_le_mul h1 h3 (by omega) (by omega); omega
  · have := Int.mul_le_mul h2 h4 (by omega) (by omega); omega
theorem dv {C x y : Int} (h : 0 ≤ x ∧ x < C) : (C * y + x) / C = y ∧ (C * y + x) % C = x := by
  have hC : C ≠ 0 := by omega
  constructor
  · rw [Int.add_comm, Int.add_mul_ediv_left _ _ hC, Int.ediv_eq_zero_of_lt h.1 h.2]; omega
  · rw [Int.add_comm, Int.add_mul_emod_self_left, Int.emod_eq_of_lt h.1 h.2]
theorem xy {C R c : Int} (h : Geo C R) (hc : 0 ≤ c ∧ c < C * R) : (0 ≤ c % C ∧ c % C < C) ∧ (0 ≤ c / C ∧ c / C < R) ∧ C * (c / C) + c % C = c := by
  have hC : 0 < C := by have := h.1; omega
  refine ⟨⟨Int.emod_nonneg _ (by omega), Int.emod_lt_of_pos _ hC⟩, ⟨Int.ediv_nonneg hc.1 (by omega), ?_⟩, Int.mul_ediv_add_emod c C⟩
  exact Int.ediv_lt_of_lt_mul hC (by rw [Int.mul_comm]; exact hc.2)
theorem cell_in {C R x y : Int} (hx : 0 ≤ x ∧ x < C) (hy : 0 ≤ y ∧ y < R) : 0 ≤ C * y + x ∧ C * y + x < C * R := by
  constructor
  · have := Int.mul_nonneg (show 0 ≤ C by omega) hy.1; omega
  · have : C * (y + 1) ≤ C * R := Int.mul_le_mul_of_nonneg_left (by omega) (by omega)
    rw [Int.mul_add] at this; omega
theorem md {C k : Int} (h : 0 < C) : 0 ≤ k % C ∧ k % C < C := ⟨Int.emod_nonneg _ (by omega), Int.emod_lt_of_pos _ h⟩
theorem alg_in {C R c w k : Int} (h : Geo C R) (hc : 0 ≤ c ∧ c < C * R) : 0 ≤ alg C R c w k ∧ alg C R c w k < C * R := by
  obtain ⟨hx, hy, -⟩ := xy h hc
  have hC : 0 < C := by have := h.1; omega
  have hR : 0 < R := by have := h.2.2.1; omega
  unfold alg
  split
  · exact cell_in (md hC) hy
  · split
    · exact cell_in hx (md hR)
    · split
      · exact cell_in (md hC) hy
      · exact cell_in hx (md hR)
theorem alg_0 {C R c w : Int} (h : Geo C R) (hc : 0 ≤ c ∧ c < C * R) : alg C R c w 0 = c := by
  obtain ⟨hx, hy, he⟩ := xy h hc
  unfold alg
  have e1 : (c % C + 0) % C = c % C := by rw [Int.add_zero]; exact Int.emod_eq_of_lt hx.1 hx.2
  have e2 : (c / C + 0) % R = c / C := by rw [Int.add_zero]; exact Int.emod_eq_of_lt hy.1 hy.2
  simp only [Int.zero_mul, e1, e2, he, ite_self]
theorem alg_s {C R c w j k : Int} (h : Geo C R) (hc : 0 ≤ c ∧ c < C * R) : alg C R (alg C R c w j) w k = alg C R c w (j + k) := by
  obtain ⟨hx, hy, -⟩ := xy h hc
  have hC : 0 < C := by have := h.1; omega
  have hR : 0 < R := by have := h.2.2.1; omega
  by_cases h0 : w = 0
  · subst h0
    simp only [alg, if_true]
    rw [(dv (md hC)).1, (dv (md hC)).2, Int.emod_add_emod, Int.add_assoc]
  · by_cases h1 : w = 1
    · subst h1
      simp only [alg, if_true, if_neg h0]
      rw [(dv hx).1, (dv hx).2, Int.emod_add_emod, Int.add_assoc]
    · by_cases h2 : w = 2
      · subst h2
        simp only [alg, if_true, if_neg h0, if_neg h1]
        rw [(dv (md hC)).1, (dv (md hC)).2, Int.emod_add_emod, Int.add_assoc, ← Int.add_mul]
      · simp only [alg, if_neg h0, if_neg h1, if_neg h2]
        rw [(dv hx).1, (dv hx).2, Int.emod_add_emod, Int.add_assoc, ← Int.add_mul]
theorem opp_in {w : Int} (h : 0 ≤ w ∧ w ≤ 3) : 0 ≤ opp w ∧ opp w ≤ 3 := by unfold opp; split <;> omega
theorem opp_opp {w : Int} (h : 0 ≤ w ∧ w ≤ 3) : opp (opp w) = w := by unfold opp; split <;> split <;> omega
/-- there and back -/
theorem alg_back {C R c w : Int} (h : Geo C R) (hc : 0 ≤ c ∧ c < C * R) (hw : 0 ≤ w ∧ w ≤ 3) : alg C R (alg C R c w 1) (opp w) 1 = c := by
  obtain ⟨hx, hy, he⟩ := xy h hc
  have hC : 0 < C := by have := h.1; omega
  have hR : 0 < R := by have := h.2.2.1; omega
  have k1 : ((c % C + 1) % C + (C - 1)) % C = c % C := by rw [Int.emod_add_emod, show c % C + 1 + (C - 1) = c % C + C by omega, Int.add_emod_right, Int.emod_eq_of_lt hx.1 hx.2]
  have k2 : ((c % C + (C - 1)) % C + 1) % C = c % C := by rw [Int.emod_add_emod, show c % C + (C - 1) + 1 = c % C + C by omega, Int.add_emod_right, Int.emod_eq_of_lt hx.1 hx.2]
  have k3 : ((c / C + 1) % R + (R - 1)) % R = c / C := by rw [Int.emod_add_emod, show c / C + 1 + (R - 1) = c / C + R by omega, Int.add_emod_right, Int.emod_eq_of_lt hy.1 hy.2]
  have k4 : ((c / C + (R - 1)) % R + 1) % R = c / C := by rw [Int.emod_add_emod, show c / C + (R - 1) + 1 = c / C + R by omega, Int.add_emod_right, Int.emod_eq_of_lt hy.1 hy.2]
  have hw' : w = 0 ∨ w = 1 ∨ w = 2 ∨ w = 3 := by omega
  rcases hw' with rfl | rfl | rfl | rfl
  · show alg C R (alg C R c 0 1) 2 1 = c
    rw [alg0, alg2, (dv (md hC)).1, (dv (md hC)).2, Int.one_mul, k1, he]
  · show alg C R (alg C R c 1 1) 3 1 = c
    rw [alg1, alg3, (dv hx).1, (dv hx).2, Int.one_mul, k3, he]
  · show alg C R (alg C R c 2 1) 0 1 = c
    rw [alg2, alg0, (dv (md hC)).1, (dv (md hC)).2, Int.one_mul, k2, he]
  · show alg C R (alg C R c 3 1) 1 1 = c
    rw [alg3, alg1, (dv hx).1, (dv hx).2, Int.one_mul, k4, he]
/-- the place in a round of the wind -/
def wix (sp : Int → Int) : Nat → Int → Int → Int
  | 0, i, _ => i
  | n + 1, i, l => if l < sp i then i else wix sp n (i + 1) (l - sp i)
def smt (f : Int → Int) : Nat → Int
  | 0 => 0
  | n + 1 => smt f n + f n
theorem smt_nn {f : Int → Int} {n : Nat} (h : ∀ i : Int, 0 ≤ i → i < n → 0 ≤ f i) : 0 ≤ smt f n := by
  induction n with
  | zero => exact Int.le_refl 0
  | succ n ih =>
    have h1 := ih (fun i h0 h1 => h i h0 (by omega))
    have h2 := h n (by omega) (by omega)
    show 0 ≤ smt f n + f n
    omega
theorem smt_le {f : Int → Int} {B : Int} {n : Nat} (h : ∀ i : Int, 0 ≤ i → i < n → f i ≤ B) : smt f n ≤ n * B := by
  induction n with
  | zero => simp [smt]
  | succ n ih =>
    have h1 := ih (fun i h0 h1 => h i h0 (by omega))
    have h2 := h n (by omega) (by omega)
    show smt f n + f n ≤ _
    have : ((n + 1 : Nat) : Int) * B = n * B + B := by rw [Int.natCast_add, Int.add_mul]; simp
    omega
theorem smt_congr {f h : Int → Int} {n : Nat} (e : ∀ i : Int, 0 ≤ i → i < n → f i = h i) : smt f n = smt h n := by
  induction n with
  | zero => rfl
  | succ n ih =>
    show smt f n + f n = smt h n + h n
    rw [ih (fun i h0 h1 => e i h0 (by omega)), e n (by omega) (by omega)]
end
section
/-- the land of a memory: columns C, rows R -/
def zLand (M : zM) (C R : Int) : Prop := Geo C R ∧ M 14 0 = C ∧ M 14 1 = R ∧ M 14 2 = C * R ∧ (1 ≤ M 14 3 ∧ M 14 3 ≤ 9) ∧ (1 ≤ M 14 4 ∧ M 14 4 ≤ 8) ∧ M 14 5 = smt (M 19) (M 14 4).toNat ∧ (∀ i, 0 ≤ i → i < M 14 4 → (0 ≤ M 18 i ∧ M 18 i ≤ 3) ∧ 1 ≤ M 19 i ∧ M 19 i ≤ 99) ∧ ∀ c, 0 ≤ c → c < C * R → M 15 c = c % C ∧ M 16 c = c / C ∧ ∀ w, 0 ≤ w → w ≤ 3 → M 17 (c * 4 + w) = alg C R c w 1
theorem zLand.of {M M' : zM} {C R : Int} (h : zLand M C R) (e : ∀ b, 14 ≤ b → b ≤ 19 → M' b = M b) : zLand M' C R := by
  unfold zLand at h ⊢
  rw [e 14 (by decide) (by decide), e 15 (by decide) (by decide), e 16 (by decide) (by decide), e 17 (by decide) (by decide), e 18 (by decide) (by decide), e 19 (by decide) (by decide)]
  exact h
/-- the wind of a try -/
def wnd (M : zM) (t : Int) : Int := M 18 (wix (M 19) (M 14 4).toNat 0 (t % M 14 5))
/-- a row of what acts change, out of a Sand -/
def zrow (M : zM) (s : Nat) : Int → Int := fun i => if 0 ≤ i ∧ i < 96 then M (s + 1) i else if 96 ≤ i ∧ i < 192 then M (s + 2) (i - 96) else if 192 ≤ i ∧ i < 196 then M (s + 3) (i - 192) else if i = 196 then M s 3 else if i = 197 then M s 4 else 0
def up (f : Int → Int) (i x : Int) : Int → Int := fun j => if j = i then x else f j
def mxt (f : Int → Int) : Nat → Int
  | 0 => 0
  | n + 1 => max (mxt f n) (f n)
noncomputable def cnt (P : Int → Prop) : Nat → Int
  | 0 => 0
  | n + 1 => cnt P n + zb (P n)
theorem cnt_in (P : Int → Prop) (n : Nat) : 0 ≤ cnt P n ∧ cnt P n ≤ n := by
  induction n with
  | zero => exact ⟨Int.le_refl 0, Int.le_refl 0⟩
  | succ n ih =>
    have := zb01 (P n)
    show 0 ≤ cnt P n + zb (P n) ∧ cnt P n + zb (P n) ≤ ((n + 1 : Nat) : Int)
    omega
theorem cnt_congr {P P' : Int → Prop} {n : Nat} (h : ∀ i : Int, 0 ≤ i → i < n → (P i ↔ P' i)) : cnt P n = cnt P' n := by
  induction n with
  | zero => rfl
  | succ n ih =>
    show cnt P n + zb (P n) = cnt P' n + zb (P' n)
    rw [ih (fun i h0 h1 => h i h0 (by omega)), zb_congr (h n (by omega) (by omega))]
theorem mxt_congr {f h : Int → Int} {n : Nat} (e : ∀ i : Int, 0 ≤ i → i < n → f i = h i) : mxt f n = mxt h n := by
  induction n with
  | zero => rfl
  | succ n ih =>
    show max (mxt f n) (f n) = max (mxt h n) (h n)
    rw [ih (fun i h0 h1 => e i h0 (by omega)), e n (by omega) (by omega)]
theorem mxt_in {f : Int → Int} {B : Int} {n : Nat} (hB : 0 ≤ B) (h : ∀ i : Int, 0 ≤ i → i < n → f i ≤ B) : 0 ≤ mxt f n ∧ mxt f n ≤ B := by
  induction n with
  | zero => exact ⟨Int.le_refl 0, hB⟩
  | succ n ih =>
    have h1 := ih (fun i h0 h1 => h i h0 (by omega))
    have h2 := h n (by omega) (by omega)
    show 0 ≤ max (mxt f n) (f n) ∧ max (mxt f n) (f n) ≤ B
    omega
section CL
variable {g : zG} {o : Bool} {M : zM} {C R x c w t m : Int} {s : Nat}
theorem c_has (hx : -2147483648 ≤ x ∧ x ≤ 2147483647) (hL : zLand M C R) : zKi g (z1 o) mX2_has [zA g 14, zI x] M (fun r M' => r = zb (0 ≤ x ∧ x < C * R) ∧ M' = M) := by
  have hn := geo_n hL.1
  have e : M 14 2 = C * R := hL.2.2.2.1
  exact zki_of rfl (Nat.le_of_ble_eq_true rfl) (SX2_has_0 ⟨hx, fun h => ⟨(zb_f (by omega)).symm, rfl⟩, fun h => ⟨by omega, fun h2 => ⟨(zb_f (by omega)).symm, rfl⟩, fun h2 => ⟨(zb_t (by omega)).symm, rfl⟩⟩⟩)
theorem c_nbr (hL : zLand M C R) (hc : 0 ≤ c ∧ c < C * R) (hw : 0 ≤ w ∧ w ≤ 3) : zKi g (z1 o) mX2_neighbour [zA g 14, zI c, zI w] M (fun r M' => r = alg C R c w 1 ∧ M' = M) := by
  have hn := geo_n hL.1
  have e := (hL.2.2.2.2.2.2.2.2 c hc.1 hc.2).2.2 w hw.1 hw.2
  refine zki_of rfl (Nat.le_of_ble_eq_true rfl) (SX2_neighbour_0 ⟨by omega, ?_, rfl⟩)
  exact e
theorem c_round (hL : zLand M C R) (hw : 0 ≤ w ∧ w ≤ 3) : zKi g (z1 o) mX2_roundOf [zA g 14, zI w] M (fun r M' => r = rnd C R w ∧ M' = M) := by
  have e0 : M 14 0 = C := hL.2.1
  have e1 : M 14 1 = R := hL.2.2.1
  refine zki_of rfl (Nat.le_of_ble_eq_true rfl) (SX2_roundOf_0 ?_)
  unfold rnd
  refine ⟨by omega, fun h => ⟨?_, rfl⟩, fun h => ⟨fun h2 => ⟨?_, rfl⟩, fun h2 => ⟨?_, rfl⟩⟩⟩
  · rw [if_pos (Or.inl h)]; exact e0
  · rw [if_neg (by omega)]; exact e1
  · rw [if_pos (Or.inr (by omega))]; exact e0
theorem c_slabs (hs : zSd s) : zKi g (z1 o) mX5_slabs [zA g s] M (fun r M' => r = smt (M (s + 1)) 96 ∧ M' = M) := by
  refine zki_of rfl (Nat.le_of_ble_eq_true rfl) (SX5_slabs_0 hs ?_)
  suffices h : ∀ (n k : Nat), k + n = 96 → zT g (z1 o) mX5_slabs (zQi (z1 o) (fun r M' => r = smt (M (s + 1)) 96 ∧ M' = M)) 4 [(0, zA g s), (1, zI (smt (M (s + 1)) k)), (2, zI k)] [] M from h 96 0 rfl
  intro n
  induction n with
  | zero => intro k hk; exact SX5_slabs_4 hs ⟨by omega, fun h => ⟨by rw [show k = 96 by omega], rfl⟩, fun h => by omega⟩
  | succ n ih => intro k hk; exact SX5_slabs_4 hs ⟨by omega, fun h => by omega, fun h => ⟨by omega, ih (k + 1) (by omega)⟩⟩
theorem c_highest (hs : zSd s) (hr : ∀ i : Int, 0 ≤ i → i < 96 → 0 ≤ M (s + 1) i ∧ M (s + 1) i ≤ 2000000000) : zKi g (z1 o) mX5_highest [zA g s] M (fun r M' => r = mxt (M (s + 1)) 96 ∧ M' = M) := by
  refine zki_of rfl (Nat.le_of_ble_eq_true rfl) (SX5_highest_0 hs ?_)
  suffices h : ∀ (n k : Nat), k + n = 96 → zT g (z1 o) mX5_highest (zQi (z1 o) (fun r M' => r = mxt (M (s + 1)) 96 ∧ M' = M)) 4 [(0, zA g s), (1, zI (mxt (M (s + 1)) k)), (2, zI k)] [] M from h 96 0 rfl
  intro n
  induction n with
  | zero => intro k hk; exact SX5_highest_4 hs ⟨by omega, fun h => ⟨by rw [show k = 96 by omega], rfl⟩, fun h => by omega⟩
  | succ n ih =>
    intro k hk
    have h1 := mxt_in (f := M (s + 1)) (B := 2000000000) (n := k) (by decide) (fun i h0 h1 => (hr i h0 (by omega)).2)
    have h2 := hr k (by omega) (by omega)
    exact SX5_highest_4 hs ⟨by omega, fun h => by omega, fun h => ⟨by omega, by omega, by omega, ih (k + 1) (by omega)⟩⟩
theorem c_bare (hs : zSd s) {n : Nat} (hn : n ≤ 96) (hr : ∀ i : Int, 0 ≤ i → i < 96 → 0 ≤ M (s + 1) i ∧ M (s + 1) i ≤ 2000000000) : zKi g (z1 o) mX5_bareCells [zA g s, zI n] M (fun r M' => r = cnt (fun i => M (s + 1) i = 0) n ∧ M' = M) := by
  refine zki_of rfl (Nat.le_of_ble_eq_true rfl) (SX5_bareCells_0 hs ?_)
  suffices h : ∀ (j k : Nat), k + j = n → zT g (z1 o) mX5_bareCells (zQi (z1 o) (fun r M' => r = cnt (fun i => M (s + 1) i = 0) n ∧ M' = M)) 4 [(0, zA g s), (1, zI n), (2, zI (cnt (fun i => M (s + 1) i = 0) k)), (3, zI k)] [] M from h n 0 (by omega)
  intro j
  induction j with
  | zero => intro k hk; exact SX5_bareCells_4 hs ⟨by omega, by omega, fun h => ⟨by rw [show k = n by omega], rfl⟩, fun h => by omega⟩
  | succ j ih =>
    intro k hk
    have h2 := hr k (by omega) (by omega)
    refine SX5_bareCells_4 hs ⟨by omega, by omega, fun h => by omega, fun h => ⟨by omega, by omega, fun h3 => ?_, fun h3 => ?_⟩⟩
    · have e : cnt (fun i => M (s + 1) i = 0) (k + 1) = cnt (fun i => M (s + 1) i = 0) k := by show cnt _ k + zb (M (s + 1) k = 0) = _; rw [zb_f h3]; omega
      have := ih (k + 1) (by omega)
      rw [e] at this; exact this
    · have e : cnt (fun i => M (s + 1) i = 0) (k + 1) = cnt (fun i => M (s + 1) i = 0) k + 1 := by show cnt _ k + zb (M (s + 1) k = 0) = _; rw [zb_t (by omega)]
      have := ih (k + 1) (by omega)
      rw [e] at this; exact this
theorem c_stick (hs : zSd s) (hc : 0 ≤ c ∧ c < 96) (hr : 0 ≤ M (s + 1) c ∧ M (s + 1) c ≤ 2000000000) : zKi g (z1 o) mX5_stickAt [zA g s, zI c] M (fun r M' => r = (if 0 < M (s + 1) c then M (s + 3) 2 else M (s + 3) 3) ∧ M' = M) := by
  refine zki_of rfl (Nat.le_of_ble_eq_true rfl) (SX5_stickAt_0 hs ⟨hc, by omega, fun h => ⟨?_, rfl⟩, fun h => ⟨?_, rfl⟩⟩)
  · rw [if_neg (by omega)]
  · rw [if_pos (by omega)]
theorem c_draw (hs : zSd s) (h0 : 0 ≤ M s 3 ∧ M s 3 ≤ 10006) (hm : 0 < m ∧ m ≤ 2147483647) : zKi g (z1 o) mX5_drawOf [zA g s, zI m] M (fun r M' => r = (M s 3 * 137 + 71) % 10007 % m ∧ M' = zu M s 3 ((M s 3 * 137 + 71) % 10007)) := by
  refine zki_of rfl (Nat.le_of_ble_eq_true rfl) (SX5_drawOf_0 hs ⟨by omega, by omega, fun h => by omega, fun h => ?_⟩)
  rw [zu_at]
  exact ⟨by omega, by omega, rfl, rfl⟩
theorem wix_lt {sp : Int → Int} {n : Nat} {i l : Int} (h : ∀ j, i ≤ j → j < i + n → 1 ≤ sp j) (h0 : 0 ≤ l) (hl : l < smt (fun j => sp (i + j)) n) : i ≤ wix sp n i l ∧ wix sp n i l < i + n := by
  induction n generalizing i l with
  | zero => simp [smt] at hl; omega
  | succ n ih =>
    unfold wix
    split
    · omega
    · rename_i hs
      have e : smt (fun j => sp (i + j)) (n + 1) = sp i + smt (fun j => sp (i + 1 + j)) n := by
        clear ih hl h
        induction n with
        | zero => simp [smt]
        | succ n ih2 =>
          show smt (fun j => sp (i + j)) (n + 1) + sp (i + ((n + 1 : Nat) : Int)) = sp i + (smt (fun j => sp (i + 1 + j)) n + sp (i + 1 + (n : Int)))
          rw [ih2, show i + ((n + 1 : Nat) : Int) = i + 1 + (n : Int) by omega]; omega
      rw [e] at hl
      have := ih (i := i + 1) (l := l - sp i) (fun j h1 h2 => h j (by omega) (by omega)) (by omega) (by omega)
      omega
theorem c_wind (hL : zLand M C R) (ht : 0 ≤ t ∧ t ≤ 2147483647) : zKi g (z1 o) mX2_windAt [zA g 14, zI t] M (fun r M' => r = wnd M t ∧ M' = M) := by
  obtain ⟨-, -, -, -, -, hn, hrd, hw, -⟩ := hL
  obtain ⟨n, hnn⟩ : ∃ n : Nat, M 14 4 = (n : Int) := znn (by omega)
  rw [hnn, Int.toNat_natCast] at hrd
  rw [hnn] at hw hn
  have hpos : 1 ≤ smt (M 19) n := by
    cases n with
    | zero => omega
    | succ k =>
      have h1 := smt_nn (f := M 19) (n := k) (fun i h0 h1 => by have := hw i h0 (by omega); omega)
      have h2 := hw k (by omega) (by omega)
      show 1 ≤ smt (M 19) k + M 19 k
      omega
  have hle : smt (M 19) n ≤ n * 99 := smt_le (fun i h0 h1 => (hw i h0 h1).2.2)
  have hmod := md (C := M 14 5) (k := t) (by omega)
  refine zki_of rfl (Nat.le_of_ble_eq_true rfl) (SX2_windAt_0 ⟨by omega, fun h => by omega, fun h => ⟨by omega, by omega, ?_⟩⟩)
  suffices h : ∀ (j : Nat) (i l : Int), 0 ≤ i → i + j = n → 0 ≤ l → l < smt (fun z => M 19 (i + z)) j → l ≤ 2147483647 → zT g (z1 o) mX2_windAt (zQi (z1 o) (fun r M' => r = M 18 (wix (M 19) j i l) ∧ M' = M)) 20 [(0, zA g 14), (2, zI l), (3, zI i)] [] M by
    have hh := h n 0 (t % M 14 5) (by omega) (by omega) hmod.1 (by rw [hrd] at hmod ⊢; simpa using hmod.2) (by omega)
    unfold wnd
    rw [hnn, Int.toNat_natCast]
    exact hh
  intro j
  induction j with
  | zero => intro i l h0 h1 h2 h3 h4; simp [smt] at h3; omega
  | succ j ih =>
    intro i l h0 h1 h2 h3 h4
    have hi := hw i h0 (by omega)
    refine SX2_windAt_20 ⟨by omega, by omega, fun h => by omega, fun h => ⟨by omega, by omega, by omega, fun h5 => ?_, fun h5 => ?_⟩⟩
    · have e : wix (M 19) (j + 1) i l = wix (M 19) j (i + 1) (l - M 19 i) := by
        show (if l < M 19 i then i else wix (M 19) j (i + 1) (l - M 19 i)) = _
        rw [if_neg (by omega)]
      rw [e]
      refine ih (i + 1) (l - M 19 i) (by omega) (by omega) (by omega) ?_ (by omega)
      have key : ∀ k : Nat, smt (fun z => M 19 (i + z)) (k + 1) = M 19 i + smt (fun z => M 19 (i + 1 + z)) k := by
        intro k
        induction k with
        | zero => simp [smt]
        | succ k ih2 =>
          show smt (fun z => M 19 (i + z)) (k + 1) + M 19 (i + ((k + 1 : Nat) : Int)) = M 19 i + (smt (fun z => M 19 (i + 1 + z)) k + M 19 (i + 1 + (k : Int)))
          rw [ih2, show i + ((k + 1 : Nat) : Int) = i + 1 + (k : Int) by omega]; omega
      rw [key] at h3; omega
    · have e : wix (M 19) (j + 1) i l = i := by
        show (if l < M 19 i then i else wix (M 19) j (i + 1) (l - M 19 i)) = _
        rw [if_pos (by omega)]
      rw [e]
      exact ⟨rfl, rfl⟩
end CL
end
section
theorem dX7_cross_0 : decode cX7_cross 0 = .ok (.iload_n 3, 1) := by decide +kernel
theorem dX7_cross_1 : decode cX7_cross 1 = .ok (.ifCond .ne 24, 3) := by decide +kernel
theorem dX7_cross_4 : decode cX7_cross 4 = .ok (.aload_n 0, 1) := by decide +kernel
theorem dX7_cross_5 : decode cX7_cross 5 = .ok (.getfield 9, 3) := by decide +kernel
theorem dX7_cross_8 : decode cX7_cross 8 = .ok (.aload_n 0, 1) := by decide +kernel
theorem dX7_cross_9 : decode cX7_cross 9 = .ok (.getfield 22, 3) := by decide +kernel
theorem dX7_cross_12 : decode cX7_cross 12 = .ok (.getfield 125, 3) := by decide +kernel
theorem dX7_cross_15 : decode cX7_cross 15 = .ok (.iload_n 2, 1) := by decide +kernel
theorem dX7_cross_16 : decode cX7_cross 16 = .ok (.iaload, 1) := by decide +kernel
theorem dX7_cross_17 : decode cX7_cross 17 = .ok (.dup2, 1) := by decide +kernel
theorem dX7_cross_18 : decode cX7_cross 18 = .ok (.iaload, 1) := by decide +kernel
theorem dX7_cross_19 : decode cX7_cross 19 = .ok (.iconst 1, 1) := by decide +kernel
theorem dX7_cross_20 : decode cX7_cross 20 = .ok (.iadd, 1) := by decide +kernel
theorem dX7_cross_21 : decode cX7_cross 21 = .ok (.iastore, 1) := by decide +kernel
theorem dX7_cross_22 : decode cX7_cross 22 = .ok (.goto 26, 3) := by decide +kernel
theorem dX7_cross_25 : decode cX7_cross 25 = .ok (.iload_n 3, 1) := by decide +kernel
theorem dX7_cross_26 : decode cX7_cross 26 = .ok (.iconst 2, 1) := by decide +kernel
theorem dX7_cross_27 : decode cX7_cross 27 = .ok (.if_icmp .ne 21, 3) := by decide +kernel
theorem dX7_cross_30 : decode cX7_cross 30 = .ok (.aload_n 0, 1) := by decide +kernel
theorem dX7_cross_31 : decode cX7_cross 31 = .ok (.getfield 9, 3) := by decide +kernel
theorem dX7_cross_34 : decode cX7_cross 34 = .ok (.aload_n 0, 1) := by decide +kernel
theorem dX7_cross_35 : decode cX7_cross 35 = .ok (.getfield 22, 3) := by decide +kernel
theorem dX7_cross_38 : decode cX7_cross 38 = .ok (.getfield 125, 3) := by decide +kernel
theorem dX7_cross_41 : decode cX7_cross 41 = .ok (.iload_n 1, 1) := by decide +kernel
theorem dX7_cross_42 : decode cX7_cross 42 = .ok (.iaload, 1) := by decide +kernel
theorem dX7_cross_43 : decode cX7_cross 43 = .ok (.dup2, 1) := by decide +kernel
theorem dX7_cross_44 : decode cX7_cross 44 = .ok (.iaload, 1) := by decide +kernel
theorem dX7_cross_45 : decode cX7_cross 45 = .ok (.iconst 1, 1) := by decide +kernel
theorem dX7_cross_46 : decode cX7_cross 46 = .ok (.isub, 1) := by decide +kernel
theorem dX7_cross_47 : decode cX7_cross 47 = .ok (.iastore, 1) := by decide +kernel
theorem dX7_cross_48 : decode cX7_cross 48 = .ok (.return_, 1) := by decide +kernel
set_option maxRecDepth 100000 in
theorem SX7_cross_0 {g : zG} {o : Bool} {a s : Nat} (ha : zSt a s) {M : zM} {q : zM → Prop} {x1 x2 x3 : Int} (W : (-2147483648 ≤ x3 ∧ x3 ≤ 2147483647) ∧ ((x3 ≠ 0) → ((x3 ≠ 2) → q M) ∧ ((x3 = 2) → (0 ≤ x1 ∧ x1 < 96) ∧ (0 ≤ (M 15 x1) ∧ (M 15 x1) < 12) ∧ q (zu M (a + 1) (M 15 x1) ((M (a + 1) (M 15 x1)) - 1)))) ∧ ((x3 = 0) → (0 ≤ x2 ∧ x2 < 96) ∧ (0 ≤ (M 15 x2) ∧ (M 15 x2) < 12) ∧ q (zu M (a + 1) (M 15 x2) ((M (a + 1) (M 15 x2)) + 1)))) : zT g (z1 o) mX7_cross (zQv (z1 o) q) 0 [(0, zA g a), (1, zI x1), (2, zI x2), (3, zI x3)] [] M := by
  refine zr_iload_n 3 dX7_cross_0 rfl ?_
  obtain ⟨c1, W⟩ := W
  refine zr_if_ne (tgt := 25) dX7_cross_1 (by decide) c1 (fun h => ?_) (fun h => ?_)
  · have W := W.1 h
    refine zr_iload_n 3 dX7_cross_25 rfl ?_
    refine zr_iconst dX7_cross_26 ?_
    refine zr_icmp_ne (tgt := 48) dX7_cross_27 (by decide) c1 ⟨by decide, by decide⟩ (fun h => ?_) (fun h => ?_)
    · have W := W.1 h
      exact zt_ret dX7_cross_48 rfl W
    · have W := W.2 h
      refine zr_aload_n 0 dX7_cross_30 rfl ?_
      refine zr_getr (b := (a + 1)) dX7_cross_31 fX7_9 (zst_0 ha) rfl (zst_f2 ha) (Nat.succ_ne_zero _) ?_
      refine zr_aload_n 0 dX7_cross_34 rfl ?_
      refine zr_getr (b := 14) dX7_cross_35 fX7_22 (zst_0 ha) rfl (zst_f0 ha) (by decide) ?_
      refine zr_getr (b := 15) dX7_cross_38 fX7_125 rfl rfl rfl (by decide) ?_
      refine zr_iload_n 1 dX7_cross_41 rfl ?_
      obtain ⟨c2, W⟩ := W
      refine zr_iald dX7_cross_42 rfl (by decide) c2 ?_
      refine zr_dup2 dX7_cross_43 rfl rfl ?_
      obtain ⟨c3, W⟩ := W
      refine zr_iald dX7_cross_44 (zst_c ha) (by decide) c3 ?_
      refine zr_iconst dX7_cross_45 ?_
      refine zr_isub dX7_cross_46 ?_
      refine zr_iast dX7_cross_47 (zst_c ha) (by decide) c3 ?_
      exact zt_ret dX7_cross_48 rfl W
  · have W := W.2 h
    refine zr_aload_n 0 dX7_cross_4 rfl ?_
    refine zr_getr (b := (a + 1)) dX7_cross_5 fX7_9 (zst_0 ha) rfl (zst_f2 ha) (Nat.succ_ne_zero _) ?_
    refine zr_aload_n 0 dX7_cross_8 rfl ?_
    refine zr_getr (b := 14) dX7_cross_9 fX7_22 (zst_0 ha) rfl (zst_f0 ha) (by decide) ?_
    refine zr_getr (b := 15) dX7_cross_12 fX7_125 rfl rfl rfl (by decide) ?_
    refine zr_iload_n 2 dX7_cross_15 rfl ?_
    obtain ⟨c4, W⟩ := W
    refine zr_iald dX7_cross_16 rfl (by decide) c4 ?_
    refine zr_dup2 dX7_cross_17 rfl rfl ?_
    obtain ⟨c5, W⟩ := W
    refine zr_iald dX7_cross_18 (zst_c ha) (by decide) c5 ?_
    refine zr_iconst dX7_cross_19 ?_
    refine zr_iadd dX7_cross_20 ?_
    refine zr_iast dX7_cross_21 (zst_c ha) (by decide) c5 ?_
    refine zr_goto (tgt := 48) dX7_cross_22 (by decide) ?_
    exact zt_ret dX7_cross_48 rfl W
theorem dX7_wayUp_0 : decode cX7_wayUp 0 = .ok (.aload_n 0, 1) := by decide +kernel
theorem dX7_wayUp_1 : decode cX7_wayUp 1 = .ok (.getfield 26, 3) := by decide +kernel
theorem dX7_wayUp_4 : decode cX7_wayUp 4 = .ok (.getfield 79, 3) := by decide +kernel
theorem dX7_wayUp_7 : decode cX7_wayUp 7 = .ok (.iload_n 1, 1) := by decide +kernel
theorem dX7_wayUp_8 : decode cX7_wayUp 8 = .ok (.iaload, 1) := by decide +kernel
theorem dX7_wayUp_9 : decode cX7_wayUp 9 = .ok (.aload_n 0, 1) := by decide +kernel
theorem dX7_wayUp_10 : decode cX7_wayUp 10 = .ok (.getfield 22, 3) := by decide +kernel
theorem dX7_wayUp_13 : decode cX7_wayUp 13 = .ok (.getfield 122, 3) := by decide +kernel
theorem dX7_wayUp_16 : decode cX7_wayUp 16 = .ok (.iadd, 1) := by decide +kernel
theorem dX7_wayUp_17 : decode cX7_wayUp 17 = .ok (.istore_n 2, 1) := by decide +kernel
theorem dX7_wayUp_18 : decode cX7_wayUp 18 = .ok (.iconst (-1), 1) := by decide +kernel
theorem dX7_wayUp_19 : decode cX7_wayUp 19 = .ok (.istore_n 3, 1) := by decide +kernel
theorem dX7_wayUp_20 : decode cX7_wayUp 20 = .ok (.iconst 0, 1) := by decide +kernel
theorem dX7_wayUp_21 : decode cX7_wayUp 21 = .ok (.istore 4, 2) := by decide +kernel
theorem dX7_wayUp_23 : decode cX7_wayUp 23 = .ok (.iload 4, 2) := by decide +kernel
theorem dX7_wayUp_25 : decode cX7_wayUp 25 = .ok (.iconst 4, 1) := by decide +kernel
theorem dX7_wayUp_26 : decode cX7_wayUp 26 = .ok (.if_icmp .ge 41, 3) := by decide +kernel
theorem dX7_wayUp_29 : decode cX7_wayUp 29 = .ok (.aload_n 0, 1) := by decide +kernel
theorem dX7_wayUp_30 : decode cX7_wayUp 30 = .ok (.getfield 26, 3) := by decide +kernel
theorem dX7_wayUp_33 : decode cX7_wayUp 33 = .ok (.getfield 79, 3) := by decide +kernel
theorem dX7_wayUp_36 : decode cX7_wayUp 36 = .ok (.aload_n 0, 1) := by decide +kernel
theorem dX7_wayUp_37 : decode cX7_wayUp 37 = .ok (.getfield 22, 3) := by decide +kernel
theorem dX7_wayUp_40 : decode cX7_wayUp 40 = .ok (.iload_n 1, 1) := by decide +kernel
theorem dX7_wayUp_41 : decode cX7_wayUp 41 = .ok (.iload 4, 2) := by decide +kernel
theorem dX7_wayUp_43 : decode cX7_wayUp 43 = .ok (.invokevirtual 97, 3) := by decide +kernel
theorem dX7_wayUp_46 : decode cX7_wayUp 46 = .ok (.iaload, 1) := by decide +kernel
theorem dX7_wayUp_47 : decode cX7_wayUp 47 = .ok (.istore 5, 2) := by decide +kernel
theorem dX7_wayUp_49 : decode cX7_wayUp 49 = .ok (.iload 5, 2) := by decide +kernel
theorem dX7_wayUp_51 : decode cX7_wayUp 51 = .ok (.iload_n 2, 1) := by decide +kernel
theorem dX7_wayUp_52 : decode cX7_wayUp 52 = .ok (.if_icmp .le 9, 3) := by decide +kernel
theorem dX7_wayUp_55 : decode cX7_wayUp 55 = .ok (.iload 5, 2) := by decide +kernel
theorem dX7_wayUp_57 : decode cX7_wayUp 57 = .ok (.istore_n 2, 1) := by decide +kernel
theorem dX7_wayUp_58 : decode cX7_wayUp 58 = .ok (.iload 4, 2) := by decide +kernel
theorem dX7_wayUp_60 : decode cX7_wayUp 60 = .ok (.istore_n 3, 1) := by decide +kernel
theorem dX7_wayUp_61 : decode cX7_wayUp 61 = .ok (.iinc 4 1, 3) := by decide +kernel
theorem dX7_wayUp_64 : decode cX7_wayUp 64 = .ok (.goto (-41), 3) := by decide +kernel
theorem dX7_wayUp_67 : decode cX7_wayUp 67 = .ok (.iload_n 3, 1) := by decide +kernel
theorem dX7_wayUp_68 : decode cX7_wayUp 68 = .ok (.ireturn, 1) := by decide +kernel
set_option maxRecDepth 100000 in
theorem SX7_wayUp_0 {g : zG} {o : Bool} {a s : Nat} (ha : zSt a s) {M : zM} {q : Int → zM → Prop} {x1 : Int} (W : (0 ≤ x1 ∧ x1 < 96) ∧ zT g (z1 o) mX7_wayUp (zQi (z1 o) q) 23 [(0, zA g a), (1, zI x1), (2, zI ((M (s + 1) x1) + (M 14 3))), (3, zI (-1)), (4, zI 0)] [] M) : zT g (z1 o) mX7_wayUp (zQi (z1 o) q) 0 [(0, zA g a), (1, zI x1)] [] M := by
  refine zr_aload_n 0 dX7_wayUp_0 rfl ?_
  refine zr_getr (b := s) dX7_wayUp_1 fX7_26 (zst_0 ha) rfl (zst_f1 ha) (zsd_nz (zst_s ha)) ?_
  refine zr_getr (b := (s + 1)) dX7_wayUp_4 fX7_79 (zsd_0 (zst_s ha)) rfl (zsd_f0 (zst_s ha)) (Nat.succ_ne_zero _) ?_
  refine zr_iload_n 1 dX7_wayUp_7 rfl ?_
  obtain ⟨c1, W⟩ := W
  refine zr_iald dX7_wayUp_8 (zsd_1 (zst_s ha)) (by decide) c1 ?_
  refine zr_aload_n 0 dX7_wayUp_9 rfl ?_
  refine zr_getr (b := 14) dX7_wayUp_10 fX7_22 (zst_0 ha) rfl (zst_f0 ha) (by decide) ?_
  refine zt_geti 3 rfl dX7_wayUp_13 fX7_122 rfl (by decide) ?_
  refine zr_iadd dX7_wayUp_16 ?_
  refine zr_istore_n (l' := [(0, zA g a), (1, zI x1), (2, zI ((M (s + 1) x1) + (M 14 3)))]) dX7_wayUp_17 (by decide) [1, 2, 0] rfl ?_
  refine zr_iconst dX7_wayUp_18 ?_
  refine zr_istore_n (l' := [(0, zA g a), (1, zI x1), (2, zI ((M (s + 1) x1) + (M 14 3))), (3, zI (-1))]) dX7_wayUp_19 (by decide) [1, 2, 3, 0] rfl ?_
  refine zr_iconst dX7_wayUp_20 ?_
  refine zr_istore (l' := [(0, zA g a), (1, zI x1), (2, zI ((M (s + 1) x1) + (M 14 3))), (3, zI (-1)), (4, zI 0)]) dX7_wayUp_21 (by decide) [1, 2, 3, 4, 0] rfl ?_
  exact W
set_option maxRecDepth 100000 in
theorem SX7_wayUp_23 {g : zG} {o : Bool} {a s : Nat} (ha : zSt a s) {C R : Int} {M : zM} {q : Int → zM → Prop} {x1 x2 x3 x4 : Int} (W : (-2147483648 ≤ x4 ∧ x4 ≤ 2147483647) ∧ ((4 ≤ x4) → q x3 M) ∧ ((¬ (4 ≤ x4)) → (zLand M C R) ∧ (0 ≤ x1 ∧ x1 < C * R) ∧ (0 ≤ x4 ∧ x4 ≤ 3) ∧ (0 ≤ (alg C R x1 x4 1) ∧ (alg C R x1 x4 1) < 96) ∧ (-2147483648 ≤ (M (s + 1) (alg C R x1 x4 1)) ∧ (M (s + 1) (alg C R x1 x4 1)) ≤ 2147483647) ∧ (-2147483648 ≤ x2 ∧ x2 ≤ 2147483647) ∧ (((M (s + 1) (alg C R x1 x4 1)) ≤ x2) → zT g (z1 o) mX7_wayUp (zQi (z1 o) q) 23 [(0, zA g a), (1, zI x1), (2, zI x2), (3, zI x3), (4, zI (x4 + 1))] [] M) ∧ ((¬ ((M (s + 1) (alg C R x1 x4 1)) ≤ x2)) → zT g (z1 o) mX7_wayUp (zQi (z1 o) q) 23 [(0, zA g a), (1, zI x1), (2, zI (M (s + 1) (alg C R x1 x4 1))), (3, zI x4), (4, zI (x4 + 1))] [] M))) : zT g (z1 o) mX7_wayUp (zQi (z1 o) q) 23 [(0, zA g a), (1, zI x1), (2, zI x2), (3, zI x3), (4, zI x4)] [] M := by
  refine zr_iload 4 dX7_wayUp_23 rfl ?_
  refine zr_iconst dX7_wayUp_25 ?_
  obtain ⟨c1, W⟩ := W
  refine zr_icmp_ge (tgt := 67) dX7_wayUp_26 (by decide) c1 ⟨by decide, by decide⟩ (fun h => ?_) (fun h => ?_)
  · have W := W.1 h
    refine zr_iload_n 3 dX7_wayUp_67 rfl ?_
    exact zt_iret dX7_wayUp_68 rfl W
  · have W := W.2 h
    refine zr_aload_n 0 dX7_wayUp_29 rfl ?_
    refine zr_getr (b := s) dX7_wayUp_30 fX7_26 (zst_0 ha) rfl (zst_f1 ha) (zsd_nz (zst_s ha)) ?_
    refine zr_getr (b := (s + 1)) dX7_wayUp_33 fX7_79 (zsd_0 (zst_s ha)) rfl (zsd_f0 (zst_s ha)) (Nat.succ_ne_zero _) ?_
    refine zr_aload_n 0 dX7_wayUp_36 rfl ?_
    refine zr_getr (b := 14) dX7_wayUp_37 fX7_22 (zst_0 ha) rfl (zst_f0 ha) (by decide) ?_
    refine zr_iload_n 1 dX7_wayUp_40 rfl ?_
    refine zr_iload 4 dX7_wayUp_41 rfl ?_
    obtain ⟨c2, W⟩ := W
    obtain ⟨c3, W⟩ := W
    obtain ⟨c4, W⟩ := W
    refine zt_callVi (As := [zI x1, zI x4]) (rest := [zA g (s + 1)]) dX7_wayUp_43 kX7_wayUp_97 rfl rfl rfl rfl (Nat.le_of_ble_eq_true rfl) (c_nbr c2 c3 c4) (fun r8 N10 h9 => ?_)
    rw [h9.1, h9.2]
    obtain ⟨c5, W⟩ := W
    refine zr_iald dX7_wayUp_46 (zsd_1 (zst_s ha)) (by decide) c5 ?_
    refine zr_istore (l' := [(0, zA g a), (1, zI x1), (2, zI x2), (3, zI x3), (4, zI x4), (5, zI (M (s + 1) (alg C R x1 x4 1)))]) dX7_wayUp_47 (by decide) [1, 2, 3, 4, 5, 0] rfl ?_
    refine zr_iload 5 dX7_wayUp_49 rfl ?_
    refine zr_iload_n 2 dX7_wayUp_51 rfl ?_
    obtain ⟨c6, W⟩ := W
    obtain ⟨c7, W⟩ := W
    refine zr_icmp_le (tgt := 61) dX7_wayUp_52 (by decide) c6 c7 (fun h => ?_) (fun h => ?_)
    · have W := W.1 h
      refine zr_iinc (q := 4) (l' := [(0, zA g a), (1, zI x1), (2, zI x2), (3, zI x3), (4, zI (x4 + 1))]) dX7_wayUp_61 rfl (by decide) [1, 2, 3, 4, 0] rfl ?_
      refine zr_goto (tgt := 23) dX7_wayUp_64 (by decide) ?_
      exact W
    · have W := W.2 h
      refine zr_iload 5 dX7_wayUp_55 rfl ?_
      refine zr_istore_n (l' := [(0, zA g a), (1, zI x1), (2, zI (M (s + 1) (alg C R x1 x4 1))), (4, zI x4)]) dX7_wayUp_57 (by decide) [1, 2, 0, 4] rfl ?_
      refine zr_iload 3 dX7_wayUp_58 rfl ?_
      refine zr_istore_n (l' := [(0, zA g a), (1, zI x1), (2, zI (M (s + 1) (alg C R x1 x4 1))), (3, zI x4), (4, zI x4)]) dX7_wayUp_60 (by decide) [1, 2, 3, 0, 4] rfl ?_
      refine zr_iinc (q := 4) (l' := [(0, zA g a), (1, zI x1), (2, zI (M (s + 1) (alg C R x1 x4 1))), (3, zI x4), (4, zI (x4 + 1))]) dX7_wayUp_61 rfl (by decide) [1, 2, 3, 4, 0] rfl ?_
      refine zr_goto (tgt := 23) dX7_wayUp_64 (by decide) ?_
      exact W
theorem dX7_wayDown_0 : decode cX7_wayDown 0 = .ok (.aload_n 0, 1) := by decide +kernel
theorem dX7_wayDown_1 : decode cX7_wayDown 1 = .ok (.getfield 26, 3) := by decide +kernel
theorem dX7_wayDown_4 : decode cX7_wayDown 4 = .ok (.getfield 79, 3) := by decide +kernel
theorem dX7_wayDown_7 : decode cX7_wayDown 7 = .ok (.iload_n 1, 1) := by decide +kernel
theorem dX7_wayDown_8 : decode cX7_wayDown 8 = .ok (.iaload, 1) := by decide +kernel
theorem dX7_wayDown_9 : decode cX7_wayDown 9 = .ok (.aload_n 0, 1) := by decide +kernel
theorem dX7_wayDown_10 : decode cX7_wayDown 10 = .ok (.getfield 22, 3) := by decide +kernel
theorem dX7_wayDown_13 : decode cX7_wayDown 13 = .ok (.getfield 122, 3) := by decide +kernel
theorem dX7_wayDown_16 : decode cX7_wayDown 16 = .ok (.isub, 1) := by decide +kernel
theorem dX7_wayDown_17 : decode cX7_wayDown 17 = .ok (.istore_n 2, 1) := by decide +kernel
theorem dX7_wayDown_18 : decode cX7_wayDown 18 = .ok (.iconst (-1), 1) := by decide +kernel
theorem dX7_wayDown_19 : decode cX7_wayDown 19 = .ok (.istore_n 3, 1) := by decide +kernel
theorem dX7_wayDown_20 : decode cX7_wayDown 20 = .ok (.iconst 0, 1) := by decide +kernel
theorem dX7_wayDown_21 : decode cX7_wayDown 21 = .ok (.istore 4, 2) := by decide +kernel
theorem dX7_wayDown_23 : decode cX7_wayDown 23 = .ok (.iload 4, 2) := by decide +kernel
theorem dX7_wayDown_25 : decode cX7_wayDown 25 = .ok (.iconst 4, 1) := by decide +kernel
theorem dX7_wayDown_26 : decode cX7_wayDown 26 = .ok (.if_icmp .ge 41, 3) := by decide +kernel
theorem dX7_wayDown_29 : decode cX7_wayDown 29 = .ok (.aload_n 0, 1) := by decide +kernel
theorem dX7_wayDown_30 : decode cX7_wayDown 30 = .ok (.getfield 26, 3) := by decide +kernel
theorem dX7_wayDown_33 : decode cX7_wayDown 33 = .ok (.getfield 79, 3) := by decide +kernel
theorem dX7_wayDown_36 : decode cX7_wayDown 36 = .ok (.aload_n 0, 1) := by decide +kernel
theorem dX7_wayDown_37 : decode cX7_wayDown 37 = .ok (.getfield 22, 3) := by decide +kernel
theorem dX7_wayDown_40 : decode cX7_wayDown 40 = .ok (.iload_n 1, 1) := by decide +kernel
theorem dX7_wayDown_41 : decode cX7_wayDown 41 = .ok (.iload 4, 2) := by decide +kernel
theorem dX7_wayDown_43 : decode cX7_wayDown 43 = .ok (.invokevirtual 97, 3) := by decide +kernel
theorem dX7_wayDown_46 : decode cX7_wayDown 46 = .ok (.iaload, 1) := by decide +kernel
theorem dX7_wayDown_47 : decode cX7_wayDown 47 = .ok (.istore 5, 2) := by decide +kernel
theorem dX7_wayDown_49 : decode cX7_wayDown 49 = .ok (.iload 5, 2) := by decide +kernel
theorem dX7_wayDown_51 : decode cX7_wayDown 51 = .ok (.iload_n 2, 1) := by decide +kernel
theorem dX7_wayDown_52 : decode cX7_wayDown 52 = .ok (.if_icmp .ge 9, 3) := by decide +kernel
theorem dX7_wayDown_55 : decode cX7_wayDown 55 = .ok (.iload 5, 2) := by decide +kernel
theorem dX7_wayDown_57 : decode cX7_wayDown 57 = .ok (.istore_n 2, 1) := by decide +kernel
theorem dX7_wayDown_58 : decode cX7_wayDown 58 = .ok (.iload 4, 2) := by decide +kernel
theorem dX7_wayDown_60 : decode cX7_wayDown 60 = .ok (.istore_n 3, 1) := by decide +kernel
theorem dX7_wayDown_61 : decode cX7_wayDown 61 = .ok (.iinc 4 1, 3) := by decide +kernel
theorem dX7_wayDown_64 : decode cX7_wayDown 64 = .ok (.goto (-41), 3) := by decide +kernel
theorem dX7_wayDown_67 : decode cX7_wayDown 67 = .ok (.iload_n 3, 1) := by decide +kernel
theorem dX7_wayDown_68 : decode cX7_wayDown 68 = .ok (.ireturn, 1) := by decide +kernel
set_option maxRecDepth 100000 in
theorem SX7_wayDown_0 {g : zG} {o : Bool} {a s : Nat} (ha : zSt a s) {M : zM} {q : Int → zM → Prop} {x1 : Int} (W : (0 ≤ x1 ∧ x1 < 96) ∧ zT g (z1 o) mX7_wayDown (zQi (z1 o) q) 23 [(0, zA g a), (1, zI x1), (2, zI ((M (s + 1) x1) - (M 14 3))), (3, zI (-1)), (4, zI 0)] [] M) : zT g (z1 o) mX7_wayDown (zQi (z1 o) q) 0 [(0, zA g a), (1, zI x1)] [] M := by
  refine zr_aload_n 0 dX7_wayDown_0 rfl ?_
  refine zr_getr (b := s) dX7_wayDown_1 fX7_26 (zst_0 ha) rfl (zst_f1 ha) (zsd_nz (zst_s ha)) ?_
  refine zr_getr (b := (s + 1)) dX7_wayDown_4 fX7_79 (zsd_0 (zst_s ha)) rfl (zsd_f0 (zst_s ha)) (Nat.succ_ne_zero _) ?_
  refine zr_iload_n 1 dX7_wayDown_7 rfl ?_
  obtain ⟨c1, W⟩ := W
  refine zr_iald dX7_wayDown_8 (zsd_1 (zst_s ha)) (by decide) c1 ?_
  refine zr_aload_n 0 dX7_wayDown_9 rfl ?_
  refine zr_getr (b := 14) dX7_wayDown_10 fX7_22 (zst_0 ha) rfl (zst_f0 ha) (by decide) ?_
  refine zt_geti 3 rfl dX7_wayDown_13 fX7_122 rfl (by decide) ?_
  refine zr_isub dX7_wayDown_16 ?_
  refine zr_istore_n (l' := [(0, zA g a), (1, zI x1), (2, zI ((M (s + 1) x1) - (M 14 3)))]) dX7_wayDown_17 (by decide) [1, 2, 0] rfl ?_
  refine zr_iconst dX7_wayDown_18 ?_
  refine zr_istore_n (l' := [(0, zA g a), (1, zI x1), (2, zI ((M (s + 1) x1) - (M 14 3))), (3, zI (-1))]) dX7_wayDown_19 (by decide) [1, 2, 3, 0] rfl ?_
  refine zr_iconst dX7_wayDown_20 ?_
  refine zr_istore (l' := [(0, zA g a), (1, zI x1), (2, zI ((M (s + 1) x1) - (M 14 3))), (3, zI (-1)), (4, zI 0)]) dX7_wayDown_21 (by decide) [1, 2, 3, 4, 0] rfl ?_
  exact W
set_option maxRecDepth 100000 in
theorem SX7_wayDown_23 {g : zG} {o : Bool} {a s : Nat} (ha : zSt a s) {C R : Int} {M : zM} {q : Int → zM → Prop} {x1 x2 x3 x4 : Int} (W : (-2147483648 ≤ x4 ∧ x4 ≤ 2147483647) ∧ ((4 ≤ x4) → q x3 M) ∧ ((¬ (4 ≤ x4)) → (zLand M C R) ∧ (0 ≤ x1 ∧ x1 < C * R) ∧ (0 ≤ x4 ∧ x4 ≤ 3) ∧ (0 ≤ (alg C R x1 x4 1) ∧ (alg C R x1 x4 1) < 96) ∧ (-2147483648 ≤ (M (s + 1) (alg C R x1 x4 1)) ∧ (M (s + 1) (alg C R x1 x4 1)) ≤ 2147483647) ∧ (-2147483648 ≤ x2 ∧ x2 ≤ 2147483647) ∧ ((x2 ≤ (M (s + 1) (alg C R x1 x4 1))) → zT g (z1 o) mX7_wayDown (zQi (z1 o) q) 23 [(0, zA g a), (1, zI x1), (2, zI x2), (3, zI x3), (4, zI (x4 + 1))] [] M) ∧ ((¬ (x2 ≤ (M (s + 1) (alg C R x1 x4 1)))) → zT g (z1 o) mX7_wayDown (zQi (z1 o) q) 23 [(0, zA g a), (1, zI x1), (2, zI (M (s + 1) (alg C R x1 x4 1))), (3, zI x4), (4, zI (x4 + 1))] [] M))) : zT g (z1 o) mX7_wayDown (zQi (z1 o) q) 23 [(0, zA g a), (1, zI x1), (2, zI x2), (3, zI x3), (4, zI x4)] [] M := by
  refine zr_iload 4 dX7_wayDown_23 rfl ?_
  refine zr_iconst dX7_wayDown_25 ?_
  obtain ⟨c1, W⟩ := W
  refine zr_icmp_ge (tgt := 67) dX7_wayDown_26 (by decide) c1 ⟨by decide, by decide⟩ (fun h => ?_) (fun h => ?_)
  · have W := W.1 h
    refine zr_iload_n 3 dX7_wayDown_67 rfl ?_
    exact zt_iret dX7_wayDown_68 rfl W
  · have W := W.2 h
    refine zr_aload_n 0 dX7_wayDown_29 rfl ?_
    refine zr_getr (b := s) dX7_wayDown_30 fX7_26 (zst_0 ha) rfl (zst_f1 ha) (zsd_nz (zst_s ha)) ?_
    refine zr_getr (b := (s + 1)) dX7_wayDown_33 fX7_79 (zsd_0 (zst_s ha)) rfl (zsd_f0 (zst_s ha)) (Nat.succ_ne_zero _) ?_
    refine zr_aload_n 0 dX7_wayDown_36 rfl ?_
    refine zr_getr (b := 14) dX7_wayDown_37 fX7_22 (zst_0 ha) rfl (zst_f0 ha) (by decide) ?_
    refine zr_iload_n 1 dX7_wayDown_40 rfl ?_
    refine zr_iload 4 dX7_wayDown_41 rfl ?_
    obtain ⟨c2, W⟩ := W
    obtain ⟨c3, W⟩ := W
    obtain ⟨c4, W⟩ := W
    refine zt_callVi (As := [zI x1, zI x4]) (rest := [zA g (s + 1)]) dX7_wayDown_43 kX7_wayDown_97 rfl rfl rfl rfl (Nat.le_of_ble_eq_true rfl) (c_nbr c2 c3 c4) (fun r8 N10 h9 => ?_)
    rw [h9.1, h9.2]
    obtain ⟨c5, W⟩ := W
    refine zr_iald dX7_wayDown_46 (zsd_1 (zst_s ha)) (by decide) c5 ?_
    refine zr_istore (l' := [(0, zA g a), (1, zI x1), (2, zI x2), (3, zI x3), (4, zI x4), (5, zI (M (s + 1) (alg C R x1 x4 1)))]) dX7_wayDown_47 (by decide) [1, 2, 3, 4, 5, 0] rfl ?_
    refine zr_iload 5 dX7_wayDown_49 rfl ?_
    refine zr_iload_n 2 dX7_wayDown_51 rfl ?_
    obtain ⟨c6, W⟩ := W
    obtain ⟨c7, W⟩ := W
    refine zr_icmp_ge (tgt := 61) dX7_wayDown_52 (by decide) c6 c7 (fun h => ?_) (fun h => ?_)
    · have W := W.1 h
      refine zr_iinc (q := 4) (l' := [(0, zA g a), (1, zI x1), (2, zI x2), (3, zI x3), (4, zI (x4 + 1))]) dX7_wayDown_61 rfl (by decide) [1, 2, 3, 4, 0] rfl ?_
      refine zr_goto (tgt := 23) dX7_wayDown_64 (by decide) ?_
      exact W
    · have W := W.2 h
      refine zr_iload 5 dX7_wayDown_55 rfl ?_
      refine zr_istore_n (l' := [(0, zA g a), (1, zI x1), (2, zI (M (s + 1) (alg C R x1 x4 1))), (4, zI x4)]) dX7_wayDown_57 (by decide) [1, 2, 0, 4] rfl ?_
      refine zr_iload 3 dX7_wayDown_58 rfl ?_
      refine zr_istore_n (l' := [(0, zA g a), (1, zI x1), (2, zI (M (s + 1) (alg C R x1 x4 1))), (3, zI x4), (4, zI x4)]) dX7_wayDown_60 (by decide) [1, 2, 3, 0, 4] rfl ?_
      refine zr_iinc (q := 4) (l' := [(0, zA g a), (1, zI x1), (2, zI (M (s + 1) (alg C R x1 x4 1))), (3, zI x4), (4, zI (x4 + 1))]) dX7_wayDown_61 rfl (by decide) [1, 2, 3, 4, 0] rfl ?_
      refine zr_goto (tgt := 23) dX7_wayDown_64 (by decide) ?_
      exact W
theorem dX7_shaded_0 : decode cX7_shaded 0 = .ok (.iload_n 2, 1) := by decide +kernel
theorem dX7_shaded_1 : decode cX7_shaded 1 = .ok (.iconst 2, 1) := by decide +kernel
theorem dX7_shaded_2 : decode cX7_shaded 2 = .ok (.ixor, 1) := by decide +kernel
theorem dX7_shaded_3 : decode cX7_shaded 3 = .ok (.istore_n 3, 1) := by decide +kernel
theorem dX7_shaded_4 : decode cX7_shaded 4 = .ok (.aload_n 0, 1) := by decide +kernel
theorem dX7_shaded_5 : decode cX7_shaded 5 = .ok (.getfield 22, 3) := by decide +kernel
theorem dX7_shaded_8 : decode cX7_shaded 8 = .ok (.iload_n 2, 1) := by decide +kernel
theorem dX7_shaded_9 : decode cX7_shaded 9 = .ok (.invokevirtual 104, 3) := by decide +kernel
theorem dX7_shaded_12 : decode cX7_shaded 12 = .ok (.istore 4, 2) := by decide +kernel
theorem dX7_shaded_14 : decode cX7_shaded 14 = .ok (.iload_n 1, 1) := by decide +kernel
theorem dX7_shaded_15 : decode cX7_shaded 15 = .ok (.istore 5, 2) := by decide +kernel
theorem dX7_shaded_17 : decode cX7_shaded 17 = .ok (.aload_n 0, 1) := by decide +kernel
theorem dX7_shaded_18 : decode cX7_shaded 18 = .ok (.getfield 26, 3) := by decide +kernel
theorem dX7_shaded_21 : decode cX7_shaded 21 = .ok (.getfield 79, 3) := by decide +kernel
theorem dX7_shaded_24 : decode cX7_shaded 24 = .ok (.iload_n 1, 1) := by decide +kernel
theorem dX7_shaded_25 : decode cX7_shaded 25 = .ok (.iaload, 1) := by decide +kernel
theorem dX7_shaded_26 : decode cX7_shaded 26 = .ok (.istore 6, 2) := by decide +kernel
theorem dX7_shaded_28 : decode cX7_shaded 28 = .ok (.iconst 1, 1) := by decide +kernel
theorem dX7_shaded_29 : decode cX7_shaded 29 = .ok (.istore 7, 2) := by decide +kernel
theorem dX7_shaded_31 : decode cX7_shaded 31 = .ok (.iload 7, 2) := by decide +kernel
theorem dX7_shaded_33 : decode cX7_shaded 33 = .ok (.iload 4, 2) := by decide +kernel
theorem dX7_shaded_35 : decode cX7_shaded 35 = .ok (.if_icmp .ge 52, 3) := by decide +kernel
theorem dX7_shaded_38 : decode cX7_shaded 38 = .ok (.aload_n 0, 1) := by decide +kernel
theorem dX7_shaded_39 : decode cX7_shaded 39 = .ok (.getfield 22, 3) := by decide +kernel
theorem dX7_shaded_42 : decode cX7_shaded 42 = .ok (.iload 5, 2) := by decide +kernel
theorem dX7_shaded_44 : decode cX7_shaded 44 = .ok (.iload_n 3, 1) := by decide +kernel
theorem dX7_shaded_45 : decode cX7_shaded 45 = .ok (.invokevirtual 97, 3) := by decide +kernel
theorem dX7_shaded_48 : decode cX7_shaded 48 = .ok (.istore 5, 2) := by decide +kernel
theorem dX7_shaded_50 : decode cX7_shaded 50 = .ok (.iload 6, 2) := by decide +kernel
theorem dX7_shaded_52 : decode cX7_shaded 52 = .ok (.aload_n 0, 1) := by decide +kernel
theorem dX7_shaded_53 : decode cX7_shaded 53 = .ok (.getfield 26, 3) := by decide +kernel
theorem dX7_shaded_56 : decode cX7_shaded 56 = .ok (.getfield 94, 3) := by decide +kernel
theorem dX7_shaded_59 : decode cX7_shaded 59 = .ok (.iconst 1, 1) := by decide +kernel
theorem dX7_shaded_60 : decode cX7_shaded 60 = .ok (.iaload, 1) := by decide +kernel
theorem dX7_shaded_61 : decode cX7_shaded 61 = .ok (.iadd, 1) := by decide +kernel
theorem dX7_shaded_62 : decode cX7_shaded 62 = .ok (.istore 6, 2) := by decide +kernel
theorem dX7_shaded_64 : decode cX7_shaded 64 = .ok (.aload_n 0, 1) := by decide +kernel
theorem dX7_shaded_65 : decode cX7_shaded 65 = .ok (.getfield 26, 3) := by decide +kernel
theorem dX7_shaded_68 : decode cX7_shaded 68 = .ok (.getfield 79, 3) := by decide +kernel
theorem dX7_shaded_71 : decode cX7_shaded 71 = .ok (.iload 5, 2) := by decide +kernel
theorem dX7_shaded_73 : decode cX7_shaded 73 = .ok (.iaload, 1) := by decide +kernel
theorem dX7_shaded_74 : decode cX7_shaded 74 = .ok (.iload 6, 2) := by decide +kernel
theorem dX7_shaded_76 : decode cX7_shaded 76 = .ok (.if_icmp .lt 5, 3) := by decide +kernel
theorem dX7_shaded_79 : decode cX7_shaded 79 = .ok (.iconst 1, 1) := by decide +kernel
theorem dX7_shaded_80 : decode cX7_shaded 80 = .ok (.ireturn, 1) := by decide +kernel
theorem dX7_shaded_81 : decode cX7_shaded 81 = .ok (.iinc 7 1, 3) := by decide +kernel
theorem dX7_shaded_84 : decode cX7_shaded 84 = .ok (.goto (-53), 3) := by decide +kernel
theorem dX7_shaded_87 : decode cX7_shaded 87 = .ok (.iconst 0, 1) := by decide +kernel
theorem dX7_shaded_88 : decode cX7_shaded 88 = .ok (.ireturn, 1) := by decide +kernel
set_option maxRecDepth 100000 in
theorem SX7_shaded_0 {g : zG} {o : Bool} {a s : Nat} (ha : zSt a s) {C R : Int} {M : zM} {q : Int → zM → Prop} {x1 x2 : Int} (W : (0 ≤ x2 ∧ x2 ≤ 3) ∧ (zLand M C R) ∧ (0 ≤ x1 ∧ x1 < 96) ∧ zT g (z1 o) mX7_shaded (zQi (z1 o) q) 31 [(0, zA g a), (3, zI (if x2 < 2 then x2 + 2 else x2 - 2)), (4, zI (rnd C R x2)), (5, zI x1), (6, zI (M (s + 1) x1)), (7, zI 1)] [] M) : zT g (z1 o) mX7_shaded (zQi (z1 o) q) 0 [(0, zA g a), (1, zI x1), (2, zI x2)] [] M := by
  refine zr_iload_n 2 dX7_shaded_0 rfl ?_
  refine zr_iconst dX7_shaded_1 ?_
  obtain ⟨c1, W⟩ := W
  refine zr_ixor dX7_shaded_2 c1 ?_
  refine zr_istore_n (l' := [(0, zA g a), (1, zI x1), (2, zI x2), (3, zI (if x2 < 2 then x2 + 2 else x2 - 2))]) dX7_shaded_3 (by decide) [1, 2, 3, 0] rfl ?_
  refine zr_aload_n 0 dX7_shaded_4 rfl ?_
  refine zr_getr (b := 14) dX7_shaded_5 fX7_22 (zst_0 ha) rfl (zst_f0 ha) (by decide) ?_
  refine zr_iload_n 2 dX7_shaded_8 rfl ?_
  obtain ⟨c2, W⟩ := W
  refine zt_callVi (As := [zI x2]) (rest := []) dX7_shaded_9 kX7_shaded_104 rfl rfl rfl rfl (Nat.le_of_ble_eq_true rfl) (c_round c2 c1) (fun r4 N6 h5 => ?_)
  rw [h5.1, h5.2]
  refine zr_istore (l' := [(0, zA g a), (1, zI x1), (3, zI (if x2 < 2 then x2 + 2 else x2 - 2)), (4, zI (rnd C R x2))]) dX7_shaded_12 (by decide) [1, 2, 4, 0] rfl ?_
  refine zr_iload_n 1 dX7_shaded_14 rfl ?_
  refine zr_istore (l' := [(0, zA g a), (1, zI x1), (3, zI (if x2 < 2 then x2 + 2 else x2 - 2)), (4, zI (rnd C R x2)), (5, zI x1)]) dX7_shaded_15 (by decide) [1, 2, 3, 4, 0] rfl ?_
  refine zr_aload_n 0 dX7_shaded_17 rfl ?_
  refine zr_getr (b := s) dX7_shaded_18 fX7_26 (zst_0 ha) rfl (zst_f1 ha) (zsd_nz (zst_s ha)) ?_
  refine zr_getr (b := (s + 1)) dX7_shaded_21 fX7_79 (zsd_0 (zst_s ha)) rfl (zsd_f0 (zst_s ha)) (Nat.succ_ne_zero _) ?_
  refine zr_iload_n 1 dX7_shaded_24 rfl ?_
  obtain ⟨c3, W⟩ := W
  refine zr_iald dX7_shaded_25 (zsd_1 (zst_s ha)) (by decide) c3 ?_
  refine zr_istore (l' := [(0, zA g a), (3, zI (if x2 < 2 then x2 + 2 else x2 - 2)), (4, zI (rnd C R x2)), (5, zI x1), (6, zI (M (s + 1) x1))]) dX7_shaded_26 (by decide) [1, 3, 4, 5, 0] rfl ?_
  refine zr_iconst dX7_shaded_28 ?_
  refine zr_istore (l' := [(0, zA g a), (3, zI (if x2 < 2 then x2 + 2 else x2 - 2)), (4, zI (rnd C R x2)), (5, zI x1), (6, zI (M (s + 1) x1)), (7, zI 1)]) dX7_shaded_29 (by decide) [1, 2, 3, 4, 5, 0] rfl ?_
  exact W
set_option maxRecDepth 100000 in
theorem SX7_shaded_31 {g : zG} {o : Bool} {a s : Nat} (ha : zSt a s) {C R : Int} {M : zM} {q : Int → zM → Prop} {x3 x4 x5 x6 x7 : Int} (W : (-2147483648 ≤ x7 ∧ x7 ≤ 2147483647) ∧ (-2147483648 ≤ x4 ∧ x4 ≤ 2147483647) ∧ ((x4 ≤ x7) → q 0 M) ∧ ((¬ (x4 ≤ x7)) → (zLand M C R) ∧ (0 ≤ x5 ∧ x5 < C * R) ∧ (0 ≤ x3 ∧ x3 ≤ 3) ∧ (0 ≤ (alg C R x5 x3 1) ∧ (alg C R x5 x3 1) < 96) ∧ (-2147483648 ≤ (M (s + 1) (alg C R x5 x3 1)) ∧ (M (s + 1) (alg C R x5 x3 1)) ≤ 2147483647) ∧ (-2147483648 ≤ (x6 + (M (s + 3) 1)) ∧ (x6 + (M (s + 3) 1)) ≤ 2147483647) ∧ (((M (s + 1) (alg C R x5 x3 1)) < (x6 + (M (s + 3) 1))) → zT g (z1 o) mX7_shaded (zQi (z1 o) q) 31 [(0, zA g a), (3, zI x3), (4, zI x4), (5, zI (alg C R x5 x3 1)), (6, zI (x6 + (M (s + 3) 1))), (7, zI (x7 + 1))] [] M) ∧ ((¬ ((M (s + 1) (alg C R x5 x3 1)) < (x6 + (M (s + 3) 1)))) → q 1 M))) : zT g (z1 o) mX7_shaded (zQi (z1 o) q) 31 [(0, zA g a), (3, zI x3), (4, zI x4), (5, zI x5), (6, zI x6), (7, zI x7)] [] M := by
  refine zr_iload 5 dX7_shaded_31 rfl ?_
  refine zr_iload 2 dX7_shaded_33 rfl ?_
  obtain ⟨c1, W⟩ := W
  obtain ⟨c2, W⟩ := W
  refine zr_icmp_ge (tgt := 87) dX7_shaded_35 (by decide) c1 c2 (fun h => ?_) (fun h => ?_)
  · have W := W.1 h
    refine zr_iconst dX7_shaded_87 ?_
    exact zt_zret dX7_shaded_88 rfl (by decide) W
  · have W := W.2 h
    refine zr_aload_n 0 dX7_shaded_38 rfl ?_
    refine zr_getr (b := 14) dX7_shaded_39 fX7_22 (zst_0 ha) rfl (zst_f0 ha) (by decide) ?_
    refine zr_iload 3 dX7_shaded_42 rfl ?_
    refine zr_iload_n 1 dX7_shaded_44 rfl ?_
    obtain ⟨c3, W⟩ := W
    obtain ⟨c4, W⟩ := W
    obtain ⟨c5, W⟩ := W
    refine zt_callVi (As := [zI x5, zI x3]) (rest := []) dX7_shaded_45 kX7_shaded_97 rfl rfl rfl rfl (Nat.le_of_ble_eq_true rfl) (c_nbr c3 c4 c5) (fun r9 N11 h10 => ?_)
    rw [h10.1, h10.2]
    refine zr_istore (l' := [(0, zA g a), (3, zI x3), (4, zI x4), (5, zI (alg C R x5 x3 1)), (6, zI x6), (7, zI x7)]) dX7_shaded_48 (by decide) [1, 2, 3, 0, 4, 5] rfl ?_
    refine zr_iload 4 dX7_shaded_50 rfl ?_
    refine zr_aload_n 0 dX7_shaded_52 rfl ?_
    refine zr_getr (b := s) dX7_shaded_53 fX7_26 (zst_0 ha) rfl (zst_f1 ha) (zsd_nz (zst_s ha)) ?_
    refine zr_getr (b := (s + 3)) dX7_shaded_56 fX7_94 (zsd_0 (zst_s ha)) rfl (zsd_f2 (zst_s ha)) (Nat.succ_ne_zero _) ?_
    refine zr_iconst dX7_shaded_59 ?_
    refine zr_iald dX7_shaded_60 (zsd_3 (zst_s ha)) (by decide) ⟨by decide, by decide⟩ ?_
    refine zr_iadd dX7_shaded_61 ?_
    refine zr_istore (l' := [(0, zA g a), (3, zI x3), (4, zI x4), (5, zI (alg C R x5 x3 1)), (6, zI (x6 + (M (s + 3) 1))), (7, zI x7)]) dX7_shaded_62 (by decide) [1, 2, 3, 4, 0, 5] rfl ?_
    refine zr_aload_n 0 dX7_shaded_64 rfl ?_
    refine zr_getr (b := s) dX7_shaded_65 fX7_26 (zst_0 ha) rfl (zst_f1 ha) (zsd_nz (zst_s ha)) ?_
    refine zr_getr (b := (s + 1)) dX7_shaded_68 fX7_79 (zsd_0 (zst_s ha)) rfl (zsd_f0 (zst_s ha)) (Nat.succ_ne_zero _) ?_
    refine zr_iload 3 dX7_shaded_71 rfl ?_
    obtain ⟨c6, W⟩ := W
    refine zr_iald dX7_shaded_73 (zsd_1 (zst_s ha)) (by decide) c6 ?_
    refine zr_iload 4 dX7_shaded_74 rfl ?_
    obtain ⟨c7, W⟩ := W
    obtain ⟨c8, W⟩ := W
    refine zr_icmp_lt (tgt := 81) dX7_shaded_76 (by decide) c7 c8 (fun h => ?_) (fun h => ?_)
    · have W := W.1 h
      refine zr_iinc (q := 5) (l' := [(0, zA g a), (3, zI x3), (4, zI x4), (5, zI (alg C R x5 x3 1)), (6, zI (x6 + (M (s + 3) 1))), (7, zI (x7 + 1))]) dX7_shaded_81 rfl (by decide) [1, 2, 3, 4, 5, 0] rfl ?_
      refine zr_goto (tgt := 31) dX7_shaded_84 (by decide) ?_
      exact W
    · have W := W.2 h
      refine zr_iconst dX7_shaded_79 ?_
      exact zt_zret dX7_shaded_80 rfl (by decide) W
theorem dX7_isCrest_0 : decode cX7_isCrest 0 = .ok (.aload_n 0, 1) := by decide +kernel
theorem dX7_isCrest_1 : decode cX7_isCrest 1 = .ok (.getfield 26, 3) := by decide +kernel
theorem dX7_isCrest_4 : decode cX7_isCrest 4 = .ok (.getfield 79, 3) := by decide +kernel
theorem dX7_isCrest_7 : decode cX7_isCrest 7 = .ok (.iload_n 1, 1) := by decide +kernel
theorem dX7_isCrest_8 : decode cX7_isCrest 8 = .ok (.iaload, 1) := by decide +kernel
theorem dX7_isCrest_9 : decode cX7_isCrest 9 = .ok (.istore_n 3, 1) := by decide +kernel
theorem dX7_isCrest_10 : decode cX7_isCrest 10 = .ok (.iload_n 3, 1) := by decide +kernel
theorem dX7_isCrest_11 : decode cX7_isCrest 11 = .ok (.ifCond .le 51, 3) := by decide +kernel
theorem dX7_isCrest_14 : decode cX7_isCrest 14 = .ok (.iload_n 3, 1) := by decide +kernel
theorem dX7_isCrest_15 : decode cX7_isCrest 15 = .ok (.aload_n 0, 1) := by decide +kernel
theorem dX7_isCrest_16 : decode cX7_isCrest 16 = .ok (.getfield 26, 3) := by decide +kernel
theorem dX7_isCrest_19 : decode cX7_isCrest 19 = .ok (.getfield 79, 3) := by decide +kernel
theorem dX7_isCrest_22 : decode cX7_isCrest 22 = .ok (.aload_n 0, 1) := by decide +kernel
theorem dX7_isCrest_23 : decode cX7_isCrest 23 = .ok (.getfield 22, 3) := by decide +kernel
theorem dX7_isCrest_26 : decode cX7_isCrest 26 = .ok (.iload_n 1, 1) := by decide +kernel
theorem dX7_isCrest_27 : decode cX7_isCrest 27 = .ok (.iload_n 2, 1) := by decide +kernel
theorem dX7_isCrest_28 : decode cX7_isCrest 28 = .ok (.iconst 2, 1) := by decide +kernel
theorem dX7_isCrest_29 : decode cX7_isCrest 29 = .ok (.ixor, 1) := by decide +kernel
theorem dX7_isCrest_30 : decode cX7_isCrest 30 = .ok (.invokevirtual 97, 3) := by decide +kernel
theorem dX7_isCrest_33 : decode cX7_isCrest 33 = .ok (.iaload, 1) := by decide +kernel
theorem dX7_isCrest_34 : decode cX7_isCrest 34 = .ok (.if_icmp .lt 28, 3) := by decide +kernel
theorem dX7_isCrest_37 : decode cX7_isCrest 37 = .ok (.iload_n 3, 1) := by decide +kernel
theorem dX7_isCrest_38 : decode cX7_isCrest 38 = .ok (.aload_n 0, 1) := by decide +kernel
theorem dX7_isCrest_39 : decode cX7_isCrest 39 = .ok (.getfield 26, 3) := by decide +kernel
theorem dX7_isCrest_42 : decode cX7_isCrest 42 = .ok (.getfield 79, 3) := by decide +kernel
theorem dX7_isCrest_45 : decode cX7_isCrest 45 = .ok (.aload_n 0, 1) := by decide +kernel
theorem dX7_isCrest_46 : decode cX7_isCrest 46 = .ok (.getfield 22, 3) := by decide +kernel
theorem dX7_isCrest_49 : decode cX7_isCrest 49 = .ok (.iload_n 1, 1) := by decide +kernel
theorem dX7_isCrest_50 : decode cX7_isCrest 50 = .ok (.iload_n 2, 1) := by decide +kernel
theorem dX7_isCrest_51 : decode cX7_isCrest 51 = .ok (.invokevirtual 97, 3) := by decide +kernel
theorem dX7_isCrest_54 : decode cX7_isCrest 54 = .ok (.iaload, 1) := by decide +kernel
theorem dX7_isCrest_55 : decode cX7_isCrest 55 = .ok (.if_icmp .le 7, 3) := by decide +kernel
theorem dX7_isCrest_58 : decode cX7_isCrest 58 = .ok (.iconst 1, 1) := by decide +kernel
theorem dX7_isCrest_59 : decode cX7_isCrest 59 = .ok (.goto 4, 3) := by decide +kernel
theorem dX7_isCrest_62 : decode cX7_isCrest 62 = .ok (.iconst 0, 1) := by decide +kernel
theorem dX7_isCrest_63 : decode cX7_isCrest 63 = .ok (.ireturn, 1) := by decide +kernel
set_option maxRecDepth 100000 in
theorem SX7_isCrest_0 {g : zG} {o : Bool} {a s : Nat} (ha : zSt a s) {C R : Int} {M : zM} {q : Int → zM → Prop} {x1 x2 : Int} (W : (0 ≤ x1 ∧ x1 < 96) ∧ (-2147483648 ≤ (M (s + 1) x1) ∧ (M (s + 1) x1) ≤ 2147483647) ∧ (((M (s + 1) x1) ≤ 0) → q 0 M) ∧ ((¬ ((M (s + 1) x1) ≤ 0)) → (0 ≤ x2 ∧ x2 ≤ 3) ∧ (zLand M C R) ∧ (0 ≤ x1 ∧ x1 < C * R) ∧ (0 ≤ (if x2 < 2 then x2 + 2 else x2 - 2) ∧ (if x2 < 2 then x2 + 2 else x2 - 2) ≤ 3) ∧ (0 ≤ (alg C R x1 (if x2 < 2 then x2 + 2 else x2 - 2) 1) ∧ (alg C R x1 (if x2 < 2 then x2 + 2 else x2 - 2) 1) < 96) ∧ (-2147483648 ≤ (M (s + 1) (alg C R x1 (if x2 < 2 then x2 + 2 else x2 - 2) 1)) ∧ (M (s + 1) (alg C R x1 (if x2 < 2 then x2 + 2 else x2 - 2) 1)) ≤ 2147483647) ∧ (((M (s + 1) x1) < (M (s + 1) (alg C R x1 (if x2 < 2 then x2 + 2 else x2 - 2) 1))) → q 0 M) ∧ ((¬ ((M (s + 1) x1) < (M (s + 1) (alg C R x1 (if x2 < 2 then x2 + 2 else x2 - 2) 1)))) → (0 ≤ (alg C R x1 x2 1) ∧ (alg C R x1 x2 1) < 96) ∧ (-2147483648 ≤ (M (s + 1) (alg C R x1 x2 1)) ∧ (M (s + 1) (alg C R x1 x2 1)) ≤ 2147483647) ∧ (((M (s + 1) x1) ≤ (M (s + 1) (alg C R x1 x2 1))) → q 0 M) ∧ ((¬ ((M (s + 1) x1) ≤ (M (s + 1) (alg C R x1 x2 1)))) → q 1 M)))) : zT g (z1 o) mX7_isCrest (zQi (z1 o) q) 0 [(0, zA g a), (1, zI x1), (2, zI x2)] [] M := by
  refine zr_aload_n 0 dX7_isCrest_0 rfl ?_
  refine zr_getr (b := s) dX7_isCrest_1 fX7_26 (zst_0 ha) rfl (zst_f1 ha) (zsd_nz (zst_s ha)) ?_
  refine zr_getr (b := (s + 1)) dX7_isCrest_4 fX7_79 (zsd_0 (zst_s ha)) rfl (zsd_f0 (zst_s ha)) (Nat.succ_ne_zero _) ?_
  refine zr_iload_n 1 dX7_isCrest_7 rfl ?_
  obtain ⟨c1, W⟩ := W
  refine zr_iald dX7_isCrest_8 (zsd_1 (zst_s ha)) (by decide) c1 ?_
  refine zr_istore_n (l' := [(0, zA g a), (1, zI x1), (2, zI x2), (3, zI (M (s + 1) x1))]) dX7_isCrest_9 (by decide) [1, 2, 3, 0] rfl ?_
  refine zr_iload_n 3 dX7_isCrest_10 rfl ?_
  obtain ⟨c2, W⟩ := W
  refine zr_if_le (tgt := 62) dX7_isCrest_11 (by decide) c2 (fun h => ?_) (fun h => ?_)
  · have W := W.1 h
    refine zr_iconst dX7_isCrest_62 ?_
    exact zt_zret dX7_isCrest_63 rfl (by decide) W
  · have W := W.2 h
    refine zr_iload_n 3 dX7_isCrest_14 rfl ?_
    refine zr_aload_n 0 dX7_isCrest_15 rfl ?_
    refine zr_getr (b := s) dX7_isCrest_16 fX7_26 (zst_0 ha) rfl (zst_f1 ha) (zsd_nz (zst_s ha)) ?_
    refine zr_getr (b := (s + 1)) dX7_isCrest_19 fX7_79 (zsd_0 (zst_s ha)) rfl (zsd_f0 (zst_s ha)) (Nat.succ_ne_zero _) ?_
    refine zr_aload_n 0 dX7_isCrest_22 rfl ?_
    refine zr_getr (b := 14) dX7_isCrest_23 fX7_22 (zst_0 ha) rfl (zst_f0 ha) (by decide) ?_
    refine zr_iload_n 1 dX7_isCrest_26 rfl ?_
    refine zr_iload_n 2 dX7_isCrest_27 rfl ?_
    refine zr_iconst dX7_isCrest_28 ?_
    obtain ⟨c3, W⟩ := W
    refine zr_ixor dX7_isCrest_29 c3 ?_
    obtain ⟨c4, W⟩ := W
    obtain ⟨c5, W⟩ := W
    obtain ⟨c6, W⟩ := W
    refine zt_callVi (As := [zI x1, zI (if x2 < 2 then x2 + 2 else x2 - 2)]) (rest := [zA g (s + 1), zI (M (s + 1) x1)]) dX7_isCrest_30 kX7_isCrest_97 rfl rfl rfl rfl (Nat.le_of_ble_eq_true rfl) (c_nbr c4 c5 c6) (fun r14 N16 h15 => ?_)
    rw [h15.1, h15.2]
    obtain ⟨c7, W⟩ := W
    refine zr_iald dX7_isCrest_33 (zsd_1 (zst_s ha)) (by decide) c7 ?_
    obtain ⟨c8, W⟩ := W
    refine zr_icmp_lt (tgt := 62) dX7_isCrest_34 (by decide) c2 c8 (fun h => ?_) (fun h => ?_)
    · have W := W.1 h
      refine zr_iconst dX7_isCrest_62 ?_
      exact zt_zret dX7_isCrest_63 rfl (by decide) W
    · have W := W.2 h
      refine zr_iload_n 3 dX7_isCrest_37 rfl ?_
      refine zr_aload_n 0 dX7_isCrest_38 rfl ?_
      refine zr_getr (b := s) dX7_isCrest_39 fX7_26 (zst_0 ha) rfl (zst_f1 ha) (zsd_nz (zst_s ha)) ?_
      refine zr_getr (b := (s + 1)) dX7_isCrest_42 fX7_79 (zsd_0 (zst_s ha)) rfl (zsd_f0 (zst_s ha)) (Nat.succ_ne_zero _) ?_
      refine zr_aload_n 0 dX7_isCrest_45 rfl ?_
      refine zr_getr (b := 14) dX7_isCrest_46 fX7_22 (zst_0 ha) rfl (zst_f0 ha) (by decide) ?_
      refine zr_iload_n 1 dX7_isCrest_49 rfl ?_
      refine zr_iload_n 2 dX7_isCrest_50 rfl ?_
      refine zt_callVi (As := [zI x1, zI x2]) (rest := [zA g (s + 1), zI (M (s + 1) x1)]) dX7_isCrest_51 kX7_isCrest_97 rfl rfl rfl rfl (Nat.le_of_ble_eq_true rfl) (c_nbr c4 c5 c3) (fun r11 N13 h12 => ?_)
      rw [h12.1, h12.2]
      obtain ⟨c9, W⟩ := W
      refine zr_iald dX7_isCrest_54 (zsd_1 (zst_s ha)) (by decide) c9 ?_
      obtain ⟨c10, W⟩ := W
      refine zr_icmp_le (tgt := 62) dX7_isCrest_55 (by decide) c2 c10 (fun h => ?_) (fun h => ?_)
      · have W := W.1 h
        refine zr_iconst dX7_isCrest_62 ?_
        exact zt_zret dX7_isCrest_63 rfl (by decide) W
      · have W := W.2 h
        refine zr_iconst dX7_isCrest_58 ?_
        refine zr_goto (tgt := 63) dX7_isCrest_59 (by decide) ?_
        exact zt_zret dX7_isCrest_63 rfl (by decide) W
end
section
def Bd (H : Int → Int) : Prop := ∀ i : Int, 0 ≤ i → i < 96 → 0 ≤ H i ∧ H i ≤ 1000000000
def shd (C R : Int) (H : Int → Int) (sh c w : Int) : Prop := ∃ k : Int, 1 ≤ k ∧ k < rnd C R w ∧ H c + k * sh ≤ H (alg C R c (opp w) k)
def crest (C R : Int) (H : Int → Int) (c w : Int) : Prop := 0 < H c ∧ H (alg C R c (opp w) 1) ≤ H c ∧ H (alg C R c w 1) < H c
def crs (C : Int) (X : Int → Int) (f t w : Int) : Int → Int := if w = 0 then up X (t % C) (X (t % C) + 1) else if w = 2 then up X (f % C) (X (f % C) - 1) else X
def pk (m b h i : Int) : Int × Int := if m < h then (h, i) else (m, b)
def pku (C R : Int) (H : Int → Int) (m c : Int) : Nat → Int × Int
  | 0 => (m, -1)
  | n + 1 => if (pku C R H m c n).1 < H (alg C R c n 1) then (H (alg C R c n 1), n) else pku C R H m c n
def pkd (C R : Int) (H : Int → Int) (m c : Int) : Nat → Int × Int
  | 0 => (m, -1)
  | n + 1 => if H (alg C R c n 1) < (pkd C R H m c n).1 then (H (alg C R c n 1), n) else pkd C R H m c n
/-- the way to the highest one beside that is too high, to the lowest one that is too low; -1: none -/
def wup (C R : Int) (H : Int → Int) (S c : Int) : Int := (pku C R H (H c + S) c 4).2
def wdn (C R : Int) (H : Int → Int) (S c : Int) : Int := (pkd C R H (H c - S) c 4).2
def sld (H : Int → Int) (f t : Int) : Int → Int := up (up H f (H f - 1)) t (up H f (H f - 1) t + 1)
def sldM (M : zM) (a s : Nat) (C R f w : Int) : zM := zrw (zu (zrw M (s + 1) (sld (M (s + 1)) f (alg C R f w 1))) a 4 (M a 4 + 1)) (a + 1) (crs C (M (a + 1)) f (alg C R f w 1) w)
theorem zu_zrw (M : zM) (a : Nat) (i x : Int) : zu M a i x = zrw M a (up (M a) i x) := by
  funext b j; simp only [zu, zrw, up]; by_cases h : b = a <;> simp [h]
theorem zrw_self (M : zM) (a : Nat) : zrw M a (M a) = M := by
  funext b j; simp only [zrw]; split <;> simp_all
theorem zrw_zrw (M : zM) (a : Nat) (f h : Int → Int) : zrw (zrw M a f) a h = zrw M a h := by
  funext b j; simp only [zrw]; split <;> rfl
theorem zrw_row (M : zM) (a : Nat) (f : Int → Int) : zrw M a f a = f := by funext j; simp [zrw]
theorem zrw_other {M : zM} {a b : Nat} {f : Int → Int} (h : b ≠ a) : zrw M a f b = M b := by funext j; simp [zrw, h]
theorem zu_other {M : zM} {a b : Nat} {i x : Int} (h : b ≠ a) : zu M a i x b = M b := by funext j; simp [zu, h]
section CS
variable {g : zG} {o : Bool} {M : zM} {C R x c w t f : Int} {s a : Nat}
theorem zst_ne (h : zSt a s) : a ≠ s ∧ a ≠ s + 1 ∧ a + 1 ≠ s ∧ a + 1 ≠ s + 1 ∧ 20 ≤ s ∧ 32 ≤ a ∧ a ≠ s + 2 ∧ a ≠ s + 3 ∧ a + 1 ≠ s + 2 ∧ a + 1 ≠ s + 3 := by rcases h with ⟨rfl, rfl⟩ | ⟨rfl, rfl⟩ <;> decide
theorem c_cross (ha : zSt a s) (hL : zLand M C R) (hf : 0 ≤ f ∧ f < C * R) (ht : 0 ≤ t ∧ t < C * R) (hw : 0 ≤ w ∧ w ≤ 3) : zKv g (z1 o) mX7_cross [zA g a, zI f, zI t, zI w] M (fun M' => M' = zrw M (a + 1) (crs C (M (a + 1)) f t w)) := by
  have hn := geo_n hL.1
  have hC := hL.1
  unfold Geo at hC
  have ef := (hL.2.2.2.2.2.2.2.2 f hf.1 hf.2).1
  have et := (hL.2.2.2.2.2.2.2.2 t ht.1 ht.2).1
  have mf := md (C := C) (k := f) (by omega)
  have mt := md (C := C) (k := t) (by omega)
  refine zkv_of rfl (Nat.le_of_ble_eq_true rfl) (SX7_cross_0 ha ⟨by omega, fun h => ⟨fun h2 => ?_, fun h2 => ⟨by omega, by omega, ?_⟩⟩, fun h => ⟨by omega, by omega, ?_⟩⟩)
  · unfold crs; rw [if_neg h, if_neg h2, zrw_self]
  · unfold crs; rw [if_neg h, if_pos h2, ef, zu_zrw]
  · unfold crs; rw [if_pos h, et, zu_zrw]
theorem c_wayUp (ha : zSt a s) (hL : zLand M C R) (hc : 0 ≤ c ∧ c < C * R) (hB : Bd (M (s + 1))) : zKi g (z1 o) mX7_wayUp [zA g a, zI c] M (fun r M' => r = wup C R (M (s + 1)) (M 14 3) c ∧ M' = M) := by
  have hn := geo_n hL.1
  have hS := hL.2.2.2.2.1
  have hc0 := hB c hc.1 (by omega)
  refine zki_of rfl (Nat.le_of_ble_eq_true rfl) (SX7_wayUp_0 ha ⟨by omega, ?_⟩)
  have key : ∀ n : Nat, n ≤ 4 → -2147483648 ≤ (pku C R (M (s + 1)) (M (s + 1) c + M 14 3) c n).1 ∧ (pku C R (M (s + 1)) (M (s + 1) c + M 14 3) c n).1 ≤ 2147483647 := by
    intro n
    induction n with
    | zero => intro _; show _ ≤ M (s + 1) c + M 14 3 ∧ M (s + 1) c + M 14 3 ≤ _; omega
    | succ n ih =>
      intro h
      have h1 := alg_in (w := (n : Int)) (k := 1) hL.1 hc
      have h2 := hB _ h1.1 (by omega)
      have h3 := ih (by omega)
      unfold pku
      split
      · dsimp only; omega
      · exact h3
  suffices h : ∀ (n k : Nat), k + n = 4 → zT g (z1 o) mX7_wayUp (zQi (z1 o) (fun r M' => r = wup C R (M (s + 1)) (M 14 3) c ∧ M' = M)) 23 [(0, zA g a), (1, zI c), (2, zI (pku C R (M (s + 1)) (M (s + 1) c + M 14 3) c k).1), (3, zI (pku C R (M (s + 1)) (M (s + 1) c + M 14 3) c k).2), (4, zI k)] [] M from h 4 0 rfl
  intro n
  induction n with
  | zero => intro k hk; exact SX7_wayUp_23 (C := C) (R := R) ha ⟨by omega, fun h => ⟨by rw [show k = 4 by omega]; rfl, rfl⟩, fun h => by omega⟩
  | succ n ih =>
    intro k hk
    have h1 := alg_in (w := (k : Int)) (k := 1) hL.1 hc
    have h2 := hB _ h1.1 (by omega)
    have h3 := key k (by omega)
    have hh := ih (k + 1) (by omega)
    refine SX7_wayUp_23 ha ⟨by omega, fun h => by omega, fun h => ⟨hL, hc, by omega, by omega, by omega, h3, fun h4 => ?_, fun h4 => ?_⟩⟩
    · have e : pku C R (M (s + 1)) (M (s + 1) c + M 14 3) c (k + 1) = pku C R (M (s + 1)) (M (s + 1) c + M 14 3) c k := by
        show (if _ then _ else _) = _
        rw [if_neg (by omega)]
      rw [e] at hh; exact hh
    · have e : pku C R (M (s + 1)) (M (s + 1) c + M 14 3) c (k + 1) = (M (s + 1) (alg C R c k 1), (k : Int)) := by
        show (if _ then _ else _) = _
        rw [if_pos (by omega)]
      rw [e] at hh; exact hh
theorem c_wayDown (ha : zSt a s) (hL : zLand M C R) (hc : 0 ≤ c ∧ c < C * R) (hB : Bd (M (s + 1))) : zKi g (z1 o) mX7_wayDown [zA g a, zI c] M (fun r M' => r = wdn C R (M (s + 1)) (M 14 3) c ∧ M' = M) := by
  have hn := geo_n hL.1
  have hS := hL.2.2.2.2.1
  have hc0 := hB c hc.1 (by omega)
  refine zki_of rfl (Nat.le_of_ble_eq_true rfl) (SX7_wayDown_0 ha ⟨by omega, ?_⟩)
  have key : ∀ n : Nat, n ≤ 4 → -2147483648 ≤ (pkd C R (M (s + 1)) (M (s + 1) c - M 14 3) c n).1 ∧ (pkd C R (M (s + 1)) (M (s + 1) c - M 14 3) c n).1 ≤ 2147483647 := by
    intro n
    induction n with
    | zero => intro _; show _ ≤ M (s + 1) c - M 14 3 ∧ M (s + 1) c - M 14 3 ≤ _; omega
    | succ n ih =>
      intro h
      have h1 := alg_in (w := (n : Int)) (k := 1) hL.1 hc
      have h2 := hB _ h1.1 (by omega)
      have h3 := ih (by omega)
      unfold pkd
      split
      · dsimp only; omega
      · exact h3
  suffices h : ∀ (n k : Nat), k + n = 4 → zT g (z1 o) mX7_wayDown (zQi (z1 o) (fun r M' => r = wdn C R (M (s + 1)) (M 14 3) c ∧ M' = M)) 23 [(0, zA g a), (1, zI c), (2, zI (pkd C R (M (s + 1)) (M (s + 1) c - M 14 3) c k).1), (3, zI (pkd C R (M (s + 1)) (M (s + 1) c - M 14 3) c k).2), (4, zI k)] [] M from h 4 0 rfl
  intro n
  induction n with
  | zero => intro k hk; exact SX7_wayDown_23 (C := C) (R := R) ha ⟨by omega, fun h => ⟨by rw [show k = 4 by omega]; rfl, rfl⟩, fun h => by omega⟩
  | succ n ih =>
    intro k hk
    have h1 := alg_in (w := (k : Int)) (k := 1) hL.1 hc
    have h2 := hB _ h1.1 (by omega)
    have h3 := key k (by omega)
    have hh := ih (k + 1) (by omega)
    refine SX7_wayDown_23 ha ⟨by omega, fun h => by omega, fun h => ⟨hL, hc, by omega, by omega, by omega, h3, fun h4 => ?_, fun h4 => ?_⟩⟩
    · have e : pkd C R (M (s + 1)) (M (s + 1) c - M 14 3) c (k + 1) = pkd C R (M (s + 1)) (M (s + 1) c - M 14 3) c k := by
        show (if _ then _ else _) = _
        rw [if_neg (by omega)]
      rw [e] at hh; exact hh
    · have e : pkd C R (M (s + 1)) (M (s + 1) c - M 14 3) c (k + 1) = (M (s + 1) (alg C R c k 1), (k : Int)) := by
        show (if _ then _ else _) = _
        rw [if_pos (by omega)]
      rw [e] at hh; exact hh
theorem rnd_in (h : Geo C R) : 1 ≤ rnd C R w ∧ rnd C R w ≤ 12 := by unfold Geo at h; unfold rnd; split <;> omega
theorem c_shaded (ha : zSt a s) (hL : zLand M C R) (hc : 0 ≤ c ∧ c < C * R) (hw : 0 ≤ w ∧ w ≤ 3) (hB : Bd (M (s + 1))) (hsh : 0 ≤ M (s + 3) 1 ∧ M (s + 3) 1 ≤ 9) : zKi g (z1 o) mX7_shaded [zA g a, zI c, zI w] M (fun r M' => r = zb (shd C R (M (s + 1)) (M (s + 3) 1) c w) ∧ M' = M) := by
  have hn := geo_n hL.1
  have hr := rnd_in (w := w) hL.1
  have hc0 := hB c hc.1 (by omega)
  have ho := opp_in hw
  refine zki_of rfl (Nat.le_of_ble_eq_true rfl) (SX7_shaded_0 ha ⟨hw, hL, by omega, ?_⟩)
  suffices h : ∀ (n : Nat) (k : Int), 1 ≤ k → k + n = rnd C R w → (∀ j, 1 ≤ j → j < k → ¬ (M (s + 1) c + j * M (s + 3) 1 ≤ M (s + 1) (alg C R c (opp w) j))) → zT g (z1 o) mX7_shaded (zQi (z1 o) (fun r M' => r = zb (shd C R (M (s + 1)) (M (s + 3) 1) c w) ∧ M' = M)) 31 [(0, zA g a), (3, zI (opp w)), (4, zI (rnd C R w)), (5, zI (alg C R c (opp w) (k - 1))), (6, zI (M (s + 1) c + (k - 1) * M (s + 3) 1)), (7, zI k)] [] M by
    have hh := h (rnd C R w - 1).toNat 1 (by omega) (by omega) (fun j h1 h2 => by omega)
    rw [show (1 : Int) - 1 = 0 by omega, alg_0 hL.1 hc, Int.zero_mul, Int.add_zero] at hh
    exact hh
  intro n
  induction n with
  | zero =>
    intro k h1 hk hno
    refine SX7_shaded_31 (C := C) (R := R) ha ⟨by omega, by omega, fun h => ⟨(zb_f ?_).symm, rfl⟩, fun h => by omega⟩
    rintro ⟨j, j1, j2, j3⟩
    exact hno j j1 (by omega) j3
  | succ n ih =>
    intro k h1 hk hno
    have a1 := alg_in (w := opp w) (k := k - 1) hL.1 hc
    have e1 : alg C R (alg C R c (opp w) (k - 1)) (opp w) 1 = alg C R c (opp w) k := by rw [alg_s hL.1 hc]; congr 1; omega
    have a2 := alg_in (w := opp w) (k := k) hL.1 hc
    have b2 := hB _ a2.1 (by omega)
    have e2 : M (s + 1) c + (k - 1) * M (s + 3) 1 + M (s + 3) 1 = M (s + 1) c + k * M (s + 3) 1 := by rw [Int.sub_mul]; omega
    have b3 : 0 ≤ k * M (s + 3) 1 ∧ k * M (s + 3) 1 ≤ 108 := by
      constructor
      · exact Int.mul_nonneg (by omega) hsh.1
      · have := Int.mul_le_mul (show k ≤ 12 by omega) hsh.2 hsh.1 (by decide); omega
    refine SX7_shaded_31 (C := C) (R := R) ha ⟨by omega, by omega, fun h => by omega, fun h => ?_⟩
    rw [e1, e2]
    refine ⟨hL, a1, ho, by omega, by omega, by omega, fun h4 => ?_, fun h4 => ⟨(zb_t ⟨k, h1, by omega, by omega⟩).symm, rfl⟩⟩
    have hh := ih (k + 1) (by omega) (by omega) (fun j j1 j2 => by
      by_cases hj : j < k
      · exact hno j j1 hj
      · rw [show j = k by omega]; omega)
    rw [show k + 1 - 1 = k by omega] at hh
    exact hh
theorem c_crest (ha : zSt a s) (hL : zLand M C R) (hc : 0 ≤ c ∧ c < C * R) (hw : 0 ≤ w ∧ w ≤ 3) (hB : Bd (M (s + 1))) : zKi g (z1 o) mX7_isCrest [zA g a, zI c, zI w] M (fun r M' => r = zb (crest C R (M (s + 1)) c w) ∧ M' = M) := by
  have hn := geo_n hL.1
  have hc0 := hB c hc.1 (by omega)
  have a1 := alg_in (w := opp w) (k := 1) hL.1 hc
  have a2 := alg_in (w := w) (k := 1) hL.1 hc
  have b1 := hB _ a1.1 (by omega)
  have b2 := hB _ a2.1 (by omega)
  have ho := opp_in hw
  unfold crest
  refine zki_of rfl (Nat.le_of_ble_eq_true rfl) (SX7_isCrest_0 ha ⟨by omega, by omega, fun h => ⟨(zb_f (by omega)).symm, rfl⟩, fun h => ⟨hw, hL, hc, ho, by show 0 ≤ alg C R c (opp w) 1 ∧ alg C R c (opp w) 1 < 96; omega, by show _ ≤ M (s + 1) (alg C R c (opp w) 1) ∧ M (s + 1) (alg C R c (opp w) 1) ≤ _; omega, fun h2 => ⟨(zb_f ?_).symm, rfl⟩, fun h2 => ⟨by omega, by omega, fun h3 => ⟨(zb_f (by omega)).symm, rfl⟩, fun h3 => ⟨(zb_t ⟨by omega, ?_, by omega⟩).symm, rfl⟩⟩⟩⟩)
  · have h2 : M (s + 1) c < M (s + 1) (alg C R c (opp w) 1) := h2
    omega
  · have h2 : ¬ M (s + 1) c < M (s + 1) (alg C R c (opp w) 1) := h2
    omega
end CS
end
section
theorem dX7_slide_0 : decode cX7_slide 0 = .ok (.aload_n 0, 1) := by decide +kernel
theorem dX7_slide_1 : decode cX7_slide 1 = .ok (.getfield 22, 3) := by decide +kernel
theorem dX7_slide_4 : decode cX7_slide 4 = .ok (.iload_n 1, 1) := by decide +kernel
theorem dX7_slide_5 : decode cX7_slide 5 = .ok (.iload_n 2, 1) := by decide +kernel
theorem dX7_slide_6 : decode cX7_slide 6 = .ok (.invokevirtual 97, 3) := by decide +kernel
theorem dX7_slide_9 : decode cX7_slide 9 = .ok (.istore_n 3, 1) := by decide +kernel
theorem dX7_slide_10 : decode cX7_slide 10 = .ok (.aload_n 0, 1) := by decide +kernel
theorem dX7_slide_11 : decode cX7_slide 11 = .ok (.getfield 26, 3) := by decide +kernel
theorem dX7_slide_14 : decode cX7_slide 14 = .ok (.getfield 79, 3) := by decide +kernel
theorem dX7_slide_17 : decode cX7_slide 17 = .ok (.iload_n 1, 1) := by decide +kernel
theorem dX7_slide_18 : decode cX7_slide 18 = .ok (.dup2, 1) := by decide +kernel
theorem dX7_slide_19 : decode cX7_slide 19 = .ok (.iaload, 1) := by decide +kernel
theorem dX7_slide_20 : decode cX7_slide 20 = .ok (.iconst 1, 1) := by decide +kernel
theorem dX7_slide_21 : decode cX7_slide 21 = .ok (.isub, 1) := by decide +kernel
theorem dX7_slide_22 : decode cX7_slide 22 = .ok (.iastore, 1) := by decide +kernel
theorem dX7_slide_23 : decode cX7_slide 23 = .ok (.aload_n 0, 1) := by decide +kernel
theorem dX7_slide_24 : decode cX7_slide 24 = .ok (.getfield 26, 3) := by decide +kernel
theorem dX7_slide_27 : decode cX7_slide 27 = .ok (.getfield 79, 3) := by decide +kernel
theorem dX7_slide_30 : decode cX7_slide 30 = .ok (.iload_n 3, 1) := by decide +kernel
theorem dX7_slide_31 : decode cX7_slide 31 = .ok (.dup2, 1) := by decide +kernel
theorem dX7_slide_32 : decode cX7_slide 32 = .ok (.iaload, 1) := by decide +kernel
theorem dX7_slide_33 : decode cX7_slide 33 = .ok (.iconst 1, 1) := by decide +kernel
theorem dX7_slide_34 : decode cX7_slide 34 = .ok (.iadd, 1) := by decide +kernel
theorem dX7_slide_35 : decode cX7_slide 35 = .ok (.iastore, 1) := by decide +kernel
theorem dX7_slide_36 : decode cX7_slide 36 = .ok (.aload_n 0, 1) := by decide +kernel
theorem dX7_slide_37 : decode cX7_slide 37 = .ok (.dup, 1) := by decide +kernel
theorem dX7_slide_38 : decode cX7_slide 38 = .ok (.getfield 19, 3) := by decide +kernel
theorem dX7_slide_41 : decode cX7_slide 41 = .ok (.iconst 1, 1) := by decide +kernel
theorem dX7_slide_42 : decode cX7_slide 42 = .ok (.iadd, 1) := by decide +kernel
theorem dX7_slide_43 : decode cX7_slide 43 = .ok (.putfield 19, 3) := by decide +kernel
theorem dX7_slide_46 : decode cX7_slide 46 = .ok (.aload_n 0, 1) := by decide +kernel
theorem dX7_slide_47 : decode cX7_slide 47 = .ok (.iload_n 1, 1) := by decide +kernel
theorem dX7_slide_48 : decode cX7_slide 48 = .ok (.iload_n 3, 1) := by decide +kernel
theorem dX7_slide_49 : decode cX7_slide 49 = .ok (.iload_n 2, 1) := by decide +kernel
theorem dX7_slide_50 : decode cX7_slide 50 = .ok (.invokevirtual 100, 3) := by decide +kernel
theorem dX7_slide_53 : decode cX7_slide 53 = .ok (.return_, 1) := by decide +kernel
set_option maxRecDepth 100000 in
theorem SX7_slide_0 {g : zG} {o : Bool} {a s : Nat} (ha : zSt a s) {C R : Int} {M : zM} {q : zM → Prop} {x1 x2 : Int} (W : (zLand M C R) ∧ (0 ≤ x1 ∧ x1 < C * R) ∧ (0 ≤ x2 ∧ x2 ≤ 3) ∧ (0 ≤ x1 ∧ x1 < 96) ∧ (0 ≤ (alg C R x1 x2 1) ∧ (alg C R x1 x2 1) < 96) ∧ (zLand (zu (zu (zu M (s + 1) x1 ((M (s + 1) x1) - 1)) (s + 1) (alg C R x1 x2 1) (((zu M (s + 1) x1 ((M (s + 1) x1) - 1)) (s + 1) (alg C R x1 x2 1)) + 1)) a 4 (((zu (zu M (s + 1) x1 ((M (s + 1) x1) - 1)) (s + 1) (alg C R x1 x2 1) (((zu M (s + 1) x1 ((M (s + 1) x1) - 1)) (s + 1) (alg C R x1 x2 1)) + 1)) a 4) + 1)) C R) ∧ (0 ≤ (alg C R x1 x2 1) ∧ (alg C R x1 x2 1) < C * R) ∧ q (zrw (zu (zu (zu M (s + 1) x1 ((M (s + 1) x1) - 1)) (s + 1) (alg C R x1 x2 1) (((zu M (s + 1) x1 ((M (s + 1) x1) - 1)) (s + 1) (alg C R x1 x2 1)) + 1)) a 4 (((zu (zu M (s + 1) x1 ((M (s + 1) x1) - 1)) (s + 1) (alg C R x1 x2 1) (((zu M (s + 1) x1 ((M (s + 1) x1) - 1)) (s + 1) (alg C R x1 x2 1)) + 1)) a 4) + 1)) (a + 1) (crs C ((zu (zu (zu M (s + 1) x1 ((M (s + 1) x1) - 1)) (s + 1) (alg C R x1 x2 1) (((zu M (s + 1) x1 ((M (s + 1) x1) - 1)) (s + 1) (alg C R x1 x2 1)) + 1)) a 4 (((zu (zu M (s + 1) x1 ((M (s + 1) x1) - 1)) (s + 1) (alg C R x1 x2 1) (((zu M (s + 1) x1 ((M (s + 1) x1) - 1)) (s + 1) (alg C R x1 x2 1)) + 1)) a 4) + 1)) (a + 1)) x1 (alg C R x1 x2 1) x2))) : zT g (z1 o) mX7_slide (zQv (z1 o) q) 0 [(0, zA g a), (1, zI x1), (2, zI x2)] [] M := by
  refine zr_aload_n 0 dX7_slide_0 rfl ?_
  refine zr_getr (b := 14) dX7_slide_1 fX7_22 (zst_0 ha) rfl (zst_f0 ha) (by decide) ?_
  refine zr_iload_n 1 dX7_slide_4 rfl ?_
  refine zr_iload_n 2 dX7_slide_5 rfl ?_
  obtain ⟨c1, W⟩ := W
  obtain ⟨c2, W⟩ := W
  obtain ⟨c3, W⟩ := W
  refine zt_callVi (As := [zI x1, zI x2]) (rest := []) dX7_slide_6 kX7_slide_97 rfl rfl rfl rfl (Nat.le_of_ble_eq_true rfl) (c_nbr c1 c2 c3) (fun r11 N13 h12 => ?_)
  rw [h12.1, h12.2]
  refine zr_istore_n (l' := [(0, zA g a), (1, zI x1), (2, zI x2), (3, zI (alg C R x1 x2 1))]) dX7_slide_9 (by decide) [1, 2, 3, 0] rfl ?_
  refine zr_aload_n 0 dX7_slide_10 rfl ?_
  refine zr_getr (b := s) dX7_slide_11 fX7_26 (zst_0 ha) rfl (zst_f1 ha) (zsd_nz (zst_s ha)) ?_
  refine zr_getr (b := (s + 1)) dX7_slide_14 fX7_79 (zsd_0 (zst_s ha)) rfl (zsd_f0 (zst_s ha)) (Nat.succ_ne_zero _) ?_
  refine zr_iload_n 1 dX7_slide_17 rfl ?_
  refine zr_dup2 dX7_slide_18 rfl rfl ?_
  obtain ⟨c4, W⟩ := W
  refine zr_iald dX7_slide_19 (zsd_1 (zst_s ha)) (by decide) c4 ?_
  refine zr_iconst dX7_slide_20 ?_
  refine zr_isub dX7_slide_21 ?_
  refine zr_iast dX7_slide_22 (zsd_1 (zst_s ha)) (by decide) c4 ?_
  refine zr_aload_n 0 dX7_slide_23 rfl ?_
  refine zr_getr (b := s) dX7_slide_24 fX7_26 (zst_0 ha) rfl (zst_f1 ha) (zsd_nz (zst_s ha)) ?_
  refine zr_getr (b := (s + 1)) dX7_slide_27 fX7_79 (zsd_0 (zst_s ha)) rfl (zsd_f0 (zst_s ha)) (Nat.succ_ne_zero _) ?_
  refine zr_iload_n 3 dX7_slide_30 rfl ?_
  refine zr_dup2 dX7_slide_31 rfl rfl ?_
  obtain ⟨c5, W⟩ := W
  refine zr_iald dX7_slide_32 (zsd_1 (zst_s ha)) (by decide) c5 ?_
  refine zr_iconst dX7_slide_33 ?_
  refine zr_iadd dX7_slide_34 ?_
  refine zr_iast dX7_slide_35 (zsd_1 (zst_s ha)) (by decide) c5 ?_
  refine zr_aload_n 0 dX7_slide_36 rfl ?_
  refine zr_dup dX7_slide_37 rfl ?_
  refine zt_geti 4 rfl dX7_slide_38 fX7_19 (zst_0 ha) (by decide) ?_
  refine zr_iconst dX7_slide_41 ?_
  refine zr_iadd dX7_slide_42 ?_
  refine zt_puti 4 rfl dX7_slide_43 fX7_19 lcX7 ltX7_4 rfl (zst_0 ha) ?_
  refine zr_aload_n 0 dX7_slide_46 rfl ?_
  refine zr_iload_n 1 dX7_slide_47 rfl ?_
  refine zr_iload_n 3 dX7_slide_48 rfl ?_
  refine zr_iload_n 2 dX7_slide_49 rfl ?_
  obtain ⟨c6, W⟩ := W
  obtain ⟨c7, W⟩ := W
  refine zt_callVv (As := [zI x1, zI (alg C R x1 x2 1), zI x2]) (rest := []) dX7_slide_50 kX7_slide_100 (zst_0 ha) rfl rfl rfl (Nat.le_of_ble_eq_true rfl) (c_cross ha c6 c2 c7 c3) (fun N10 h9 => ?_)
  rw [h9]
  exact zt_ret dX7_slide_53 rfl W
abbrev Hz : Type := (Int → Int) × Int × (Int → Int)
def zget (M : zM) (a s : Nat) : Hz := (M (s + 1), M a 4, M (a + 1))
def zput (M : zM) (a s : Nat) (z : Hz) : zM := zrw (zu (zrw M (s + 1) z.1) a 4 z.2.1) (a + 1) z.2.2
def sldz (C R : Int) (z : Hz) (f w : Int) : Hz := (sld z.1 f (alg C R f w 1), z.2.1 + 1, crs C z.2.2 f (alg C R f w 1) w)
def yld (C R : Int) (H G : Int → Int) (sh c w : Int) : Prop := 0 < H c ∧ G c = 0 ∧ ¬ shd C R H sh c w
section CP
variable {g : zG} {o : Bool} {M : zM} {C R x c w t f : Int} {s a b : Nat} {z z' : Hz}
theorem zput_h (ha : zSt a s) : zput M a s z (s + 1) = z.1 := by
  have := zst_ne ha
  unfold zput
  rw [zrw_other (by omega), zu_other (by omega), zrw_row]
theorem zput_x : zput M a s z (a + 1) = z.2.2 := by unfold zput; rw [zrw_row]
theorem zput_a (ha : zSt a s) (i : Int) : zput M a s z a i = if i = 4 then z.2.1 else M a i := by
  have := zst_ne ha
  unfold zput
  rw [zrw_other (by omega), zu_row, zrw_other (by omega)]
theorem zput_o (h1 : b ≠ s + 1) (h2 : b ≠ a) (h3 : b ≠ a + 1) : zput M a s z b = M b := by
  unfold zput
  rw [zrw_other h3, zu_other h2, zrw_other h1]
theorem zget_put (ha : zSt a s) : zget (zput M a s z) a s = z := by
  unfold zget
  rw [zput_h ha, zput_x, zput_a ha, if_pos rfl]
theorem zput_put (ha : zSt a s) : zput (zput M a s z) a s z' = zput M a s z' := by
  have h := zst_ne ha
  funext b j
  by_cases h1 : b = s + 1
  · subst h1; rw [zput_h ha, zput_h ha]
  · by_cases h2 : b = a
    · subst h2
      simp only [zput_a ha]
      by_cases hj : j = 4 <;> simp [hj]
    · by_cases h3 : b = a + 1
      · subst h3; rw [zput_x, zput_x]
      · rw [zput_o h1 h2 h3, zput_o h1 h2 h3, zput_o h1 h2 h3]
theorem zput_get (ha : zSt a s) : zput M a s (zget M a s) = M := by
  have h := zst_ne ha
  funext b j
  by_cases h1 : b = s + 1
  · subst h1; rw [zput_h ha]; rfl
  · by_cases h2 : b = a
    · subst h2
      rw [zput_a ha]
      split
      · rename_i hj; subst hj; rfl
      · rfl
    · by_cases h3 : b = a + 1
      · subst h3; rw [zput_x]; rfl
      · rw [zput_o h1 h2 h3]
theorem zput_L (ha : zSt a s) (hL : zLand M C R) : zLand (zput M a s z) C R := by
  have h := zst_ne ha
  exact hL.of (fun b h1 h2 => zput_o (by omega) (by omega) (by omega))
theorem zput_14 (ha : zSt a s) : zput M a s z 14 = M 14 := by
  have h := zst_ne ha
  exact zput_o (by omega) (by omega) (by omega)
theorem c_slide (ha : zSt a s) (hL : zLand M C R) (hf : 0 ≤ f ∧ f < C * R) (hw : 0 ≤ w ∧ w ≤ 3) : zKv g (z1 o) mX7_slide [zA g a, zI f, zI w] M (fun M' => M' = zput M a s (sldz C R (zget M a s) f w)) := by
  have hn := geo_n hL.1
  have h := zst_ne ha
  have a1 := alg_in (w := w) (k := 1) hL.1 hf
  refine zkv_of rfl (Nat.le_of_ble_eq_true rfl) (SX7_slide_0 ha ⟨hL, hf, hw, by omega, by omega, ?_, a1, ?_⟩)
  · exact hL.of (fun b h1 h2 => by rw [zu_other (by omega), zu_other (by omega), zu_other (by omega)])
  · have e1 : zu (zu M (s + 1) f (M (s + 1) f - 1)) (s + 1) (alg C R f w 1) (zu M (s + 1) f (M (s + 1) f - 1) (s + 1) (alg C R f w 1) + 1) = zrw M (s + 1) (sld (M (s + 1)) f (alg C R f w 1)) := by
      rw [zu_zrw, zu_zrw, zrw_row, zrw_zrw]; rfl
    rw [e1, zu_other (by omega), zrw_other (by omega), zrw_other (by omega)]
    rfl
theorem zu_put (ha : zSt a s) : zu M (s + 1) c x = zput M a s (up (M (s + 1)) c x, M a 4, M (a + 1)) := by
  have h := zst_ne ha
  rw [zu_zrw]
  funext b j
  by_cases h1 : b = s + 1
  · subst h1; rw [zput_h ha, zrw_row]
  · rw [zrw_other h1]
    by_cases h2 : b = a
    · subst h2
      rw [zput_a ha]
      split
      · rename_i hj; subst hj; rfl
      · rfl
    · by_cases h3 : b = a + 1
      · subst h3; rw [zput_x]
      · rw [zput_o h1 h2 h3]
end CP
end
section
theorem dX7_lift_0 : decode cX7_lift 0 = .ok (.aload_n 0, 1) := by decide +kernel
theorem dX7_lift_1 : decode cX7_lift 1 = .ok (.getfield 26, 3) := by decide +kernel
theorem dX7_lift_4 : decode cX7_lift 4 = .ok (.getfield 79, 3) := by decide +kernel
theorem dX7_lift_7 : decode cX7_lift 7 = .ok (.iload_n 1, 1) := by decide +kernel
theorem dX7_lift_8 : decode cX7_lift 8 = .ok (.dup2, 1) := by decide +kernel
theorem dX7_lift_9 : decode cX7_lift 9 = .ok (.iaload, 1) := by decide +kernel
theorem dX7_lift_10 : decode cX7_lift 10 = .ok (.iconst 1, 1) := by decide +kernel
theorem dX7_lift_11 : decode cX7_lift 11 = .ok (.isub, 1) := by decide +kernel
theorem dX7_lift_12 : decode cX7_lift 12 = .ok (.iastore, 1) := by decide +kernel
theorem dX7_lift_13 : decode cX7_lift 13 = .ok (.iload_n 1, 1) := by decide +kernel
theorem dX7_lift_14 : decode cX7_lift 14 = .ok (.istore_n 2, 1) := by decide +kernel
theorem dX7_lift_15 : decode cX7_lift 15 = .ok (.iconst 0, 1) := by decide +kernel
theorem dX7_lift_16 : decode cX7_lift 16 = .ok (.istore_n 3, 1) := by decide +kernel
theorem dX7_lift_17 : decode cX7_lift 17 = .ok (.iload_n 3, 1) := by decide +kernel
theorem dX7_lift_18 : decode cX7_lift 18 = .ok (.bipush 96, 2) := by decide +kernel
theorem dX7_lift_20 : decode cX7_lift 20 = .ok (.if_icmp .ge 48, 3) := by decide +kernel
theorem dX7_lift_23 : decode cX7_lift 23 = .ok (.aload_n 0, 1) := by decide +kernel
theorem dX7_lift_24 : decode cX7_lift 24 = .ok (.iload_n 2, 1) := by decide +kernel
theorem dX7_lift_25 : decode cX7_lift 25 = .ok (.invokevirtual 107, 3) := by decide +kernel
theorem dX7_lift_28 : decode cX7_lift 28 = .ok (.istore 4, 2) := by decide +kernel
theorem dX7_lift_30 : decode cX7_lift 30 = .ok (.iload 4, 2) := by decide +kernel
theorem dX7_lift_32 : decode cX7_lift 32 = .ok (.iconst (-1), 1) := by decide +kernel
theorem dX7_lift_33 : decode cX7_lift 33 = .ok (.if_icmp .ne 4, 3) := by decide +kernel
theorem dX7_lift_36 : decode cX7_lift 36 = .ok (.return_, 1) := by decide +kernel
theorem dX7_lift_37 : decode cX7_lift 37 = .ok (.aload_n 0, 1) := by decide +kernel
theorem dX7_lift_38 : decode cX7_lift 38 = .ok (.getfield 22, 3) := by decide +kernel
theorem dX7_lift_41 : decode cX7_lift 41 = .ok (.iload_n 2, 1) := by decide +kernel
theorem dX7_lift_42 : decode cX7_lift 42 = .ok (.iload 4, 2) := by decide +kernel
theorem dX7_lift_44 : decode cX7_lift 44 = .ok (.invokevirtual 97, 3) := by decide +kernel
theorem dX7_lift_47 : decode cX7_lift 47 = .ok (.istore 5, 2) := by decide +kernel
theorem dX7_lift_49 : decode cX7_lift 49 = .ok (.aload_n 0, 1) := by decide +kernel
theorem dX7_lift_50 : decode cX7_lift 50 = .ok (.iload 5, 2) := by decide +kernel
theorem dX7_lift_52 : decode cX7_lift 52 = .ok (.iload 4, 2) := by decide +kernel
theorem dX7_lift_54 : decode cX7_lift 54 = .ok (.iconst 2, 1) := by decide +kernel
theorem dX7_lift_55 : decode cX7_lift 55 = .ok (.ixor, 1) := by decide +kernel
theorem dX7_lift_56 : decode cX7_lift 56 = .ok (.invokevirtual 110, 3) := by decide +kernel
theorem dX7_lift_59 : decode cX7_lift 59 = .ok (.iload 5, 2) := by decide +kernel
theorem dX7_lift_61 : decode cX7_lift 61 = .ok (.istore_n 2, 1) := by decide +kernel
theorem dX7_lift_62 : decode cX7_lift 62 = .ok (.iinc 3 1, 3) := by decide +kernel
theorem dX7_lift_65 : decode cX7_lift 65 = .ok (.goto (-48), 3) := by decide +kernel
theorem dX7_lift_68 : decode cX7_lift 68 = .ok (.return_, 1) := by decide +kernel
set_option maxRecDepth 100000 in
theorem SX7_lift_0 {g : zG} {o : Bool} {a s : Nat} (ha : zSt a s) {M : zM} {q : zM → Prop} {x1 : Int} (W : (0 ≤ x1 ∧ x1 < 96) ∧ zT g (z1 o) mX7_lift (zQv (z1 o) q) 17 [(0, zA g a), (2, zI x1), (3, zI 0)] [] (zu M (s + 1) x1 ((M (s + 1) x1) - 1))) : zT g (z1 o) mX7_lift (zQv (z1 o) q) 0 [(0, zA g a), (1, zI x1)] [] M := by
  refine zr_aload_n 0 dX7_lift_0 rfl ?_
  refine zr_getr (b := s) dX7_lift_1 fX7_26 (zst_0 ha) rfl (zst_f1 ha) (zsd_nz (zst_s ha)) ?_
  refine zr_getr (b := (s + 1)) dX7_lift_4 fX7_79 (zsd_0 (zst_s ha)) rfl (zsd_f0 (zst_s ha)) (Nat.succ_ne_zero _) ?_
  refine zr_iload_n 1 dX7_lift_7 rfl ?_
  refine zr_dup2 dX7_lift_8 rfl rfl ?_
  obtain ⟨c1, W⟩ := W
  refine zr_iald dX7_lift_9 (zsd_1 (zst_s ha)) (by decide) c1 ?_
  refine zr_iconst dX7_lift_10 ?_
  refine zr_isub dX7_lift_11 ?_
  refine zr_iast dX7_lift_12 (zsd_1 (zst_s ha)) (by decide) c1 ?_
  refine zr_iload_n 1 dX7_lift_13 rfl ?_
  refine zr_istore_n (l' := [(0, zA g a), (2, zI x1)]) dX7_lift_14 (by decide) [1, 0] rfl ?_
  refine zr_iconst dX7_lift_15 ?_
  refine zr_istore_n (l' := [(0, zA g a), (2, zI x1), (3, zI 0)]) dX7_lift_16 (by decide) [1, 2, 0] rfl ?_
  exact W
set_option maxRecDepth 100000 in
theorem SX7_lift_17 {g : zG} {o : Bool} {a s : Nat} (ha : zSt a s) {C R : Int} {M : zM} {q : zM → Prop} {x2 x3 : Int} (W : (-2147483648 ≤ x3 ∧ x3 ≤ 2147483647) ∧ ((96 ≤ x3) → q M) ∧ ((¬ (96 ≤ x3)) → (zLand M C R) ∧ (0 ≤ x2 ∧ x2 < C * R) ∧ (Bd (M (s + 1))) ∧ (-2147483648 ≤ (wup C R (M (s + 1)) (M 14 3) x2) ∧ (wup C R (M (s + 1)) (M 14 3) x2) ≤ 2147483647) ∧ (((wup C R (M (s + 1)) (M 14 3) x2) ≠ (-1)) → (0 ≤ (wup C R (M (s + 1)) (M 14 3) x2) ∧ (wup C R (M (s + 1)) (M 14 3) x2) ≤ 3) ∧ (0 ≤ (alg C R x2 (wup C R (M (s + 1)) (M 14 3) x2) 1) ∧ (alg C R x2 (wup C R (M (s + 1)) (M 14 3) x2) 1) < C * R) ∧ (0 ≤ (if (wup C R (M (s + 1)) (M 14 3) x2) < 2 then (wup C R (M (s + 1)) (M 14 3) x2) + 2 else (wup C R (M (s + 1)) (M 14 3) x2) - 2) ∧ (if (wup C R (M (s + 1)) (M 14 3) x2) < 2 then (wup C R (M (s + 1)) (M 14 3) x2) + 2 else (wup C R (M (s + 1)) (M 14 3) x2) - 2) ≤ 3) ∧ zT g (z1 o) mX7_lift (zQv (z1 o) q) 17 [(0, zA g a), (2, zI (alg C R x2 (wup C R (M (s + 1)) (M 14 3) x2) 1)), (3, zI (x3 + 1))] [] (zput M a s (sldz C R (zget M a s) (alg C R x2 (wup C R (M (s + 1)) (M 14 3) x2) 1) (if (wup C R (M (s + 1)) (M 14 3) x2) < 2 then (wup C R (M (s + 1)) (M 14 3) x2) + 2 else (wup C R (M (s + 1)) (M 14 3) x2) - 2)))) ∧ (((wup C R (M (s + 1)) (M 14 3) x2) = (-1)) → q M))) : zT g (z1 o) mX7_lift (zQv (z1 o) q) 17 [(0, zA g a), (2, zI x2), (3, zI x3)] [] M := by
  refine zr_iload_n 2 dX7_lift_17 rfl ?_
  refine zr_bipush dX7_lift_18 (by decide) ?_
  obtain ⟨c1, W⟩ := W
  refine zr_icmp_ge (tgt := 68) dX7_lift_20 (by decide) c1 ⟨by decide, by decide⟩ (fun h => ?_) (fun h => ?_)
  · have W := W.1 h
    exact zt_ret dX7_lift_68 rfl W
  · have W := W.2 h
    refine zr_aload_n 0 dX7_lift_23 rfl ?_
    refine zr_iload_n 1 dX7_lift_24 rfl ?_
    obtain ⟨c2, W⟩ := W
    obtain ⟨c3, W⟩ := W
    obtain ⟨c4, W⟩ := W
    refine zt_callVi (As := [zI x2]) (rest := []) dX7_lift_25 kX7_lift_107 (zst_0 ha) rfl rfl rfl (Nat.le_of_ble_eq_true rfl) (c_wayUp ha c2 c3 c4) (fun r15 N17 h16 => ?_)
    rw [h16.1, h16.2]
    refine zr_istore (l' := [(0, zA g a), (2, zI x2), (3, zI x3), (4, zI (wup C R (M (s + 1)) (M 14 3) x2))]) dX7_lift_28 (by decide) [1, 2, 3, 0] rfl ?_
    refine zr_iload 3 dX7_lift_30 rfl ?_
    refine zr_iconst dX7_lift_32 ?_
    obtain ⟨c5, W⟩ := W
    refine zr_icmp_ne (tgt := 37) dX7_lift_33 (by decide) c5 ⟨by decide, by decide⟩ (fun h => ?_) (fun h => ?_)
    · have W := W.1 h
      refine zr_aload_n 0 dX7_lift_37 rfl ?_
      refine zr_getr (b := 14) dX7_lift_38 fX7_22 (zst_0 ha) rfl (zst_f0 ha) (by decide) ?_
      refine zr_iload_n 1 dX7_lift_41 rfl ?_
      refine zr_iload 3 dX7_lift_42 rfl ?_
      obtain ⟨c6, W⟩ := W
      refine zt_callVi (As := [zI x2, zI (wup C R (M (s + 1)) (M 14 3) x2)]) (rest := []) dX7_lift_44 kX7_lift_97 rfl rfl rfl rfl (Nat.le_of_ble_eq_true rfl) (c_nbr c2 c3 c6) (fun r12 N14 h13 => ?_)
      rw [h13.1, h13.2]
      refine zr_istore (l' := [(0, zA g a), (3, zI x3), (4, zI (wup C R (M (s + 1)) (M 14 3) x2)), (5, zI (alg C R x2 (wup C R (M (s + 1)) (M 14 3) x2) 1))]) dX7_lift_47 (by decide) [1, 3, 4, 0] rfl ?_
      refine zr_aload_n 0 dX7_lift_49 rfl ?_
      refine zr_iload 3 dX7_lift_50 rfl ?_
      refine zr_iload 2 dX7_lift_52 rfl ?_
      refine zr_iconst dX7_lift_54 ?_
      refine zr_ixor dX7_lift_55 c6 ?_
      obtain ⟨c7, W⟩ := W
      obtain ⟨c8, W⟩ := W
      refine zt_callVv (As := [zI (alg C R x2 (wup C R (M (s + 1)) (M 14 3) x2) 1), zI (if (wup C R (M (s + 1)) (M 14 3) x2) < 2 then (wup C R (M (s + 1)) (M 14 3) x2) + 2 else (wup C R (M (s + 1)) (M 14 3) x2) - 2)]) (rest := []) dX7_lift_56 kX7_lift_110 (zst_0 ha) rfl rfl rfl (Nat.le_of_ble_eq_true rfl) (c_slide ha c2 c7 c8) (fun N11 h10 => ?_)
      rw [h10]
      refine zr_iload 3 dX7_lift_59 rfl ?_
      refine zr_istore_n (l' := [(0, zA g a), (2, zI (alg C R x2 (wup C R (M (s + 1)) (M 14 3) x2) 1)), (3, zI x3)]) dX7_lift_61 (by decide) [1, 0, 2] rfl ?_
      refine zr_iinc (q := 2) (l' := [(0, zA g a), (2, zI (alg C R x2 (wup C R (M (s + 1)) (M 14 3) x2) 1)), (3, zI (x3 + 1))]) dX7_lift_62 rfl (by decide) [1, 2, 0] rfl ?_
      refine zr_goto (tgt := 17) dX7_lift_65 (by decide) ?_
      exact W
    · have W := W.2 h
      exact zt_ret dX7_lift_36 rfl W
theorem dX7_drop_0 : decode cX7_drop 0 = .ok (.aload_n 0, 1) := by decide +kernel
theorem dX7_drop_1 : decode cX7_drop 1 = .ok (.getfield 26, 3) := by decide +kernel
theorem dX7_drop_4 : decode cX7_drop 4 = .ok (.getfield 79, 3) := by decide +kernel
theorem dX7_drop_7 : decode cX7_drop 7 = .ok (.iload_n 1, 1) := by decide +kernel
theorem dX7_drop_8 : decode cX7_drop 8 = .ok (.dup2, 1) := by decide +kernel
theorem dX7_drop_9 : decode cX7_drop 9 = .ok (.iaload, 1) := by decide +kernel
theorem dX7_drop_10 : decode cX7_drop 10 = .ok (.iconst 1, 1) := by decide +kernel
theorem dX7_drop_11 : decode cX7_drop 11 = .ok (.iadd, 1) := by decide +kernel
theorem dX7_drop_12 : decode cX7_drop 12 = .ok (.iastore, 1) := by decide +kernel
theorem dX7_drop_13 : decode cX7_drop 13 = .ok (.iload_n 1, 1) := by decide +kernel
theorem dX7_drop_14 : decode cX7_drop 14 = .ok (.istore_n 2, 1) := by decide +kernel
theorem dX7_drop_15 : decode cX7_drop 15 = .ok (.iconst 0, 1) := by decide +kernel
theorem dX7_drop_16 : decode cX7_drop 16 = .ok (.istore_n 3, 1) := by decide +kernel
theorem dX7_drop_17 : decode cX7_drop 17 = .ok (.iload_n 3, 1) := by decide +kernel
theorem dX7_drop_18 : decode cX7_drop 18 = .ok (.bipush 96, 2) := by decide +kernel
theorem dX7_drop_20 : decode cX7_drop 20 = .ok (.if_icmp .ge 41, 3) := by decide +kernel
theorem dX7_drop_23 : decode cX7_drop 23 = .ok (.aload_n 0, 1) := by decide +kernel
theorem dX7_drop_24 : decode cX7_drop 24 = .ok (.iload_n 2, 1) := by decide +kernel
theorem dX7_drop_25 : decode cX7_drop 25 = .ok (.invokevirtual 114, 3) := by decide +kernel
theorem dX7_drop_28 : decode cX7_drop 28 = .ok (.istore 4, 2) := by decide +kernel
theorem dX7_drop_30 : decode cX7_drop 30 = .ok (.iload 4, 2) := by decide +kernel
theorem dX7_drop_32 : decode cX7_drop 32 = .ok (.iconst (-1), 1) := by decide +kernel
theorem dX7_drop_33 : decode cX7_drop 33 = .ok (.if_icmp .ne 4, 3) := by decide +kernel
theorem dX7_drop_36 : decode cX7_drop 36 = .ok (.return_, 1) := by decide +kernel
theorem dX7_drop_37 : decode cX7_drop 37 = .ok (.aload_n 0, 1) := by decide +kernel
theorem dX7_drop_38 : decode cX7_drop 38 = .ok (.iload_n 2, 1) := by decide +kernel
theorem dX7_drop_39 : decode cX7_drop 39 = .ok (.iload 4, 2) := by decide +kernel
theorem dX7_drop_41 : decode cX7_drop 41 = .ok (.invokevirtual 110, 3) := by decide +kernel
theorem dX7_drop_44 : decode cX7_drop 44 = .ok (.aload_n 0, 1) := by decide +kernel
theorem dX7_drop_45 : decode cX7_drop 45 = .ok (.getfield 22, 3) := by decide +kernel
theorem dX7_drop_48 : decode cX7_drop 48 = .ok (.iload_n 2, 1) := by decide +kernel
theorem dX7_drop_49 : decode cX7_drop 49 = .ok (.iload 4, 2) := by decide +kernel
theorem dX7_drop_51 : decode cX7_drop 51 = .ok (.invokevirtual 97, 3) := by decide +kernel
theorem dX7_drop_54 : decode cX7_drop 54 = .ok (.istore_n 2, 1) := by decide +kernel
theorem dX7_drop_55 : decode cX7_drop 55 = .ok (.iinc 3 1, 3) := by decide +kernel
theorem dX7_drop_58 : decode cX7_drop 58 = .ok (.goto (-41), 3) := by decide +kernel
theorem dX7_drop_61 : decode cX7_drop 61 = .ok (.return_, 1) := by decide +kernel
set_option maxRecDepth 100000 in
theorem SX7_drop_0 {g : zG} {o : Bool} {a s : Nat} (ha : zSt a s) {M : zM} {q : zM → Prop} {x1 : Int} (W : (0 ≤ x1 ∧ x1 < 96) ∧ zT g (z1 o) mX7_drop (zQv (z1 o) q) 17 [(0, zA g a), (2, zI x1), (3, zI 0)] [] (zu M (s + 1) x1 ((M (s + 1) x1) + 1))) : zT g (z1 o) mX7_drop (zQv (z1 o) q) 0 [(0, zA g a), (1, zI x1)] [] M := by
  refine zr_aload_n 0 dX7_drop_0 rfl ?_
  refine zr_getr (b := s) dX7_drop_1 fX7_26 (zst_0 ha) rfl (zst_f1 ha) (zsd_nz (zst_s ha)) ?_
  refine zr_getr (b := (s + 1)) dX7_drop_4 fX7_79 (zsd_0 (zst_s ha)) rfl (zsd_f0 (zst_s ha)) (Nat.succ_ne_zero _) ?_
  refine zr_iload_n 1 dX7_drop_7 rfl ?_
  refine zr_dup2 dX7_drop_8 rfl rfl ?_
  obtain ⟨c1, W⟩ := W
  refine zr_iald dX7_drop_9 (zsd_1 (zst_s ha)) (by decide) c1 ?_
  refine zr_iconst dX7_drop_10 ?_
  refine zr_iadd dX7_drop_11 ?_
  refine zr_iast dX7_drop_12 (zsd_1 (zst_s ha)) (by decide) c1 ?_
  refine zr_iload_n 1 dX7_drop_13 rfl ?_
  refine zr_istore_n (l' := [(0, zA g a), (2, zI x1)]) dX7_drop_14 (by decide) [1, 0] rfl ?_
  refine zr_iconst dX7_drop_15 ?_
  refine zr_istore_n (l' := [(0, zA g a), (2, zI x1), (3, zI 0)]) dX7_drop_16 (by decide) [1, 2, 0] rfl ?_
  exact W
set_option maxRecDepth 100000 in
theorem SX7_drop_17 {g : zG} {o : Bool} {a s : Nat} (ha : zSt a s) {C R : Int} {M : zM} {q : zM → Prop} {x2 x3 : Int} (W : (-2147483648 ≤ x3 ∧ x3 ≤ 2147483647) ∧ ((96 ≤ x3) → q M) ∧ ((¬ (96 ≤ x3)) → (zLand M C R) ∧ (0 ≤ x2 ∧ x2 < C * R) ∧ (Bd (M (s + 1))) ∧ (-2147483648 ≤ (wdn C R (M (s + 1)) (M 14 3) x2) ∧ (wdn C R (M (s + 1)) (M 14 3) x2) ≤ 2147483647) ∧ (((wdn C R (M (s + 1)) (M 14 3) x2) ≠ (-1)) → (0 ≤ (wdn C R (M (s + 1)) (M 14 3) x2) ∧ (wdn C R (M (s + 1)) (M 14 3) x2) ≤ 3) ∧ (zLand (zput M a s (sldz C R (zget M a s) x2 (wdn C R (M (s + 1)) (M 14 3) x2))) C R) ∧ zT g (z1 o) mX7_drop (zQv (z1 o) q) 17 [(0, zA g a), (2, zI (alg C R x2 (wdn C R (M (s + 1)) (M 14 3) x2) 1)), (3, zI (x3 + 1))] [] (zput M a s (sldz C R (zget M a s) x2 (wdn C R (M (s + 1)) (M 14 3) x2)))) ∧ (((wdn C R (M (s + 1)) (M 14 3) x2) = (-1)) → q M))) : zT g (z1 o) mX7_drop (zQv (z1 o) q) 17 [(0, zA g a), (2, zI x2), (3, zI x3)] [] M := by
  refine zr_iload_n 2 dX7_drop_17 rfl ?_
  refine zr_bipush dX7_drop_18 (by decide) ?_
  obtain ⟨c1, W⟩ := W
  refine zr_icmp_ge (tgt := 61) dX7_drop_20 (by decide) c1 ⟨by decide, by decide⟩ (fun h => ?_) (fun h => ?_)
  · have W := W.1 h
    exact zt_ret dX7_drop_61 rfl W
  · have W := W.2 h
    refine zr_aload_n 0 dX7_drop_23 rfl ?_
    refine zr_iload_n 1 dX7_drop_24 rfl ?_
    obtain ⟨c2, W⟩ := W
    obtain ⟨c3, W⟩ := W
    obtain ⟨c4, W⟩ := W
    refine zt_callVi (As := [zI x2]) (rest := []) dX7_drop_25 kX7_drop_114 (zst_0 ha) rfl rfl rfl (Nat.le_of_ble_eq_true rfl) (c_wayDown ha c2 c3 c4) (fun r14 N16 h15 => ?_)
    rw [h15.1, h15.2]
    refine zr_istore (l' := [(0, zA g a), (2, zI x2), (3, zI x3), (4, zI (wdn C R (M (s + 1)) (M 14 3) x2))]) dX7_drop_28 (by decide) [1, 2, 3, 0] rfl ?_
    refine zr_iload 3 dX7_drop_30 rfl ?_
    refine zr_iconst dX7_drop_32 ?_
    obtain ⟨c5, W⟩ := W
    refine zr_icmp_ne (tgt := 37) dX7_drop_33 (by decide) c5 ⟨by decide, by decide⟩ (fun h => ?_) (fun h => ?_)
    · have W := W.1 h
      refine zr_aload_n 0 dX7_drop_37 rfl ?_
      refine zr_iload_n 1 dX7_drop_38 rfl ?_
      refine zr_iload 3 dX7_drop_39 rfl ?_
      obtain ⟨c6, W⟩ := W
      refine zt_callVv (As := [zI x2, zI (wdn C R (M (s + 1)) (M 14 3) x2)]) (rest := []) dX7_drop_41 kX7_drop_110 (zst_0 ha) rfl rfl rfl (Nat.le_of_ble_eq_true rfl) (c_slide ha c2 c3 c6) (fun N13 h12 => ?_)
      rw [h12]
      refine zr_aload_n 0 dX7_drop_44 rfl ?_
      refine zr_getr (b := 14) dX7_drop_45 fX7_22 (zst_0 ha) rfl (zst_f0 ha) (by decide) ?_
      refine zr_iload_n 1 dX7_drop_48 rfl ?_
      refine zr_iload 3 dX7_drop_49 rfl ?_
      obtain ⟨c7, W⟩ := W
      refine zt_callVi (As := [zI x2, zI (wdn C R (M (s + 1)) (M 14 3) x2)]) (rest := []) dX7_drop_51 kX7_drop_97 rfl rfl rfl rfl (Nat.le_of_ble_eq_true rfl) (c_nbr c7 c3 c6) (fun r8 N10 h9 => ?_)
      rw [h9.1, h9.2]
      refine zr_istore_n (l' := [(0, zA g a), (2, zI (alg C R x2 (wdn C R (M (s + 1)) (M 14 3) x2) 1)), (3, zI x3)]) dX7_drop_54 (by decide) [1, 0, 2] rfl ?_
      refine zr_iinc (q := 2) (l' := [(0, zA g a), (2, zI (alg C R x2 (wdn C R (M (s + 1)) (M 14 3) x2) 1)), (3, zI (x3 + 1))]) dX7_drop_55 rfl (by decide) [1, 2, 0] rfl ?_
      refine zr_goto (tgt := 17) dX7_drop_58 (by decide) ?_
      exact W
    · have W := W.2 h
      exact zt_ret dX7_drop_36 rfl W
theorem dX7_firstSteep_0 : decode cX7_firstSteep 0 = .ok (.iconst 0, 1) := by decide +kernel
theorem dX7_firstSteep_1 : decode cX7_firstSteep 1 = .ok (.istore_n 1, 1) := by decide +kernel
theorem dX7_firstSteep_2 : decode cX7_firstSteep 2 = .ok (.iload_n 1, 1) := by decide +kernel
theorem dX7_firstSteep_3 : decode cX7_firstSteep 3 = .ok (.aload_n 0, 1) := by decide +kernel
theorem dX7_firstSteep_4 : decode cX7_firstSteep 4 = .ok (.getfield 22, 3) := by decide +kernel
theorem dX7_firstSteep_7 : decode cX7_firstSteep 7 = .ok (.getfield 58, 3) := by decide +kernel
theorem dX7_firstSteep_10 : decode cX7_firstSteep 10 = .ok (.if_icmp .ge 20, 3) := by decide +kernel
theorem dX7_firstSteep_13 : decode cX7_firstSteep 13 = .ok (.aload_n 0, 1) := by decide +kernel
theorem dX7_firstSteep_14 : decode cX7_firstSteep 14 = .ok (.iload_n 1, 1) := by decide +kernel
theorem dX7_firstSteep_15 : decode cX7_firstSteep 15 = .ok (.invokevirtual 114, 3) := by decide +kernel
theorem dX7_firstSteep_18 : decode cX7_firstSteep 18 = .ok (.iconst (-1), 1) := by decide +kernel
theorem dX7_firstSteep_19 : decode cX7_firstSteep 19 = .ok (.if_icmp .eq 5, 3) := by decide +kernel
theorem dX7_firstSteep_22 : decode cX7_firstSteep 22 = .ok (.iload_n 1, 1) := by decide +kernel
theorem dX7_firstSteep_23 : decode cX7_firstSteep 23 = .ok (.ireturn, 1) := by decide +kernel
theorem dX7_firstSteep_24 : decode cX7_firstSteep 24 = .ok (.iinc 1 1, 3) := by decide +kernel
theorem dX7_firstSteep_27 : decode cX7_firstSteep 27 = .ok (.goto (-25), 3) := by decide +kernel
theorem dX7_firstSteep_30 : decode cX7_firstSteep 30 = .ok (.iconst (-1), 1) := by decide +kernel
theorem dX7_firstSteep_31 : decode cX7_firstSteep 31 = .ok (.ireturn, 1) := by decide +kernel
set_option maxRecDepth 100000 in
theorem SX7_firstSteep_0 {g : zG} {o : Bool} {a s : Nat} (ha : zSt a s) {M : zM} {q : Int → zM → Prop} (W : zT g (z1 o) mX7_firstSteep (zQi (z1 o) q) 2 [(0, zA g a), (1, zI 0)] [] M) : zT g (z1 o) mX7_firstSteep (zQi (z1 o) q) 0 [(0, zA g a)] [] M := by
  refine zr_iconst dX7_firstSteep_0 ?_
  refine zr_istore_n (l' := [(0, zA g a), (1, zI 0)]) dX7_firstSteep_1 (by decide) [1, 0] rfl ?_
  exact W
set_option maxRecDepth 100000 in
theorem SX7_firstSteep_2 {g : zG} {o : Bool} {a s : Nat} (ha : zSt a s) {C R : Int} {M : zM} {q : Int → zM → Prop} {x1 : Int} (W : (-2147483648 ≤ x1 ∧ x1 ≤ 2147483647) ∧ (-2147483648 ≤ (M 14 2) ∧ (M 14 2) ≤ 2147483647) ∧ (((M 14 2) ≤ x1) → q (-1) M) ∧ ((¬ ((M 14 2) ≤ x1)) → (zLand M C R) ∧ (0 ≤ x1 ∧ x1 < C * R) ∧ (Bd (M (s + 1))) ∧ (-2147483648 ≤ (wdn C R (M (s + 1)) (M 14 3) x1) ∧ (wdn C R (M (s + 1)) (M 14 3) x1) ≤ 2147483647) ∧ (((wdn C R (M (s + 1)) (M 14 3) x1) = (-1)) → zT g (z1 o) mX7_firstSteep (zQi (z1 o) q) 2 [(0, zA g a), (1, zI (x1 + 1))] [] M) ∧ ((¬ ((wdn C R (M (s + 1)) (M 14 3) x1) = (-1))) → q x1 M))) : zT g (z1 o) mX7_firstSteep (zQi (z1 o) q) 2 [(0, zA g a), (1, zI x1)] [] M := by
  refine zr_iload_n 1 dX7_firstSteep_2 rfl ?_
  refine zr_aload_n 0 dX7_firstSteep_3 rfl ?_
  refine zr_getr (b := 14) dX7_firstSteep_4 fX7_22 (zst_0 ha) rfl (zst_f0 ha) (by decide) ?_
  refine zt_geti 2 rfl dX7_firstSteep_7 fX7_58 rfl (by decide) ?_
  obtain ⟨c1, W⟩ := W
  obtain ⟨c2, W⟩ := W
  refine zr_icmp_ge (tgt := 30) dX7_firstSteep_10 (by decide) c1 c2 (fun h => ?_) (fun h => ?_)
  · have W := W.1 h
    refine zr_iconst dX7_firstSteep_30 ?_
    exact zt_iret dX7_firstSteep_31 rfl W
  · have W := W.2 h
    refine zr_aload_n 0 dX7_firstSteep_13 rfl ?_
    refine zr_iload_n 1 dX7_firstSteep_14 rfl ?_
    obtain ⟨c3, W⟩ := W
    obtain ⟨c4, W⟩ := W
    obtain ⟨c5, W⟩ := W
    refine zt_callVi (As := [zI x1]) (rest := []) dX7_firstSteep_15 kX7_firstSteep_114 (zst_0 ha) rfl rfl rfl (Nat.le_of_ble_eq_true rfl) (c_wayDown ha c3 c4 c5) (fun r7 N9 h8 => ?_)
    rw [h8.1, h8.2]
    refine zr_iconst dX7_firstSteep_18 ?_
    obtain ⟨c6, W⟩ := W
    refine zr_icmp_eq (tgt := 24) dX7_firstSteep_19 (by decide) c6 ⟨by decide, by decide⟩ (fun h => ?_) (fun h => ?_)
    · have W := W.1 h
      refine zr_iinc (q := 1) (l' := [(0, zA g a), (1, zI (x1 + 1))]) dX7_firstSteep_24 rfl (by decide) [1, 0] rfl ?_
      refine zr_goto (tgt := 2) dX7_firstSteep_27 (by decide) ?_
      exact W
    · have W := W.2 h
      refine zr_iload_n 1 dX7_firstSteep_22 rfl ?_
      exact zt_iret dX7_firstSteep_23 rfl W
theorem dX7_settle_0 : decode cX7_settle 0 = .ok (.iconst 0, 1) := by decide +kernel
theorem dX7_settle_1 : decode cX7_settle 1 = .ok (.istore_n 1, 1) := by decide +kernel
theorem dX7_settle_2 : decode cX7_settle 2 = .ok (.iload_n 1, 1) := by decide +kernel
theorem dX7_settle_3 : decode cX7_settle 3 = .ok (.ldc 117, 2) := by decide +kernel
theorem dX7_settle_5 : decode cX7_settle 5 = .ok (.if_icmp .ge 30, 3) := by decide +kernel
theorem dX7_settle_8 : decode cX7_settle 8 = .ok (.aload_n 0, 1) := by decide +kernel
theorem dX7_settle_9 : decode cX7_settle 9 = .ok (.invokevirtual 118, 3) := by decide +kernel
theorem dX7_settle_12 : decode cX7_settle 12 = .ok (.istore_n 2, 1) := by decide +kernel
theorem dX7_settle_13 : decode cX7_settle 13 = .ok (.iload_n 2, 1) := by decide +kernel
theorem dX7_settle_14 : decode cX7_settle 14 = .ok (.iconst (-1), 1) := by decide +kernel
theorem dX7_settle_15 : decode cX7_settle 15 = .ok (.if_icmp .ne 4, 3) := by decide +kernel
theorem dX7_settle_18 : decode cX7_settle 18 = .ok (.return_, 1) := by decide +kernel
theorem dX7_settle_19 : decode cX7_settle 19 = .ok (.aload_n 0, 1) := by decide +kernel
theorem dX7_settle_20 : decode cX7_settle 20 = .ok (.iload_n 2, 1) := by decide +kernel
theorem dX7_settle_21 : decode cX7_settle 21 = .ok (.aload_n 0, 1) := by decide +kernel
theorem dX7_settle_22 : decode cX7_settle 22 = .ok (.iload_n 2, 1) := by decide +kernel
theorem dX7_settle_23 : decode cX7_settle 23 = .ok (.invokevirtual 114, 3) := by decide +kernel
theorem dX7_settle_26 : decode cX7_settle 26 = .ok (.invokevirtual 110, 3) := by decide +kernel
theorem dX7_settle_29 : decode cX7_settle 29 = .ok (.iinc 1 1, 3) := by decide +kernel
theorem dX7_settle_32 : decode cX7_settle 32 = .ok (.goto (-30), 3) := by decide +kernel
theorem dX7_settle_35 : decode cX7_settle 35 = .ok (.return_, 1) := by decide +kernel
set_option maxRecDepth 100000 in
theorem SX7_settle_0 {g : zG} {o : Bool} {a s : Nat} (ha : zSt a s) {M : zM} {q : zM → Prop} (W : zT g (z1 o) mX7_settle (zQv (z1 o) q) 2 [(0, zA g a), (1, zI 0)] [] M) : zT g (z1 o) mX7_settle (zQv (z1 o) q) 0 [(0, zA g a)] [] M := by
  refine zr_iconst dX7_settle_0 ?_
  refine zr_istore_n (l' := [(0, zA g a), (1, zI 0)]) dX7_settle_1 (by decide) [1, 0] rfl ?_
  exact W
set_option maxRecDepth 100000 in
theorem SX7_settle_2 {g : zG} {o : Bool} {a s : Nat} (ha : zSt a s) {C R : Int} {M : zM} {q : zM → Prop} {x1 : Int} (W : (-2147483648 ≤ x1 ∧ x1 ≤ 2147483647) ∧ ((1000000 ≤ x1) → q M) ∧ ((¬ (1000000 ≤ x1)) → ∃ q2 : Int → zM → Prop, zKi g (z1 o) mX7_firstSteep [zA g a] M q2 ∧ ∀ (r3 : Int) (M4 : zM), q2 r3 M4 → (-2147483648 ≤ r3 ∧ r3 ≤ 2147483647) ∧ ((r3 ≠ (-1)) → (zLand M4 C R) ∧ (0 ≤ r3 ∧ r3 < C * R) ∧ (Bd (M4 (s + 1))) ∧ (0 ≤ (wdn C R (M4 (s + 1)) (M4 14 3) r3) ∧ (wdn C R (M4 (s + 1)) (M4 14 3) r3) ≤ 3) ∧ zT g (z1 o) mX7_settle (zQv (z1 o) q) 2 [(0, zA g a), (1, zI (x1 + 1))] [] (zput M4 a s (sldz C R (zget M4 a s) r3 (wdn C R (M4 (s + 1)) (M4 14 3) r3)))) ∧ ((r3 = (-1)) → q M4))) : zT g (z1 o) mX7_settle (zQv (z1 o) q) 2 [(0, zA g a), (1, zI x1)] [] M := by
  refine zr_iload_n 1 dX7_settle_2 rfl ?_
  refine zr_ldc (x := 1000000) dX7_settle_3 (zc2 147 (by decide +kernel) rfl) ?_
  obtain ⟨c1, W⟩ := W
  refine zr_icmp_ge (tgt := 35) dX7_settle_5 (by decide) c1 ⟨by decide, by decide⟩ (fun h => ?_) (fun h => ?_)
  · have W := W.1 h
    exact zt_ret dX7_settle_35 rfl W
  · have W := W.2 h
    refine zr_aload_n 0 dX7_settle_8 rfl ?_
    obtain ⟨q2, k6, W⟩ := W
    refine zt_callVi (As := []) (rest := []) dX7_settle_9 kX7_settle_118 (zst_0 ha) rfl rfl rfl (Nat.le_of_ble_eq_true rfl) k6 (fun r3 M4 h5 => ?_)
    have W := W r3 M4 h5
    refine zr_istore_n (l' := [(0, zA g a), (1, zI x1), (2, zI r3)]) dX7_settle_12 (by decide) [1, 2, 0] rfl ?_
    refine zr_iload_n 2 dX7_settle_13 rfl ?_
    refine zr_iconst dX7_settle_14 ?_
    obtain ⟨c7, W⟩ := W
    refine zr_icmp_ne (tgt := 19) dX7_settle_15 (by decide) c7 ⟨by decide, by decide⟩ (fun h => ?_) (fun h => ?_)
    · have W := W.1 h
      refine zr_aload_n 0 dX7_settle_19 rfl ?_
      refine zr_iload_n 2 dX7_settle_20 rfl ?_
      refine zr_aload_n 0 dX7_settle_21 rfl ?_
      refine zr_iload_n 2 dX7_settle_22 rfl ?_
      obtain ⟨c8, W⟩ := W
      obtain ⟨c9, W⟩ := W
      obtain ⟨c10, W⟩ := W
      refine zt_callVi (As := [zI r3]) (rest := [zI r3, zA g a]) dX7_settle_23 kX7_settle_114 (zst_0 ha) rfl rfl rfl (Nat.le_of_ble_eq_true rfl) (c_wayDown ha c8 c9 c10) (fun r15 N17 h16 => ?_)
      rw [h16.1, h16.2]
      obtain ⟨c11, W⟩ := W
      refine zt_callVv (As := [zI r3, zI (wdn C R (M4 (s + 1)) (M4 14 3) r3)]) (rest := []) dX7_settle_26 kX7_settle_110 (zst_0 ha) rfl rfl rfl (Nat.le_of_ble_eq_true rfl) (c_slide ha c8 c9 c11) (fun N14 h13 => ?_)
      rw [h13]
      refine zr_iinc (q := 1) (l' := [(0, zA g a), (1, zI (x1 + 1))]) dX7_settle_29 rfl (by decide) [1, 0] rfl ?_
      refine zr_goto (tgt := 2) dX7_settle_32 (by decide) ?_
      exact W
    · have W := W.2 h
      exact zt_ret dX7_settle_18 rfl W
theorem dX7_yields_0 : decode cX7_yields 0 = .ok (.aload_n 0, 1) := by decide +kernel
theorem dX7_yields_1 : decode cX7_yields 1 = .ok (.getfield 26, 3) := by decide +kernel
theorem dX7_yields_4 : decode cX7_yields 4 = .ok (.getfield 79, 3) := by decide +kernel
theorem dX7_yields_7 : decode cX7_yields 7 = .ok (.iload_n 1, 1) := by decide +kernel
theorem dX7_yields_8 : decode cX7_yields 8 = .ok (.iaload, 1) := by decide +kernel
theorem dX7_yields_9 : decode cX7_yields 9 = .ok (.ifCond .le 28, 3) := by decide +kernel
theorem dX7_yields_12 : decode cX7_yields 12 = .ok (.aload_n 0, 1) := by decide +kernel
theorem dX7_yields_13 : decode cX7_yields 13 = .ok (.getfield 26, 3) := by decide +kernel
theorem dX7_yields_16 : decode cX7_yields 16 = .ok (.getfield 82, 3) := by decide +kernel
theorem dX7_yields_19 : decode cX7_yields 19 = .ok (.iload_n 1, 1) := by decide +kernel
theorem dX7_yields_20 : decode cX7_yields 20 = .ok (.iaload, 1) := by decide +kernel
theorem dX7_yields_21 : decode cX7_yields 21 = .ok (.ifCond .ne 16, 3) := by decide +kernel
theorem dX7_yields_24 : decode cX7_yields 24 = .ok (.aload_n 0, 1) := by decide +kernel
theorem dX7_yields_25 : decode cX7_yields 25 = .ok (.iload_n 1, 1) := by decide +kernel
theorem dX7_yields_26 : decode cX7_yields 26 = .ok (.iload_n 2, 1) := by decide +kernel
theorem dX7_yields_27 : decode cX7_yields 27 = .ok (.invokevirtual 85, 3) := by decide +kernel
theorem dX7_yields_30 : decode cX7_yields 30 = .ok (.ifCond .ne 7, 3) := by decide +kernel
theorem dX7_yields_33 : decode cX7_yields 33 = .ok (.iconst 1, 1) := by decide +kernel
theorem dX7_yields_34 : decode cX7_yields 34 = .ok (.goto 4, 3) := by decide +kernel
theorem dX7_yields_37 : decode cX7_yields 37 = .ok (.iconst 0, 1) := by decide +kernel
theorem dX7_yields_38 : decode cX7_yields 38 = .ok (.ireturn, 1) := by decide +kernel
set_option maxRecDepth 100000 in
theorem SX7_yields_0 {g : zG} {o : Bool} {a s : Nat} (ha : zSt a s) {C R : Int} {M : zM} {q : Int → zM → Prop} {x1 x2 : Int} (W : (0 ≤ x1 ∧ x1 < 96) ∧ (-2147483648 ≤ (M (s + 1) x1) ∧ (M (s + 1) x1) ≤ 2147483647) ∧ (((M (s + 1) x1) ≤ 0) → q 0 M) ∧ ((¬ ((M (s + 1) x1) ≤ 0)) → (-2147483648 ≤ (M (s + 2) x1) ∧ (M (s + 2) x1) ≤ 2147483647) ∧ (((M (s + 2) x1) ≠ 0) → q 0 M) ∧ (((M (s + 2) x1) = 0) → (zLand M C R) ∧ (0 ≤ x1 ∧ x1 < C * R) ∧ (0 ≤ x2 ∧ x2 ≤ 3) ∧ (Bd (M (s + 1))) ∧ (0 ≤ M (s + 3) 1 ∧ M (s + 3) 1 ≤ 9) ∧ ((shd C R (M (s + 1)) (M (s + 3) 1) x1 x2) → q 0 M) ∧ ((¬ (shd C R (M (s + 1)) (M (s + 3) 1) x1 x2)) → q 1 M)))) : zT g (z1 o) mX7_yields (zQi (z1 o) q) 0 [(0, zA g a), (1, zI x1), (2, zI x2)] [] M := by
  refine zr_aload_n 0 dX7_yields_0 rfl ?_
  refine zr_getr (b := s) dX7_yields_1 fX7_26 (zst_0 ha) rfl (zst_f1 ha) (zsd_nz (zst_s ha)) ?_
  refine zr_getr (b := (s + 1)) dX7_yields_4 fX7_79 (zsd_0 (zst_s ha)) rfl (zsd_f0 (zst_s ha)) (Nat.succ_ne_zero _) ?_
  refine zr_iload_n 1 dX7_yields_7 rfl ?_
  obtain ⟨c1, W⟩ := W
  refine zr_iald dX7_yields_8 (zsd_1 (zst_s ha)) (by decide) c1 ?_
  obtain ⟨c2, W⟩ := W
  refine zr_if_le (tgt := 37) dX7_yields_9 (by decide) c2 (fun h => ?_) (fun h => ?_)
  · have W := W.1 h
    refine zr_iconst dX7_yields_37 ?_
    exact zt_zret dX7_yields_38 rfl (by decide) W
  · have W := W.2 h
    refine zr_aload_n 0 dX7_yields_12 rfl ?_
    refine zr_getr (b := s) dX7_yields_13 fX7_26 (zst_0 ha) rfl (zst_f1 ha) (zsd_nz (zst_s ha)) ?_
    refine zr_getr (b := (s + 2)) dX7_yields_16 fX7_82 (zsd_0 (zst_s ha)) rfl (zsd_f1 (zst_s ha)) (Nat.succ_ne_zero _) ?_
    refine zr_iload_n 1 dX7_yields_19 rfl ?_
    refine zr_iald dX7_yields_20 (zsd_2 (zst_s ha)) (by decide) c1 ?_
    obtain ⟨c3, W⟩ := W
    refine zr_if_ne (tgt := 37) dX7_yields_21 (by decide) c3 (fun h => ?_) (fun h => ?_)
    · have W := W.1 h
      refine zr_iconst dX7_yields_37 ?_
      exact zt_zret dX7_yields_38 rfl (by decide) W
    · have W := W.2 h
      refine zr_aload_n 0 dX7_yields_24 rfl ?_
      refine zr_iload_n 1 dX7_yields_25 rfl ?_
      refine zr_iload_n 2 dX7_yields_26 rfl ?_
      obtain ⟨c4, W⟩ := W
      obtain ⟨c5, W⟩ := W
      obtain ⟨c6, W⟩ := W
      obtain ⟨c7, W⟩ := W
      obtain ⟨c8, W⟩ := W
      refine zt_callVi (As := [zI x1, zI x2]) (rest := []) dX7_yields_27 kX7_yields_85 (zst_0 ha) rfl rfl rfl (Nat.le_of_ble_eq_true rfl) (c_shaded ha c4 c5 c6 c7 c8) (fun r9 N11 h10 => ?_)
      rw [h10.1, h10.2]
      refine zt_ifne_b (tgt := 37) dX7_yields_30 (by decide) (fun h => ?_) (fun h => ?_)
      · have W := W.1 h
        refine zr_iconst dX7_yields_37 ?_
        exact zt_zret dX7_yields_38 rfl (by decide) W
      · have W := W.2 h
        refine zr_iconst dX7_yields_33 ?_
        refine zr_goto (tgt := 38) dX7_yields_34 (by decide) ?_
        exact zt_zret dX7_yields_38 rfl (by decide) W
theorem dX7_hopOn_0 : decode cX7_hopOn 0 = .ok (.iload_n 1, 1) := by decide +kernel
theorem dX7_hopOn_1 : decode cX7_hopOn 1 = .ok (.istore_n 3, 1) := by decide +kernel
theorem dX7_hopOn_2 : decode cX7_hopOn 2 = .ok (.iconst 0, 1) := by decide +kernel
theorem dX7_hopOn_3 : decode cX7_hopOn 3 = .ok (.istore 4, 2) := by decide +kernel
theorem dX7_hopOn_5 : decode cX7_hopOn 5 = .ok (.iload 4, 2) := by decide +kernel
theorem dX7_hopOn_7 : decode cX7_hopOn 7 = .ok (.aload_n 0, 1) := by decide +kernel
theorem dX7_hopOn_8 : decode cX7_hopOn 8 = .ok (.getfield 26, 3) := by decide +kernel
theorem dX7_hopOn_11 : decode cX7_hopOn 11 = .ok (.getfield 94, 3) := by decide +kernel
theorem dX7_hopOn_14 : decode cX7_hopOn 14 = .ok (.iconst 0, 1) := by decide +kernel
theorem dX7_hopOn_15 : decode cX7_hopOn 15 = .ok (.iaload, 1) := by decide +kernel
theorem dX7_hopOn_16 : decode cX7_hopOn 16 = .ok (.if_icmp .ge 31, 3) := by decide +kernel
theorem dX7_hopOn_19 : decode cX7_hopOn 19 = .ok (.aload_n 0, 1) := by decide +kernel
theorem dX7_hopOn_20 : decode cX7_hopOn 20 = .ok (.getfield 22, 3) := by decide +kernel
theorem dX7_hopOn_23 : decode cX7_hopOn 23 = .ok (.iload_n 3, 1) := by decide +kernel
theorem dX7_hopOn_24 : decode cX7_hopOn 24 = .ok (.iload_n 2, 1) := by decide +kernel
theorem dX7_hopOn_25 : decode cX7_hopOn 25 = .ok (.invokevirtual 97, 3) := by decide +kernel
theorem dX7_hopOn_28 : decode cX7_hopOn 28 = .ok (.istore 5, 2) := by decide +kernel
theorem dX7_hopOn_30 : decode cX7_hopOn 30 = .ok (.aload_n 0, 1) := by decide +kernel
theorem dX7_hopOn_31 : decode cX7_hopOn 31 = .ok (.iload_n 3, 1) := by decide +kernel
theorem dX7_hopOn_32 : decode cX7_hopOn 32 = .ok (.iload 5, 2) := by decide +kernel
theorem dX7_hopOn_34 : decode cX7_hopOn 34 = .ok (.iload_n 2, 1) := by decide +kernel
theorem dX7_hopOn_35 : decode cX7_hopOn 35 = .ok (.invokevirtual 100, 3) := by decide +kernel
theorem dX7_hopOn_38 : decode cX7_hopOn 38 = .ok (.iload 5, 2) := by decide +kernel
theorem dX7_hopOn_40 : decode cX7_hopOn 40 = .ok (.istore_n 3, 1) := by decide +kernel
theorem dX7_hopOn_41 : decode cX7_hopOn 41 = .ok (.iinc 4 1, 3) := by decide +kernel
theorem dX7_hopOn_44 : decode cX7_hopOn 44 = .ok (.goto (-39), 3) := by decide +kernel
theorem dX7_hopOn_47 : decode cX7_hopOn 47 = .ok (.aload_n 0, 1) := by decide +kernel
theorem dX7_hopOn_48 : decode cX7_hopOn 48 = .ok (.dup, 1) := by decide +kernel
theorem dX7_hopOn_49 : decode cX7_hopOn 49 = .ok (.getfield 15, 3) := by decide +kernel
theorem dX7_hopOn_52 : decode cX7_hopOn 52 = .ok (.iconst 1, 1) := by decide +kernel
theorem dX7_hopOn_53 : decode cX7_hopOn 53 = .ok (.iadd, 1) := by decide +kernel
theorem dX7_hopOn_54 : decode cX7_hopOn 54 = .ok (.putfield 15, 3) := by decide +kernel
theorem dX7_hopOn_57 : decode cX7_hopOn 57 = .ok (.iload_n 3, 1) := by decide +kernel
theorem dX7_hopOn_58 : decode cX7_hopOn 58 = .ok (.ireturn, 1) := by decide +kernel
set_option maxRecDepth 100000 in
theorem SX7_hopOn_0 {g : zG} {o : Bool} {a s : Nat} (ha : zSt a s) {M : zM} {q : Int → zM → Prop} {x1 x2 : Int} (W : zT g (z1 o) mX7_hopOn (zQi (z1 o) q) 5 [(0, zA g a), (2, zI x2), (3, zI x1), (4, zI 0)] [] M) : zT g (z1 o) mX7_hopOn (zQi (z1 o) q) 0 [(0, zA g a), (1, zI x1), (2, zI x2)] [] M := by
  refine zr_iload_n 1 dX7_hopOn_0 rfl ?_
  refine zr_istore_n (l' := [(0, zA g a), (2, zI x2), (3, zI x1)]) dX7_hopOn_1 (by decide) [1, 3, 0] rfl ?_
  refine zr_iconst dX7_hopOn_2 ?_
  refine zr_istore (l' := [(0, zA g a), (2, zI x2), (3, zI x1), (4, zI 0)]) dX7_hopOn_3 (by decide) [1, 2, 3, 0] rfl ?_
  exact W
set_option maxRecDepth 100000 in
theorem SX7_hopOn_5 {g : zG} {o : Bool} {a s : Nat} (ha : zSt a s) {C R : Int} {M : zM} {q : Int → zM → Prop} {x2 x3 x4 : Int} (W : (-2147483648 ≤ x4 ∧ x4 ≤ 2147483647) ∧ (-2147483648 ≤ (M (s + 3) 0) ∧ (M (s + 3) 0) ≤ 2147483647) ∧ (((M (s + 3) 0) ≤ x4) → q x3 (zu M a 3 ((M a 3) + 1))) ∧ ((¬ ((M (s + 3) 0) ≤ x4)) → (zLand M C R) ∧ (0 ≤ x3 ∧ x3 < C * R) ∧ (0 ≤ x2 ∧ x2 ≤ 3) ∧ (0 ≤ (alg C R x3 x2 1) ∧ (alg C R x3 x2 1) < C * R) ∧ zT g (z1 o) mX7_hopOn (zQi (z1 o) q) 5 [(0, zA g a), (2, zI x2), (3, zI (alg C R x3 x2 1)), (4, zI (x4 + 1))] [] (zrw M (a + 1) (crs C (M (a + 1)) x3 (alg C R x3 x2 1) x2)))) : zT g (z1 o) mX7_hopOn (zQi (z1 o) q) 5 [(0, zA g a), (2, zI x2), (3, zI x3), (4, zI x4)] [] M := by
  refine zr_iload 3 dX7_hopOn_5 rfl ?_
  refine zr_aload_n 0 dX7_hopOn_7 rfl ?_
  refine zr_getr (b := s) dX7_hopOn_8 fX7_26 (zst_0 ha) rfl (zst_f1 ha) (zsd_nz (zst_s ha)) ?_
  refine zr_getr (b := (s + 3)) dX7_hopOn_11 fX7_94 (zsd_0 (zst_s ha)) rfl (zsd_f2 (zst_s ha)) (Nat.succ_ne_zero _) ?_
  refine zr_iconst dX7_hopOn_14 ?_
  refine zr_iald dX7_hopOn_15 (zsd_3 (zst_s ha)) (by decide) ⟨by decide, by decide⟩ ?_
  obtain ⟨c1, W⟩ := W
  obtain ⟨c2, W⟩ := W
  refine zr_icmp_ge (tgt := 47) dX7_hopOn_16 (by decide) c1 c2 (fun h => ?_) (fun h => ?_)
  · have W := W.1 h
    refine zr_aload_n 0 dX7_hopOn_47 rfl ?_
    refine zr_dup dX7_hopOn_48 rfl ?_
    refine zt_geti 3 rfl dX7_hopOn_49 fX7_15 (zst_0 ha) (by decide) ?_
    refine zr_iconst dX7_hopOn_52 ?_
    refine zr_iadd dX7_hopOn_53 ?_
    refine zt_puti 3 rfl dX7_hopOn_54 fX7_15 lcX7 ltX7_3 rfl (zst_0 ha) ?_
    refine zr_iload_n 2 dX7_hopOn_57 rfl ?_
    exact zt_iret dX7_hopOn_58 rfl W
  · have W := W.2 h
    refine zr_aload_n 0 dX7_hopOn_19 rfl ?_
    refine zr_getr (b := 14) dX7_hopOn_20 fX7_22 (zst_0 ha) rfl (zst_f0 ha) (by decide) ?_
    refine zr_iload_n 2 dX7_hopOn_23 rfl ?_
    refine zr_iload_n 1 dX7_hopOn_24 rfl ?_
    obtain ⟨c3, W⟩ := W
    obtain ⟨c4, W⟩ := W
    obtain ⟨c5, W⟩ := W
    refine zt_callVi (As := [zI x3, zI x2]) (rest := []) dX7_hopOn_25 kX7_hopOn_97 rfl rfl rfl rfl (Nat.le_of_ble_eq_true rfl) (c_nbr c3 c4 c5) (fun r10 N12 h11 => ?_)
    rw [h11.1, h11.2]
    refine zr_istore (l' := [(0, zA g a), (2, zI x2), (3, zI x3), (4, zI x4), (5, zI (alg C R x3 x2 1))]) dX7_hopOn_28 (by decide) [1, 2, 3, 4, 0] rfl ?_
    refine zr_aload_n 0 dX7_hopOn_30 rfl ?_
    refine zr_iload_n 2 dX7_hopOn_31 rfl ?_
    refine zr_iload 4 dX7_hopOn_32 rfl ?_
    refine zr_iload_n 1 dX7_hopOn_34 rfl ?_
    obtain ⟨c6, W⟩ := W
    refine zt_callVv (As := [zI x3, zI (alg C R x3 x2 1), zI x2]) (rest := []) dX7_hopOn_35 kX7_hopOn_100 (zst_0 ha) rfl rfl rfl (Nat.le_of_ble_eq_true rfl) (c_cross ha c3 c4 c6 c5) (fun N9 h8 => ?_)
    rw [h8]
    refine zr_iload 4 dX7_hopOn_38 rfl ?_
    refine zr_istore_n (l' := [(0, zA g a), (2, zI x2), (3, zI (alg C R x3 x2 1)), (4, zI x4)]) dX7_hopOn_40 (by decide) [1, 2, 0, 3] rfl ?_
    refine zr_iinc (q := 3) (l' := [(0, zA g a), (2, zI x2), (3, zI (alg C R x3 x2 1)), (4, zI (x4 + 1))]) dX7_hopOn_41 rfl (by decide) [1, 2, 3, 0] rfl ?_
    refine zr_goto (tgt := 5) dX7_hopOn_44 (by decide) ?_
    exact W
end
section
def BdB (B : Int) (H : Int → Int) : Prop := ∀ i : Int, 0 ≤ i → i < 96 → 0 ≤ H i ∧ H i ≤ B
theorem up_at (H : Int → Int) (i x : Int) : up H i x i = x := if_pos rfl
theorem up_ne {H : Int → Int} {i x j : Int} (h : j ≠ i) : up H i x j = H j := if_neg h
theorem sld_f {H : Int → Int} {f t : Int} (h : f ≠ t) : sld H f t f = H f - 1 := by unfold sld; rw [up_ne h, up_at]
theorem sld_t {H : Int → Int} {f t : Int} (h : f ≠ t) : sld H f t t = H t + 1 := by unfold sld; rw [up_at, up_ne (fun e => h e.symm)]
theorem sld_o {H : Int → Int} {f t j : Int} (h1 : j ≠ f) (h2 : j ≠ t) : sld H f t j = H j := by unfold sld; rw [up_ne h2, up_ne h1]
theorem cnt_le {P P' : Int → Prop} {n : Nat} (h : ∀ i : Int, 0 ≤ i → i < n → P' i → P i) : cnt P' n ≤ cnt P n := by
  induction n with
  | zero => exact Int.le_refl 0
  | succ n ih =>
    have h1 := ih (fun i h0 h1 => h i h0 (by omega))
    show cnt P' n + zb (P' n) ≤ cnt P n + zb (P n)
    by_cases hp : P' n
    · rw [zb_t hp, zb_t (h n (by omega) (by omega) hp)]; omega
    · rw [zb_f hp]; have := zb01 (P n); omega
theorem cnt_lt {P P' : Int → Prop} {n : Nat} (h : ∀ i : Int, 0 ≤ i → i < n → P' i → P i) {j : Int} (hj : 0 ≤ j ∧ j < n) (hp : P j) (hn : ¬ P' j) : cnt P' n + 1 ≤ cnt P n := by
  induction n with
  | zero => omega
  | succ n ih =>
    show cnt P' n + zb (P' n) + 1 ≤ cnt P n + zb (P n)
    by_cases hjn : j = n
    · subst hjn
      have h1 := cnt_le (n := n) (fun i h0 h1 => h i h0 (by omega))
      rw [zb_t hp, zb_f hn]; omega
    · have h1 := ih (fun i h0 h1 => h i h0 (by omega)) (by omega)
      by_cases hp : P' n
      · rw [zb_t hp, zb_t (h n (by omega) (by omega) hp)]; omega
      · rw [zb_f hp]; have := zb01 (P n); omega
section PW
variable {C R S c m : Int} {H : Int → Int}
theorem pku_spec (n : Nat) : ((pku C R H m c n).2 = -1 ∧ (pku C R H m c n).1 = m ∧ ∀ i : Nat, i < n → H (alg C R c i 1) ≤ m) ∨ ∃ k : Nat, k < n ∧ (pku C R H m c n).2 = k ∧ (pku C R H m c n).1 = H (alg C R c k 1) ∧ m < H (alg C R c k 1) ∧ ∀ i : Nat, i < n → H (alg C R c i 1) ≤ H (alg C R c k 1) := by
  induction n with
  | zero => exact Or.inl ⟨rfl, rfl, fun i h => absurd h (Nat.not_lt_zero i)⟩
  | succ n ih =>
    unfold pku
    by_cases hc : (pku C R H m c n).1 < H (alg C R c n 1)
    · rw [if_pos hc]
      refine Or.inr ⟨n, Nat.lt_succ_self n, rfl, rfl, ?_, ?_⟩
      · rcases ih with ⟨-, e, -⟩ | ⟨k, -, -, e, h, -⟩ <;> omega
      · intro i hi
        by_cases hin : i = n
        · subst hin; exact Int.le_refl _
        · rcases ih with ⟨-, e, h⟩ | ⟨k, -, -, e, -, h⟩
          · have := h i (by omega); omega
          · have := h i (by omega); omega
    · rw [if_neg hc]
      rcases ih with ⟨e1, e, h⟩ | ⟨k, hk, e1, e, h1, h⟩
      · refine Or.inl ⟨e1, e, fun i hi => ?_⟩
        by_cases hin : i = n
        · subst hin; omega
        · exact h i (by omega)
      · refine Or.inr ⟨k, by omega, e1, e, h1, fun i hi => ?_⟩
        by_cases hin : i = n
        · subst hin; omega
        · exact h i (by omega)
theorem pkd_spec (n : Nat) : ((pkd C R H m c n).2 = -1 ∧ (pkd C R H m c n).1 = m ∧ ∀ i : Nat, i < n → m ≤ H (alg C R c i 1)) ∨ ∃ k : Nat, k < n ∧ (pkd C R H m c n).2 = k ∧ (pkd C R H m c n).1 = H (alg C R c k 1) ∧ H (alg C R c k 1) < m ∧ ∀ i : Nat, i < n → H (alg C R c k 1) ≤ H (alg C R c i 1) := by
  induction n with
  | zero => exact Or.inl ⟨rfl, rfl, fun i h => absurd h (Nat.not_lt_zero i)⟩
  | succ n ih =>
    unfold pkd
    by_cases hc : H (alg C R c n 1) < (pkd C R H m c n).1
    · rw [if_pos hc]
      refine Or.inr ⟨n, Nat.lt_succ_self n, rfl, rfl, ?_, ?_⟩
      · rcases ih with ⟨-, e, -⟩ | ⟨k, -, -, e, h, -⟩ <;> omega
      · intro i hi
        by_cases hin : i = n
        · subst hin; exact Int.le_refl _
        · rcases ih with ⟨-, e, h⟩ | ⟨k, -, -, e, -, h⟩
          · have := h i (by omega); omega
          · have := h i (by omega); omega
    · rw [if_neg hc]
      rcases ih with ⟨e1, e, h⟩ | ⟨k, hk, e1, e, h1, h⟩
      · refine Or.inl ⟨e1, e, fun i hi => ?_⟩
        by_cases hin : i = n
        · subst hin; omega
        · exact h i (by omega)
      · refine Or.inr ⟨k, by omega, e1, e, h1, fun i hi => ?_⟩
        by_cases hin : i = n
        · subst hin; omega
        · exact h i (by omega)
theorem wup_spec (C R : Int) (H : Int → Int) (S c : Int) : (wup C R H S c = -1 ∧ ∀ w : Int, 0 ≤ w → w ≤ 3 → H (alg C R c w 1) ≤ H c + S) ∨ (0 ≤ wup C R H S c ∧ wup C R H S c ≤ 3 ∧ H c + S < H (alg C R c (wup C R H S c) 1)) := by
  rcases pku_spec (C := C) (R := R) (H := H) (m := H c + S) (c := c) 4 with ⟨e, -, h⟩ | ⟨k, hk, e, -, h, -⟩
  · refine Or.inl ⟨e, fun w h0 h3 => ?_⟩
    have := h w.toNat (by omega)
    rwa [Int.toNat_of_nonneg h0] at this
  · refine Or.inr ?_
    unfold wup; rw [e]; exact ⟨by omega, by omega, h⟩
theorem wdn_spec (C R : Int) (H : Int → Int) (S c : Int) : (wdn C R H S c = -1 ∧ ∀ w : Int, 0 ≤ w → w ≤ 3 → H c - S ≤ H (alg C R c w 1)) ∨ (0 ≤ wdn C R H S c ∧ wdn C R H S c ≤ 3 ∧ H (alg C R c (wdn C R H S c) 1) < H c - S) := by
  rcases pkd_spec (C := C) (R := R) (H := H) (m := H c - S) (c := c) 4 with ⟨e, -, h⟩ | ⟨k, hk, e, -, h, -⟩
  · refine Or.inl ⟨e, fun w h0 h3 => ?_⟩
    have := h w.toNat (by omega)
    rwa [Int.toNat_of_nonneg h0] at this
  · refine Or.inr ?_
    unfold wdn; rw [e]; exact ⟨by omega, by omega, h⟩
end PW
/-- FILL: at most n slides -/
def flz (C R S : Int) : Nat → Hz → Int → Hz
  | 0, z, _ => z
  | n + 1, z, c => if wup C R z.1 S c = -1 then z else flz C R S n (sldz C R z (alg C R c (wup C R z.1 S c) 1) (opp (wup C R z.1 S c))) (alg C R c (wup C R z.1 S c) 1)
/-- SPILL -/
def spz (C R S : Int) : Nat → Hz → Int → Hz
  | 0, z, _ => z
  | n + 1, z, c => if wdn C R z.1 S c = -1 then z else spz C R S n (sldz C R z c (wdn C R z.1 S c)) (alg C R c (wdn C R z.1 S c) 1)
noncomputable def muF (C R S : Int) (H : Int → Int) (c : Int) : Int := cnt (fun x => H c + S < H x) (C * R).toNat
noncomputable def muS (C R S : Int) (H : Int → Int) (c : Int) : Int := cnt (fun x => H x < H c - S) (C * R).toNat
section FS
variable {g : zG} {o : Bool} {M : zM} {C R S x c w t f B : Int} {s a b : Nat} {z z' : Hz} {H : Int → Int}
/-- one slide of a FILL -/
theorem fill_step (hG : Geo C R) (hS : 1 ≤ S) (hc : 0 ≤ c ∧ c < C * R) (hw : 0 ≤ w ∧ w ≤ 3) (hh : H c + S < H (alg C R c w 1)) :
    (0 ≤ alg C R c w 1 ∧ alg C R c w 1 < C * R) ∧ alg C R (alg C R c w 1) (opp w) 1 = c ∧ alg C R c w 1 ≠ c ∧ muF C R S (sld H (alg C R c w 1) c) (alg C R c w 1) + 1 ≤ muF C R S H c ∧ (BdB B H → BdB B (sld H (alg C R c w 1) c)) := by
  have a1 := alg_in (w := w) (k := 1) hG hc
  have a2 := alg_back hG hc hw
  have hn := geo_n hG
  have hne : alg C R c w 1 ≠ c := fun e => by rw [e] at hh; omega
  refine ⟨a1, a2, hne, ?_, fun hB i h0 h1 => ?_⟩
  · refine cnt_lt (fun i h0 h1 hi => ?_) (j := alg C R c w 1) ⟨a1.1, by omega⟩ hh ?_
    · rw [sld_f hne] at hi
      by_cases h1 : i = alg C R c w 1
      · rw [h1, sld_f hne] at hi; omega
      · by_cases h2 : i = c
        · rw [h2, sld_t hne] at hi; omega
        · rw [sld_o h1 h2] at hi; omega
    · omega
  · have b1 := hB i h0 h1
    have b2 := hB c hc.1 (by omega)
    have b3 := hB _ a1.1 (by omega)
    by_cases e1 : i = alg C R c w 1
    · rw [e1, sld_f hne]; omega
    · by_cases e2 : i = c
      · rw [e2, sld_t hne]; omega
      · rw [sld_o e1 e2]; exact b1
theorem spill_step (hG : Geo C R) (hS : 1 ≤ S) (hc : 0 ≤ c ∧ c < C * R) (hh : H (alg C R c w 1) < H c - S) :
    (0 ≤ alg C R c w 1 ∧ alg C R c w 1 < C * R) ∧ c ≠ alg C R c w 1 ∧ muS C R S (sld H c (alg C R c w 1)) (alg C R c w 1) + 1 ≤ muS C R S H c ∧ (BdB B H → BdB B (sld H c (alg C R c w 1))) := by
  have a1 := alg_in (w := w) (k := 1) hG hc
  have hn := geo_n hG
  have hne : c ≠ alg C R c w 1 := fun e => by rw [← e] at hh; omega
  refine ⟨a1, hne, ?_, fun hB i h0 h1 => ?_⟩
  · refine cnt_lt (fun i h0 h1 hi => ?_) (j := alg C R c w 1) ⟨a1.1, by omega⟩ hh ?_
    · rw [sld_t hne] at hi
      by_cases h1 : i = alg C R c w 1
      · rw [h1, sld_t hne] at hi; omega
      · by_cases h2 : i = c
        · rw [h2, sld_f hne] at hi; omega
        · rw [sld_o h2 h1] at hi; omega
    · omega
  · have b1 := hB i h0 h1
    have b2 := hB c hc.1 (by omega)
    have b3 := hB _ a1.1 (by omega)
    by_cases e1 : i = alg C R c w 1
    · rw [e1, sld_t hne]; omega
    · by_cases e2 : i = c
      · rw [e2, sld_f hne]; omega
      · rw [sld_o e2 e1]; exact b1
theorem mu_le (P : Int → Prop) (hG : Geo C R) (hc : 0 ≤ c ∧ c < C * R) (hP : ¬ P c) : cnt P (C * R).toNat < 96 := by
  have hn := geo_n hG
  have h1 := cnt_lt (P := fun _ => True) (P' := P) (n := (C * R).toNat) (fun _ _ _ _ => trivial) (j := c) ⟨hc.1, by omega⟩ trivial hP
  have h2 := cnt_in (fun _ => True) (C * R).toNat
  omega
theorem flz_bd (hG : Geo C R) (hS : 1 ≤ S) (n : Nat) (z : Hz) (c : Int) (hc : 0 ≤ c ∧ c < C * R) (hB : BdB B z.1) : BdB B (flz C R S n z c).1 := by
  induction n generalizing z c with
  | zero => exact hB
  | succ n ih =>
    unfold flz
    rcases wup_spec C R z.1 S c with ⟨e, -⟩ | ⟨h0, h3, hh⟩
    · rw [if_pos e]; exact hB
    · rw [if_neg (by omega)]
      obtain ⟨p1, p2, p3, -, p5⟩ := fill_step (B := B) hG hS hc ⟨h0, h3⟩ hh
      refine ih _ _ p1 ?_
      show BdB B (sld z.1 _ (alg C R (alg C R c (wup C R z.1 S c) 1) (opp (wup C R z.1 S c)) 1))
      rw [p2]; exact p5 hB
theorem spz_bd (hG : Geo C R) (hS : 1 ≤ S) (n : Nat) (z : Hz) (c : Int) (hc : 0 ≤ c ∧ c < C * R) (hB : BdB B z.1) : BdB B (spz C R S n z c).1 := by
  induction n generalizing z c with
  | zero => exact hB
  | succ n ih =>
    unfold spz
    rcases wdn_spec C R z.1 S c with ⟨e, -⟩ | ⟨h0, h3, hh⟩
    · rw [if_pos e]; exact hB
    · rw [if_neg (by omega)]
      obtain ⟨p1, p2, -, p5⟩ := spill_step (B := B) hG hS hc hh
      exact ih _ _ p1 (p5 hB)
theorem c_lift (ha : zSt a s) (hL : zLand M C R) (hc : 0 ≤ c ∧ c < C * R) (hB : Bd (up (M (s + 1)) c (M (s + 1) c - 1))) : zKv g (z1 o) mX7_lift [zA g a, zI c] M (fun M' => M' = zput M a s (flz C R (M 14 3) 96 (up (M (s + 1)) c (M (s + 1) c - 1), M a 4, M (a + 1)) c)) := by
  have hn := geo_n hL.1
  have hS := hL.2.2.2.2.1
  refine zkv_of rfl (Nat.le_of_ble_eq_true rfl) (SX7_lift_0 ha ⟨by omega, ?_⟩)
  rw [zu_put ha]
  suffices h : ∀ (n : Nat) (z : Hz) (c i : Int), 0 ≤ c ∧ c < C * R → Bd z.1 → i + n = 96 → 0 ≤ i → muF C R (M 14 3) z.1 c < n → zT g (z1 o) mX7_lift (zQv (z1 o) (fun M' => M' = zput M a s (flz C R (M 14 3) n z c))) 17 [(0, zA g a), (2, zI c), (3, zI i)] [] (zput M a s z) from
    h 96 _ c 0 hc hB (by omega) (by omega) (mu_le _ hL.1 hc (by dsimp only; omega))
  intro n
  induction n with
  | zero =>
    intro z c i hc hB hi h0 hmu
    have := (cnt_in (fun x => z.1 c + M 14 3 < z.1 x) (C * R).toNat).1
    unfold muF at hmu; omega
  | succ n ih =>
    intro z c i hc hB hi h0 hmu
    refine SX7_lift_17 (C := C) (R := R) ha ⟨by omega, fun h => by omega, fun h => ?_⟩
    rw [zput_h ha, zput_14 ha, zget_put ha, zput_put ha]
    rcases wup_spec C R z.1 (M 14 3) c with ⟨e, -⟩ | ⟨w0, w3, hh⟩
    · refine ⟨zput_L ha hL, hc, hB, by omega, fun h => absurd e h, fun h => ?_⟩
      show zput M a s z = zput M a s (if wup C R z.1 (M 14 3) c = -1 then z else _)
      rw [if_pos e]
    · obtain ⟨p1, p2, p3, p4, p5⟩ := fill_step (B := 1000000000) hL.1 hS.1 hc ⟨w0, w3⟩ hh
      refine ⟨zput_L ha hL, hc, hB, by omega, fun h => ⟨⟨w0, w3⟩, p1, opp_in ⟨w0, w3⟩, ?_⟩, fun h => by omega⟩
      have e : flz C R (M 14 3) (n + 1) z c = flz C R (M 14 3) n (sldz C R z (alg C R c (wup C R z.1 (M 14 3) c) 1) (opp (wup C R z.1 (M 14 3) c))) (alg C R c (wup C R z.1 (M 14 3) c) 1) := by
        show (if wup C R z.1 (M 14 3) c = -1 then z else _) = _
        rw [if_neg (by omega)]
      rw [e]
      have ez : (sldz C R z (alg C R c (wup C R z.1 (M 14 3) c) 1) (opp (wup C R z.1 (M 14 3) c))).1 = sld z.1 (alg C R c (wup C R z.1 (M 14 3) c) 1) c := by
        show sld z.1 _ (alg C R (alg C R c (wup C R z.1 (M 14 3) c) 1) (opp (wup C R z.1 (M 14 3) c)) 1) = _
        rw [p2]
      exact ih _ _ (i + 1) p1 (by rw [ez]; exact p5 hB) (by omega) (by omega) (by rw [ez]; omega)
theorem c_drop (ha : zSt a s) (hL : zLand M C R) (hc : 0 ≤ c ∧ c < C * R) (hB : Bd (up (M (s + 1)) c (M (s + 1) c + 1))) : zKv g (z1 o) mX7_drop [zA g a, zI c] M (fun M' => M' = zput M a s (spz C R (M 14 3) 96 (up (M (s + 1)) c (M (s + 1) c + 1), M a 4, M (a + 1)) c)) := by
  have hn := geo_n hL.1
  have hS := hL.2.2.2.2.1
  refine zkv_of rfl (Nat.le_of_ble_eq_true rfl) (SX7_drop_0 ha ⟨by omega, ?_⟩)
  rw [zu_put ha]
  suffices h : ∀ (n : Nat) (z : Hz) (c i : Int), 0 ≤ c ∧ c < C * R → Bd z.1 → i + n = 96 → 0 ≤ i → muS C R (M 14 3) z.1 c < n → zT g (z1 o) mX7_drop (zQv (z1 o) (fun M' => M' = zput M a s (spz C R (M 14 3) n z c))) 17 [(0, zA g a), (2, zI c), (3, zI i)] [] (zput M a s z) from
    h 96 _ c 0 hc hB (by omega) (by omega) (mu_le _ hL.1 hc (by dsimp only; omega))
  intro n
  induction n with
  | zero =>
    intro z c i hc hB hi h0 hmu
    have := (cnt_in (fun x => z.1 x < z.1 c - M 14 3) (C * R).toNat).1
    unfold muS at hmu; omega
  | succ n ih =>
    intro z c i hc hB hi h0 hmu
    refine SX7_drop_17 (C := C) (R := R) ha ⟨by omega, fun h => by omega, fun h => ?_⟩
    rw [zput_h ha, zput_14 ha, zget_put ha, zput_put ha]
    rcases wdn_spec C R z.1 (M 14 3) c with ⟨e, -⟩ | ⟨w0, w3, hh⟩
    · refine ⟨zput_L ha hL, hc, hB, by omega, fun h => absurd e h, fun h => ?_⟩
      show zput M a s z = zput M a s (if wdn C R z.1 (M 14 3) c = -1 then z else _)
      rw [if_pos e]
    · obtain ⟨p1, p3, p4, p5⟩ := spill_step (B := 1000000000) hL.1 hS.1 hc hh
      refine ⟨zput_L ha hL, hc, hB, by omega, fun h => ⟨⟨w0, w3⟩, zput_L ha hL, ?_⟩, fun h => by omega⟩
      have e : spz C R (M 14 3) (n + 1) z c = spz C R (M 14 3) n (sldz C R z c (wdn C R z.1 (M 14 3) c)) (alg C R c (wdn C R z.1 (M 14 3) c) 1) := by
        show (if wdn C R z.1 (M 14 3) c = -1 then z else _) = _
        rw [if_neg (by omega)]
      rw [e]
      exact ih _ _ (i + 1) p1 (p5 hB) (by omega) (by omega) (by show muS C R (M 14 3) (sld z.1 c _) _ < n; omega)
theorem c_yields (ha : zSt a s) (hL : zLand M C R) (hc : 0 ≤ c ∧ c < C * R) (hw : 0 ≤ w ∧ w ≤ 3) (hB : Bd (M (s + 1))) (hsh : 0 ≤ M (s + 3) 1 ∧ M (s + 3) 1 ≤ 9) (hg : 0 ≤ M (s + 2) c ∧ M (s + 2) c ≤ 1) : zKi g (z1 o) mX7_yields [zA g a, zI c, zI w] M (fun r M' => r = zb (yld C R (M (s + 1)) (M (s + 2)) (M (s + 3) 1) c w) ∧ M' = M) := by
  have hn := geo_n hL.1
  have hc0 := hB c hc.1 (by omega)
  refine zki_of rfl (Nat.le_of_ble_eq_true rfl) (SX7_yields_0 (C := C) (R := R) ha ⟨by omega, by omega, fun h => ⟨(zb_f fun q => by have := q.1; omega).symm, rfl⟩, fun h => ⟨by omega, fun h2 => ⟨(zb_f fun q => h2 q.2.1).symm, rfl⟩, fun h2 => ⟨hL, hc, hw, hB, hsh, fun h3 => ⟨(zb_f fun q => q.2.2 h3).symm, rfl⟩, fun h3 => ⟨(zb_t ⟨by omega, h2, h3⟩).symm, rfl⟩⟩⟩⟩)
/-- the lines gone through on a way of k cells -/
def hpx (C R w : Int) : Nat → Int → (Int → Int) → (Int → Int)
  | 0, _, X => X
  | k + 1, c, X => hpx C R w k (alg C R c w 1) (crs C X c (alg C R c w 1) w)
theorem c_hop (ha : zSt a s) (hL : zLand M C R) (hc : 0 ≤ c ∧ c < C * R) (hw : 0 ≤ w ∧ w ≤ 3) (hh : 1 ≤ M (s + 3) 0 ∧ M (s + 3) 0 ≤ 6) : zKi g (z1 o) mX7_hopOn [zA g a, zI c, zI w] M (fun r M' => r = alg C R c w (M (s + 3) 0) ∧ M' = zu (zrw M (a + 1) (hpx C R w (M (s + 3) 0).toNat c (M (a + 1)))) a 3 (M a 3 + 1)) := by
  have hne := zst_ne ha
  refine zki_of rfl (Nat.le_of_ble_eq_true rfl) (SX7_hopOn_0 ha ?_)
  suffices h : ∀ (n : Nat) (i : Int) (c : Int) (X : Int → Int), 0 ≤ c ∧ c < C * R → 0 ≤ i → i + n = M (s + 3) 0 → zT g (z1 o) mX7_hopOn (zQi (z1 o) (fun r M' => r = alg C R c w n ∧ M' = zu (zrw M (a + 1) (hpx C R w n c X)) a 3 (M a 3 + 1))) 5 [(0, zA g a), (2, zI w), (3, zI c), (4, zI i)] [] (zrw M (a + 1) X) by
    have hh := h (M (s + 3) 0).toNat 0 c (M (a + 1)) hc (by omega) (by omega)
    rw [zrw_self, Int.toNat_of_nonneg (by omega)] at hh
    exact hh
  intro n
  induction n with
  | zero =>
    intro i c X hc h0 hi
    refine SX7_hopOn_5 (C := C) (R := R) ha ?_
    rw [zrw_other (b := s + 3) (by omega), zrw_other (b := a) (by omega)]
    refine ⟨by omega, by omega, fun h => ⟨(alg_0 hL.1 hc).symm, rfl⟩, fun h => by omega⟩
  | succ n ih =>
    intro i c X hc h0 hi
    refine SX7_hopOn_5 (C := C) (R := R) ha ?_
    rw [zrw_other (b := s + 3) (by omega), zrw_row, zrw_zrw]
    have a1 := alg_in (w := w) (k := 1) hL.1 hc
    refine ⟨by omega, by omega, fun h => by omega, fun h => ⟨hL.of (fun b h1 h2 => zrw_other (by omega)), hc, hw, a1, ?_⟩⟩
    have hh := ih (i + 1) (alg C R c w 1) (crs C X c (alg C R c w 1) w) a1 (by omega) (by omega)
    rw [alg_s hL.1 hc, show (1 : Int) + (n : Int) = ((n + 1 : Nat) : Int) by omega] at hh
    exact hh
end FS
end
section
theorem dX7_carry_0 : decode cX7_carry 0 = .ok (.iload_n 1, 1) := by decide +kernel
theorem dX7_carry_1 : decode cX7_carry 1 = .ok (.istore_n 3, 1) := by decide +kernel
theorem dX7_carry_2 : decode cX7_carry 2 = .ok (.iconst 1, 1) := by decide +kernel
theorem dX7_carry_3 : decode cX7_carry 3 = .ok (.istore 4, 2) := by decide +kernel
theorem dX7_carry_5 : decode cX7_carry 5 = .ok (.iload 4, 2) := by decide +kernel
theorem dX7_carry_7 : decode cX7_carry 7 = .ok (.bipush 20, 2) := by decide +kernel
theorem dX7_carry_9 : decode cX7_carry 9 = .ok (.if_icmp .gt 54, 3) := by decide +kernel
theorem dX7_carry_12 : decode cX7_carry 12 = .ok (.aload_n 0, 1) := by decide +kernel
theorem dX7_carry_13 : decode cX7_carry 13 = .ok (.iload_n 3, 1) := by decide +kernel
theorem dX7_carry_14 : decode cX7_carry 14 = .ok (.iload_n 2, 1) := by decide +kernel
theorem dX7_carry_15 : decode cX7_carry 15 = .ok (.invokevirtual 88, 3) := by decide +kernel
theorem dX7_carry_18 : decode cX7_carry 18 = .ok (.istore_n 3, 1) := by decide +kernel
theorem dX7_carry_19 : decode cX7_carry 19 = .ok (.iload 4, 2) := by decide +kernel
theorem dX7_carry_21 : decode cX7_carry 21 = .ok (.bipush 20, 2) := by decide +kernel
theorem dX7_carry_23 : decode cX7_carry 23 = .ok (.if_icmp .eq 32, 3) := by decide +kernel
theorem dX7_carry_26 : decode cX7_carry 26 = .ok (.aload_n 0, 1) := by decide +kernel
theorem dX7_carry_27 : decode cX7_carry 27 = .ok (.iload_n 3, 1) := by decide +kernel
theorem dX7_carry_28 : decode cX7_carry 28 = .ok (.iload_n 2, 1) := by decide +kernel
theorem dX7_carry_29 : decode cX7_carry 29 = .ok (.invokevirtual 85, 3) := by decide +kernel
theorem dX7_carry_32 : decode cX7_carry 32 = .ok (.ifCond .ne 23, 3) := by decide +kernel
theorem dX7_carry_35 : decode cX7_carry 35 = .ok (.aload_n 0, 1) := by decide +kernel
theorem dX7_carry_36 : decode cX7_carry 36 = .ok (.getfield 26, 3) := by decide +kernel
theorem dX7_carry_39 : decode cX7_carry 39 = .ok (.bipush 16, 2) := by decide +kernel
theorem dX7_carry_41 : decode cX7_carry 41 = .ok (.invokevirtual 61, 3) := by decide +kernel
theorem dX7_carry_44 : decode cX7_carry 44 = .ok (.aload_n 0, 1) := by decide +kernel
theorem dX7_carry_45 : decode cX7_carry 45 = .ok (.getfield 26, 3) := by decide +kernel
theorem dX7_carry_48 : decode cX7_carry 48 = .ok (.iload_n 3, 1) := by decide +kernel
theorem dX7_carry_49 : decode cX7_carry 49 = .ok (.invokevirtual 91, 3) := by decide +kernel
theorem dX7_carry_52 : decode cX7_carry 52 = .ok (.if_icmp .ge 5, 3) := by decide +kernel
theorem dX7_carry_55 : decode cX7_carry 55 = .ok (.iload_n 3, 1) := by decide +kernel
theorem dX7_carry_56 : decode cX7_carry 56 = .ok (.ireturn, 1) := by decide +kernel
theorem dX7_carry_57 : decode cX7_carry 57 = .ok (.iinc 4 1, 3) := by decide +kernel
theorem dX7_carry_60 : decode cX7_carry 60 = .ok (.goto (-55), 3) := by decide +kernel
theorem dX7_carry_63 : decode cX7_carry 63 = .ok (.iload_n 3, 1) := by decide +kernel
theorem dX7_carry_64 : decode cX7_carry 64 = .ok (.ireturn, 1) := by decide +kernel
set_option maxRecDepth 100000 in
theorem SX7_carry_0 {g : zG} {o : Bool} {a s : Nat} (ha : zSt a s) {M : zM} {q : Int → zM → Prop} {x1 x2 : Int} (W : zT g (z1 o) mX7_carry (zQi (z1 o) q) 5 [(0, zA g a), (2, zI x2), (3, zI x1), (4, zI 1)] [] M) : zT g (z1 o) mX7_carry (zQi (z1 o) q) 0 [(0, zA g a), (1, zI x1), (2, zI x2)] [] M := by
  refine zr_iload_n 1 dX7_carry_0 rfl ?_
  refine zr_istore_n (l' := [(0, zA g a), (2, zI x2), (3, zI x1)]) dX7_carry_1 (by decide) [1, 3, 0] rfl ?_
  refine zr_iconst dX7_carry_2 ?_
  refine zr_istore (l' := [(0, zA g a), (2, zI x2), (3, zI x1), (4, zI 1)]) dX7_carry_3 (by decide) [1, 2, 3, 0] rfl ?_
  exact W
set_option maxRecDepth 100000 in
theorem SX7_carry_5 {g : zG} {o : Bool} {a s : Nat} (ha : zSt a s) {C R : Int} {M : zM} {q : Int → zM → Prop} {x2 x3 x4 : Int} (W : (-2147483648 ≤ x4 ∧ x4 ≤ 2147483647) ∧ ((20 < x4) → q x3 M) ∧ ((¬ (20 < x4)) → (zLand M C R) ∧ (0 ≤ x3 ∧ x3 < C * R) ∧ (0 ≤ x2 ∧ x2 ≤ 3) ∧ (1 ≤ M (s + 3) 0 ∧ M (s + 3) 0 ≤ 6) ∧ ∀ N8 : zM, N8 = zu (zrw M (a + 1) (hpx C R x2 (M (s + 3) 0).toNat x3 (M (a + 1)))) a 3 (M a 3 + 1) → ((x4 = 20) → q (alg C R x3 x2 (M (s + 3) 0)) N8) ∧ ((¬ (x4 = 20)) → (zLand N8 C R) ∧ (0 ≤ (alg C R x3 x2 (M (s + 3) 0)) ∧ (alg C R x3 x2 (M (s + 3) 0)) < C * R) ∧ (Bd (N8 (s + 1))) ∧ (0 ≤ N8 (s + 3) 1 ∧ N8 (s + 3) 1 ≤ 9) ∧ ((shd C R (N8 (s + 1)) (N8 (s + 3) 1) (alg C R x3 x2 (M (s + 3) 0)) x2) → q (alg C R x3 x2 (M (s + 3) 0)) N8) ∧ ((¬ (shd C R (N8 (s + 1)) (N8 (s + 3) 1) (alg C R x3 x2 (M (s + 3) 0)) x2)) → (0 ≤ N8 s 3 ∧ N8 s 3 ≤ 10006) ∧ ((0 : Int) < 16 ∧ 16 ≤ (2147483647 : Int)) ∧ ∀ N20 : zM, N20 = zu N8 s 3 ((N8 s 3 * 137 + 71) % 10007) → (0 ≤ (alg C R x3 x2 (M (s + 3) 0)) ∧ (alg C R x3 x2 (M (s + 3) 0)) < 96) ∧ (0 ≤ N20 (s + 1) (alg C R x3 x2 (M (s + 3) 0)) ∧ N20 (s + 1) (alg C R x3 x2 (M (s + 3) 0)) ≤ 2000000000) ∧ (-2147483648 ≤ ((N8 s 3 * 137 + 71) % 10007 % 16) ∧ ((N8 s 3 * 137 + 71) % 10007 % 16) ≤ 2147483647) ∧ (-2147483648 ≤ (if 0 < N20 (s + 1) (alg C R x3 x2 (M (s + 3) 0)) then N20 (s + 3) 2 else N20 (s + 3) 3) ∧ (if 0 < N20 (s + 1) (alg C R x3 x2 (M (s + 3) 0)) then N20 (s + 3) 2 else N20 (s + 3) 3) ≤ 2147483647) ∧ (((if 0 < N20 (s + 1) (alg C R x3 x2 (M (s + 3) 0)) then N20 (s + 3) 2 else N20 (s + 3) 3) ≤ ((N8 s 3 * 137 + 71) % 10007 % 16)) → zT g (z1 o) mX7_carry (zQi (z1 o) q) 5 [(0, zA g a), (2, zI x2), (3, zI (alg C R x3 x2 (M (s + 3) 0))), (4, zI (x4 + 1))] [] N20) ∧ ((¬ ((if 0 < N20 (s + 1) (alg C R x3 x2 (M (s + 3) 0)) then N20 (s + 3) 2 else N20 (s + 3) 3) ≤ ((N8 s 3 * 137 + 71) % 10007 % 16))) → q (alg C R x3 x2 (M (s + 3) 0)) N20))))) : zT g (z1 o) mX7_carry (zQi (z1 o) q) 5 [(0, zA g a), (2, zI x2), (3, zI x3), (4, zI x4)] [] M := by
  refine zr_iload 3 dX7_carry_5 rfl ?_
  refine zr_bipush dX7_carry_7 (by decide) ?_
  obtain ⟨c1, W⟩ := W
  refine zr_icmp_gt (tgt := 63) dX7_carry_9 (by decide) c1 ⟨by decide, by decide⟩ (fun h => ?_) (fun h => ?_)
  · have W := W.1 h
    refine zr_iload_n 2 dX7_carry_63 rfl ?_
    exact zt_iret dX7_carry_64 rfl W
  · have W := W.2 h
    refine zr_aload_n 0 dX7_carry_12 rfl ?_
    refine zr_iload_n 2 dX7_carry_13 rfl ?_
    refine zr_iload_n 1 dX7_carry_14 rfl ?_
    obtain ⟨c2, W⟩ := W
    obtain ⟨c3, W⟩ := W
    obtain ⟨c4, W⟩ := W
    obtain ⟨c5, W⟩ := W
    refine zt_callVi (As := [zI x3, zI x2]) (rest := []) dX7_carry_15 kX7_carry_88 (zst_0 ha) rfl rfl rfl (Nat.le_of_ble_eq_true rfl) (c_hop ha c2 c3 c4 c5) (fun r6 N8 h7 => ?_)
    rw [h7.1]
    have W := W N8 h7.2
    refine zr_istore_n (l' := [(0, zA g a), (2, zI x2), (3, zI (alg C R x3 x2 (M (s + 3) 0))), (4, zI x4)]) dX7_carry_18 (by decide) [1, 2, 0, 3] rfl ?_
    refine zr_iload 3 dX7_carry_19 rfl ?_
    refine zr_bipush dX7_carry_21 (by decide) ?_
    refine zr_icmp_eq (tgt := 55) dX7_carry_23 (by decide) c1 ⟨by decide, by decide⟩ (fun h => ?_) (fun h => ?_)
    · have W := W.1 h
      refine zr_iload_n 2 dX7_carry_55 rfl ?_
      exact zt_iret dX7_carry_56 rfl W
    · have W := W.2 h
      refine zr_aload_n 0 dX7_carry_26 rfl ?_
      refine zr_iload_n 2 dX7_carry_27 rfl ?_
      refine zr_iload_n 1 dX7_carry_28 rfl ?_
      obtain ⟨c9, W⟩ := W
      obtain ⟨c10, W⟩ := W
      obtain ⟨c11, W⟩ := W
      obtain ⟨c12, W⟩ := W
      refine zt_callVi (As := [zI (alg C R x3 x2 (M (s + 3) 0)), zI x2]) (rest := []) dX7_carry_29 kX7_carry_85 (zst_0 ha) rfl rfl rfl (Nat.le_of_ble_eq_true rfl) (c_shaded ha c9 c10 c4 c11 c12) (fun r13 N15 h14 => ?_)
      rw [h14.1, h14.2]
      refine zt_ifne_b (tgt := 55) dX7_carry_32 (by decide) (fun h => ?_) (fun h => ?_)
      · have W := W.1 h
        refine zr_iload_n 2 dX7_carry_55 rfl ?_
        exact zt_iret dX7_carry_56 rfl W
      · have W := W.2 h
        refine zr_aload_n 0 dX7_carry_35 rfl ?_
        refine zr_getr (b := s) dX7_carry_36 fX7_26 (zst_0 ha) rfl (zst_f1 ha) (zsd_nz (zst_s ha)) ?_
        refine zr_bipush dX7_carry_39 (by decide) ?_
        obtain ⟨c16, W⟩ := W
        obtain ⟨c17, W⟩ := W
        refine zt_callVi (As := [zI 16]) (rest := []) dX7_carry_41 kX7_carry_61 (zsd_0 (zst_s ha)) rfl rfl rfl (Nat.le_of_ble_eq_true rfl) (c_draw (zst_s ha) c16 c17) (fun r18 N20 h19 => ?_)
        rw [h19.1]
        have W := W N20 h19.2
        refine zr_aload_n 0 dX7_carry_44 rfl ?_
        refine zr_getr (b := s) dX7_carry_45 fX7_26 (zst_0 ha) rfl (zst_f1 ha) (zsd_nz (zst_s ha)) ?_
        refine zr_iload_n 2 dX7_carry_48 rfl ?_
        obtain ⟨c21, W⟩ := W
        obtain ⟨c22, W⟩ := W
        refine zt_callVi (As := [zI (alg C R x3 x2 (M (s + 3) 0))]) (rest := [zI ((N8 s 3 * 137 + 71) % 10007 % 16)]) dX7_carry_49 kX7_carry_91 (zsd_0 (zst_s ha)) rfl rfl rfl (Nat.le_of_ble_eq_true rfl) (c_stick (zst_s ha) c21 c22) (fun r23 N25 h24 => ?_)
        rw [h24.1, h24.2]
        obtain ⟨c26, W⟩ := W
        obtain ⟨c27, W⟩ := W
        refine zr_icmp_ge (tgt := 57) dX7_carry_52 (by decide) c26 c27 (fun h => ?_) (fun h => ?_)
        · have W := W.1 h
          refine zr_iinc (q := 3) (l' := [(0, zA g a), (2, zI x2), (3, zI (alg C R x3 x2 (M (s + 3) 0))), (4, zI (x4 + 1))]) dX7_carry_57 rfl (by decide) [1, 2, 3, 0] rfl ?_
          refine zr_goto (tgt := 5) dX7_carry_60 (by decide) ?_
          exact W
        · have W := W.2 h
          refine zr_iload_n 2 dX7_carry_55 rfl ?_
          exact zt_iret dX7_carry_56 rfl W
noncomputable def fly (C R w hop : Int) (H : Int → Int) (sh st bt : Int) : Nat → Int → Int → (Int → Int) → Int → Int × Int × (Int → Int) × Int
  | 0, c, sd, X, hp => (c, sd, X, hp)
  | n + 1, c, sd, X, hp => if zb (n = 0 ∨ shd C R H sh (alg C R c w hop) w) = 1 then (alg C R c w hop, sd, hpx C R w hop.toNat c X, hp + 1)
      else if (sd * 137 + 71) % 10007 % 16 < (if 0 < H (alg C R c w hop) then st else bt) then (alg C R c w hop, (sd * 137 + 71) % 10007, hpx C R w hop.toNat c X, hp + 1)
      else fly C R w hop H sh st bt n (alg C R c w hop) ((sd * 137 + 71) % 10007) (hpx C R w hop.toNat c X) (hp + 1)
def zfm (M : zM) (a s : Nat) (sd : Int) (X : Int → Int) (hp : Int) : zM := zu (zu (zrw M (a + 1) X) a 3 hp) s 3 sd
section CF
variable {g : zG} {o : Bool} {M : zM} {C R c w sd hp sd' hp' : Int} {s a b : Nat} {X X' : Int → Int}
theorem zfm_x (ha : zSt a s) : zfm M a s sd X hp (a + 1) = X := by
  have h := zst_ne ha
  unfold zfm; rw [zu_other (by omega), zu_other (by omega), zrw_row]
theorem zfm_a (ha : zSt a s) (i : Int) : zfm M a s sd X hp a i = if i = 3 then hp else M a i := by
  have h := zst_ne ha
  unfold zfm; rw [zu_other (by omega), zu_row, zrw_other (by omega)]
theorem zfm_s (ha : zSt a s) (i : Int) : zfm M a s sd X hp s i = if i = 3 then sd else M s i := by
  have h := zst_ne ha
  unfold zfm; rw [zu_row, zu_other (by omega), zrw_other (by omega)]
theorem zfm_o (h1 : b ≠ s) (h2 : b ≠ a) (h3 : b ≠ a + 1) : zfm M a s sd X hp b = M b := by
  unfold zfm; rw [zu_other h1, zu_other h2, zrw_other h3]
theorem zfm_hop (ha : zSt a s) : zu (zrw (zfm M a s sd X hp) (a + 1) X') a 3 hp' = zfm M a s sd X' hp' := by
  have h := zst_ne ha
  funext b j
  by_cases h1 : b = s
  · subst h1; rw [zu_other (by omega), zrw_other (by omega), zfm_s ha, zfm_s ha]
  · by_cases h2 : b = a
    · subst h2; rw [zu_row, zrw_other (by omega), zfm_a ha, zfm_a ha]; split <;> rfl
    · by_cases h3 : b = a + 1
      · subst h3; rw [zu_other (by omega), zrw_row, zfm_x ha]
      · rw [zu_other h2, zrw_other h3, zfm_o h1 h2 h3, zfm_o h1 h2 h3]
theorem zfm_draw (ha : zSt a s) : zu (zfm M a s sd X hp) s 3 sd' = zfm M a s sd' X hp := by
  have h := zst_ne ha
  funext b j
  by_cases h1 : b = s
  · subst h1; rw [zu_row, zfm_s ha, zfm_s ha]; split <;> rfl
  · by_cases h2 : b = a
    · subst h2; rw [zu_other (by omega), zfm_a ha, zfm_a ha]
    · by_cases h3 : b = a + 1
      · subst h3; rw [zu_other (by omega), zfm_x ha, zfm_x ha]
      · rw [zu_other h1, zfm_o h1 h2 h3, zfm_o h1 h2 h3]
theorem zfm_self (ha : zSt a s) : zfm M a s (M s 3) (M (a + 1)) (M a 3) = M := by
  have h := zst_ne ha
  funext b j
  by_cases h1 : b = s
  · subst h1; rw [zfm_s ha]; split
    · rename_i e; rw [e]
    · rfl
  · by_cases h2 : b = a
    · subst h2; rw [zfm_a ha]; split
      · rename_i e; rw [e]
      · rfl
    · by_cases h3 : b = a + 1
      · subst h3; rw [zfm_x ha]
      · rw [zfm_o h1 h2 h3]
theorem zfm_L (ha : zSt a s) (hL : zLand M C R) : zLand (zfm M a s sd X hp) C R := by
  have h := zst_ne ha
  exact hL.of (fun b h1 h2 => zfm_o (by omega) (by omega) (by omega))
theorem c_carry (ha : zSt a s) (hL : zLand M C R) (hc : 0 ≤ c ∧ c < C * R) (hw : 0 ≤ w ∧ w ≤ 3) (hB : Bd (M (s + 1))) (hh : 1 ≤ M (s + 3) 0 ∧ M (s + 3) 0 ≤ 6) (hsh : 0 ≤ M (s + 3) 1 ∧ M (s + 3) 1 ≤ 9) (h2 : 0 ≤ M (s + 3) 2 ∧ M (s + 3) 2 ≤ 16) (h3 : 0 ≤ M (s + 3) 3 ∧ M (s + 3) 3 ≤ 16) (hsd : 0 ≤ M s 3 ∧ M s 3 ≤ 10006) :
    zKi g (z1 o) mX7_carry [zA g a, zI c, zI w] M (fun r M' => r = (fly C R w (M (s + 3) 0) (M (s + 1)) (M (s + 3) 1) (M (s + 3) 2) (M (s + 3) 3) 20 c (M s 3) (M (a + 1)) (M a 3)).1 ∧ M' = zfm M a s (fly C R w (M (s + 3) 0) (M (s + 1)) (M (s + 3) 1) (M (s + 3) 2) (M (s + 3) 3) 20 c (M s 3) (M (a + 1)) (M a 3)).2.1 (fly C R w (M (s + 3) 0) (M (s + 1)) (M (s + 3) 1) (M (s + 3) 2) (M (s + 3) 3) 20 c (M s 3) (M (a + 1)) (M a 3)).2.2.1 (fly C R w (M (s + 3) 0) (M (s + 1)) (M (s + 3) 1) (M (s + 3) 2) (M (s + 3) 3) 20 c (M s 3) (M (a + 1)) (M a 3)).2.2.2) := by
  have hn := geo_n hL.1
  have hne := zst_ne ha
  refine zki_of rfl (Nat.le_of_ble_eq_true rfl) (SX7_carry_0 ha ?_)
  suffices h : ∀ (n : Nat) (i c sd : Int) (X : Int → Int) (hp : Int), 1 ≤ i → i + n = 21 → 1 ≤ n → 0 ≤ c ∧ c < C * R → 0 ≤ sd ∧ sd ≤ 10006 → zT g (z1 o) mX7_carry (zQi (z1 o) (fun r M' => r = (fly C R w (M (s + 3) 0) (M (s + 1)) (M (s + 3) 1) (M (s + 3) 2) (M (s + 3) 3) n c sd X hp).1 ∧ M' = zfm M a s (fly C R w (M (s + 3) 0) (M (s + 1)) (M (s + 3) 1) (M (s + 3) 2) (M (s + 3) 3) n c sd X hp).2.1 (fly C R w (M (s + 3) 0) (M (s + 1)) (M (s + 3) 1) (M (s + 3) 2) (M (s + 3) 3) n c sd X hp).2.2.1 (fly C R w (M (s + 3) 0) (M (s + 1)) (M (s + 3) 1) (M (s + 3) 2) (M (s + 3) 3) n c sd X hp).2.2.2)) 5 [(0, zA g a), (2, zI w), (3, zI c), (4, zI i)] [] (zfm M a s sd X hp) by
    have hh := h 20 1 c (M s 3) (M (a + 1)) (M a 3) (by omega) (by omega) (by omega) hc hsd
    rw [zfm_self ha] at hh
    exact hh
  intro n
  induction n with
  | zero => intro i c sd X hp h1 h2 h3; omega
  | succ n ih =>
    intro i c sd X hp i1 i2 i3 hc hsd
    refine SX7_carry_5 (C := C) (R := R) ha ?_
    have e3 : zfm M a s sd X hp (s + 3) = M (s + 3) := zfm_o (by omega) (by omega) (by omega)
    have e1 : zfm M a s sd X hp (s + 1) = M (s + 1) := zfm_o (by omega) (by omega) (by omega)
    rw [e3, zfm_x ha, zfm_hop ha, show zfm M a s sd X hp a 3 = hp by rw [zfm_a ha, if_pos rfl]]
    have a1 := alg_in (w := w) (k := M (s + 3) 0) hL.1 hc
    have b1 := hB _ a1.1 (by omega)
    refine ⟨by omega, fun h => by omega, fun h => ⟨zfm_L ha hL, hc, hw, hh, fun N8 eN => ?_⟩⟩
    subst eN
    have f3 : zfm M a s sd (hpx C R w (M (s + 3) 0).toNat c X) (hp + 1) (s + 3) = M (s + 3) := zfm_o (by omega) (by omega) (by omega)
    have f1 : zfm M a s sd (hpx C R w (M (s + 3) 0).toNat c X) (hp + 1) (s + 1) = M (s + 1) := zfm_o (by omega) (by omega) (by omega)
    rw [f3, f1, show zfm M a s sd (hpx C R w (M (s + 3) 0).toNat c X) (hp + 1) s 3 = sd by rw [zfm_s ha, if_pos rfl], zfm_draw ha]
    have e : ∀ y, fly C R w (M (s + 3) 0) (M (s + 1)) (M (s + 3) 1) (M (s + 3) 2) (M (s + 3) 3) (n + 1) c sd X hp = y ↔ (if zb (n = 0 ∨ shd C R (M (s + 1)) (M (s + 3) 1) (alg C R c w (M (s + 3) 0)) w) = 1 then (alg C R c w (M (s + 3) 0), sd, hpx C R w (M (s + 3) 0).toNat c X, hp + 1)
      else if (sd * 137 + 71) % 10007 % 16 < (if 0 < M (s + 1) (alg C R c w (M (s + 3) 0)) then M (s + 3) 2 else M (s + 3) 3) then (alg C R c w (M (s + 3) 0), (sd * 137 + 71) % 10007, hpx C R w (M (s + 3) 0).toNat c X, hp + 1)
      else fly C R w (M (s + 3) 0) (M (s + 1)) (M (s + 3) 1) (M (s + 3) 2) (M (s + 3) 3) n (alg C R c w (M (s + 3) 0)) ((sd * 137 + 71) % 10007) (hpx C R w (M (s + 3) 0).toNat c X) (hp + 1)) = y := fun y => Iff.rfl
    refine ⟨fun h4 => ?_, fun h4 => ⟨zfm_L ha hL, a1, hB, hsh, fun h5 => ?_, fun h5 => ⟨hsd, by omega, fun N20 eN2 => ?_⟩⟩⟩
    · rw [(e _).mpr (if_pos (zb_t (Or.inl (by omega))))]; exact ⟨rfl, rfl⟩
    · rw [(e _).mpr (if_pos (zb_t (Or.inr h5)))]; exact ⟨rfl, rfl⟩
    · subst eN2
      have g3 : zfm M a s ((sd * 137 + 71) % 10007) (hpx C R w (M (s + 3) 0).toNat c X) (hp + 1) (s + 3) = M (s + 3) := zfm_o (by omega) (by omega) (by omega)
      have g1 : zfm M a s ((sd * 137 + 71) % 10007) (hpx C R w (M (s + 3) 0).toNat c X) (hp + 1) (s + 1) = M (s + 1) := zfm_o (by omega) (by omega) (by omega)
      rw [g3, g1]
      have hst : 0 ≤ (if 0 < M (s + 1) (alg C R c w (M (s + 3) 0)) then M (s + 3) 2 else M (s + 3) 3) ∧ (if 0 < M (s + 1) (alg C R c w (M (s + 3) 0)) then M (s + 3) 2 else M (s + 3) 3) ≤ 16 := by split <;> assumption
      have hz : ¬ zb (n = 0 ∨ shd C R (M (s + 1)) (M (s + 3) 1) (alg C R c w (M (s + 3) 0)) w) = 1 := fun q => by
        rcases zb_1.mp q with q | q
        · omega
        · exact h5 q
      refine ⟨by omega, by omega, by omega, by omega, fun h6 => ?_, fun h6 => ?_⟩
      · have hh := ih (i + 1) (alg C R c w (M (s + 3) 0)) ((sd * 137 + 71) % 10007) (hpx C R w (M (s + 3) 0).toNat c X) (hp + 1) (by omega) (by omega) (by omega) a1 (by omega)
        rw [(e _).mpr ((if_neg hz).trans (if_neg (by omega)))]
        exact hh
      · rw [(e _).mpr ((if_neg hz).trans (if_pos (by omega)))]; exact ⟨rfl, rfl⟩
end CF
end
section
theorem dX7_tryOnce_0 : decode cX7_tryOnce 0 = .ok (.aload_n 0, 1) := by decide +kernel
theorem dX7_tryOnce_1 : decode cX7_tryOnce 1 = .ok (.getfield 22, 3) := by decide +kernel
theorem dX7_tryOnce_4 : decode cX7_tryOnce 4 = .ok (.aload_n 0, 1) := by decide +kernel
theorem dX7_tryOnce_5 : decode cX7_tryOnce 5 = .ok (.getfield 26, 3) := by decide +kernel
theorem dX7_tryOnce_8 : decode cX7_tryOnce 8 = .ok (.getfield 49, 3) := by decide +kernel
theorem dX7_tryOnce_11 : decode cX7_tryOnce 11 = .ok (.invokevirtual 52, 3) := by decide +kernel
theorem dX7_tryOnce_14 : decode cX7_tryOnce 14 = .ok (.istore_n 1, 1) := by decide +kernel
theorem dX7_tryOnce_15 : decode cX7_tryOnce 15 = .ok (.aload_n 0, 1) := by decide +kernel
theorem dX7_tryOnce_16 : decode cX7_tryOnce 16 = .ok (.getfield 26, 3) := by decide +kernel
theorem dX7_tryOnce_19 : decode cX7_tryOnce 19 = .ok (.dup, 1) := by decide +kernel
theorem dX7_tryOnce_20 : decode cX7_tryOnce 20 = .ok (.getfield 49, 3) := by decide +kernel
theorem dX7_tryOnce_23 : decode cX7_tryOnce 23 = .ok (.iconst 1, 1) := by decide +kernel
theorem dX7_tryOnce_24 : decode cX7_tryOnce 24 = .ok (.iadd, 1) := by decide +kernel
theorem dX7_tryOnce_25 : decode cX7_tryOnce 25 = .ok (.putfield 49, 3) := by decide +kernel
theorem dX7_tryOnce_28 : decode cX7_tryOnce 28 = .ok (.aload_n 0, 1) := by decide +kernel
theorem dX7_tryOnce_29 : decode cX7_tryOnce 29 = .ok (.getfield 26, 3) := by decide +kernel
theorem dX7_tryOnce_32 : decode cX7_tryOnce 32 = .ok (.aload_n 0, 1) := by decide +kernel
theorem dX7_tryOnce_33 : decode cX7_tryOnce 33 = .ok (.getfield 22, 3) := by decide +kernel
theorem dX7_tryOnce_36 : decode cX7_tryOnce 36 = .ok (.getfield 58, 3) := by decide +kernel
theorem dX7_tryOnce_39 : decode cX7_tryOnce 39 = .ok (.invokevirtual 61, 3) := by decide +kernel
theorem dX7_tryOnce_42 : decode cX7_tryOnce 42 = .ok (.istore_n 2, 1) := by decide +kernel
theorem dX7_tryOnce_43 : decode cX7_tryOnce 43 = .ok (.aload_n 0, 1) := by decide +kernel
theorem dX7_tryOnce_44 : decode cX7_tryOnce 44 = .ok (.iload_n 2, 1) := by decide +kernel
theorem dX7_tryOnce_45 : decode cX7_tryOnce 45 = .ok (.iload_n 1, 1) := by decide +kernel
theorem dX7_tryOnce_46 : decode cX7_tryOnce 46 = .ok (.invokevirtual 64, 3) := by decide +kernel
theorem dX7_tryOnce_49 : decode cX7_tryOnce 49 = .ok (.ifCond .ne 5, 3) := by decide +kernel
theorem dX7_tryOnce_52 : decode cX7_tryOnce 52 = .ok (.iconst 0, 1) := by decide +kernel
theorem dX7_tryOnce_53 : decode cX7_tryOnce 53 = .ok (.ireturn, 1) := by decide +kernel
theorem dX7_tryOnce_54 : decode cX7_tryOnce 54 = .ok (.aload_n 0, 1) := by decide +kernel
theorem dX7_tryOnce_55 : decode cX7_tryOnce 55 = .ok (.iload_n 2, 1) := by decide +kernel
theorem dX7_tryOnce_56 : decode cX7_tryOnce 56 = .ok (.invokevirtual 68, 3) := by decide +kernel
theorem dX7_tryOnce_59 : decode cX7_tryOnce 59 = .ok (.aload_n 0, 1) := by decide +kernel
theorem dX7_tryOnce_60 : decode cX7_tryOnce 60 = .ok (.aload_n 0, 1) := by decide +kernel
theorem dX7_tryOnce_61 : decode cX7_tryOnce 61 = .ok (.iload_n 2, 1) := by decide +kernel
theorem dX7_tryOnce_62 : decode cX7_tryOnce 62 = .ok (.iload_n 1, 1) := by decide +kernel
theorem dX7_tryOnce_63 : decode cX7_tryOnce 63 = .ok (.invokevirtual 72, 3) := by decide +kernel
theorem dX7_tryOnce_66 : decode cX7_tryOnce 66 = .ok (.invokevirtual 76, 3) := by decide +kernel
theorem dX7_tryOnce_69 : decode cX7_tryOnce 69 = .ok (.iconst 1, 1) := by decide +kernel
theorem dX7_tryOnce_70 : decode cX7_tryOnce 70 = .ok (.ireturn, 1) := by decide +kernel
set_option maxRecDepth 100000 in
theorem SX7_tryOnce_0 {g : zG} {o : Bool} {a s : Nat} (ha : zSt a s) {C R : Int} {M : zM} {q : Int → zM → Prop} (W : (zLand M C R) ∧ (0 ≤ (M s 4) ∧ (M s 4) ≤ 2147483647) ∧ ∀ r3 : Int, r3 = wnd M (M s 4) → (0 ≤ (zu M s 4 ((M s 4) + 1)) s 3 ∧ (zu M s 4 ((M s 4) + 1)) s 3 ≤ 10006) ∧ ((0 : Int) < ((zu M s 4 ((M s 4) + 1)) 14 2) ∧ ((zu M s 4 ((M s 4) + 1)) 14 2) ≤ (2147483647 : Int)) ∧ ∀ (r8 : Int) (N10 : zM), r8 = ((zu M s 4 ((M s 4) + 1)) s 3 * 137 + 71) % 10007 % ((zu M s 4 ((M s 4) + 1)) 14 2) → N10 = zu (zu M s 4 ((M s 4) + 1)) s 3 (((zu M s 4 ((M s 4) + 1)) s 3 * 137 + 71) % 10007) → (zLand N10 C R) ∧ (0 ≤ r8 ∧ r8 < C * R) ∧ (0 ≤ r3 ∧ r3 ≤ 3) ∧ (Bd (N10 (s + 1))) ∧ (0 ≤ N10 (s + 3) 1 ∧ N10 (s + 3) 1 ≤ 9) ∧ (0 ≤ N10 (s + 2) r8 ∧ N10 (s + 2) r8 ≤ 1) ∧ ((yld C R (N10 (s + 1)) (N10 (s + 2)) (N10 (s + 3) 1) r8 r3) → (Bd (up (N10 (s + 1)) r8 (N10 (s + 1) r8 - 1))) ∧ ∀ N23 : zM, N23 = zput N10 a s (flz C R (N10 14 3) 96 (up (N10 (s + 1)) r8 (N10 (s + 1) r8 - 1), N10 a 4, N10 (a + 1)) r8) → (zLand N23 C R) ∧ (Bd (N23 (s + 1))) ∧ (1 ≤ N23 (s + 3) 0 ∧ N23 (s + 3) 0 ≤ 6) ∧ (0 ≤ N23 (s + 3) 1 ∧ N23 (s + 3) 1 ≤ 9) ∧ (0 ≤ N23 (s + 3) 2 ∧ N23 (s + 3) 2 ≤ 16) ∧ (0 ≤ N23 (s + 3) 3 ∧ N23 (s + 3) 3 ≤ 16) ∧ (0 ≤ N23 s 3 ∧ N23 s 3 ≤ 10006) ∧ ∀ (r31 : Int) (N33 : zM), r31 = (fly C R r3 (N23 (s + 3) 0) (N23 (s + 1)) (N23 (s + 3) 1) (N23 (s + 3) 2) (N23 (s + 3) 3) 20 r8 (N23 s 3) (N23 (a + 1)) (N23 a 3)).1 → N33 = zfm N23 a s (fly C R r3 (N23 (s + 3) 0) (N23 (s + 1)) (N23 (s + 3) 1) (N23 (s + 3) 2) (N23 (s + 3) 3) 20 r8 (N23 s 3) (N23 (a + 1)) (N23 a 3)).2.1 (fly C R r3 (N23 (s + 3) 0) (N23 (s + 1)) (N23 (s + 3) 1) (N23 (s + 3) 2) (N23 (s + 3) 3) 20 r8 (N23 s 3) (N23 (a + 1)) (N23 a 3)).2.2.1 (fly C R r3 (N23 (s + 3) 0) (N23 (s + 1)) (N23 (s + 3) 1) (N23 (s + 3) 2) (N23 (s + 3) 3) 20 r8 (N23 s 3) (N23 (a + 1)) (N23 a 3)).2.2.2 → (zLand N33 C R) ∧ (0 ≤ r31 ∧ r31 < C * R) ∧ (Bd (up (N33 (s + 1)) r31 (N33 (s + 1) r31 + 1))) ∧ ∀ N39 : zM, N39 = zput N33 a s (spz C R (N33 14 3) 96 (up (N33 (s + 1)) r31 (N33 (s + 1) r31 + 1), N33 a 4, N33 (a + 1)) r31) → q 1 N39) ∧ ((¬ (yld C R (N10 (s + 1)) (N10 (s + 2)) (N10 (s + 3) 1) r8 r3)) → q 0 N10)) : zT g (z1 o) mX7_tryOnce (zQi (z1 o) q) 0 [(0, zA g a)] [] M := by
  refine zr_aload_n 0 dX7_tryOnce_0 rfl ?_
  refine zr_getr (b := 14) dX7_tryOnce_1 fX7_22 (zst_0 ha) rfl (zst_f0 ha) (by decide) ?_
  refine zr_aload_n 0 dX7_tryOnce_4 rfl ?_
  refine zr_getr (b := s) dX7_tryOnce_5 fX7_26 (zst_0 ha) rfl (zst_f1 ha) (zsd_nz (zst_s ha)) ?_
  refine zt_geti 4 rfl dX7_tryOnce_8 fX7_49 (zsd_0 (zst_s ha)) (by decide) ?_
  obtain ⟨c1, W⟩ := W
  obtain ⟨c2, W⟩ := W
  refine zt_callVi (As := [zI (M s 4)]) (rest := []) dX7_tryOnce_11 kX7_tryOnce_52 rfl rfl rfl rfl (Nat.le_of_ble_eq_true rfl) (c_wind c1 c2) (fun r3 N5 h4 => ?_)
  rw [h4.2]
  have W := W r3 h4.1
  refine zr_istore_n (l' := [(0, zA g a), (1, zI r3)]) dX7_tryOnce_14 (by decide) [1, 0] rfl ?_
  refine zr_aload_n 0 dX7_tryOnce_15 rfl ?_
  refine zr_getr (b := s) dX7_tryOnce_16 fX7_26 (zst_0 ha) rfl (zst_f1 ha) (zsd_nz (zst_s ha)) ?_
  refine zr_dup dX7_tryOnce_19 rfl ?_
  refine zt_geti 4 rfl dX7_tryOnce_20 fX7_49 (zsd_0 (zst_s ha)) (by decide) ?_
  refine zr_iconst dX7_tryOnce_23 ?_
  refine zr_iadd dX7_tryOnce_24 ?_
  refine zt_puti 4 rfl dX7_tryOnce_25 fX7_49 lcX5 ltX5_4 rfl (zsd_0 (zst_s ha)) ?_
  refine zr_aload_n 0 dX7_tryOnce_28 rfl ?_
  refine zr_getr (b := s) dX7_tryOnce_29 fX7_26 (zst_0 ha) rfl (zst_f1 ha) (zsd_nz (zst_s ha)) ?_
  refine zr_aload_n 0 dX7_tryOnce_32 rfl ?_
  refine zr_getr (b := 14) dX7_tryOnce_33 fX7_22 (zst_0 ha) rfl (zst_f0 ha) (by decide) ?_
  refine zt_geti 2 rfl dX7_tryOnce_36 fX7_58 rfl (by decide) ?_
  obtain ⟨c6, W⟩ := W
  obtain ⟨c7, W⟩ := W
  refine zt_callVi (As := [zI ((zu M s 4 ((M s 4) + 1)) 14 2)]) (rest := []) dX7_tryOnce_39 kX7_tryOnce_61 (zsd_0 (zst_s ha)) rfl rfl rfl (Nat.le_of_ble_eq_true rfl) (c_draw (zst_s ha) c6 c7) (fun r8 N10 h9 => ?_)
  have W := W r8 N10 h9.1 h9.2
  refine zr_istore_n (l' := [(0, zA g a), (1, zI r3), (2, zI r8)]) dX7_tryOnce_42 (by decide) [1, 2, 0] rfl ?_
  refine zr_aload_n 0 dX7_tryOnce_43 rfl ?_
  refine zr_iload_n 2 dX7_tryOnce_44 rfl ?_
  refine zr_iload_n 1 dX7_tryOnce_45 rfl ?_
  obtain ⟨c11, W⟩ := W
  obtain ⟨c12, W⟩ := W
  obtain ⟨c13, W⟩ := W
  obtain ⟨c14, W⟩ := W
  obtain ⟨c15, W⟩ := W
  obtain ⟨c16, W⟩ := W
  refine zt_callVi (As := [zI r8, zI r3]) (rest := []) dX7_tryOnce_46 kX7_tryOnce_64 (zst_0 ha) rfl rfl rfl (Nat.le_of_ble_eq_true rfl) (c_yields ha c11 c12 c13 c14 c15 c16) (fun r17 N19 h18 => ?_)
  rw [h18.1, h18.2]
  refine zt_ifne_b (tgt := 54) dX7_tryOnce_49 (by decide) (fun h => ?_) (fun h => ?_)
  · have W := W.1 h
    refine zr_aload_n 0 dX7_tryOnce_54 rfl ?_
    refine zr_iload_n 2 dX7_tryOnce_55 rfl ?_
    obtain ⟨c20, W⟩ := W
    refine zt_callVv (As := [zI r8]) (rest := []) dX7_tryOnce_56 kX7_tryOnce_68 (zst_0 ha) rfl rfl rfl (Nat.le_of_ble_eq_true rfl) (c_lift ha c11 c12 c20) (fun N23 h22 => ?_)
    have W := W N23 h22
    refine zr_aload_n 0 dX7_tryOnce_59 rfl ?_
    refine zr_aload_n 0 dX7_tryOnce_60 rfl ?_
    refine zr_iload_n 2 dX7_tryOnce_61 rfl ?_
    refine zr_iload_n 1 dX7_tryOnce_62 rfl ?_
    obtain ⟨c24, W⟩ := W
    obtain ⟨c25, W⟩ := W
    obtain ⟨c26, W⟩ := W
    obtain ⟨c27, W⟩ := W
    obtain ⟨c28, W⟩ := W
    obtain ⟨c29, W⟩ := W
    obtain ⟨c30, W⟩ := W
    refine zt_callVi (As := [zI r8, zI r3]) (rest := [zA g a]) dX7_tryOnce_63 kX7_tryOnce_72 (zst_0 ha) rfl rfl rfl (Nat.le_of_ble_eq_true rfl) (c_carry ha c24 c12 c13 c25 c26 c27 c28 c29 c30) (fun r31 N33 h32 => ?_)
    have W := W r31 N33 h32.1 h32.2
    obtain ⟨c34, W⟩ := W
    obtain ⟨c35, W⟩ := W
    obtain ⟨c36, W⟩ := W
    refine zt_callVv (As := [zI r31]) (rest := []) dX7_tryOnce_66 kX7_tryOnce_76 (zst_0 ha) rfl rfl rfl (Nat.le_of_ble_eq_true rfl) (c_drop ha c34 c35 c36) (fun N39 h38 => ?_)
    have W := W N39 h38
    refine zr_iconst dX7_tryOnce_69 ?_
    exact zt_zret dX7_tryOnce_70 rfl (by decide) W
  · have W := W.2 h
    refine zr_iconst dX7_tryOnce_52 ?_
    exact zt_zret dX7_tryOnce_53 rfl (by decide) W
abbrev Sx : Type := Hz × Int × Int × Int
/-- heights, slides, lines; hops; seed; tries -/
def zgx (M : zM) (a s : Nat) : Sx := ((M (s + 1), M a 4, M (a + 1)), M a 3, M s 3, M s 4)
def zfr (M M' : zM) (a s : Nat) : Prop := ∀ b : Nat, b ≠ s → b ≠ s + 1 → b ≠ a → b ≠ a + 1 → M' b = M b
def dsd (sd : Int) : Int := (sd * 137 + 71) % 10007
def tryB (C R : Int) (wd G : Int → Int) (sh : Int) (x : Sx) : Prop := yld C R x.1.1 G sh (dsd x.2.2.1 % (C * R)) (wd x.2.2.2)
def tryZ (C R S : Int) (x : Sx) : Hz := flz C R S 96 (up x.1.1 (dsd x.2.2.1 % (C * R)) (x.1.1 (dsd x.2.2.1 % (C * R)) - 1), x.1.2.1, x.1.2.2) (dsd x.2.2.1 % (C * R))
noncomputable def tryY (C R S : Int) (wd : Int → Int) (hop sh st bt : Int) (x : Sx) : Int × Int × (Int → Int) × Int := fly C R (wd x.2.2.2) hop (tryZ C R S x).1 sh st bt 20 (dsd x.2.2.1 % (C * R)) (dsd x.2.2.1) (tryZ C R S x).2.2 x.2.1
noncomputable def tryS (C R S : Int) (wd G : Int → Int) (hop sh st bt : Int) (x : Sx) : Sx :=
  if zb (tryB C R wd G sh x) = 1 then (spz C R S 96 (up (tryZ C R S x).1 (tryY C R S wd hop sh st bt x).1 ((tryZ C R S x).1 (tryY C R S wd hop sh st bt x).1 + 1), (tryZ C R S x).2.1, (tryY C R S wd hop sh st bt x).2.2.1) (tryY C R S wd hop sh st bt x).1, (tryY C R S wd hop sh st bt x).2.2.2, (tryY C R S wd hop sh st bt x).2.1, x.2.2.2 + 1)
  else (x.1, x.2.1, dsd x.2.2.1, x.2.2.2 + 1)
def SandOK (M : zM) (s : Nat) (B T : Int) : Prop := BdB B (M (s + 1)) ∧ (∀ i : Int, 0 ≤ i → i < 96 → 0 ≤ M (s + 2) i ∧ M (s + 2) i ≤ 1) ∧ (1 ≤ M (s + 3) 0 ∧ M (s + 3) 0 ≤ 6) ∧ (1 ≤ M (s + 3) 1 ∧ M (s + 3) 1 ≤ 9) ∧ (0 ≤ M (s + 3) 2 ∧ M (s + 3) 2 ≤ 16) ∧ (0 ≤ M (s + 3) 3 ∧ M (s + 3) 3 ≤ 16) ∧ (0 ≤ M s 3 ∧ M s 3 ≤ 10006) ∧ (0 ≤ M s 4 ∧ M s 4 ≤ T)
section CT
variable {g : zG} {o : Bool} {M M' : zM} {C R S c w sd hp B T t x : Int} {s a b : Nat} {X H : Int → Int}
theorem dsd_in (sd : Int) : 0 ≤ dsd sd ∧ dsd sd ≤ 10006 := by
  have := md (C := 10007) (k := sd * 137 + 71) (by decide); unfold dsd; omega
theorem zfr.L (ha : zSt a s) (hL : zLand M C R) (h : zfr M M' a s) : zLand M' C R := by
  have hn := zst_ne ha
  exact hL.of (fun b h1 h2 => h b (by omega) (by omega) (by omega) (by omega))
theorem wnd_in (hL : zLand M C R) (ht : 0 ≤ t) : 0 ≤ wnd M t ∧ wnd M t ≤ 3 := by
  obtain ⟨-, -, -, -, -, hn, hrd, hw, -⟩ := hL
  obtain ⟨n, hnn⟩ : ∃ n : Nat, M 14 4 = (n : Int) := znn (by omega)
  rw [hnn, Int.toNat_natCast] at hrd
  rw [hnn] at hw hn
  have hpos : 1 ≤ smt (M 19) n := by
    cases n with
    | zero => omega
    | succ k =>
      have h1 := smt_nn (f := M 19) (n := k) (fun i h0 h1 => by have := hw i h0 (by omega); omega)
      have h2 := hw k (by omega) (by omega)
      show 1 ≤ smt (M 19) k + M 19 k
      omega
  have hmod := md (C := M 14 5) (k := t) (by omega)
  have hx := wix_lt (sp := M 19) (n := n) (i := 0) (l := t % M 14 5) (fun j h1 h2 => (hw j h1 (by omega)).2.1) hmod.1 (by rw [hrd] at hmod ⊢; simpa using hmod.2)
  unfold wnd
  rw [hnn, Int.toNat_natCast]
  exact (hw _ hx.1 (by omega)).1
theorem fly_in (hG : Geo C R) {hop sh st bt : Int} (n : Nat) (hc : 0 ≤ c ∧ c < C * R) (hs : 0 ≤ sd ∧ sd ≤ 10006) : (0 ≤ (fly C R w hop H sh st bt n c sd X hp).1 ∧ (fly C R w hop H sh st bt n c sd X hp).1 < C * R) ∧ 0 ≤ (fly C R w hop H sh st bt n c sd X hp).2.1 ∧ (fly C R w hop H sh st bt n c sd X hp).2.1 ≤ 10006 := by
  induction n generalizing c sd X hp with
  | zero => exact ⟨hc, hs⟩
  | succ n ih =>
    have a1 := alg_in (w := w) (k := hop) hG hc
    have d1 := dsd_in sd
    unfold dsd at d1
    unfold fly
    repeat' split
    all_goals first | exact ⟨a1, hs⟩ | exact ⟨a1, d1⟩ | exact ih a1 d1
theorem up_bd (hB : BdB B H) (hx : 0 ≤ x ∧ x ≤ B) : BdB B (up H c x) := fun i h0 h1 => by
  unfold up; split
  · exact hx
  · exact hB i h0 h1
theorem BdB.le {B' : Int} (h : BdB B H) (hb : B ≤ B') : BdB B' H := fun i h0 h1 => by have := h i h0 h1; omega
theorem c_try (ha : zSt a s) (hL : zLand M C R) (hO : SandOK M s B T) (hB : 0 ≤ B ∧ B < 1000000000) (hT : T ≤ 2000000000) :
    zKi g (z1 o) mX7_tryOnce [zA g a] M (fun r M' => r = zb (tryB C R (wnd M) (M (s + 2)) (M (s + 3) 1) (zgx M a s)) ∧ zgx M' a s = tryS C R (M 14 3) (wnd M) (M (s + 2)) (M (s + 3) 0) (M (s + 3) 1) (M (s + 3) 2) (M (s + 3) 3) (zgx M a s) ∧ zfr M M' a s ∧ SandOK M' s (B + 1) (T + 1)) := by
  obtain ⟨o1, o2, o3, o4, o5, o6, o7, o8⟩ := hO
  have hn := geo_n hL.1
  have hne := zst_ne ha
  have hS := hL.2.2.2.2.1
  have e14 : M 14 2 = C * R := hL.2.2.2.1
  have d1 := dsd_in (M s 3)
  have c1 := md (C := C * R) (k := dsd (M s 3)) (by omega)
  have w1 := wnd_in (t := M s 4) hL o8.1
  have ow := o1 (dsd (M s 3) % (C * R)) c1.1 (by omega)
  refine zki_of rfl (Nat.le_of_ble_eq_true rfl) (SX7_tryOnce_0 (C := C) (R := R) ha ⟨hL, by omega, fun r3 e3 => ?_⟩)
  rw [show zu M s 4 (M s 4 + 1) s 3 = M s 3 by rw [zu_row, if_neg (by decide)], show zu M s 4 (M s 4 + 1) 14 = M 14 from zu_other (by omega), e14]
  refine ⟨by omega, by omega, fun r8 N10 e8 e10 => ?_⟩
  have n1 : ∀ b : Nat, b ≠ s → N10 b = M b := fun b h => by rw [e10, zu_other h, zu_other h]
  have n3 : N10 s 3 = dsd (M s 3) := by rw [e10, zu_at]; rfl
  have n4 : N10 s 4 = M s 4 + 1 := by rw [e10, zu_row, if_neg (by decide), zu_at]
  have e8 : r8 = dsd (M s 3) % (C * R) := e8
  rw [n1 (s + 1) (by omega), n1 (s + 2) (by omega), n1 (s + 3) (by omega), n1 14 (by omega), n1 a (by omega), n1 (a + 1) (by omega)]
  have hL10 : zLand N10 C R := hL.of (fun b h1 h2 => n1 b (by omega))
  have hB1 : Bd (M (s + 1)) := o1.le (by omega)
  have hg := o2 r8 (by omega) (by omega)
  refine ⟨hL10, by omega, by omega, hB1, by omega, hg, fun hy => ?_, fun hy => ?_⟩
  · have hpos : 0 < M (s + 1) r8 := hy.1
    have ow' := o1 r8 (by omega) (by omega)
    have hU : BdB B (up (M (s + 1)) r8 (M (s + 1) r8 - 1)) := up_bd o1 (by omega)
    refine ⟨hU.le (by omega), fun N23 e23 => ?_⟩
    have ez : flz C R (M 14 3) 96 (up (M (s + 1)) r8 (M (s + 1) r8 - 1), M a 4, M (a + 1)) r8 = tryZ C R (M 14 3) (zgx M a s) := by rw [e8]; rfl
    rw [ez] at e23
    have hZ : BdB B (tryZ C R (M 14 3) (zgx M a s)).1 := by rw [← ez]; exact flz_bd hL.1 hS.1 96 _ r8 (by omega) hU
    have p1 : N23 (s + 1) = (tryZ C R (M 14 3) (zgx M a s)).1 := by rw [e23, zput_h ha]
    have p2 : N23 (a + 1) = (tryZ C R (M 14 3) (zgx M a s)).2.2 := by rw [e23, zput_x]
    have p3 : N23 a 4 = (tryZ C R (M 14 3) (zgx M a s)).2.1 := by rw [e23, zput_a ha, if_pos rfl]
    have p4 : N23 a 3 = M a 3 := by rw [e23, zput_a ha, if_neg (by decide), n1 a (by omega)]
    have p5 : ∀ b : Nat, b ≠ s + 1 → b ≠ a → b ≠ a + 1 → N23 b = N10 b := fun b h1 h2 h3 => by rw [e23, zput_o h1 h2 h3]
    have p6 : N23 (s + 3) = M (s + 3) := by rw [p5 _ (by omega) (by omega) (by omega), n1 _ (by omega)]
    have p7 : N23 s = N10 s := p5 s (by omega) (by omega) (by omega)
    rw [p1, p6, p7, n3, p2, p4]
    have hL23 : zLand N23 C R := hL10.of (fun b h1 h2 => p5 b (by omega) (by omega) (by omega))
    refine ⟨hL23, hZ.le (by omega), o3, by omega, o5, o6, d1, fun r31 N33 e31 e33 => ?_⟩
    have ey : fly C R r3 (M (s + 3) 0) (tryZ C R (M 14 3) (zgx M a s)).1 (M (s + 3) 1) (M (s + 3) 2) (M (s + 3) 3) 20 r8 (dsd (M s 3)) (tryZ C R (M 14 3) (zgx M a s)).2.2 (M a 3) = tryY C R (M 14 3) (wnd M) (M (s + 3) 0) (M (s + 3) 1) (M (s + 3) 2) (M (s + 3) 3) (zgx M a s) := by rw [e3, e8]; rfl
    rw [ey] at e31 e33
    have fi : (0 ≤ r31 ∧ r31 < C * R) ∧ 0 ≤ (tryY C R (M 14 3) (wnd M) (M (s + 3) 0) (M (s + 3) 1) (M (s + 3) 2) (M (s + 3) 3) (zgx M a s)).2.1 ∧ (tryY C R (M 14 3) (wnd M) (M (s + 3) 0) (M (s + 3) 1) (M (s + 3) 2) (M (s + 3) 3) (zgx M a s)).2.1 ≤ 10006 := by
      rw [e31, ← ey]; exact fly_in hL.1 20 (by omega) d1
    have q5 : ∀ b : Nat, b ≠ s → b ≠ a → b ≠ a + 1 → N33 b = N23 b := fun b h1 h2 h3 => by rw [e33, zfm_o h1 h2 h3]
    have q1 : N33 (s + 1) = (tryZ C R (M 14 3) (zgx M a s)).1 := by rw [q5 _ (by omega) (by omega) (by omega), p1]
    have q14 : N33 14 = M 14 := by rw [q5 _ (by omega) (by omega) (by omega), p5 _ (by omega) (by omega) (by omega), n1 _ (by omega)]
    have qx := hZ r31 fi.1.1 (by omega)
    have hU2 : BdB (B + 1) (up (N33 (s + 1)) r31 (N33 (s + 1) r31 + 1)) := by rw [q1]; exact up_bd (hZ.le (by omega)) (by omega)
    have hL33 : zLand N33 C R := hL23.of (fun b h1 h2 => q5 b (by omega) (by omega) (by omega))
    refine ⟨hL33, fi.1, hU2.le (by omega), fun N39 e39 => ?_⟩
    have x1 : N33 (a + 1) = (tryY C R (M 14 3) (wnd M) (M (s + 3) 0) (M (s + 3) 1) (M (s + 3) 2) (M (s + 3) 3) (zgx M a s)).2.2.1 := by rw [e33, zfm_x ha]
    have x2 : N33 a 4 = (tryZ C R (M 14 3) (zgx M a s)).2.1 := by rw [e33, zfm_a ha, if_neg (by decide), p3]
    have x3 : N33 a 3 = (tryY C R (M 14 3) (wnd M) (M (s + 3) 0) (M (s + 3) 1) (M (s + 3) 2) (M (s + 3) 3) (zgx M a s)).2.2.2 := by rw [e33, zfm_a ha, if_pos rfl]
    have x4 : N33 s 3 = (tryY C R (M 14 3) (wnd M) (M (s + 3) 0) (M (s + 3) 1) (M (s + 3) 2) (M (s + 3) 3) (zgx M a s)).2.1 := by rw [e33, zfm_s ha, if_pos rfl]
    have x5 : N33 s 4 = M s 4 + 1 := by rw [e33, zfm_s ha, if_neg (by decide), p7, n4]
    have y5 : ∀ b : Nat, b ≠ s + 1 → b ≠ a → b ≠ a + 1 → N39 b = N33 b := fun b h1 h2 h3 => by rw [e39, zput_o h1 h2 h3]
    have hb : tryB C R (wnd M) (M (s + 2)) (M (s + 3) 1) (zgx M a s) := by
      show yld C R (M (s + 1)) (M (s + 2)) (M (s + 3) 1) (dsd (M s 3) % (C * R)) (wnd M (M s 4))
      rw [← e8, ← e3]; exact hy
    have hsp : BdB (B + 1) (N39 (s + 1)) := by rw [e39, zput_h ha]; exact spz_bd hL33.1 (by rw [q14]; exact hS.1) 96 _ r31 fi.1 hU2
    have z3 : N39 (s + 3) = M (s + 3) := by rw [y5 _ (by omega) (by omega) (by omega), q5 _ (by omega) (by omega) (by omega), p6]
    have z2 : N39 (s + 2) = M (s + 2) := by rw [y5 _ (by omega) (by omega) (by omega), q5 _ (by omega) (by omega) (by omega), p5 _ (by omega) (by omega) (by omega), n1 _ (by omega)]
    have z0 : N39 s = N33 s := y5 s (by omega) (by omega) (by omega)
    refine ⟨(zb_t hb).symm, ?_, fun b h1 h2 h3 h4 => ?_, ?_⟩
    · unfold tryS
      rw [if_pos (zb_t hb)]
      have g1 : zgx N39 a s = ((N39 (s + 1), N39 a 4, N39 (a + 1)), N39 a 3, N39 s 3, N39 s 4) := rfl
      rw [g1, z0, x4, x5, e39, zput_h ha, zput_x, zput_a ha, if_pos rfl, zput_a ha, if_neg (by decide), x3, q1, q14, x1, x2, e31]
      rfl
    · rw [y5 b h2 h3 h4, q5 b h1 h3 h4, p5 b h2 h3 h4, n1 b h1]
    · unfold SandOK
      rw [z2, z3, z0, x4, x5]
      exact ⟨hsp, o2, o3, o4, o5, o6, fi.2, by omega⟩
  · have hb : ¬ tryB C R (wnd M) (M (s + 2)) (M (s + 3) 1) (zgx M a s) := by
      show ¬ yld C R (M (s + 1)) (M (s + 2)) (M (s + 3) 1) (dsd (M s 3) % (C * R)) (wnd M (M s 4))
      rw [← e8, ← e3]; exact hy
    refine ⟨(zb_f hb).symm, ?_, fun b h1 h2 h3 h4 => n1 b h1, ?_⟩
    · unfold tryS
      rw [if_neg (by rw [zb_f hb]; decide)]
      have g1 : zgx N10 a s = ((N10 (s + 1), N10 a 4, N10 (a + 1)), N10 a 3, N10 s 3, N10 s 4) := rfl
      rw [g1, n3, n4, n1 (s + 1) (by omega), n1 a (by omega), n1 (a + 1) (by omega)]
      rfl
    · unfold SandOK
      rw [n3, n4, n1 (s + 1) (by omega), n1 (s + 2) (by omega), n1 (s + 3) (by omega)]
      exact ⟨o1.le (by omega), o2, o3, o4, o5, o6, d1, by omega⟩
end CT
end
section
theorem dX7_blowOn_0 : decode cX7_blowOn 0 = .ok (.iconst 0, 1) := by decide +kernel
theorem dX7_blowOn_1 : decode cX7_blowOn 1 = .ok (.istore_n 2, 1) := by decide +kernel
theorem dX7_blowOn_2 : decode cX7_blowOn 2 = .ok (.iconst 0, 1) := by decide +kernel
theorem dX7_blowOn_3 : decode cX7_blowOn 3 = .ok (.istore_n 3, 1) := by decide +kernel
theorem dX7_blowOn_4 : decode cX7_blowOn 4 = .ok (.iload_n 3, 1) := by decide +kernel
theorem dX7_blowOn_5 : decode cX7_blowOn 5 = .ok (.iload_n 1, 1) := by decide +kernel
theorem dX7_blowOn_6 : decode cX7_blowOn 6 = .ok (.if_icmp .ge 19, 3) := by decide +kernel
theorem dX7_blowOn_9 : decode cX7_blowOn 9 = .ok (.aload_n 0, 1) := by decide +kernel
theorem dX7_blowOn_10 : decode cX7_blowOn 10 = .ok (.invokevirtual 45, 3) := by decide +kernel
theorem dX7_blowOn_13 : decode cX7_blowOn 13 = .ok (.ifCond .eq 6, 3) := by decide +kernel
theorem dX7_blowOn_16 : decode cX7_blowOn 16 = .ok (.iinc 2 1, 3) := by decide +kernel
theorem dX7_blowOn_19 : decode cX7_blowOn 19 = .ok (.iinc 3 1, 3) := by decide +kernel
theorem dX7_blowOn_22 : decode cX7_blowOn 22 = .ok (.goto (-18), 3) := by decide +kernel
theorem dX7_blowOn_25 : decode cX7_blowOn 25 = .ok (.iload_n 2, 1) := by decide +kernel
theorem dX7_blowOn_26 : decode cX7_blowOn 26 = .ok (.ireturn, 1) := by decide +kernel
set_option maxRecDepth 100000 in
theorem SX7_blowOn_0 {g : zG} {o : Bool} {a s : Nat} (ha : zSt a s) {M : zM} {q : Int → zM → Prop} {x1 : Int} (W : zT g (z1 o) mX7_blowOn (zQi (z1 o) q) 4 [(0, zA g a), (1, zI x1), (2, zI 0), (3, zI 0)] [] M) : zT g (z1 o) mX7_blowOn (zQi (z1 o) q) 0 [(0, zA g a), (1, zI x1)] [] M := by
  refine zr_iconst dX7_blowOn_0 ?_
  refine zr_istore_n (l' := [(0, zA g a), (1, zI x1), (2, zI 0)]) dX7_blowOn_1 (by decide) [1, 2, 0] rfl ?_
  refine zr_iconst dX7_blowOn_2 ?_
  refine zr_istore_n (l' := [(0, zA g a), (1, zI x1), (2, zI 0), (3, zI 0)]) dX7_blowOn_3 (by decide) [1, 2, 3, 0] rfl ?_
  exact W
set_option maxRecDepth 100000 in
theorem SX7_blowOn_4 {g : zG} {o : Bool} {a s : Nat} (ha : zSt a s) {M : zM} {q : Int → zM → Prop} {x1 x2 x3 : Int} (W : (-2147483648 ≤ x3 ∧ x3 ≤ 2147483647) ∧ (-2147483648 ≤ x1 ∧ x1 ≤ 2147483647) ∧ ((x1 ≤ x3) → q x2 M) ∧ ((¬ (x1 ≤ x3)) → ∃ q3 : Int → zM → Prop, zKi g (z1 o) mX7_tryOnce [zA g a] M q3 ∧ ∀ (r4 : Int) (M5 : zM), q3 r4 M5 → (-2147483648 ≤ r4 ∧ r4 ≤ 2147483647) ∧ ((r4 = 0) → zT g (z1 o) mX7_blowOn (zQi (z1 o) q) 4 [(0, zA g a), (1, zI x1), (2, zI x2), (3, zI (x3 + 1))] [] M5) ∧ ((¬ (r4 = 0)) → zT g (z1 o) mX7_blowOn (zQi (z1 o) q) 4 [(0, zA g a), (1, zI x1), (2, zI (x2 + 1)), (3, zI (x3 + 1))] [] M5))) : zT g (z1 o) mX7_blowOn (zQi (z1 o) q) 4 [(0, zA g a), (1, zI x1), (2, zI x2), (3, zI x3)] [] M := by
  refine zr_iload_n 3 dX7_blowOn_4 rfl ?_
  refine zr_iload_n 1 dX7_blowOn_5 rfl ?_
  obtain ⟨c1, W⟩ := W
  obtain ⟨c2, W⟩ := W
  refine zr_icmp_ge (tgt := 25) dX7_blowOn_6 (by decide) c1 c2 (fun h => ?_) (fun h => ?_)
  · have W := W.1 h
    refine zr_iload_n 2 dX7_blowOn_25 rfl ?_
    exact zt_iret dX7_blowOn_26 rfl W
  · have W := W.2 h
    refine zr_aload_n 0 dX7_blowOn_9 rfl ?_
    obtain ⟨q3, k7, W⟩ := W
    refine zt_callVi (As := []) (rest := []) dX7_blowOn_10 kX7_blowOn_45 (zst_0 ha) rfl rfl rfl (Nat.le_of_ble_eq_true rfl) k7 (fun r4 M5 h6 => ?_)
    have W := W r4 M5 h6
    obtain ⟨c8, W⟩ := W
    refine zr_if_eq (tgt := 19) dX7_blowOn_13 (by decide) c8 (fun h => ?_) (fun h => ?_)
    · have W := W.1 h
      refine zr_iinc (q := 3) (l' := [(0, zA g a), (1, zI x1), (2, zI x2), (3, zI (x3 + 1))]) dX7_blowOn_19 rfl (by decide) [1, 2, 3, 0] rfl ?_
      refine zr_goto (tgt := 4) dX7_blowOn_22 (by decide) ?_
      exact W
    · have W := W.2 h
      refine zr_iinc (q := 2) (l' := [(0, zA g a), (1, zI x1), (2, zI (x2 + 1)), (3, zI x3)]) dX7_blowOn_16 rfl (by decide) [1, 2, 0, 3] rfl ?_
      refine zr_iinc (q := 3) (l' := [(0, zA g a), (1, zI x1), (2, zI (x2 + 1)), (3, zI (x3 + 1))]) dX7_blowOn_19 rfl (by decide) [1, 2, 3, 0] rfl ?_
      refine zr_goto (tgt := 4) dX7_blowOn_22 (by decide) ?_
      exact W
theorem dX7_startFrom_0 : decode cX7_startFrom 0 = .ok (.aload_n 0, 1) := by decide +kernel
theorem dX7_startFrom_1 : decode cX7_startFrom 1 = .ok (.getfield 26, 3) := by decide +kernel
theorem dX7_startFrom_4 : decode cX7_startFrom 4 = .ok (.aload_n 1, 1) := by decide +kernel
theorem dX7_startFrom_5 : decode cX7_startFrom 5 = .ok (.invokevirtual 30, 3) := by decide +kernel
theorem dX7_startFrom_8 : decode cX7_startFrom 8 = .ok (.aload_n 0, 1) := by decide +kernel
theorem dX7_startFrom_9 : decode cX7_startFrom 9 = .ok (.getfield 26, 3) := by decide +kernel
theorem dX7_startFrom_12 : decode cX7_startFrom 12 = .ok (.iload_n 2, 1) := by decide +kernel
theorem dX7_startFrom_13 : decode cX7_startFrom 13 = .ok (.putfield 36, 3) := by decide +kernel
theorem dX7_startFrom_16 : decode cX7_startFrom 16 = .ok (.aload_n 0, 1) := by decide +kernel
theorem dX7_startFrom_17 : decode cX7_startFrom 17 = .ok (.iconst 0, 1) := by decide +kernel
theorem dX7_startFrom_18 : decode cX7_startFrom 18 = .ok (.putfield 15, 3) := by decide +kernel
theorem dX7_startFrom_21 : decode cX7_startFrom 21 = .ok (.aload_n 0, 1) := by decide +kernel
theorem dX7_startFrom_22 : decode cX7_startFrom 22 = .ok (.iconst 0, 1) := by decide +kernel
theorem dX7_startFrom_23 : decode cX7_startFrom 23 = .ok (.putfield 19, 3) := by decide +kernel
theorem dX7_startFrom_26 : decode cX7_startFrom 26 = .ok (.aload_n 0, 1) := by decide +kernel
theorem dX7_startFrom_27 : decode cX7_startFrom 27 = .ok (.getfield 9, 3) := by decide +kernel
theorem dX7_startFrom_30 : decode cX7_startFrom 30 = .ok (.iconst 0, 1) := by decide +kernel
theorem dX7_startFrom_31 : decode cX7_startFrom 31 = .ok (.invokestatic 39, 3) := by decide +kernel
theorem dX7_startFrom_34 : decode cX7_startFrom 34 = .ok (.return_, 1) := by decide +kernel
set_option maxRecDepth 100000 in
theorem SX7_startFrom_0 {g : zG} {o : Bool} {a s : Nat} (ha : zSt a s) {t : Nat} (ht : zSd t) {M : zM} {q : zM → Prop} {x2 : Int} (W : ∃ q1 : zM → Prop, zKv g (z1 o) mX5_copy [zA g s, zA g t] M q1 ∧ ∀ M3 : zM, q1 M3 → ∀ N6 : zM, N6 = zu M3 s 3 x2 → ∀ N8 : zM, N8 = zu N6 a 3 0 → ∃ q10 : zM → Prop, zKv g (z1 o) mJ7_fill_53178 [zA g (a + 1), zI 0] (zu N8 a 4 0) q10 ∧ ∀ M12 : zM, q10 M12 → q M12) : zT g (z1 o) mX7_startFrom (zQv (z1 o) q) 0 [(0, zA g a), (1, zA g t), (2, zI x2)] [] M := by
  refine zr_aload_n 0 dX7_startFrom_0 rfl ?_
  refine zr_getr (b := s) dX7_startFrom_1 fX7_26 (zst_0 ha) rfl (zst_f1 ha) (zsd_nz (zst_s ha)) ?_
  refine zr_aload_n 1 dX7_startFrom_4 rfl ?_
  obtain ⟨q1, k5, W⟩ := W
  refine zt_callVv (As := [zA g t]) (rest := []) dX7_startFrom_5 kX7_startFrom_30 (zsd_0 (zst_s ha)) rfl rfl rfl (Nat.le_of_ble_eq_true rfl) k5 (fun M3 h4 => ?_)
  have W := W M3 h4
  refine zr_aload_n 0 dX7_startFrom_8 rfl ?_
  refine zr_getr (b := s) dX7_startFrom_9 fX7_26 (zst_0 ha) rfl (zst_f1 ha) (zsd_nz (zst_s ha)) ?_
  refine zr_iload_n 2 dX7_startFrom_12 rfl ?_
  refine zt_puti 3 rfl dX7_startFrom_13 fX7_36 lcX5 ltX5_3 rfl (zsd_0 (zst_s ha)) ?_
  refine zr_aload_n 0 dX7_startFrom_16 rfl ?_
  refine zr_iconst dX7_startFrom_17 ?_
  obtain ⟨N6, e7⟩ : ∃ N : zM, N = zu M3 s 3 x2 := ⟨_, rfl⟩
  rw [← e7]
  have W := W N6 e7
  refine zt_puti 3 rfl dX7_startFrom_18 fX7_15 lcX7 ltX7_3 rfl (zst_0 ha) ?_
  refine zr_aload_n 0 dX7_startFrom_21 rfl ?_
  refine zr_iconst dX7_startFrom_22 ?_
  obtain ⟨N8, e9⟩ : ∃ N : zM, N = zu N6 a 3 0 := ⟨_, rfl⟩
  rw [← e9]
  have W := W N8 e9
  refine zt_puti 4 rfl dX7_startFrom_23 fX7_19 lcX7 ltX7_4 rfl (zst_0 ha) ?_
  refine zr_aload_n 0 dX7_startFrom_26 rfl ?_
  refine zr_getr (b := (a + 1)) dX7_startFrom_27 fX7_9 (zst_0 ha) rfl (zst_f2 ha) (Nat.succ_ne_zero _) ?_
  refine zr_iconst dX7_startFrom_30 ?_
  obtain ⟨q10, k14, W⟩ := W
  refine zt_callSv (As := [zA g (a + 1), zI 0]) (rest := []) dX7_startFrom_31 kX7_startFrom_39 rfl rfl (Nat.le_of_ble_eq_true rfl) k14 (fun M12 h13 => ?_)
  have W := W M12 h13
  exact zt_ret dX7_startFrom_34 rfl W
/-- n tries: how many were not idle -/
noncomputable def blwS (C R S : Int) (wd G : Int → Int) (hop sh st bt : Int) : Nat → Sx → Sx
  | 0, x => x
  | n + 1, x => blwS C R S wd G hop sh st bt n (tryS C R S wd G hop sh st bt x)
noncomputable def blwN (C R S : Int) (wd G : Int → Int) (hop sh st bt : Int) : Nat → Sx → Int
  | 0, _ => 0
  | n + 1, x => zb (tryB C R wd G sh x) + blwN C R S wd G hop sh st bt n (tryS C R S wd G hop sh st bt x)
section CB
variable {g : zG} {o : Bool} {M M' : zM} {C R S c w sd hp B T t x v : Int} {s a b h : Nat} {X H : Int → Int}
theorem wnd_congr (h1 : M' 14 = M 14) (h2 : M' 18 = M 18) (h3 : M' 19 = M 19) : wnd M' = wnd M := by
  funext t; unfold wnd; rw [h1, h2, h3]
theorem c_blow (ha : zSt a s) (n : Nat) (hn : n ≤ 500) (hL : zLand M C R) (hO : SandOK M s B T) (hB : 0 ≤ B ∧ B < 900000000) (hT : T ≤ 1900000000) :
    zKi g (z1 o) mX7_blowOn [zA g a, zI n] M (fun r M' => r = blwN C R (M 14 3) (wnd M) (M (s + 2)) (M (s + 3) 0) (M (s + 3) 1) (M (s + 3) 2) (M (s + 3) 3) n (zgx M a s) ∧ zgx M' a s = blwS C R (M 14 3) (wnd M) (M (s + 2)) (M (s + 3) 0) (M (s + 3) 1) (M (s + 3) 2) (M (s + 3) 3) n (zgx M a s) ∧ zfr M M' a s ∧ SandOK M' s (B + n) (T + n)) := by
  have hne := zst_ne ha
  refine zki_of rfl (Nat.le_of_ble_eq_true rfl) (SX7_blowOn_0 ha ?_)
  suffices h : ∀ (j : Nat) (i y : Int) (M1 : zM) (B1 T1 : Int), 0 ≤ i → i + j = n → zfr M M1 a s → SandOK M1 s B1 T1 → 0 ≤ B1 → B1 + j = B + n → T1 + j = T + n → zT g (z1 o) mX7_blowOn (zQi (z1 o) (fun r M' => r = y + blwN C R (M 14 3) (wnd M) (M (s + 2)) (M (s + 3) 0) (M (s + 3) 1) (M (s + 3) 2) (M (s + 3) 3) j (zgx M1 a s) ∧ zgx M' a s = blwS C R (M 14 3) (wnd M) (M (s + 2)) (M (s + 3) 0) (M (s + 3) 1) (M (s + 3) 2) (M (s + 3) 3) j (zgx M1 a s) ∧ zfr M M' a s ∧ SandOK M' s (B + n) (T + n))) 4 [(0, zA g a), (1, zI n), (2, zI y), (3, zI i)] [] M1 by
    have hh := h n 0 0 M B T (by omega) (by omega) (fun _ _ _ _ _ => rfl) hO hB.1 (by omega) (by omega)
    simp only [Int.zero_add] at hh
    exact hh
  intro j
  induction j with
  | zero =>
    intro i y M1 B1 T1 h0 hi hf hO1 hb e1 e2
    refine SX7_blowOn_4 ha ⟨by omega, by omega, fun h => ⟨by show y = y + 0; omega, rfl, hf, ?_⟩, fun h => by omega⟩
    rw [← e1, ← e2]; simpa using hO1
  | succ j ih =>
    intro i y M1 B1 T1 h0 hi hf hO1 hb e1 e2
    have hL1 := zfr.L ha hL hf
    have f14 : M1 14 = M 14 := hf 14 (by omega) (by omega) (by omega) (by omega)
    have fw : wnd M1 = wnd M := wnd_congr f14 (hf 18 (by omega) (by omega) (by omega) (by omega)) (hf 19 (by omega) (by omega) (by omega) (by omega))
    have f2 : M1 (s + 2) = M (s + 2) := hf _ (by omega) (by omega) (by omega) (by omega)
    have f3 : M1 (s + 3) = M (s + 3) := hf _ (by omega) (by omega) (by omega) (by omega)
    have ht := c_try (g := g) (o := o) ha hL1 hO1 ⟨hb, by omega⟩ (by omega)
    rw [fw, f14, f2, f3] at ht
    refine SX7_blowOn_4 ha ⟨by omega, by omega, fun h => by omega, fun h => ⟨_, ht, fun r4 M5 hq => ?_⟩⟩
    obtain ⟨q1, q2, q3, q4⟩ := hq
    have h01 := zb01 (tryB C R (wnd M) (M (s + 2)) (M (s + 3) 1) (zgx M1 a s))
    have hf5 : zfr M M5 a s := fun b h1 h2 h3 h4 => (q3 b h1 h2 h3 h4).trans (hf b h1 h2 h3 h4)
    have key := fun y' => ih (i + 1) y' M5 (B1 + 1) (T1 + 1) (by omega) (by omega) hf5 q4 (by omega) (by omega) (by omega)
    have es : blwS C R (M 14 3) (wnd M) (M (s + 2)) (M (s + 3) 0) (M (s + 3) 1) (M (s + 3) 2) (M (s + 3) 3) (j + 1) (zgx M1 a s) = blwS C R (M 14 3) (wnd M) (M (s + 2)) (M (s + 3) 0) (M (s + 3) 1) (M (s + 3) 2) (M (s + 3) 3) j (zgx M5 a s) := by rw [q2]; rfl
    have en : blwN C R (M 14 3) (wnd M) (M (s + 2)) (M (s + 3) 0) (M (s + 3) 1) (M (s + 3) 2) (M (s + 3) 3) (j + 1) (zgx M1 a s) = r4 + blwN C R (M 14 3) (wnd M) (M (s + 2)) (M (s + 3) 0) (M (s + 3) 1) (M (s + 3) 2) (M (s + 3) 3) j (zgx M5 a s) := by rw [q2, q1]; rfl
    rw [es, en]
    refine ⟨by omega, fun h => ?_, fun h => ?_⟩
    · have hk := key y
      rw [h, Int.zero_add]
      exact hk
    · have hk := key (y + 1)
      rw [show r4 = 1 by omega, ← Int.add_assoc]
      exact hk
/-- a row filled -/
theorem c_fill {n : Nat} (hh : zh (z1 o) h = (1, n)) (hz : h ≠ 0) (hn : n ≤ 100000) : zKv g (z1 o) mJ7_fill_53178 [zA g h, zI v] M (fun M' => M' = zrw M h (fun i => if 0 ≤ i ∧ i < n then v else M h i)) := by
  refine zkv_of rfl (Nat.le_of_ble_eq_true rfl) (SJ7_fill_53178_0 hh hz hn ?_)
  suffices hs : ∀ (j : Nat) (i : Int), 0 ≤ i → i + j = n → zT g (z1 o) mJ7_fill_53178 (zQv (z1 o) (fun M' => M' = zrw M h (fun i => if 0 ≤ i ∧ i < n then v else M h i))) 5 [(0, zA g h), (1, zI v), (2, zI i), (3, zI (n : Int))] [] (zrw M h (fun k => if 0 ≤ k ∧ k < i then v else M h k)) by
    have hh := hs n 0 (by omega) (by omega)
    have e : (fun k : Int => if 0 ≤ k ∧ k < 0 then v else M h k) = M h := by funext k; rw [if_neg (by omega)]
    rw [e, zrw_self] at hh
    exact hh
  intro j
  induction j with
  | zero =>
    intro i h0 hi
    refine SJ7_fill_53178_5 hh hz hn ⟨by omega, by omega, fun h => ?_, fun h => by omega⟩
    rw [show i = (n : Int) by omega]
  | succ j ih =>
    intro i h0 hi
    refine SJ7_fill_53178_5 hh hz hn ⟨by omega, by omega, fun h9 => by omega, fun h9 => ⟨by omega, ?_⟩⟩
    have hk := ih (i + 1) (by omega) (by omega)
    have e : zu (zrw M h (fun k => if 0 ≤ k ∧ k < i then v else M h k)) h i v = zrw M h (fun k => if 0 ≤ k ∧ k < i + 1 then v else M h k) := by
      rw [zu_zrw, zrw_row, zrw_zrw]
      congr 1
      funext k
      unfold up
      by_cases hk : k = i
      · rw [if_pos hk, if_pos (by omega)]
      · rw [if_neg hk]
        dsimp only
        by_cases hk2 : 0 ≤ k ∧ k < i
        · rw [if_pos hk2, if_pos (by omega)]
        · rw [if_neg hk2, if_neg (by omega)]
    rw [e]; exact hk
/-- one Sand becomes another one -/
def zsame (M M' : zM) (s t : Nat) : Prop := (∀ i : Int, 0 ≤ i → i < 96 → M' (s + 1) i = M (t + 1) i ∧ M' (s + 2) i = M (t + 2) i) ∧ (∀ i : Int, 0 ≤ i → i < 4 → M' (s + 3) i = M (t + 3) i) ∧ M' s 3 = M t 3 ∧ M' s 4 = M t 4
def zfs (M M' : zM) (s : Nat) : Prop := ∀ b : Nat, b ≠ s → b ≠ s + 1 → b ≠ s + 2 → b ≠ s + 3 → M' b = M b
theorem zsd_apart (hs : zSd s) {t : Nat} (ht : zSd t) : s = t ∨ (s + 4 ≤ t ∨ t + 4 ≤ s) := by
  have h : ∀ s ∈ zsds, ∀ t ∈ zsds, s = t ∨ (s + 4 ≤ t ∨ t + 4 ≤ s) := by decide +kernel
  exact h s hs t ht
theorem c_copy (hs : zSd s) {t : Nat} (ht : zSd t) : zKv g (z1 o) mX5_copy [zA g s, zA g t] M (fun M' => zsame M M' s t ∧ zfs M M' s) := by
  have hap := zsd_apart hs ht
  have key : ∀ (f k : Int → Int) (n i : Int), 0 ≤ i → i < n → zcpy f k 0 0 n i = f i := fun f k n i h0 h1 => by
    unfold zcpy; rw [if_pos (by omega)]; congr 1; omega
  refine zkv_of rfl (Nat.le_of_ble_eq_true rfl) (SX5_copy_0 hs ht fun N1 e1 N3 e3 N5 e5 N7 e7 => ?_)
  refine ⟨⟨fun i h0 h1 => ⟨?_, ?_⟩, fun i h0 h1 => ?_, ?_, ?_⟩, fun b h1 h2 h3 h4 => ?_⟩
  · rw [zu_other (by omega), e7, zu_other (by omega), e5, zrw_other (by omega), e3, zrw_other (by omega), e1, zrw_row, key _ _ _ _ h0 h1]
  · rw [zu_other (by omega), e7, zu_other (by omega), e5, zrw_other (by omega), e3, zrw_row, key _ _ _ _ h0 h1, e1, zrw_other (by omega)]
  · rw [zu_other (by omega), e7, zu_other (by omega), e5, zrw_row, key _ _ _ _ h0 h1, e3, zrw_other (by omega), e1, zrw_other (by omega)]
  · rw [zu_row, if_neg (by decide), e7, zu_at, e5, zrw_other (by omega), e3, zrw_other (by omega), e1, zrw_other (by omega)]
  · rw [zu_at, e7]
    by_cases hst : t = s
    · subst hst; rw [zu_row, if_neg (by decide), e5, zrw_other (by omega), e3, zrw_other (by omega), e1, zrw_other (by omega)]
    · rw [zu_other hst, e5, zrw_other (by omega), e3, zrw_other (by omega), e1, zrw_other (by omega)]
  · rw [zu_other h1, e7, zu_other h1, e5, zrw_other h4, e3, zrw_other h3, e1, zrw_other h2]
end CB
end
section
/-- the first cell that is too steep, from c on, of n -/
def fsp (C R S : Int) (H : Int → Int) : Nat → Int → Int
  | 0, _ => -1
  | n + 1, c => if wdn C R H S c = -1 then fsp C R S H n (c + 1) else c
/-- SETTLED by at most n slides -/
def stz (C R S : Int) : Nat → Hz → Hz
  | 0, z => z
  | n + 1, z => if fsp C R S z.1 (C * R).toNat 0 = -1 then z else stz C R S n (sldz C R z (fsp C R S z.1 (C * R).toNat 0) (wdn C R z.1 S (fsp C R S z.1 (C * R).toNat 0)))
def ssq (H : Int → Int) : Int := smt (fun i => H i * H i) 96
theorem smt_two {p q : Int → Int} {n : Nat} {f t : Int} (hf : 0 ≤ f ∧ f < n) (ht : 0 ≤ t ∧ t < n) (hne : f ≠ t) (h : ∀ i, i ≠ f → i ≠ t → p i = q i) : smt p n = smt q n + (p f - q f) + (p t - q t) := by
  have one : ∀ (p q : Int → Int) (n : Nat) (f : Int), (∀ i : Int, 0 ≤ i → i < n → i ≠ f → p i = q i) → smt p n = smt q n + (if 0 ≤ f ∧ f < n then p f - q f else 0) := by
    intro p q n f
    induction n with
    | zero => intro _; rw [if_neg (by omega)]; simp [smt]
    | succ n ih =>
      intro h
      have h1 := ih (fun i h0 h1 h2 => h i h0 (by omega) h2)
      show smt p n + p n = smt q n + q n + _
      by_cases hfn : f = n
      · subst hfn
        rw [if_pos (by omega)]
        rw [if_neg (by omega)] at h1
        omega
      · have h2 := h n (by omega) (by omega) (fun e => hfn e.symm)
        by_cases hf : 0 ≤ f ∧ f < n
        · rw [if_pos (by omega)]; rw [if_pos hf] at h1; omega
        · rw [if_neg (by omega)]; rw [if_neg hf] at h1; omega
  have h1 := one p (fun i => if i = t then p t else q i) n f (fun i _ _ h2 => by
    by_cases e : i = t
    · rw [if_pos e, e]
    · rw [if_neg e]; exact h i h2 e)
  have h2 := one (fun i => if i = t then p t else q i) q n t (fun i _ _ h2 => by rw [if_neg h2])
  rw [if_pos hf] at h1
  rw [if_pos ht] at h2
  simp only [if_true, if_neg hne] at h1 h2
  omega
theorem ssq_sld {H : Int → Int} {f t : Int} (hf : 0 ≤ f ∧ f < 96) (ht : 0 ≤ t ∧ t < 96) (h : H t + 2 ≤ H f) : ssq (sld H f t) + 2 ≤ ssq H := by
  have hne : f ≠ t := fun e => by rw [e] at h; omega
  have h1 := smt_two (p := fun i => sld H f t i * sld H f t i) (q := fun i => H i * H i) (n := 96) hf ht hne (fun i h1 h2 => by rw [sld_o h1 h2])
  rw [sld_f hne, sld_t hne] at h1
  have e1 : (H f - 1) * (H f - 1) = H f * H f - 2 * H f + 1 := by rw [Int.sub_mul, Int.mul_sub]; omega
  have e2 : (H t + 1) * (H t + 1) = H t * H t + 2 * H t + 1 := by rw [Int.add_mul, Int.mul_add]; omega
  unfold ssq
  rw [e1, e2] at h1
  omega
theorem ssq_nn (H : Int → Int) : 0 ≤ ssq H := smt_nn (fun i _ _ => by
  rcases Int.le_total 0 (H i) with h | h
  · exact Int.mul_nonneg h h
  · have := Int.mul_nonneg (show 0 ≤ -H i by omega) (show 0 ≤ -H i by omega); rw [Int.neg_mul_neg] at this; exact this)
section CW
variable {g : zG} {o : Bool} {M : zM} {C R S c w B : Int} {s a : Nat} {z : Hz} {H : Int → Int}
theorem fsp_spec (n : Nat) (c : Int) : (fsp C R S H n c = -1 ∧ ∀ i, c ≤ i → i < c + n → wdn C R H S i = -1) ∨ (c ≤ fsp C R S H n c ∧ fsp C R S H n c < c + n ∧ wdn C R H S (fsp C R S H n c) ≠ -1 ∧ ∀ i, c ≤ i → i < fsp C R S H n c → wdn C R H S i = -1) := by
  induction n generalizing c with
  | zero => exact Or.inl ⟨rfl, fun i h1 h2 => by omega⟩
  | succ n ih =>
    unfold fsp
    by_cases h : wdn C R H S c = -1
    · rw [if_pos h]
      rcases ih (c + 1) with ⟨e, h1⟩ | ⟨h1, h2, h3, h4⟩
      · refine Or.inl ⟨e, fun i i1 i2 => ?_⟩
        by_cases hi : i = c
        · rw [hi]; exact h
        · exact h1 i (by omega) (by omega)
      · refine Or.inr ⟨by omega, by omega, h3, fun i i1 i2 => ?_⟩
        by_cases hi : i = c
        · rw [hi]; exact h
        · exact h4 i (by omega) i2
    · rw [if_neg h]
      exact Or.inr ⟨Int.le_refl c, by omega, h, fun i h1 h2 => by omega⟩
theorem c_first (ha : zSt a s) (hL : zLand M C R) (hB : Bd (M (s + 1))) : zKi g (z1 o) mX7_firstSteep [zA g a] M (fun r M' => r = fsp C R (M 14 3) (M (s + 1)) (C * R).toNat 0 ∧ M' = M) := by
  have hn := geo_n hL.1
  have e14 : M 14 2 = C * R := hL.2.2.2.1
  refine zki_of rfl (Nat.le_of_ble_eq_true rfl) (SX7_firstSteep_0 ha ?_)
  suffices h : ∀ (n : Nat) (i : Int), 0 ≤ i → i + n = C * R → zT g (z1 o) mX7_firstSteep (zQi (z1 o) (fun r M' => r = fsp C R (M 14 3) (M (s + 1)) n i ∧ M' = M)) 2 [(0, zA g a), (1, zI i)] [] M from h (C * R).toNat 0 (by omega) (by omega)
  intro n
  induction n with
  | zero =>
    intro i h0 hi
    refine SX7_firstSteep_2 (C := C) (R := R) ha ?_
    rw [e14]
    exact ⟨by omega, by omega, fun h => ⟨rfl, rfl⟩, fun h => by omega⟩
  | succ n ih =>
    intro i h0 hi
    refine SX7_firstSteep_2 (C := C) (R := R) ha ?_
    rw [e14]
    have hw : -1 ≤ wdn C R (M (s + 1)) (M 14 3) i ∧ wdn C R (M (s + 1)) (M 14 3) i ≤ 3 := by rcases wdn_spec C R (M (s + 1)) (M 14 3) i with ⟨e, -⟩ | ⟨e, e2, -⟩ <;> omega
    refine ⟨by omega, by omega, fun h => by omega, fun h => ⟨hL, by omega, hB, by omega, fun h2 => ?_, fun h2 => ⟨?_, rfl⟩⟩⟩
    · have hk := ih (i + 1) (by omega) (by omega)
      have e : fsp C R (M 14 3) (M (s + 1)) (n + 1) i = fsp C R (M 14 3) (M (s + 1)) n (i + 1) := by show (if _ then _ else _) = _; rw [if_pos h2]
      rw [e]; exact hk
    · show i = (if _ then _ else _)
      rw [if_neg h2]
theorem stz_bd (hG : Geo C R) (hS : 1 ≤ S) (n : Nat) (z : Hz) (hB : BdB B z.1) : BdB B (stz C R S n z).1 := by
  have hn := geo_n hG
  induction n generalizing z with
  | zero => exact hB
  | succ n ih =>
    unfold stz
    rcases fsp_spec (C := C) (R := R) (S := S) (H := z.1) (C * R).toNat 0 with ⟨e, -⟩ | ⟨h1, h2, h3, -⟩
    · rw [if_pos e]; exact hB
    · rw [if_neg (by omega)]
      rcases wdn_spec C R z.1 S (fsp C R S z.1 (C * R).toNat 0) with ⟨e, -⟩ | ⟨w0, w3, hh⟩
      · exact absurd e h3
      · exact ih _ ((spill_step (B := B) hG hS ⟨h1, by omega⟩ hh).2.2.2 hB)
theorem c_settle (ha : zSt a s) (hL : zLand M C R) (hB : Bd (M (s + 1))) (hq : ssq (M (s + 1)) < 2000000) : zKv g (z1 o) mX7_settle [zA g a] M (fun M' => M' = zput M a s (stz C R (M 14 3) 1000000 (zget M a s))) := by
  have hn := geo_n hL.1
  have hS := hL.2.2.2.2.1
  refine zkv_of rfl (Nat.le_of_ble_eq_true rfl) (SX7_settle_0 ha ?_)
  suffices h : ∀ (n : Nat) (z : Hz) (i : Int), 0 ≤ i → i + n = 1000000 → Bd z.1 → ssq z.1 < 2 * n → zT g (z1 o) mX7_settle (zQv (z1 o) (fun M' => M' = zput M a s (stz C R (M 14 3) n z))) 2 [(0, zA g a), (1, zI i)] [] (zput M a s z) by
    have hh := h 1000000 (zget M a s) 0 (by omega) (by omega) hB (by show ssq (M (s + 1)) < _; omega)
    rw [zput_get ha] at hh
    exact hh
  intro n
  induction n with
  | zero => intro z i h0 hi hB hq; have := ssq_nn z.1; omega
  | succ n ih =>
    intro z i h0 hi hB hq
    have hL' := zput_L (z := z) ha hL
    have hf := c_first (g := g) (o := o) (M := zput M a s z) ha hL' (by rw [zput_h ha]; exact hB)
    rw [zput_h ha, zput_14 ha] at hf
    refine SX7_settle_2 (C := C) (R := R) ha ⟨by omega, fun h => by omega, fun h => ⟨_, hf, fun r3 M4 hq3 => ?_⟩⟩
    obtain ⟨q1, q2⟩ := hq3
    rw [q2, zput_h ha, zput_14 ha, zget_put ha, zput_put ha]
    rcases fsp_spec (C := C) (R := R) (S := M 14 3) (H := z.1) (C * R).toNat 0 with ⟨e, -⟩ | ⟨h1, h2, h3, -⟩
    · refine ⟨by omega, fun h => by omega, fun h => ?_⟩
      show zput M a s z = zput M a s (if _ then _ else _)
      rw [if_pos e]
    · rw [← q1] at h1 h2 h3
      rcases wdn_spec C R z.1 (M 14 3) r3 with ⟨e, -⟩ | ⟨w0, w3, hh⟩
      · exact absurd e h3
      · obtain ⟨p1, p3, -, p5⟩ := spill_step (B := 1000000000) hL.1 hS.1 ⟨h1, by omega⟩ hh
        refine ⟨by omega, fun h => ⟨hL', by omega, hB, ⟨w0, w3⟩, ?_⟩, fun h => by omega⟩
        have e : stz C R (M 14 3) (n + 1) z = stz C R (M 14 3) n (sldz C R z r3 (wdn C R z.1 (M 14 3) r3)) := by
          show (if _ then _ else _) = _
          rw [if_neg (by omega), ← q1]
        rw [e]
        refine ih _ (i + 1) (by omega) (by omega) (p5 hB) ?_
        have := ssq_sld (H := z.1) (f := r3) (t := alg C R r3 (wdn C R z.1 (M 14 3) r3) 1) (by omega) (by omega) (by omega)
        show ssq (sld z.1 r3 _) < _
        omega
end CW
end
section
theorem dX10_isIn_0 : decode cX10_isIn 0 = .ok (.iload_n 0, 1) := by decide +kernel
theorem dX10_isIn_1 : decode cX10_isIn 1 = .ok (.iload_n 1, 1) := by decide +kernel
theorem dX10_isIn_2 : decode cX10_isIn 2 = .ok (.if_icmp .lt 12, 3) := by decide +kernel
theorem dX10_isIn_5 : decode cX10_isIn 5 = .ok (.iload_n 0, 1) := by decide +kernel
theorem dX10_isIn_6 : decode cX10_isIn 6 = .ok (.iload_n 2, 1) := by decide +kernel
theorem dX10_isIn_7 : decode cX10_isIn 7 = .ok (.if_icmp .gt 7, 3) := by decide +kernel
theorem dX10_isIn_10 : decode cX10_isIn 10 = .ok (.iconst 1, 1) := by decide +kernel
theorem dX10_isIn_11 : decode cX10_isIn 11 = .ok (.goto 4, 3) := by decide +kernel
theorem dX10_isIn_14 : decode cX10_isIn 14 = .ok (.iconst 0, 1) := by decide +kernel
theorem dX10_isIn_15 : decode cX10_isIn 15 = .ok (.ireturn, 1) := by decide +kernel
set_option maxRecDepth 100000 in
theorem SX10_isIn_0 {g : zG} {o : Bool} {M : zM} {q : Int → zM → Prop} {x0 x1 x2 : Int} (W : (-2147483648 ≤ x0 ∧ x0 ≤ 2147483647) ∧ (-2147483648 ≤ x1 ∧ x1 ≤ 2147483647) ∧ ((x0 < x1) → q 0 M) ∧ ((¬ (x0 < x1)) → (-2147483648 ≤ x2 ∧ x2 ≤ 2147483647) ∧ ((x2 < x0) → q 0 M) ∧ ((¬ (x2 < x0)) → q 1 M))) : zT g (z2 o) mX10_isIn (zQi (z2 o) q) 0 [(0, zI x0), (1, zI x1), (2, zI x2)] [] M := by
  refine zr_iload_n 0 dX10_isIn_0 rfl ?_
  refine zr_iload_n 1 dX10_isIn_1 rfl ?_
  obtain ⟨c1, W⟩ := W
  obtain ⟨c2, W⟩ := W
  refine zr_icmp_lt (tgt := 14) dX10_isIn_2 (by decide) c1 c2 (fun h => ?_) (fun h => ?_)
  · have W := W.1 h
    refine zr_iconst dX10_isIn_14 ?_
    exact zt_zret dX10_isIn_15 rfl (by decide) W
  · have W := W.2 h
    refine zr_iload_n 0 dX10_isIn_5 rfl ?_
    refine zr_iload_n 2 dX10_isIn_6 rfl ?_
    obtain ⟨c3, W⟩ := W
    refine zr_icmp_gt (tgt := 14) dX10_isIn_7 (by decide) c1 c3 (fun h => ?_) (fun h => ?_)
    · have W := W.1 h
      refine zr_iconst dX10_isIn_14 ?_
      exact zt_zret dX10_isIn_15 rfl (by decide) W
    · have W := W.2 h
      refine zr_iconst dX10_isIn_10 ?_
      refine zr_goto (tgt := 15) dX10_isIn_11 (by decide) ?_
      exact zt_zret dX10_isIn_15 rfl (by decide) W
theorem dX10_greater_0 : decode cX10_greater 0 = .ok (.iload_n 0, 1) := by decide +kernel
theorem dX10_greater_1 : decode cX10_greater 1 = .ok (.iload_n 1, 1) := by decide +kernel
theorem dX10_greater_2 : decode cX10_greater 2 = .ok (.if_icmp .le 7, 3) := by decide +kernel
theorem dX10_greater_5 : decode cX10_greater 5 = .ok (.iload_n 0, 1) := by decide +kernel
theorem dX10_greater_6 : decode cX10_greater 6 = .ok (.goto 4, 3) := by decide +kernel
theorem dX10_greater_9 : decode cX10_greater 9 = .ok (.iload_n 1, 1) := by decide +kernel
theorem dX10_greater_10 : decode cX10_greater 10 = .ok (.ireturn, 1) := by decide +kernel
set_option maxRecDepth 100000 in
theorem SX10_greater_0 {g : zG} {o : Bool} {M : zM} {q : Int → zM → Prop} {x0 x1 : Int} (W : (-2147483648 ≤ x0 ∧ x0 ≤ 2147483647) ∧ (-2147483648 ≤ x1 ∧ x1 ≤ 2147483647) ∧ ((x0 ≤ x1) → q x1 M) ∧ ((¬ (x0 ≤ x1)) → q x0 M)) : zT g (z2 o) mX10_greater (zQi (z2 o) q) 0 [(0, zI x0), (1, zI x1)] [] M := by
  refine zr_iload_n 0 dX10_greater_0 rfl ?_
  refine zr_iload_n 1 dX10_greater_1 rfl ?_
  obtain ⟨c1, W⟩ := W
  obtain ⟨c2, W⟩ := W
  refine zr_icmp_le (tgt := 9) dX10_greater_2 (by decide) c1 c2 (fun h => ?_) (fun h => ?_)
  · have W := W.1 h
    refine zr_iload_n 1 dX10_greater_9 rfl ?_
    exact zt_iret dX10_greater_10 rfl W
  · have W := W.2 h
    refine zr_iload_n 0 dX10_greater_5 rfl ?_
    refine zr_goto (tgt := 10) dX10_greater_6 (by decide) ?_
    exact zt_iret dX10_greater_10 rfl W
theorem dX10_lesser_0 : decode cX10_lesser 0 = .ok (.iload_n 0, 1) := by decide +kernel
theorem dX10_lesser_1 : decode cX10_lesser 1 = .ok (.iload_n 1, 1) := by decide +kernel
theorem dX10_lesser_2 : decode cX10_lesser 2 = .ok (.if_icmp .ge 7, 3) := by decide +kernel
theorem dX10_lesser_5 : decode cX10_lesser 5 = .ok (.iload_n 0, 1) := by decide +kernel
theorem dX10_lesser_6 : decode cX10_lesser 6 = .ok (.goto 4, 3) := by decide +kernel
theorem dX10_lesser_9 : decode cX10_lesser 9 = .ok (.iload_n 1, 1) := by decide +kernel
theorem dX10_lesser_10 : decode cX10_lesser 10 = .ok (.ireturn, 1) := by decide +kernel
set_option maxRecDepth 100000 in
theorem SX10_lesser_0 {g : zG} {o : Bool} {M : zM} {q : Int → zM → Prop} {x0 x1 : Int} (W : (-2147483648 ≤ x0 ∧ x0 ≤ 2147483647) ∧ (-2147483648 ≤ x1 ∧ x1 ≤ 2147483647) ∧ ((x1 ≤ x0) → q x1 M) ∧ ((¬ (x1 ≤ x0)) → q x0 M)) : zT g (z2 o) mX10_lesser (zQi (z2 o) q) 0 [(0, zI x0), (1, zI x1)] [] M := by
  refine zr_iload_n 0 dX10_lesser_0 rfl ?_
  refine zr_iload_n 1 dX10_lesser_1 rfl ?_
  obtain ⟨c1, W⟩ := W
  obtain ⟨c2, W⟩ := W
  refine zr_icmp_ge (tgt := 9) dX10_lesser_2 (by decide) c1 c2 (fun h => ?_) (fun h => ?_)
  · have W := W.1 h
    refine zr_iload_n 1 dX10_lesser_9 rfl ?_
    exact zt_iret dX10_lesser_10 rfl W
  · have W := W.2 h
    refine zr_iload_n 0 dX10_lesser_5 rfl ?_
    refine zr_goto (tgt := 10) dX10_lesser_6 (by decide) ?_
    exact zt_iret dX10_lesser_10 rfl W
theorem dX10_truth_0 : decode cX10_truth 0 = .ok (.iload_n 0, 1) := by decide +kernel
theorem dX10_truth_1 : decode cX10_truth 1 = .ok (.ifCond .eq 7, 3) := by decide +kernel
theorem dX10_truth_4 : decode cX10_truth 4 = .ok (.iconst 1, 1) := by decide +kernel
theorem dX10_truth_5 : decode cX10_truth 5 = .ok (.goto 4, 3) := by decide +kernel
theorem dX10_truth_8 : decode cX10_truth 8 = .ok (.iconst 0, 1) := by decide +kernel
theorem dX10_truth_9 : decode cX10_truth 9 = .ok (.ireturn, 1) := by decide +kernel
set_option maxRecDepth 100000 in
theorem SX10_truth_0 {g : zG} {o : Bool} {M : zM} {q : Int → zM → Prop} {x0 : Int} (W : (-2147483648 ≤ x0 ∧ x0 ≤ 2147483647) ∧ ((x0 = 0) → q 0 M) ∧ ((¬ (x0 = 0)) → q 1 M)) : zT g (z2 o) mX10_truth (zQi (z2 o) q) 0 [(0, zI x0)] [] M := by
  refine zr_iload_n 0 dX10_truth_0 rfl ?_
  obtain ⟨c1, W⟩ := W
  refine zr_if_eq (tgt := 8) dX10_truth_1 (by decide) c1 (fun h => ?_) (fun h => ?_)
  · have W := W.1 h
    refine zr_iconst dX10_truth_8 ?_
    exact zt_iret dX10_truth_9 rfl W
  · have W := W.2 h
    refine zr_iconst dX10_truth_4 ?_
    refine zr_goto (tgt := 9) dX10_truth_5 (by decide) ?_
    exact zt_iret dX10_truth_9 rfl W
theorem dX10_off_0 : decode cX10_off 0 = .ok (.iload_n 0, 1) := by decide +kernel
theorem dX10_off_1 : decode cX10_off 1 = .ok (.iload_n 1, 1) := by decide +kernel
theorem dX10_off_2 : decode cX10_off 2 = .ok (.if_icmp .ge 9, 3) := by decide +kernel
theorem dX10_off_5 : decode cX10_off 5 = .ok (.iload_n 1, 1) := by decide +kernel
theorem dX10_off_6 : decode cX10_off 6 = .ok (.iload_n 0, 1) := by decide +kernel
theorem dX10_off_7 : decode cX10_off 7 = .ok (.isub, 1) := by decide +kernel
theorem dX10_off_8 : decode cX10_off 8 = .ok (.goto 6, 3) := by decide +kernel
theorem dX10_off_11 : decode cX10_off 11 = .ok (.iload_n 0, 1) := by decide +kernel
theorem dX10_off_12 : decode cX10_off 12 = .ok (.iload_n 1, 1) := by decide +kernel
theorem dX10_off_13 : decode cX10_off 13 = .ok (.isub, 1) := by decide +kernel
theorem dX10_off_14 : decode cX10_off 14 = .ok (.ireturn, 1) := by decide +kernel
set_option maxRecDepth 100000 in
theorem SX10_off_0 {g : zG} {o : Bool} {M : zM} {q : Int → zM → Prop} {x0 x1 : Int} (W : (-2147483648 ≤ x0 ∧ x0 ≤ 2147483647) ∧ (-2147483648 ≤ x1 ∧ x1 ≤ 2147483647) ∧ ((x1 ≤ x0) → q (x0 - x1) M) ∧ ((¬ (x1 ≤ x0)) → q (x1 - x0) M)) : zT g (z2 o) mX10_off (zQi (z2 o) q) 0 [(0, zI x0), (1, zI x1)] [] M := by
  refine zr_iload_n 0 dX10_off_0 rfl ?_
  refine zr_iload_n 1 dX10_off_1 rfl ?_
  obtain ⟨c1, W⟩ := W
  obtain ⟨c2, W⟩ := W
  refine zr_icmp_ge (tgt := 11) dX10_off_2 (by decide) c1 c2 (fun h => ?_) (fun h => ?_)
  · have W := W.1 h
    refine zr_iload_n 0 dX10_off_11 rfl ?_
    refine zr_iload_n 1 dX10_off_12 rfl ?_
    refine zr_isub dX10_off_13 ?_
    exact zt_iret dX10_off_14 rfl W
  · have W := W.2 h
    refine zr_iload_n 1 dX10_off_5 rfl ?_
    refine zr_iload_n 0 dX10_off_6 rfl ?_
    refine zr_isub dX10_off_7 ?_
    refine zr_goto (tgt := 14) dX10_off_8 (by decide) ?_
    exact zt_iret dX10_off_14 rfl W
theorem dX10_columns_0 : decode cX10_columns 0 = .ok (.aload_n 0, 1) := by decide +kernel
theorem dX10_columns_1 : decode cX10_columns 1 = .ok (.getfield 20, 3) := by decide +kernel
theorem dX10_columns_4 : decode cX10_columns 4 = .ok (.iconst 0, 1) := by decide +kernel
theorem dX10_columns_5 : decode cX10_columns 5 = .ok (.iaload, 1) := by decide +kernel
theorem dX10_columns_6 : decode cX10_columns 6 = .ok (.ireturn, 1) := by decide +kernel
set_option maxRecDepth 100000 in
theorem SX10_columns_0 {g : zG} {o : Bool} {M : zM} {q : Int → zM → Prop} (W : q (M 3 0) M) : zT g (z2 o) mX10_columns (zQi (z2 o) q) 0 [(0, zA g 1)] [] M := by
  refine zr_aload_n 0 dX10_columns_0 rfl ?_
  refine zr_getr (b := 3) dX10_columns_1 fX10_20 rfl rfl rfl (by decide) ?_
  refine zr_iconst dX10_columns_4 ?_
  refine zr_iald dX10_columns_5 rfl (by decide) ⟨by decide, by decide⟩ ?_
  exact zt_iret dX10_columns_6 rfl W
theorem dX10_rows_0 : decode cX10_rows 0 = .ok (.aload_n 0, 1) := by decide +kernel
theorem dX10_rows_1 : decode cX10_rows 1 = .ok (.getfield 20, 3) := by decide +kernel
theorem dX10_rows_4 : decode cX10_rows 4 = .ok (.iconst 1, 1) := by decide +kernel
theorem dX10_rows_5 : decode cX10_rows 5 = .ok (.iaload, 1) := by decide +kernel
theorem dX10_rows_6 : decode cX10_rows 6 = .ok (.ireturn, 1) := by decide +kernel
set_option maxRecDepth 100000 in
theorem SX10_rows_0 {g : zG} {o : Bool} {M : zM} {q : Int → zM → Prop} (W : q (M 3 1) M) : zT g (z2 o) mX10_rows (zQi (z2 o) q) 0 [(0, zA g 1)] [] M := by
  refine zr_aload_n 0 dX10_rows_0 rfl ?_
  refine zr_getr (b := 3) dX10_rows_1 fX10_20 rfl rfl rfl (by decide) ?_
  refine zr_iconst dX10_rows_4 ?_
  refine zr_iald dX10_rows_5 rfl (by decide) ⟨by decide, by decide⟩ ?_
  exact zt_iret dX10_rows_6 rfl W
theorem dX10_against_0 : decode cX10_against 0 = .ok (.iload_n 0, 1) := by decide +kernel
theorem dX10_against_1 : decode cX10_against 1 = .ok (.iconst 2, 1) := by decide +kernel
theorem dX10_against_2 : decode cX10_against 2 = .ok (.iadd, 1) := by decide +kernel
theorem dX10_against_3 : decode cX10_against 3 = .ok (.iconst 4, 1) := by decide +kernel
theorem dX10_against_4 : decode cX10_against 4 = .ok (.irem, 1) := by decide +kernel
theorem dX10_against_5 : decode cX10_against 5 = .ok (.ireturn, 1) := by decide +kernel
set_option maxRecDepth 100000 in
theorem SX10_against_0 {g : zG} {o : Bool} {M : zM} {q : Int → zM → Prop} {x0 : Int} (W : (0 ≤ (x0 + 2) ∧ (x0 + 2) ≤ 2147483647) ∧ q ((x0 + 2) % 4) M) : zT g (z2 o) mX10_against (zQi (z2 o) q) 0 [(0, zI x0)] [] M := by
  refine zr_iload_n 0 dX10_against_0 rfl ?_
  refine zr_iconst dX10_against_1 ?_
  refine zr_iadd dX10_against_2 ?_
  refine zr_iconst dX10_against_3 ?_
  obtain ⟨c1, W⟩ := W
  refine zr_irem dX10_against_4 c1 ⟨by decide, by decide⟩ ?_
  exact zt_iret dX10_against_5 rfl W
section RL
variable {g : zG} {o : Bool} {M : zM} {x y z w : Int}
theorem c_isIn (hx : -2147483648 ≤ x ∧ x ≤ 2147483647) (hy : -2147483648 ≤ y ∧ y ≤ 2147483647) (hz : -2147483648 ≤ z ∧ z ≤ 2147483647) : zKi g (z2 o) mX10_isIn [zI x, zI y, zI z] M (fun r M' => r = zb (y ≤ x ∧ x ≤ z) ∧ M' = M) :=
  zki_of rfl (Nat.le_of_ble_eq_true rfl) (SX10_isIn_0 ⟨hx, hy, fun h => ⟨(zb_f (by omega)).symm, rfl⟩, fun h => ⟨hz, fun h2 => ⟨(zb_f (by omega)).symm, rfl⟩, fun h2 => ⟨(zb_t (by omega)).symm, rfl⟩⟩⟩)
theorem c_greater (hx : -2147483648 ≤ x ∧ x ≤ 2147483647) (hy : -2147483648 ≤ y ∧ y ≤ 2147483647) : zKi g (z2 o) mX10_greater [zI x, zI y] M (fun r M' => r = max x y ∧ M' = M) :=
  zki_of rfl (Nat.le_of_ble_eq_true rfl) (SX10_greater_0 ⟨hx, hy, fun h => ⟨by omega, rfl⟩, fun h => ⟨by omega, rfl⟩⟩)
theorem c_lesser (hx : -2147483648 ≤ x ∧ x ≤ 2147483647) (hy : -2147483648 ≤ y ∧ y ≤ 2147483647) : zKi g (z2 o) mX10_lesser [zI x, zI y] M (fun r M' => r = min x y ∧ M' = M) :=
  zki_of rfl (Nat.le_of_ble_eq_true rfl) (SX10_lesser_0 ⟨hx, hy, fun h => ⟨by omega, rfl⟩, fun h => ⟨by omega, rfl⟩⟩)
theorem c_truth (P : Prop) : zKi g (z2 o) mX10_truth [zI (zb P)] M (fun r M' => r = zb P ∧ M' = M) := by
  have h := zb01 P
  exact zki_of rfl (Nat.le_of_ble_eq_true rfl) (SX10_truth_0 ⟨zb_in P, fun h2 => ⟨by omega, rfl⟩, fun h2 => ⟨by omega, rfl⟩⟩)
theorem c_truthi (hx : x = 0 ∨ x = 1) : zKi g (z2 o) mX10_truth [zI x] M (fun r M' => r = x ∧ M' = M) :=
  zki_of rfl (Nat.le_of_ble_eq_true rfl) (SX10_truth_0 ⟨by omega, fun h2 => ⟨by omega, rfl⟩, fun h2 => ⟨by omega, rfl⟩⟩)
theorem c_off (hx : -2147483648 ≤ x ∧ x ≤ 2147483647) (hy : -2147483648 ≤ y ∧ y ≤ 2147483647) : zKi g (z2 o) mX10_off [zI x, zI y] M (fun r M' => r = (if 0 ≤ x - y then x - y else 0 - (x - y)) ∧ M' = M) :=
  zki_of rfl (Nat.le_of_ble_eq_true rfl) (SX10_off_0 ⟨hx, hy, fun h => ⟨by rw [if_pos (by omega)], rfl⟩, fun h => ⟨by rw [if_neg (by omega)]; omega, rfl⟩⟩)
theorem c_columns : zKi g (z2 o) mX10_columns [zA g 1] M (fun r M' => r = M 3 0 ∧ M' = M) := zki_of rfl (Nat.le_of_ble_eq_true rfl) (SX10_columns_0 ⟨rfl, rfl⟩)
theorem c_rows : zKi g (z2 o) mX10_rows [zA g 1] M (fun r M' => r = M 3 1 ∧ M' = M) := zki_of rfl (Nat.le_of_ble_eq_true rfl) (SX10_rows_0 ⟨rfl, rfl⟩)
theorem c_against (hw : 0 ≤ w ∧ w ≤ 3) : zKi g (z2 o) mX10_against [zI w] M (fun r M' => r = opp w ∧ M' = M) :=
  zki_of rfl (Nat.le_of_ble_eq_true rfl) (SX10_against_0 ⟨by omega, by unfold opp; split <;> omega, rfl⟩)
/-- the reference's land -/
def zRf (M : zM) (C R : Int) : Prop := Geo C R ∧ M 3 0 = C ∧ M 3 1 = R ∧ (1 ≤ M 3 5 ∧ M 3 5 ≤ 9) ∧ (1 ≤ M 3 9 ∧ M 3 9 ≤ 8) ∧ ∀ i, 0 ≤ i → i < M 3 9 → (0 ≤ M 4 i ∧ M 4 i ≤ 3) ∧ 1 ≤ M 5 i ∧ M 5 i ≤ 99
theorem zRf.of {M' : zM} {C R : Int} (h : zRf M C R) (e3 : M' 3 = M 3) (e4 : M' 4 = M 4) (e5 : M' 5 = M 5) : zRf M' C R := by
  unfold zRf at h ⊢; rw [e3, e4, e5]; exact h
theorem c_columnsC {C R : Int} (h : zRf M C R) : zKi g (z2 o) mX10_columns [zA g 1] M (fun r M' => r = C ∧ M' = M) := by rw [← h.2.1]; exact c_columns
theorem c_rowsR {C R : Int} (h : zRf M C R) : zKi g (z2 o) mX10_rows [zA g 1] M (fun r M' => r = R ∧ M' = M) := by rw [← h.2.2.1]; exact c_rows
/-- the wind of the reference -/
def wnr (M : zM) (t : Int) : Int := M 4 (wix (M 5) (M 3 9).toNat 0 (t % smt (M 5) (M 3 9).toNat))
end RL
end
section
theorem dX10_cells_0 : decode cX10_cells 0 = .ok (.aload_n 0, 1) := by decide +kernel
theorem dX10_cells_1 : decode cX10_cells 1 = .ok (.invokevirtual 255, 3) := by decide +kernel
theorem dX10_cells_4 : decode cX10_cells 4 = .ok (.aload_n 0, 1) := by decide +kernel
theorem dX10_cells_5 : decode cX10_cells 5 = .ok (.invokevirtual 258, 3) := by decide +kernel
theorem dX10_cells_8 : decode cX10_cells 8 = .ok (.imul, 1) := by decide +kernel
theorem dX10_cells_9 : decode cX10_cells 9 = .ok (.ireturn, 1) := by decide +kernel
set_option maxRecDepth 100000 in
theorem SX10_cells_0 {g : zG} {o : Bool} {C R : Int} {M : zM} {q : Int → zM → Prop} (W : (zRf M C R) ∧ q (C * R) M) : zT g (z2 o) mX10_cells (zQi (z2 o) q) 0 [(0, zA g 1)] [] M := by
  refine zr_aload_n 0 dX10_cells_0 rfl ?_
  obtain ⟨c1, W⟩ := W
  refine zt_callVi (As := []) (rest := []) dX10_cells_1 kX10_cells_255 rfl rfl rfl rfl (Nat.le_of_ble_eq_true rfl) (c_columnsC c1) (fun r2 N4 h3 => ?_)
  rw [h3.1, h3.2]
  refine zr_aload_n 0 dX10_cells_4 rfl ?_
  refine zt_callVi (As := []) (rest := [zI C]) dX10_cells_5 kX10_cells_258 rfl rfl rfl rfl (Nat.le_of_ble_eq_true rfl) (c_rowsR c1) (fun r5 N7 h6 => ?_)
  rw [h6.1, h6.2]
  refine zr_imul dX10_cells_8 ?_
  exact zt_iret dX10_cells_9 rfl W
theorem dX10_along_0 : decode cX10_along 0 = .ok (.iload_n 1, 1) := by decide +kernel
theorem dX10_along_1 : decode cX10_along 1 = .ok (.aload_n 0, 1) := by decide +kernel
theorem dX10_along_2 : decode cX10_along 2 = .ok (.invokevirtual 255, 3) := by decide +kernel
theorem dX10_along_5 : decode cX10_along 5 = .ok (.irem, 1) := by decide +kernel
theorem dX10_along_6 : decode cX10_along 6 = .ok (.istore 4, 2) := by decide +kernel
theorem dX10_along_8 : decode cX10_along 8 = .ok (.iload_n 1, 1) := by decide +kernel
theorem dX10_along_9 : decode cX10_along 9 = .ok (.aload_n 0, 1) := by decide +kernel
theorem dX10_along_10 : decode cX10_along 10 = .ok (.invokevirtual 255, 3) := by decide +kernel
theorem dX10_along_13 : decode cX10_along 13 = .ok (.idiv, 1) := by decide +kernel
theorem dX10_along_14 : decode cX10_along 14 = .ok (.istore 5, 2) := by decide +kernel
theorem dX10_along_16 : decode cX10_along 16 = .ok (.iload_n 2, 1) := by decide +kernel
theorem dX10_along_17 : decode cX10_along 17 = .ok (.ifCond .ne 17, 3) := by decide +kernel
theorem dX10_along_20 : decode cX10_along 20 = .ok (.iload 4, 2) := by decide +kernel
theorem dX10_along_22 : decode cX10_along 22 = .ok (.iload_n 3, 1) := by decide +kernel
theorem dX10_along_23 : decode cX10_along 23 = .ok (.iadd, 1) := by decide +kernel
theorem dX10_along_24 : decode cX10_along 24 = .ok (.aload_n 0, 1) := by decide +kernel
theorem dX10_along_25 : decode cX10_along 25 = .ok (.invokevirtual 255, 3) := by decide +kernel
theorem dX10_along_28 : decode cX10_along 28 = .ok (.irem, 1) := by decide +kernel
theorem dX10_along_29 : decode cX10_along 29 = .ok (.istore 4, 2) := by decide +kernel
theorem dX10_along_31 : decode cX10_along 31 = .ok (.goto 66, 3) := by decide +kernel
theorem dX10_along_34 : decode cX10_along 34 = .ok (.iload_n 2, 1) := by decide +kernel
theorem dX10_along_35 : decode cX10_along 35 = .ok (.iconst 1, 1) := by decide +kernel
theorem dX10_along_36 : decode cX10_along 36 = .ok (.if_icmp .ne 17, 3) := by decide +kernel
theorem dX10_along_39 : decode cX10_along 39 = .ok (.iload 5, 2) := by decide +kernel
theorem dX10_along_41 : decode cX10_along 41 = .ok (.iload_n 3, 1) := by decide +kernel
theorem dX10_along_42 : decode cX10_along 42 = .ok (.iadd, 1) := by decide +kernel
theorem dX10_along_43 : decode cX10_along 43 = .ok (.aload_n 0, 1) := by decide +kernel
theorem dX10_along_44 : decode cX10_along 44 = .ok (.invokevirtual 258, 3) := by decide +kernel
theorem dX10_along_47 : decode cX10_along 47 = .ok (.irem, 1) := by decide +kernel
theorem dX10_along_48 : decode cX10_along 48 = .ok (.istore 5, 2) := by decide +kernel
theorem dX10_along_50 : decode cX10_along 50 = .ok (.goto 47, 3) := by decide +kernel
theorem dX10_along_53 : decode cX10_along 53 = .ok (.iload_n 2, 1) := by decide +kernel
theorem dX10_along_54 : decode cX10_along 54 = .ok (.iconst 2, 1) := by decide +kernel
theorem dX10_along_55 : decode cX10_along 55 = .ok (.if_icmp .ne 24, 3) := by decide +kernel
theorem dX10_along_58 : decode cX10_along 58 = .ok (.iload 4, 2) := by decide +kernel
theorem dX10_along_60 : decode cX10_along 60 = .ok (.iload_n 3, 1) := by decide +kernel
theorem dX10_along_61 : decode cX10_along 61 = .ok (.aload_n 0, 1) := by decide +kernel
theorem dX10_along_62 : decode cX10_along 62 = .ok (.invokevirtual 255, 3) := by decide +kernel
theorem dX10_along_65 : decode cX10_along 65 = .ok (.iconst 1, 1) := by decide +kernel
theorem dX10_along_66 : decode cX10_along 66 = .ok (.isub, 1) := by decide +kernel
theorem dX10_along_67 : decode cX10_along 67 = .ok (.imul, 1) := by decide +kernel
theorem dX10_along_68 : decode cX10_along 68 = .ok (.iadd, 1) := by decide +kernel
theorem dX10_along_69 : decode cX10_along 69 = .ok (.aload_n 0, 1) := by decide +kernel
theorem dX10_along_70 : decode cX10_along 70 = .ok (.invokevirtual 255, 3) := by decide +kernel
theorem dX10_along_73 : decode cX10_along 73 = .ok (.irem, 1) := by decide +kernel
theorem dX10_along_74 : decode cX10_along 74 = .ok (.istore 4, 2) := by decide +kernel
theorem dX10_along_76 : decode cX10_along 76 = .ok (.goto 21, 3) := by decide +kernel
theorem dX10_along_79 : decode cX10_along 79 = .ok (.iload 5, 2) := by decide +kernel
theorem dX10_along_81 : decode cX10_along 81 = .ok (.iload_n 3, 1) := by decide +kernel
theorem dX10_along_82 : decode cX10_along 82 = .ok (.aload_n 0, 1) := by decide +kernel
theorem dX10_along_83 : decode cX10_along 83 = .ok (.invokevirtual 258, 3) := by decide +kernel
theorem dX10_along_86 : decode cX10_along 86 = .ok (.iconst 1, 1) := by decide +kernel
theorem dX10_along_87 : decode cX10_along 87 = .ok (.isub, 1) := by decide +kernel
theorem dX10_along_88 : decode cX10_along 88 = .ok (.imul, 1) := by decide +kernel
theorem dX10_along_89 : decode cX10_along 89 = .ok (.iadd, 1) := by decide +kernel
theorem dX10_along_90 : decode cX10_along 90 = .ok (.aload_n 0, 1) := by decide +kernel
theorem dX10_along_91 : decode cX10_along 91 = .ok (.invokevirtual 258, 3) := by decide +kernel
theorem dX10_along_94 : decode cX10_along 94 = .ok (.irem, 1) := by decide +kernel
theorem dX10_along_95 : decode cX10_along 95 = .ok (.istore 5, 2) := by decide +kernel
theorem dX10_along_97 : decode cX10_along 97 = .ok (.aload_n 0, 1) := by decide +kernel
theorem dX10_along_98 : decode cX10_along 98 = .ok (.invokevirtual 255, 3) := by decide +kernel
theorem dX10_along_101 : decode cX10_along 101 = .ok (.iload 5, 2) := by decide +kernel
theorem dX10_along_103 : decode cX10_along 103 = .ok (.imul, 1) := by decide +kernel
theorem dX10_along_104 : decode cX10_along 104 = .ok (.iload 4, 2) := by decide +kernel
theorem dX10_along_106 : decode cX10_along 106 = .ok (.iadd, 1) := by decide +kernel
theorem dX10_along_107 : decode cX10_along 107 = .ok (.ireturn, 1) := by decide +kernel
set_option maxRecDepth 100000 in
theorem SX10_along_0 {g : zG} {o : Bool} {C R : Int} {M : zM} {q : Int → zM → Prop} {x1 x2 x3 : Int} (W : (zRf M C R) ∧ (0 ≤ x1 ∧ x1 ≤ 2147483647) ∧ (0 < C ∧ C ≤ 2147483647) ∧ (-2147483648 ≤ x2 ∧ x2 ≤ 2147483647) ∧ ((x2 ≠ 0) → ((x2 ≠ 1) → ((x2 ≠ 2) → (0 ≤ ((x1 / C) + (x3 * (R - 1))) ∧ ((x1 / C) + (x3 * (R - 1))) ≤ 2147483647) ∧ (0 < R ∧ R ≤ 2147483647) ∧ q ((C * (((x1 / C) + (x3 * (R - 1))) % R)) + (x1 % C)) M) ∧ ((x2 = 2) → (0 ≤ ((x1 % C) + (x3 * (C - 1))) ∧ ((x1 % C) + (x3 * (C - 1))) ≤ 2147483647) ∧ q ((C * (x1 / C)) + (((x1 % C) + (x3 * (C - 1))) % C)) M)) ∧ ((x2 = 1) → (0 ≤ ((x1 / C) + x3) ∧ ((x1 / C) + x3) ≤ 2147483647) ∧ (0 < R ∧ R ≤ 2147483647) ∧ q ((C * (((x1 / C) + x3) % R)) + (x1 % C)) M)) ∧ ((x2 = 0) → (0 ≤ ((x1 % C) + x3) ∧ ((x1 % C) + x3) ≤ 2147483647) ∧ q ((C * (x1 / C)) + (((x1 % C) + x3) % C)) M)) : zT g (z2 o) mX10_along (zQi (z2 o) q) 0 [(0, zA g 1), (1, zI x1), (2, zI x2), (3, zI x3)] [] M := by
  refine zr_iload_n 1 dX10_along_0 rfl ?_
  refine zr_aload_n 0 dX10_along_1 rfl ?_
  obtain ⟨c1, W⟩ := W
  refine zt_callVi (As := []) (rest := [zI x1]) dX10_along_2 kX10_along_255 rfl rfl rfl rfl (Nat.le_of_ble_eq_true rfl) (c_columnsC c1) (fun r2 N4 h3 => ?_)
  rw [h3.1, h3.2]
  obtain ⟨c5, W⟩ := W
  obtain ⟨c6, W⟩ := W
  refine zr_irem dX10_along_5 c5 c6 ?_
  refine zr_istore (l' := [(0, zA g 1), (1, zI x1), (2, zI x2), (3, zI x3), (4, zI (x1 % C))]) dX10_along_6 (by decide) [1, 2, 3, 4, 0] rfl ?_
  refine zr_iload_n 1 dX10_along_8 rfl ?_
  refine zr_aload_n 0 dX10_along_9 rfl ?_
  refine zt_callVi (As := []) (rest := [zI x1]) dX10_along_10 kX10_along_255 rfl rfl rfl rfl (Nat.le_of_ble_eq_true rfl) (c_columnsC c1) (fun r7 N9 h8 => ?_)
  rw [h8.1, h8.2]
  refine zr_idiv dX10_along_13 c5 c6 ?_
  refine zr_istore (l' := [(0, zA g 1), (2, zI x2), (3, zI x3), (4, zI (x1 % C)), (5, zI (x1 / C))]) dX10_along_14 (by decide) [1, 3, 4, 5, 0] rfl ?_
  refine zr_iload_n 1 dX10_along_16 rfl ?_
  obtain ⟨c10, W⟩ := W
  refine zr_if_ne (tgt := 34) dX10_along_17 (by decide) c10 (fun h => ?_) (fun h => ?_)
  · have W := W.1 h
    refine zr_iload_n 1 dX10_along_34 rfl ?_
    refine zr_iconst dX10_along_35 ?_
    refine zr_icmp_ne (tgt := 53) dX10_along_36 (by decide) c10 ⟨by decide, by decide⟩ (fun h => ?_) (fun h => ?_)
    · have W := W.1 h
      refine zr_iload_n 1 dX10_along_53 rfl ?_
      refine zr_iconst dX10_along_54 ?_
      refine zr_icmp_ne (tgt := 79) dX10_along_55 (by decide) c10 ⟨by decide, by decide⟩ (fun h => ?_) (fun h => ?_)
      · have W := W.1 h
        refine zr_iload 4 dX10_along_79 rfl ?_
        refine zr_iload_n 2 dX10_along_81 rfl ?_
        refine zr_aload_n 0 dX10_along_82 rfl ?_
        refine zt_callVi (As := []) (rest := [zI x3, zI (x1 / C)]) dX10_along_83 kX10_along_258 rfl rfl rfl rfl (Nat.le_of_ble_eq_true rfl) (c_rowsR c1) (fun r11 N13 h12 => ?_)
        rw [h12.1, h12.2]
        refine zr_iconst dX10_along_86 ?_
        refine zr_isub dX10_along_87 ?_
        refine zr_imul dX10_along_88 ?_
        refine zr_iadd dX10_along_89 ?_
        refine zr_aload_n 0 dX10_along_90 rfl ?_
        refine zt_callVi (As := []) (rest := [zI ((x1 / C) + (x3 * (R - 1)))]) dX10_along_91 kX10_along_258 rfl rfl rfl rfl (Nat.le_of_ble_eq_true rfl) (c_rowsR c1) (fun r14 N16 h15 => ?_)
        rw [h15.1, h15.2]
        obtain ⟨c17, W⟩ := W
        obtain ⟨c18, W⟩ := W
        refine zr_irem dX10_along_94 c17 c18 ?_
        refine zr_istore (l' := [(0, zA g 1), (4, zI (x1 % C)), (5, zI (((x1 / C) + (x3 * (R - 1))) % R))]) dX10_along_95 (by decide) [1, 4, 0] rfl ?_
        refine zr_aload_n 0 dX10_along_97 rfl ?_
        refine zt_callVi (As := []) (rest := []) dX10_along_98 kX10_along_255 rfl rfl rfl rfl (Nat.le_of_ble_eq_true rfl) (c_columnsC c1) (fun r19 N21 h20 => ?_)
        rw [h20.1, h20.2]
        refine zr_iload 2 dX10_along_101 rfl ?_
        refine zr_imul dX10_along_103 ?_
        refine zr_iload 1 dX10_along_104 rfl ?_
        refine zr_iadd dX10_along_106 ?_
        exact zt_iret dX10_along_107 rfl W
      · have W := W.2 h
        refine zr_iload 3 dX10_along_58 rfl ?_
        refine zr_iload_n 2 dX10_along_60 rfl ?_
        refine zr_aload_n 0 dX10_along_61 rfl ?_
        refine zt_callVi (As := []) (rest := [zI x3, zI (x1 % C)]) dX10_along_62 kX10_along_255 rfl rfl rfl rfl (Nat.le_of_ble_eq_true rfl) (c_columnsC c1) (fun r22 N24 h23 => ?_)
        rw [h23.1, h23.2]
        refine zr_iconst dX10_along_65 ?_
        refine zr_isub dX10_along_66 ?_
        refine zr_imul dX10_along_67 ?_
        refine zr_iadd dX10_along_68 ?_
        refine zr_aload_n 0 dX10_along_69 rfl ?_
        refine zt_callVi (As := []) (rest := [zI ((x1 % C) + (x3 * (C - 1)))]) dX10_along_70 kX10_along_255 rfl rfl rfl rfl (Nat.le_of_ble_eq_true rfl) (c_columnsC c1) (fun r25 N27 h26 => ?_)
        rw [h26.1, h26.2]
        obtain ⟨c28, W⟩ := W
        refine zr_irem dX10_along_73 c28 c6 ?_
        refine zr_istore (l' := [(0, zA g 1), (4, zI (((x1 % C) + (x3 * (C - 1))) % C)), (5, zI (x1 / C))]) dX10_along_74 (by decide) [1, 0, 4] rfl ?_
        refine zr_goto (tgt := 97) dX10_along_76 (by decide) ?_
        refine zr_aload_n 0 dX10_along_97 rfl ?_
        refine zt_callVi (As := []) (rest := []) dX10_along_98 kX10_along_255 rfl rfl rfl rfl (Nat.le_of_ble_eq_true rfl) (c_columnsC c1) (fun r29 N31 h30 => ?_)
        rw [h30.1, h30.2]
        refine zr_iload 2 dX10_along_101 rfl ?_
        refine zr_imul dX10_along_103 ?_
        refine zr_iload 1 dX10_along_104 rfl ?_
        refine zr_iadd dX10_along_106 ?_
        exact zt_iret dX10_along_107 rfl W
    · have W := W.2 h
      refine zr_iload 4 dX10_along_39 rfl ?_
      refine zr_iload_n 2 dX10_along_41 rfl ?_
      refine zr_iadd dX10_along_42 ?_
      refine zr_aload_n 0 dX10_along_43 rfl ?_
      refine zt_callVi (As := []) (rest := [zI ((x1 / C) + x3)]) dX10_along_44 kX10_along_258 rfl rfl rfl rfl (Nat.le_of_ble_eq_true rfl) (c_rowsR c1) (fun r32 N34 h33 => ?_)
      rw [h33.1, h33.2]
      obtain ⟨c35, W⟩ := W
      obtain ⟨c36, W⟩ := W
      refine zr_irem dX10_along_47 c35 c36 ?_
      refine zr_istore (l' := [(0, zA g 1), (4, zI (x1 % C)), (5, zI (((x1 / C) + x3) % R))]) dX10_along_48 (by decide) [1, 4, 0] rfl ?_
      refine zr_goto (tgt := 97) dX10_along_50 (by decide) ?_
      refine zr_aload_n 0 dX10_along_97 rfl ?_
      refine zt_callVi (As := []) (rest := []) dX10_along_98 kX10_along_255 rfl rfl rfl rfl (Nat.le_of_ble_eq_true rfl) (c_columnsC c1) (fun r37 N39 h38 => ?_)
      rw [h38.1, h38.2]
      refine zr_iload 2 dX10_along_101 rfl ?_
      refine zr_imul dX10_along_103 ?_
      refine zr_iload 1 dX10_along_104 rfl ?_
      refine zr_iadd dX10_along_106 ?_
      exact zt_iret dX10_along_107 rfl W
  · have W := W.2 h
    refine zr_iload 3 dX10_along_20 rfl ?_
    refine zr_iload_n 2 dX10_along_22 rfl ?_
    refine zr_iadd dX10_along_23 ?_
    refine zr_aload_n 0 dX10_along_24 rfl ?_
    refine zt_callVi (As := []) (rest := [zI ((x1 % C) + x3)]) dX10_along_25 kX10_along_255 rfl rfl rfl rfl (Nat.le_of_ble_eq_true rfl) (c_columnsC c1) (fun r40 N42 h41 => ?_)
    rw [h41.1, h41.2]
    obtain ⟨c43, W⟩ := W
    refine zr_irem dX10_along_28 c43 c6 ?_
    refine zr_istore (l' := [(0, zA g 1), (4, zI (((x1 % C) + x3) % C)), (5, zI (x1 / C))]) dX10_along_29 (by decide) [1, 0, 4] rfl ?_
    refine zr_goto (tgt := 97) dX10_along_31 (by decide) ?_
    refine zr_aload_n 0 dX10_along_97 rfl ?_
    refine zt_callVi (As := []) (rest := []) dX10_along_98 kX10_along_255 rfl rfl rfl rfl (Nat.le_of_ble_eq_true rfl) (c_columnsC c1) (fun r44 N46 h45 => ?_)
    rw [h45.1, h45.2]
    refine zr_iload 2 dX10_along_101 rfl ?_
    refine zr_imul dX10_along_103 ?_
    refine zr_iload 1 dX10_along_104 rfl ?_
    refine zr_iadd dX10_along_106 ?_
    exact zt_iret dX10_along_107 rfl W
theorem dX10_roundOf_0 : decode cX10_roundOf 0 = .ok (.iload_n 1, 1) := by decide +kernel
theorem dX10_roundOf_1 : decode cX10_roundOf 1 = .ok (.iconst 2, 1) := by decide +kernel
theorem dX10_roundOf_2 : decode cX10_roundOf 2 = .ok (.irem, 1) := by decide +kernel
theorem dX10_roundOf_3 : decode cX10_roundOf 3 = .ok (.ifCond .ne 10, 3) := by decide +kernel
theorem dX10_roundOf_6 : decode cX10_roundOf 6 = .ok (.aload_n 0, 1) := by decide +kernel
theorem dX10_roundOf_7 : decode cX10_roundOf 7 = .ok (.invokevirtual 255, 3) := by decide +kernel
theorem dX10_roundOf_10 : decode cX10_roundOf 10 = .ok (.goto 7, 3) := by decide +kernel
theorem dX10_roundOf_13 : decode cX10_roundOf 13 = .ok (.aload_n 0, 1) := by decide +kernel
theorem dX10_roundOf_14 : decode cX10_roundOf 14 = .ok (.invokevirtual 258, 3) := by decide +kernel
theorem dX10_roundOf_17 : decode cX10_roundOf 17 = .ok (.ireturn, 1) := by decide +kernel
set_option maxRecDepth 100000 in
theorem SX10_roundOf_0 {g : zG} {o : Bool} {C R : Int} {M : zM} {q : Int → zM → Prop} {x1 : Int} (W : (0 ≤ x1 ∧ x1 ≤ 2147483647) ∧ (-2147483648 ≤ (x1 % 2) ∧ (x1 % 2) ≤ 2147483647) ∧ (((x1 % 2) ≠ 0) → (zRf M C R) ∧ q R M) ∧ (((x1 % 2) = 0) → (zRf M C R) ∧ q C M)) : zT g (z2 o) mX10_roundOf (zQi (z2 o) q) 0 [(0, zA g 1), (1, zI x1)] [] M := by
  refine zr_iload_n 1 dX10_roundOf_0 rfl ?_
  refine zr_iconst dX10_roundOf_1 ?_
  obtain ⟨c1, W⟩ := W
  refine zr_irem dX10_roundOf_2 c1 ⟨by decide, by decide⟩ ?_
  obtain ⟨c2, W⟩ := W
  refine zr_if_ne (tgt := 13) dX10_roundOf_3 (by decide) c2 (fun h => ?_) (fun h => ?_)
  · have W := W.1 h
    refine zr_aload_n 0 dX10_roundOf_13 rfl ?_
    obtain ⟨c3, W⟩ := W
    refine zt_callVi (As := []) (rest := []) dX10_roundOf_14 kX10_roundOf_258 rfl rfl rfl rfl (Nat.le_of_ble_eq_true rfl) (c_rowsR c3) (fun r4 N6 h5 => ?_)
    rw [h5.1, h5.2]
    exact zt_iret dX10_roundOf_17 rfl W
  · have W := W.2 h
    refine zr_aload_n 0 dX10_roundOf_6 rfl ?_
    obtain ⟨c7, W⟩ := W
    refine zt_callVi (As := []) (rest := []) dX10_roundOf_7 kX10_roundOf_255 rfl rfl rfl rfl (Nat.le_of_ble_eq_true rfl) (c_columnsC c7) (fun r8 N10 h9 => ?_)
    rw [h9.1, h9.2]
    refine zr_goto (tgt := 17) dX10_roundOf_10 (by decide) ?_
    exact zt_iret dX10_roundOf_17 rfl W
theorem dX10_windOf_0 : decode cX10_windOf 0 = .ok (.iconst 0, 1) := by decide +kernel
theorem dX10_windOf_1 : decode cX10_windOf 1 = .ok (.istore_n 2, 1) := by decide +kernel
theorem dX10_windOf_2 : decode cX10_windOf 2 = .ok (.iconst 0, 1) := by decide +kernel
theorem dX10_windOf_3 : decode cX10_windOf 3 = .ok (.istore_n 3, 1) := by decide +kernel
theorem dX10_windOf_4 : decode cX10_windOf 4 = .ok (.iload_n 3, 1) := by decide +kernel
theorem dX10_windOf_5 : decode cX10_windOf 5 = .ok (.aload_n 0, 1) := by decide +kernel
theorem dX10_windOf_6 : decode cX10_windOf 6 = .ok (.getfield 20, 3) := by decide +kernel
theorem dX10_windOf_9 : decode cX10_windOf 9 = .ok (.bipush 9, 2) := by decide +kernel
theorem dX10_windOf_11 : decode cX10_windOf 11 = .ok (.iaload, 1) := by decide +kernel
theorem dX10_windOf_12 : decode cX10_windOf 12 = .ok (.if_icmp .ge 18, 3) := by decide +kernel
theorem dX10_windOf_15 : decode cX10_windOf 15 = .ok (.iload_n 2, 1) := by decide +kernel
theorem dX10_windOf_16 : decode cX10_windOf 16 = .ok (.aload_n 0, 1) := by decide +kernel
theorem dX10_windOf_17 : decode cX10_windOf 17 = .ok (.getfield 26, 3) := by decide +kernel
theorem dX10_windOf_20 : decode cX10_windOf 20 = .ok (.iload_n 3, 1) := by decide +kernel
theorem dX10_windOf_21 : decode cX10_windOf 21 = .ok (.iaload, 1) := by decide +kernel
theorem dX10_windOf_22 : decode cX10_windOf 22 = .ok (.iadd, 1) := by decide +kernel
theorem dX10_windOf_23 : decode cX10_windOf 23 = .ok (.istore_n 2, 1) := by decide +kernel
theorem dX10_windOf_24 : decode cX10_windOf 24 = .ok (.iinc 3 1, 3) := by decide +kernel
theorem dX10_windOf_27 : decode cX10_windOf 27 = .ok (.goto (-23), 3) := by decide +kernel
theorem dX10_windOf_30 : decode cX10_windOf 30 = .ok (.iload_n 1, 1) := by decide +kernel
theorem dX10_windOf_31 : decode cX10_windOf 31 = .ok (.iload_n 2, 1) := by decide +kernel
theorem dX10_windOf_32 : decode cX10_windOf 32 = .ok (.irem, 1) := by decide +kernel
theorem dX10_windOf_33 : decode cX10_windOf 33 = .ok (.istore_n 3, 1) := by decide +kernel
theorem dX10_windOf_34 : decode cX10_windOf 34 = .ok (.iconst 0, 1) := by decide +kernel
theorem dX10_windOf_35 : decode cX10_windOf 35 = .ok (.istore 4, 2) := by decide +kernel
theorem dX10_windOf_37 : decode cX10_windOf 37 = .ok (.iload_n 3, 1) := by decide +kernel
theorem dX10_windOf_38 : decode cX10_windOf 38 = .ok (.aload_n 0, 1) := by decide +kernel
theorem dX10_windOf_39 : decode cX10_windOf 39 = .ok (.getfield 26, 3) := by decide +kernel
theorem dX10_windOf_42 : decode cX10_windOf 42 = .ok (.iload 4, 2) := by decide +kernel
theorem dX10_windOf_44 : decode cX10_windOf 44 = .ok (.iaload, 1) := by decide +kernel
theorem dX10_windOf_45 : decode cX10_windOf 45 = .ok (.if_icmp .lt 19, 3) := by decide +kernel
theorem dX10_windOf_48 : decode cX10_windOf 48 = .ok (.iload_n 3, 1) := by decide +kernel
theorem dX10_windOf_49 : decode cX10_windOf 49 = .ok (.aload_n 0, 1) := by decide +kernel
theorem dX10_windOf_50 : decode cX10_windOf 50 = .ok (.getfield 26, 3) := by decide +kernel
theorem dX10_windOf_53 : decode cX10_windOf 53 = .ok (.iload 4, 2) := by decide +kernel
theorem dX10_windOf_55 : decode cX10_windOf 55 = .ok (.iaload, 1) := by decide +kernel
theorem dX10_windOf_56 : decode cX10_windOf 56 = .ok (.isub, 1) := by decide +kernel
theorem dX10_windOf_57 : decode cX10_windOf 57 = .ok (.istore_n 3, 1) := by decide +kernel
theorem dX10_windOf_58 : decode cX10_windOf 58 = .ok (.iinc 4 1, 3) := by decide +kernel
theorem dX10_windOf_61 : decode cX10_windOf 61 = .ok (.goto (-24), 3) := by decide +kernel
theorem dX10_windOf_64 : decode cX10_windOf 64 = .ok (.aload_n 0, 1) := by decide +kernel
theorem dX10_windOf_65 : decode cX10_windOf 65 = .ok (.getfield 23, 3) := by decide +kernel
theorem dX10_windOf_68 : decode cX10_windOf 68 = .ok (.iload 4, 2) := by decide +kernel
theorem dX10_windOf_70 : decode cX10_windOf 70 = .ok (.iaload, 1) := by decide +kernel
theorem dX10_windOf_71 : decode cX10_windOf 71 = .ok (.ireturn, 1) := by decide +kernel
set_option maxRecDepth 100000 in
theorem SX10_windOf_0 {g : zG} {o : Bool} {M : zM} {q : Int → zM → Prop} {x1 : Int} (W : zT g (z2 o) mX10_windOf (zQi (z2 o) q) 4 [(0, zA g 1), (1, zI x1), (2, zI 0), (3, zI 0)] [] M) : zT g (z2 o) mX10_windOf (zQi (z2 o) q) 0 [(0, zA g 1), (1, zI x1)] [] M := by
  refine zr_iconst dX10_windOf_0 ?_
  refine zr_istore_n (l' := [(0, zA g 1), (1, zI x1), (2, zI 0)]) dX10_windOf_1 (by decide) [1, 2, 0] rfl ?_
  refine zr_iconst dX10_windOf_2 ?_
  refine zr_istore_n (l' := [(0, zA g 1), (1, zI x1), (2, zI 0), (3, zI 0)]) dX10_windOf_3 (by decide) [1, 2, 3, 0] rfl ?_
  exact W
set_option maxRecDepth 100000 in
theorem SX10_windOf_4 {g : zG} {o : Bool} {M : zM} {q : Int → zM → Prop} {x1 x2 x3 : Int} (W : (-2147483648 ≤ x3 ∧ x3 ≤ 2147483647) ∧ (-2147483648 ≤ (M 3 9) ∧ (M 3 9) ≤ 2147483647) ∧ (((M 3 9) ≤ x3) → (0 ≤ x1 ∧ x1 ≤ 2147483647) ∧ (0 < x2 ∧ x2 ≤ 2147483647) ∧ zT g (z2 o) mX10_windOf (zQi (z2 o) q) 37 [(0, zA g 1), (3, zI (x1 % x2)), (4, zI 0)] [] M) ∧ ((¬ ((M 3 9) ≤ x3)) → (0 ≤ x3 ∧ x3 < 16) ∧ zT g (z2 o) mX10_windOf (zQi (z2 o) q) 4 [(0, zA g 1), (1, zI x1), (2, zI (x2 + (M 5 x3))), (3, zI (x3 + 1))] [] M)) : zT g (z2 o) mX10_windOf (zQi (z2 o) q) 4 [(0, zA g 1), (1, zI x1), (2, zI x2), (3, zI x3)] [] M := by
  refine zr_iload_n 3 dX10_windOf_4 rfl ?_
  refine zr_aload_n 0 dX10_windOf_5 rfl ?_
  refine zr_getr (b := 3) dX10_windOf_6 fX10_20 rfl rfl rfl (by decide) ?_
  refine zr_bipush dX10_windOf_9 (by decide) ?_
  refine zr_iald dX10_windOf_11 rfl (by decide) ⟨by decide, by decide⟩ ?_
  obtain ⟨c1, W⟩ := W
  obtain ⟨c2, W⟩ := W
  refine zr_icmp_ge (tgt := 30) dX10_windOf_12 (by decide) c1 c2 (fun h => ?_) (fun h => ?_)
  · have W := W.1 h
    refine zr_iload_n 1 dX10_windOf_30 rfl ?_
    refine zr_iload_n 2 dX10_windOf_31 rfl ?_
    obtain ⟨c3, W⟩ := W
    obtain ⟨c4, W⟩ := W
    refine zr_irem dX10_windOf_32 c3 c4 ?_
    refine zr_istore_n (l' := [(0, zA g 1), (3, zI (x1 % x2))]) dX10_windOf_33 (by decide) [1, 0] rfl ?_
    refine zr_iconst dX10_windOf_34 ?_
    refine zr_istore (l' := [(0, zA g 1), (3, zI (x1 % x2)), (4, zI 0)]) dX10_windOf_35 (by decide) [1, 2, 0] rfl ?_
    exact W
  · have W := W.2 h
    refine zr_iload_n 2 dX10_windOf_15 rfl ?_
    refine zr_aload_n 0 dX10_windOf_16 rfl ?_
    refine zr_getr (b := 5) dX10_windOf_17 fX10_26 rfl rfl rfl (by decide) ?_
    refine zr_iload_n 3 dX10_windOf_20 rfl ?_
    obtain ⟨c5, W⟩ := W
    refine zr_iald dX10_windOf_21 rfl (by decide) c5 ?_
    refine zr_iadd dX10_windOf_22 ?_
    refine zr_istore_n (l' := [(0, zA g 1), (1, zI x1), (2, zI (x2 + (M 5 x3))), (3, zI x3)]) dX10_windOf_23 (by decide) [1, 2, 0, 3] rfl ?_
    refine zr_iinc (q := 3) (l' := [(0, zA g 1), (1, zI x1), (2, zI (x2 + (M 5 x3))), (3, zI (x3 + 1))]) dX10_windOf_24 rfl (by decide) [1, 2, 3, 0] rfl ?_
    refine zr_goto (tgt := 4) dX10_windOf_27 (by decide) ?_
    exact W
set_option maxRecDepth 100000 in
theorem SX10_windOf_37 {g : zG} {o : Bool} {M : zM} {q : Int → zM → Prop} {x3 x4 : Int} (W : (0 ≤ x4 ∧ x4 < 16) ∧ (-2147483648 ≤ x3 ∧ x3 ≤ 2147483647) ∧ (-2147483648 ≤ (M 5 x4) ∧ (M 5 x4) ≤ 2147483647) ∧ ((x3 < (M 5 x4)) → q (M 4 x4) M) ∧ ((¬ (x3 < (M 5 x4))) → zT g (z2 o) mX10_windOf (zQi (z2 o) q) 37 [(0, zA g 1), (3, zI (x3 - (M 5 x4))), (4, zI (x4 + 1))] [] M)) : zT g (z2 o) mX10_windOf (zQi (z2 o) q) 37 [(0, zA g 1), (3, zI x3), (4, zI x4)] [] M := by
  refine zr_iload_n 1 dX10_windOf_37 rfl ?_
  refine zr_aload_n 0 dX10_windOf_38 rfl ?_
  refine zr_getr (b := 5) dX10_windOf_39 fX10_26 rfl rfl rfl (by decide) ?_
  refine zr_iload 2 dX10_windOf_42 rfl ?_
  obtain ⟨c1, W⟩ := W
  refine zr_iald dX10_windOf_44 rfl (by decide) c1 ?_
  obtain ⟨c2, W⟩ := W
  obtain ⟨c3, W⟩ := W
  refine zr_icmp_lt (tgt := 64) dX10_windOf_45 (by decide) c2 c3 (fun h => ?_) (fun h => ?_)
  · have W := W.1 h
    refine zr_aload_n 0 dX10_windOf_64 rfl ?_
    refine zr_getr (b := 4) dX10_windOf_65 fX10_23 rfl rfl rfl (by decide) ?_
    refine zr_iload 2 dX10_windOf_68 rfl ?_
    refine zr_iald dX10_windOf_70 rfl (by decide) c1 ?_
    exact zt_iret dX10_windOf_71 rfl W
  · have W := W.2 h
    refine zr_iload_n 1 dX10_windOf_48 rfl ?_
    refine zr_aload_n 0 dX10_windOf_49 rfl ?_
    refine zr_getr (b := 5) dX10_windOf_50 fX10_26 rfl rfl rfl (by decide) ?_
    refine zr_iload 2 dX10_windOf_53 rfl ?_
    refine zr_iald dX10_windOf_55 rfl (by decide) c1 ?_
    refine zr_isub dX10_windOf_56 ?_
    refine zr_istore_n (l' := [(0, zA g 1), (3, zI (x3 - (M 5 x4))), (4, zI x4)]) dX10_windOf_57 (by decide) [1, 0, 2] rfl ?_
    refine zr_iinc (q := 2) (l' := [(0, zA g 1), (3, zI (x3 - (M 5 x4))), (4, zI (x4 + 1))]) dX10_windOf_58 rfl (by decide) [1, 2, 0] rfl ?_
    refine zr_goto (tgt := 37) dX10_windOf_61 (by decide) ?_
    exact W
section RM
variable {g : zG} {o : Bool} {M : zM} {x y z w c k t C R : Int}
theorem c_cells (h : zRf M C R) : zKi g (z2 o) mX10_cells [zA g 1] M (fun r M' => r = C * R ∧ M' = M) :=
  zki_of rfl (Nat.le_of_ble_eq_true rfl) (SX10_cells_0 (C := C) (R := R) ⟨h, rfl, rfl⟩)
end RM
theorem dX10_isCell_0 : decode cX10_isCell 0 = .ok (.iload_n 1, 1) := by decide +kernel
theorem dX10_isCell_1 : decode cX10_isCell 1 = .ok (.iconst 0, 1) := by decide +kernel
theorem dX10_isCell_2 : decode cX10_isCell 2 = .ok (.aload_n 0, 1) := by decide +kernel
theorem dX10_isCell_3 : decode cX10_isCell 3 = .ok (.invokevirtual 226, 3) := by decide +kernel
theorem dX10_isCell_6 : decode cX10_isCell 6 = .ok (.iconst 1, 1) := by decide +kernel
theorem dX10_isCell_7 : decode cX10_isCell 7 = .ok (.isub, 1) := by decide +kernel
theorem dX10_isCell_8 : decode cX10_isCell 8 = .ok (.invokestatic 106, 3) := by decide +kernel
theorem dX10_isCell_11 : decode cX10_isCell 11 = .ok (.ireturn, 1) := by decide +kernel
set_option maxRecDepth 100000 in
theorem SX10_isCell_0 {g : zG} {o : Bool} {C R : Int} {M : zM} {q : Int → zM → Prop} {x1 : Int} (W : (zRf M C R) ∧ (-2147483648 ≤ x1 ∧ x1 ≤ 2147483647) ∧ (-2147483648 ≤ ((C * R) - 1) ∧ ((C * R) - 1) ≤ 2147483647) ∧ q (zb (0 ≤ x1 ∧ x1 ≤ ((C * R) - 1))) M) : zT g (z2 o) mX10_isCell (zQi (z2 o) q) 0 [(0, zA g 1), (1, zI x1)] [] M := by
  refine zr_iload_n 1 dX10_isCell_0 rfl ?_
  refine zr_iconst dX10_isCell_1 ?_
  refine zr_aload_n 0 dX10_isCell_2 rfl ?_
  obtain ⟨c1, W⟩ := W
  refine zt_callVi (As := []) (rest := [zI 0, zI x1]) dX10_isCell_3 kX10_isCell_226 rfl rfl rfl rfl (Nat.le_of_ble_eq_true rfl) (c_cells c1) (fun r2 N4 h3 => ?_)
  rw [h3.1, h3.2]
  refine zr_iconst dX10_isCell_6 ?_
  refine zr_isub dX10_isCell_7 ?_
  obtain ⟨c5, W⟩ := W
  obtain ⟨c6, W⟩ := W
  refine zt_callSi (As := [zI x1, zI 0, zI ((C * R) - 1)]) (rest := []) dX10_isCell_8 kX10_isCell_106 rfl rfl (Nat.le_of_ble_eq_true rfl) (c_isIn c5 ⟨by decide, by decide⟩ c6) (fun r7 N9 h8 => ?_)
  rw [h8.1, h8.2]
  exact zt_zret dX10_isCell_11 rfl (zb01 _) W
section RM
variable {g : zG} {o : Bool} {M : zM} {x y z w c k t C R : Int}
theorem c_along (h : zRf M C R) (hc : 0 ≤ c ∧ c < C * R) (hw : 0 ≤ w ∧ w ≤ 3) (hk : 0 ≤ k ∧ k ≤ 10000) : zKi g (z2 o) mX10_along [zA g 1, zI c, zI w, zI k] M (fun r M' => r = alg C R c w k ∧ M' = M) := by
  have hn := geo_n h.1
  have hG := h.1
  unfold Geo at hG
  obtain ⟨hx, hy, he⟩ := xy h.1 hc
  have k1 : 0 ≤ k * (C - 1) ∧ k * (C - 1) ≤ 110000 := by
    constructor
    · exact Int.mul_nonneg hk.1 (by omega)
    · have := Int.mul_le_mul hk.2 (show C - 1 ≤ 11 by omega) (by omega) (by decide); omega
  have k2 : 0 ≤ k * (R - 1) ∧ k * (R - 1) ≤ 70000 := by
    constructor
    · exact Int.mul_nonneg hk.1 (by omega)
    · have := Int.mul_le_mul hk.2 (show R - 1 ≤ 7 by omega) (by omega) (by decide); omega
  refine zki_of rfl (Nat.le_of_ble_eq_true rfl) (SX10_along_0 (C := C) (R := R) ⟨h, by omega, by omega, by omega, fun h1 => ⟨fun h2 => ⟨fun h3 => ⟨by omega, by omega, ?_, rfl⟩, fun h3 => ⟨by omega, ?_, rfl⟩⟩, fun h2 => ⟨by omega, by omega, ?_, rfl⟩⟩, fun h1 => ⟨by omega, ?_, rfl⟩⟩)
  · unfold alg; rw [if_neg h1, if_neg h2, if_neg h3]
  · subst h3; rw [alg2]
  · subst h2; rw [alg1]
  · subst h1; rw [alg0]
theorem c_roundR (h : zRf M C R) (hw : 0 ≤ w ∧ w ≤ 3) : zKi g (z2 o) mX10_roundOf [zA g 1, zI w] M (fun r M' => r = rnd C R w ∧ M' = M) := by
  refine zki_of rfl (Nat.le_of_ble_eq_true rfl) (SX10_roundOf_0 (C := C) (R := R) ⟨by omega, by omega, fun h1 => ⟨h, ?_, rfl⟩, fun h1 => ⟨h, ?_, rfl⟩⟩)
  · unfold rnd; rw [if_neg (by omega)]
  · unfold rnd; rw [if_pos (by omega)]
theorem c_isCell (h : zRf M C R) (hx : -2147483648 ≤ x ∧ x ≤ 2147483647) : zKi g (z2 o) mX10_isCell [zA g 1, zI x] M (fun r M' => r = zb (0 ≤ x ∧ x < C * R) ∧ M' = M) := by
  have hn := geo_n h.1
  exact zki_of rfl (Nat.le_of_ble_eq_true rfl) (SX10_isCell_0 (C := C) (R := R) ⟨h, hx, by omega, zb_congr (by omega), rfl⟩)
theorem c_windOf (h : zRf M C R) (ht : 0 ≤ t ∧ t ≤ 2147483647) : zKi g (z2 o) mX10_windOf [zA g 1, zI t] M (fun r M' => r = wnr M t ∧ M' = M) := by
  obtain ⟨-, -, -, -, hn, hw⟩ := h
  obtain ⟨n, hnn⟩ : ∃ n : Nat, M 3 9 = (n : Int) := znn (by omega)
  rw [hnn] at hw hn
  have hpos : 1 ≤ smt (M 5) n := by
    cases n with
    | zero => omega
    | succ k =>
      have h1 := smt_nn (f := M 5) (n := k) (fun i h0 h1 => by have := hw i h0 (by omega); omega)
      have h2 := hw k (by omega) (by omega)
      show 1 ≤ smt (M 5) k + M 5 k
      omega
  have hle : smt (M 5) n ≤ n * 99 := smt_le (fun i h0 h1 => (hw i h0 h1).2.2)
  have hmod := md (C := smt (M 5) n) (k := t) (by omega)
  have part2 : ∀ (j : Nat) (i l : Int), 0 ≤ i → i + j = n → 0 ≤ l → l < smt (fun z => M 5 (i + z)) j → l ≤ 2147483647 → zT g (z2 o) mX10_windOf (zQi (z2 o) (fun r M' => r = M 4 (wix (M 5) j i l) ∧ M' = M)) 37 [(0, zA g 1), (3, zI l), (4, zI i)] [] M := by
    intro j
    induction j with
    | zero => intro i l h0 h1 h2 h3 h4; simp [smt] at h3; omega
    | succ j ih =>
      intro i l h0 h1 h2 h3 h4
      have hi := hw i h0 (by omega)
      refine SX10_windOf_37 ⟨by omega, by omega, by omega, fun h5 => ?_, fun h5 => ?_⟩
      · have e : wix (M 5) (j + 1) i l = i := by
          show (if l < M 5 i then i else wix (M 5) j (i + 1) (l - M 5 i)) = _
          rw [if_pos (by omega)]
        rw [e]
        exact ⟨rfl, rfl⟩
      · have e : wix (M 5) (j + 1) i l = wix (M 5) j (i + 1) (l - M 5 i) := by
          show (if l < M 5 i then i else wix (M 5) j (i + 1) (l - M 5 i)) = _
          rw [if_neg (by omega)]
        rw [e]
        refine ih (i + 1) (l - M 5 i) (by omega) (by omega) (by omega) ?_ (by omega)
        have key : ∀ k : Nat, smt (fun z => M 5 (i + z)) (k + 1) = M 5 i + smt (fun z => M 5 (i + 1 + z)) k := by
          intro k
          induction k with
          | zero => simp [smt]
          | succ k ih2 =>
            show smt (fun z => M 5 (i + z)) (k + 1) + M 5 (i + ((k + 1 : Nat) : Int)) = M 5 i + (smt (fun z => M 5 (i + 1 + z)) k + M 5 (i + 1 + (k : Int)))
            rw [ih2, show i + ((k + 1 : Nat) : Int) = i + 1 + (k : Int) by omega]; omega
        rw [key] at h3; omega
  have fin := part2 n 0 (t % smt (M 5) n) (by omega) (by omega) hmod.1 (by simpa using hmod.2) (by omega)
  refine zki_of rfl (Nat.le_of_ble_eq_true rfl) (SX10_windOf_0 ?_)
  have ew : wnr M t = M 4 (wix (M 5) n 0 (t % smt (M 5) n)) := by unfold wnr; rw [hnn, Int.toNat_natCast]
  rw [ew]
  suffices hs : ∀ (j k : Nat), k + j = n → zT g (z2 o) mX10_windOf (zQi (z2 o) (fun r M' => r = M 4 (wix (M 5) n 0 (t % smt (M 5) n)) ∧ M' = M)) 4 [(0, zA g 1), (1, zI t), (2, zI (smt (M 5) k)), (3, zI k)] [] M from hs n 0 (by omega)
  intro j
  induction j with
  | zero =>
    intro k hk
    refine SX10_windOf_4 ?_
    rw [hnn, show k = n by omega]
    exact ⟨by omega, by omega, fun h => ⟨ht, by omega, fin⟩, fun h => by omega⟩
  | succ j ih =>
    intro k hk
    refine SX10_windOf_4 ?_
    rw [hnn]
    exact ⟨by omega, by omega, fun h => by omega, fun h => ⟨by omega, ih (k + 1) (by omega)⟩⟩
end RM
end
section
theorem dX10_windNow_0 : decode cX10_windNow 0 = .ok (.aload_n 0, 1) := by decide +kernel
theorem dX10_windNow_1 : decode cX10_windNow 1 = .ok (.aload_n 0, 1) := by decide +kernel
theorem dX10_windNow_2 : decode cX10_windNow 2 = .ok (.getfield 45, 3) := by decide +kernel
theorem dX10_windNow_5 : decode cX10_windNow 5 = .ok (.sipush 197, 3) := by decide +kernel
theorem dX10_windNow_8 : decode cX10_windNow 8 = .ok (.iaload, 1) := by decide +kernel
theorem dX10_windNow_9 : decode cX10_windNow 9 = .ok (.invokevirtual 270, 3) := by decide +kernel
theorem dX10_windNow_12 : decode cX10_windNow 12 = .ok (.ireturn, 1) := by decide +kernel
set_option maxRecDepth 100000 in
theorem SX10_windNow_0 {g : zG} {o : Bool} {C R : Int} {M : zM} {q : Int → zM → Prop} (W : (zRf M C R) ∧ (0 ≤ (M 11 197) ∧ (M 11 197) ≤ 2147483647) ∧ q (wnr M (M 11 197)) M) : zT g (z2 o) mX10_windNow (zQi (z2 o) q) 0 [(0, zA g 1)] [] M := by
  refine zr_aload_n 0 dX10_windNow_0 rfl ?_
  refine zr_aload_n 0 dX10_windNow_1 rfl ?_
  refine zr_getr (b := 11) dX10_windNow_2 fX10_45 rfl rfl rfl (by decide) ?_
  refine zr_sipush dX10_windNow_5 (by decide) ?_
  refine zr_iald dX10_windNow_8 rfl (by decide) ⟨by decide, by decide⟩ ?_
  obtain ⟨c1, W⟩ := W
  obtain ⟨c2, W⟩ := W
  refine zt_callVi (As := [zI (M 11 197)]) (rest := []) dX10_windNow_9 kX10_windNow_270 rfl rfl rfl rfl (Nat.le_of_ble_eq_true rfl) (c_windOf c1 c2) (fun r3 N5 h4 => ?_)
  rw [h4.1, h4.2]
  exact zt_iret dX10_windNow_12 rfl W
theorem dX10_wayTo_0 : decode cX10_wayTo 0 = .ok (.iconst 0, 1) := by decide +kernel
theorem dX10_wayTo_1 : decode cX10_wayTo 1 = .ok (.istore_n 3, 1) := by decide +kernel
theorem dX10_wayTo_2 : decode cX10_wayTo 2 = .ok (.iconst 1, 1) := by decide +kernel
theorem dX10_wayTo_3 : decode cX10_wayTo 3 = .ok (.istore 4, 2) := by decide +kernel
theorem dX10_wayTo_5 : decode cX10_wayTo 5 = .ok (.iload 4, 2) := by decide +kernel
theorem dX10_wayTo_7 : decode cX10_wayTo 7 = .ok (.iconst 4, 1) := by decide +kernel
theorem dX10_wayTo_8 : decode cX10_wayTo 8 = .ok (.if_icmp .ge 62, 3) := by decide +kernel
theorem dX10_wayTo_11 : decode cX10_wayTo 11 = .ok (.aload_n 0, 1) := by decide +kernel
theorem dX10_wayTo_12 : decode cX10_wayTo 12 = .ok (.getfield 45, 3) := by decide +kernel
theorem dX10_wayTo_15 : decode cX10_wayTo 15 = .ok (.aload_n 0, 1) := by decide +kernel
theorem dX10_wayTo_16 : decode cX10_wayTo 16 = .ok (.iload_n 1, 1) := by decide +kernel
theorem dX10_wayTo_17 : decode cX10_wayTo 17 = .ok (.iload 4, 2) := by decide +kernel
theorem dX10_wayTo_19 : decode cX10_wayTo 19 = .ok (.iconst 1, 1) := by decide +kernel
theorem dX10_wayTo_20 : decode cX10_wayTo 20 = .ok (.invokevirtual 282, 3) := by decide +kernel
theorem dX10_wayTo_23 : decode cX10_wayTo 23 = .ok (.iaload, 1) := by decide +kernel
theorem dX10_wayTo_24 : decode cX10_wayTo 24 = .ok (.istore 5, 2) := by decide +kernel
theorem dX10_wayTo_26 : decode cX10_wayTo 26 = .ok (.aload_n 0, 1) := by decide +kernel
theorem dX10_wayTo_27 : decode cX10_wayTo 27 = .ok (.getfield 45, 3) := by decide +kernel
theorem dX10_wayTo_30 : decode cX10_wayTo 30 = .ok (.aload_n 0, 1) := by decide +kernel
theorem dX10_wayTo_31 : decode cX10_wayTo 31 = .ok (.iload_n 1, 1) := by decide +kernel
theorem dX10_wayTo_32 : decode cX10_wayTo 32 = .ok (.iload_n 3, 1) := by decide +kernel
theorem dX10_wayTo_33 : decode cX10_wayTo 33 = .ok (.iconst 1, 1) := by decide +kernel
theorem dX10_wayTo_34 : decode cX10_wayTo 34 = .ok (.invokevirtual 282, 3) := by decide +kernel
theorem dX10_wayTo_37 : decode cX10_wayTo 37 = .ok (.iaload, 1) := by decide +kernel
theorem dX10_wayTo_38 : decode cX10_wayTo 38 = .ok (.istore 6, 2) := by decide +kernel
theorem dX10_wayTo_40 : decode cX10_wayTo 40 = .ok (.iload_n 2, 1) := by decide +kernel
theorem dX10_wayTo_41 : decode cX10_wayTo 41 = .ok (.ifCond .eq 13, 3) := by decide +kernel
theorem dX10_wayTo_44 : decode cX10_wayTo 44 = .ok (.iload 5, 2) := by decide +kernel
theorem dX10_wayTo_46 : decode cX10_wayTo 46 = .ok (.iload 6, 2) := by decide +kernel
theorem dX10_wayTo_48 : decode cX10_wayTo 48 = .ok (.if_icmp .le 16, 3) := by decide +kernel
theorem dX10_wayTo_51 : decode cX10_wayTo 51 = .ok (.goto 10, 3) := by decide +kernel
theorem dX10_wayTo_54 : decode cX10_wayTo 54 = .ok (.iload 5, 2) := by decide +kernel
theorem dX10_wayTo_56 : decode cX10_wayTo 56 = .ok (.iload 6, 2) := by decide +kernel
theorem dX10_wayTo_58 : decode cX10_wayTo 58 = .ok (.if_icmp .ge 6, 3) := by decide +kernel
theorem dX10_wayTo_61 : decode cX10_wayTo 61 = .ok (.iload 4, 2) := by decide +kernel
theorem dX10_wayTo_63 : decode cX10_wayTo 63 = .ok (.istore_n 3, 1) := by decide +kernel
theorem dX10_wayTo_64 : decode cX10_wayTo 64 = .ok (.iinc 4 1, 3) := by decide +kernel
theorem dX10_wayTo_67 : decode cX10_wayTo 67 = .ok (.goto (-62), 3) := by decide +kernel
theorem dX10_wayTo_70 : decode cX10_wayTo 70 = .ok (.iload_n 3, 1) := by decide +kernel
theorem dX10_wayTo_71 : decode cX10_wayTo 71 = .ok (.ireturn, 1) := by decide +kernel
set_option maxRecDepth 100000 in
theorem SX10_wayTo_0 {g : zG} {o : Bool} {M : zM} {q : Int → zM → Prop} {x1 x2 : Int} (W : zT g (z2 o) mX10_wayTo (zQi (z2 o) q) 5 [(0, zA g 1), (1, zI x1), (2, zI x2), (3, zI 0), (4, zI 1)] [] M) : zT g (z2 o) mX10_wayTo (zQi (z2 o) q) 0 [(0, zA g 1), (1, zI x1), (2, zI x2)] [] M := by
  refine zr_iconst dX10_wayTo_0 ?_
  refine zr_istore_n (l' := [(0, zA g 1), (1, zI x1), (2, zI x2), (3, zI 0)]) dX10_wayTo_1 (by decide) [1, 2, 3, 0] rfl ?_
  refine zr_iconst dX10_wayTo_2 ?_
  refine zr_istore (l' := [(0, zA g 1), (1, zI x1), (2, zI x2), (3, zI 0), (4, zI 1)]) dX10_wayTo_3 (by decide) [1, 2, 3, 4, 0] rfl ?_
  exact W
set_option maxRecDepth 100000 in
theorem SX10_wayTo_5 {g : zG} {o : Bool} {C R : Int} {M : zM} {q : Int → zM → Prop} {x1 x2 x3 x4 : Int} (W : (-2147483648 ≤ x4 ∧ x4 ≤ 2147483647) ∧ ((4 ≤ x4) → q x3 M) ∧ ((¬ (4 ≤ x4)) → (zRf M C R) ∧ (0 ≤ x1 ∧ x1 < C * R) ∧ (0 ≤ x4 ∧ x4 ≤ 3) ∧ (0 ≤ (alg C R x1 x4 1) ∧ (alg C R x1 x4 1) < 198) ∧ (0 ≤ x3 ∧ x3 ≤ 3) ∧ (0 ≤ (alg C R x1 x3 1) ∧ (alg C R x1 x3 1) < 198) ∧ (-2147483648 ≤ x2 ∧ x2 ≤ 2147483647) ∧ ((x2 = 0) → (-2147483648 ≤ (M 11 (alg C R x1 x4 1)) ∧ (M 11 (alg C R x1 x4 1)) ≤ 2147483647) ∧ (-2147483648 ≤ (M 11 (alg C R x1 x3 1)) ∧ (M 11 (alg C R x1 x3 1)) ≤ 2147483647) ∧ (((M 11 (alg C R x1 x3 1)) ≤ (M 11 (alg C R x1 x4 1))) → zT g (z2 o) mX10_wayTo (zQi (z2 o) q) 5 [(0, zA g 1), (1, zI x1), (2, zI x2), (3, zI x3), (4, zI (x4 + 1))] [] M) ∧ ((¬ ((M 11 (alg C R x1 x3 1)) ≤ (M 11 (alg C R x1 x4 1)))) → zT g (z2 o) mX10_wayTo (zQi (z2 o) q) 5 [(0, zA g 1), (1, zI x1), (2, zI x2), (3, zI x4), (4, zI (x4 + 1))] [] M)) ∧ ((¬ (x2 = 0)) → (-2147483648 ≤ (M 11 (alg C R x1 x4 1)) ∧ (M 11 (alg C R x1 x4 1)) ≤ 2147483647) ∧ (-2147483648 ≤ (M 11 (alg C R x1 x3 1)) ∧ (M 11 (alg C R x1 x3 1)) ≤ 2147483647) ∧ (((M 11 (alg C R x1 x4 1)) ≤ (M 11 (alg C R x1 x3 1))) → zT g (z2 o) mX10_wayTo (zQi (z2 o) q) 5 [(0, zA g 1), (1, zI x1), (2, zI x2), (3, zI x3), (4, zI (x4 + 1))] [] M) ∧ ((¬ ((M 11 (alg C R x1 x4 1)) ≤ (M 11 (alg C R x1 x3 1)))) → zT g (z2 o) mX10_wayTo (zQi (z2 o) q) 5 [(0, zA g 1), (1, zI x1), (2, zI x2), (3, zI x4), (4, zI (x4 + 1))] [] M)))) : zT g (z2 o) mX10_wayTo (zQi (z2 o) q) 5 [(0, zA g 1), (1, zI x1), (2, zI x2), (3, zI x3), (4, zI x4)] [] M := by
  refine zr_iload 4 dX10_wayTo_5 rfl ?_
  refine zr_iconst dX10_wayTo_7 ?_
  obtain ⟨c1, W⟩ := W
  refine zr_icmp_ge (tgt := 70) dX10_wayTo_8 (by decide) c1 ⟨by decide, by decide⟩ (fun h => ?_) (fun h => ?_)
  · have W := W.1 h
    refine zr_iload_n 3 dX10_wayTo_70 rfl ?_
    exact zt_iret dX10_wayTo_71 rfl W
  · have W := W.2 h
    refine zr_aload_n 0 dX10_wayTo_11 rfl ?_
    refine zr_getr (b := 11) dX10_wayTo_12 fX10_45 rfl rfl rfl (by decide) ?_
    refine zr_aload_n 0 dX10_wayTo_15 rfl ?_
    refine zr_iload_n 1 dX10_wayTo_16 rfl ?_
    refine zr_iload 4 dX10_wayTo_17 rfl ?_
    refine zr_iconst dX10_wayTo_19 ?_
    obtain ⟨c2, W⟩ := W
    obtain ⟨c3, W⟩ := W
    obtain ⟨c4, W⟩ := W
    refine zt_callVi (As := [zI x1, zI x4, zI 1]) (rest := [zA g 11]) dX10_wayTo_20 kX10_wayTo_282 rfl rfl rfl rfl (Nat.le_of_ble_eq_true rfl) (c_along c2 c3 c4 (by decide)) (fun r5 N7 h6 => ?_)
    rw [h6.1, h6.2]
    obtain ⟨c8, W⟩ := W
    refine zr_iald dX10_wayTo_23 rfl (by decide) c8 ?_
    refine zr_istore (l' := [(0, zA g 1), (1, zI x1), (2, zI x2), (3, zI x3), (4, zI x4), (5, zI (M 11 (alg C R x1 x4 1)))]) dX10_wayTo_24 (by decide) [1, 2, 3, 4, 5, 0] rfl ?_
    refine zr_aload_n 0 dX10_wayTo_26 rfl ?_
    refine zr_getr (b := 11) dX10_wayTo_27 fX10_45 rfl rfl rfl (by decide) ?_
    refine zr_aload_n 0 dX10_wayTo_30 rfl ?_
    refine zr_iload_n 1 dX10_wayTo_31 rfl ?_
    refine zr_iload_n 3 dX10_wayTo_32 rfl ?_
    refine zr_iconst dX10_wayTo_33 ?_
    obtain ⟨c9, W⟩ := W
    refine zt_callVi (As := [zI x1, zI x3, zI 1]) (rest := [zA g 11]) dX10_wayTo_34 kX10_wayTo_282 rfl rfl rfl rfl (Nat.le_of_ble_eq_true rfl) (c_along c2 c3 c9 (by decide)) (fun r10 N12 h11 => ?_)
    rw [h11.1, h11.2]
    obtain ⟨c13, W⟩ := W
    refine zr_iald dX10_wayTo_37 rfl (by decide) c13 ?_
    refine zr_istore (l' := [(0, zA g 1), (1, zI x1), (2, zI x2), (3, zI x3), (4, zI x4), (5, zI (M 11 (alg C R x1 x4 1))), (6, zI (M 11 (alg C R x1 x3 1)))]) dX10_wayTo_38 (by decide) [1, 2, 3, 4, 5, 6, 0] rfl ?_
    refine zr_iload_n 2 dX10_wayTo_40 rfl ?_
    obtain ⟨c14, W⟩ := W
    refine zr_if_eq (tgt := 54) dX10_wayTo_41 (by decide) c14 (fun h => ?_) (fun h => ?_)
    · have W := W.1 h
      refine zr_iload 5 dX10_wayTo_54 rfl ?_
      refine zr_iload 6 dX10_wayTo_56 rfl ?_
      obtain ⟨c15, W⟩ := W
      obtain ⟨c16, W⟩ := W
      refine zr_icmp_ge (tgt := 64) dX10_wayTo_58 (by decide) c15 c16 (fun h => ?_) (fun h => ?_)
      · have W := W.1 h
        refine zr_iinc (q := 4) (l' := [(0, zA g 1), (1, zI x1), (2, zI x2), (3, zI x3), (4, zI (x4 + 1))]) dX10_wayTo_64 rfl (by decide) [1, 2, 3, 4, 0] rfl ?_
        refine zr_goto (tgt := 5) dX10_wayTo_67 (by decide) ?_
        exact W
      · have W := W.2 h
        refine zr_iload 4 dX10_wayTo_61 rfl ?_
        refine zr_istore_n (l' := [(0, zA g 1), (1, zI x1), (2, zI x2), (3, zI x4), (4, zI x4)]) dX10_wayTo_63 (by decide) [1, 2, 3, 0, 4] rfl ?_
        refine zr_iinc (q := 4) (l' := [(0, zA g 1), (1, zI x1), (2, zI x2), (3, zI x4), (4, zI (x4 + 1))]) dX10_wayTo_64 rfl (by decide) [1, 2, 3, 4, 0] rfl ?_
        refine zr_goto (tgt := 5) dX10_wayTo_67 (by decide) ?_
        exact W
    · have W := W.2 h
      refine zr_iload 5 dX10_wayTo_44 rfl ?_
      refine zr_iload 6 dX10_wayTo_46 rfl ?_
      obtain ⟨c17, W⟩ := W
      obtain ⟨c18, W⟩ := W
      refine zr_icmp_le (tgt := 64) dX10_wayTo_48 (by decide) c17 c18 (fun h => ?_) (fun h => ?_)
      · have W := W.1 h
        refine zr_iinc (q := 4) (l' := [(0, zA g 1), (1, zI x1), (2, zI x2), (3, zI x3), (4, zI (x4 + 1))]) dX10_wayTo_64 rfl (by decide) [1, 2, 3, 4, 0] rfl ?_
        refine zr_goto (tgt := 5) dX10_wayTo_67 (by decide) ?_
        exact W
      · have W := W.2 h
        refine zr_goto (tgt := 61) dX10_wayTo_51 (by decide) ?_
        refine zr_iload 4 dX10_wayTo_61 rfl ?_
        refine zr_istore_n (l' := [(0, zA g 1), (1, zI x1), (2, zI x2), (3, zI x4), (4, zI x4)]) dX10_wayTo_63 (by decide) [1, 2, 3, 0, 4] rfl ?_
        refine zr_iinc (q := 4) (l' := [(0, zA g 1), (1, zI x1), (2, zI x2), (3, zI x4), (4, zI (x4 + 1))]) dX10_wayTo_64 rfl (by decide) [1, 2, 3, 4, 0] rfl ?_
        refine zr_goto (tgt := 5) dX10_wayTo_67 (by decide) ?_
        exact W
theorem dX10_crosses_0 : decode cX10_crosses 0 = .ok (.iload_n 2, 1) := by decide +kernel
theorem dX10_crosses_1 : decode cX10_crosses 1 = .ok (.iconst 2, 1) := by decide +kernel
theorem dX10_crosses_2 : decode cX10_crosses 2 = .ok (.irem, 1) := by decide +kernel
theorem dX10_crosses_3 : decode cX10_crosses 3 = .ok (.iconst 1, 1) := by decide +kernel
theorem dX10_crosses_4 : decode cX10_crosses 4 = .ok (.if_icmp .eq 11, 3) := by decide +kernel
theorem dX10_crosses_7 : decode cX10_crosses 7 = .ok (.aload_n 0, 1) := by decide +kernel
theorem dX10_crosses_8 : decode cX10_crosses 8 = .ok (.getfield 48, 3) := by decide +kernel
theorem dX10_crosses_11 : decode cX10_crosses 11 = .ok (.iconst (-1), 1) := by decide +kernel
theorem dX10_crosses_12 : decode cX10_crosses 12 = .ok (.if_icmp .ne 4, 3) := by decide +kernel
theorem dX10_crosses_15 : decode cX10_crosses 15 = .ok (.return_, 1) := by decide +kernel
theorem dX10_crosses_16 : decode cX10_crosses 16 = .ok (.iconst 0, 1) := by decide +kernel
theorem dX10_crosses_17 : decode cX10_crosses 17 = .ok (.istore 4, 2) := by decide +kernel
theorem dX10_crosses_19 : decode cX10_crosses 19 = .ok (.iload 4, 2) := by decide +kernel
theorem dX10_crosses_21 : decode cX10_crosses 21 = .ok (.iload_n 3, 1) := by decide +kernel
theorem dX10_crosses_22 : decode cX10_crosses 22 = .ok (.if_icmp .ge 88, 3) := by decide +kernel
theorem dX10_crosses_25 : decode cX10_crosses 25 = .ok (.aload_n 0, 1) := by decide +kernel
theorem dX10_crosses_26 : decode cX10_crosses 26 = .ok (.iload_n 1, 1) := by decide +kernel
theorem dX10_crosses_27 : decode cX10_crosses 27 = .ok (.iload_n 2, 1) := by decide +kernel
theorem dX10_crosses_28 : decode cX10_crosses 28 = .ok (.iload 4, 2) := by decide +kernel
theorem dX10_crosses_30 : decode cX10_crosses 30 = .ok (.invokevirtual 282, 3) := by decide +kernel
theorem dX10_crosses_33 : decode cX10_crosses 33 = .ok (.aload_n 0, 1) := by decide +kernel
theorem dX10_crosses_34 : decode cX10_crosses 34 = .ok (.invokevirtual 255, 3) := by decide +kernel
theorem dX10_crosses_37 : decode cX10_crosses 37 = .ok (.irem, 1) := by decide +kernel
theorem dX10_crosses_38 : decode cX10_crosses 38 = .ok (.istore 5, 2) := by decide +kernel
theorem dX10_crosses_40 : decode cX10_crosses 40 = .ok (.aload_n 0, 1) := by decide +kernel
theorem dX10_crosses_41 : decode cX10_crosses 41 = .ok (.iload_n 1, 1) := by decide +kernel
theorem dX10_crosses_42 : decode cX10_crosses 42 = .ok (.iload_n 2, 1) := by decide +kernel
theorem dX10_crosses_43 : decode cX10_crosses 43 = .ok (.iload 4, 2) := by decide +kernel
theorem dX10_crosses_45 : decode cX10_crosses 45 = .ok (.iconst 1, 1) := by decide +kernel
theorem dX10_crosses_46 : decode cX10_crosses 46 = .ok (.iadd, 1) := by decide +kernel
theorem dX10_crosses_47 : decode cX10_crosses 47 = .ok (.invokevirtual 282, 3) := by decide +kernel
theorem dX10_crosses_50 : decode cX10_crosses 50 = .ok (.aload_n 0, 1) := by decide +kernel
theorem dX10_crosses_51 : decode cX10_crosses 51 = .ok (.invokevirtual 255, 3) := by decide +kernel
theorem dX10_crosses_54 : decode cX10_crosses 54 = .ok (.irem, 1) := by decide +kernel
theorem dX10_crosses_55 : decode cX10_crosses 55 = .ok (.istore 6, 2) := by decide +kernel
theorem dX10_crosses_57 : decode cX10_crosses 57 = .ok (.iload_n 2, 1) := by decide +kernel
theorem dX10_crosses_58 : decode cX10_crosses 58 = .ok (.ifCond .ne 22, 3) := by decide +kernel
theorem dX10_crosses_61 : decode cX10_crosses 61 = .ok (.iload 6, 2) := by decide +kernel
theorem dX10_crosses_63 : decode cX10_crosses 63 = .ok (.aload_n 0, 1) := by decide +kernel
theorem dX10_crosses_64 : decode cX10_crosses 64 = .ok (.getfield 48, 3) := by decide +kernel
theorem dX10_crosses_67 : decode cX10_crosses 67 = .ok (.if_icmp .ne 13, 3) := by decide +kernel
theorem dX10_crosses_70 : decode cX10_crosses 70 = .ok (.aload_n 0, 1) := by decide +kernel
theorem dX10_crosses_71 : decode cX10_crosses 71 = .ok (.dup, 1) := by decide +kernel
theorem dX10_crosses_72 : decode cX10_crosses 72 = .ok (.getfield 267, 3) := by decide +kernel
theorem dX10_crosses_75 : decode cX10_crosses 75 = .ok (.iconst 1, 1) := by decide +kernel
theorem dX10_crosses_76 : decode cX10_crosses 76 = .ok (.iadd, 1) := by decide +kernel
theorem dX10_crosses_77 : decode cX10_crosses 77 = .ok (.putfield 267, 3) := by decide +kernel
theorem dX10_crosses_80 : decode cX10_crosses 80 = .ok (.iload_n 2, 1) := by decide +kernel
theorem dX10_crosses_81 : decode cX10_crosses 81 = .ok (.iconst 2, 1) := by decide +kernel
theorem dX10_crosses_82 : decode cX10_crosses 82 = .ok (.if_icmp .ne 22, 3) := by decide +kernel
theorem dX10_crosses_85 : decode cX10_crosses 85 = .ok (.iload 5, 2) := by decide +kernel
theorem dX10_crosses_87 : decode cX10_crosses 87 = .ok (.aload_n 0, 1) := by decide +kernel
theorem dX10_crosses_88 : decode cX10_crosses 88 = .ok (.getfield 48, 3) := by decide +kernel
theorem dX10_crosses_91 : decode cX10_crosses 91 = .ok (.if_icmp .ne 13, 3) := by decide +kernel
theorem dX10_crosses_94 : decode cX10_crosses 94 = .ok (.aload_n 0, 1) := by decide +kernel
theorem dX10_crosses_95 : decode cX10_crosses 95 = .ok (.dup, 1) := by decide +kernel
theorem dX10_crosses_96 : decode cX10_crosses 96 = .ok (.getfield 267, 3) := by decide +kernel
theorem dX10_crosses_99 : decode cX10_crosses 99 = .ok (.iconst 1, 1) := by decide +kernel
theorem dX10_crosses_100 : decode cX10_crosses 100 = .ok (.isub, 1) := by decide +kernel
theorem dX10_crosses_101 : decode cX10_crosses 101 = .ok (.putfield 267, 3) := by decide +kernel
theorem dX10_crosses_104 : decode cX10_crosses 104 = .ok (.iinc 4 1, 3) := by decide +kernel
theorem dX10_crosses_107 : decode cX10_crosses 107 = .ok (.goto (-88), 3) := by decide +kernel
theorem dX10_crosses_110 : decode cX10_crosses 110 = .ok (.return_, 1) := by decide +kernel
set_option maxRecDepth 100000 in
theorem SX10_crosses_0 {g : zG} {o : Bool} {M : zM} {q : zM → Prop} {x1 x2 x3 : Int} (W : (0 ≤ x2 ∧ x2 ≤ 2147483647) ∧ (-2147483648 ≤ (x2 % 2) ∧ (x2 % 2) ≤ 2147483647) ∧ (((x2 % 2) = 1) → q M) ∧ ((¬ ((x2 % 2) = 1)) → (-2147483648 ≤ (M 1 26) ∧ (M 1 26) ≤ 2147483647) ∧ (((M 1 26) ≠ (-1)) → zT g (z2 o) mX10_crosses (zQv (z2 o) q) 19 [(0, zA g 1), (1, zI x1), (2, zI x2), (3, zI x3), (4, zI 0)] [] M) ∧ (((M 1 26) = (-1)) → q M))) : zT g (z2 o) mX10_crosses (zQv (z2 o) q) 0 [(0, zA g 1), (1, zI x1), (2, zI x2), (3, zI x3)] [] M := by
  refine zr_iload_n 2 dX10_crosses_0 rfl ?_
  refine zr_iconst dX10_crosses_1 ?_
  obtain ⟨c1, W⟩ := W
  refine zr_irem dX10_crosses_2 c1 ⟨by decide, by decide⟩ ?_
  refine zr_iconst dX10_crosses_3 ?_
  obtain ⟨c2, W⟩ := W
  refine zr_icmp_eq (tgt := 15) dX10_crosses_4 (by decide) c2 ⟨by decide, by decide⟩ (fun h => ?_) (fun h => ?_)
  · have W := W.1 h
    exact zt_ret dX10_crosses_15 rfl W
  · have W := W.2 h
    refine zr_aload_n 0 dX10_crosses_7 rfl ?_
    refine zt_geti 26 rfl dX10_crosses_8 fX10_48 rfl (by decide) ?_
    refine zr_iconst dX10_crosses_11 ?_
    obtain ⟨c3, W⟩ := W
    refine zr_icmp_ne (tgt := 16) dX10_crosses_12 (by decide) c3 ⟨by decide, by decide⟩ (fun h => ?_) (fun h => ?_)
    · have W := W.1 h
      refine zr_iconst dX10_crosses_16 ?_
      refine zr_istore (l' := [(0, zA g 1), (1, zI x1), (2, zI x2), (3, zI x3), (4, zI 0)]) dX10_crosses_17 (by decide) [1, 2, 3, 4, 0] rfl ?_
      exact W
    · have W := W.2 h
      exact zt_ret dX10_crosses_15 rfl W
set_option maxRecDepth 100000 in
theorem SX10_crosses_19 {g : zG} {o : Bool} {C R : Int} {M : zM} {q : zM → Prop} {x1 x2 x3 x4 : Int} (W : (-2147483648 ≤ x4 ∧ x4 ≤ 2147483647) ∧ (-2147483648 ≤ x3 ∧ x3 ≤ 2147483647) ∧ ((x3 ≤ x4) → q M) ∧ ((¬ (x3 ≤ x4)) → (zRf M C R) ∧ (0 ≤ x1 ∧ x1 < C * R) ∧ (0 ≤ x2 ∧ x2 ≤ 3) ∧ (0 ≤ x4 ∧ x4 ≤ 10000) ∧ (0 ≤ (alg C R x1 x2 x4) ∧ (alg C R x1 x2 x4) ≤ 2147483647) ∧ (0 < C ∧ C ≤ 2147483647) ∧ (0 ≤ (x4 + 1) ∧ (x4 + 1) ≤ 10000) ∧ (0 ≤ (alg C R x1 x2 (x4 + 1)) ∧ (alg C R x1 x2 (x4 + 1)) ≤ 2147483647) ∧ (-2147483648 ≤ x2 ∧ x2 ≤ 2147483647) ∧ ((x2 ≠ 0) → ((x2 ≠ 2) → zT g (z2 o) mX10_crosses (zQv (z2 o) q) 19 [(0, zA g 1), (1, zI x1), (2, zI x2), (3, zI x3), (4, zI (x4 + 1))] [] M) ∧ ((x2 = 2) → (-2147483648 ≤ ((alg C R x1 x2 x4) % C) ∧ ((alg C R x1 x2 x4) % C) ≤ 2147483647) ∧ (-2147483648 ≤ (M 1 26) ∧ (M 1 26) ≤ 2147483647) ∧ ((((alg C R x1 x2 x4) % C) ≠ (M 1 26)) → zT g (z2 o) mX10_crosses (zQv (z2 o) q) 19 [(0, zA g 1), (1, zI x1), (2, zI x2), (3, zI x3), (4, zI (x4 + 1))] [] M) ∧ ((((alg C R x1 x2 x4) % C) = (M 1 26)) → zT g (z2 o) mX10_crosses (zQv (z2 o) q) 19 [(0, zA g 1), (1, zI x1), (2, zI x2), (3, zI x3), (4, zI (x4 + 1))] [] (zu M 1 25 ((M 1 25) - 1))))) ∧ ((x2 = 0) → (-2147483648 ≤ ((alg C R x1 x2 (x4 + 1)) % C) ∧ ((alg C R x1 x2 (x4 + 1)) % C) ≤ 2147483647) ∧ (-2147483648 ≤ (M 1 26) ∧ (M 1 26) ≤ 2147483647) ∧ ((((alg C R x1 x2 (x4 + 1)) % C) ≠ (M 1 26)) → ((x2 ≠ 2) → zT g (z2 o) mX10_crosses (zQv (z2 o) q) 19 [(0, zA g 1), (1, zI x1), (2, zI x2), (3, zI x3), (4, zI (x4 + 1))] [] M) ∧ ((x2 = 2) → (-2147483648 ≤ ((alg C R x1 x2 x4) % C) ∧ ((alg C R x1 x2 x4) % C) ≤ 2147483647) ∧ ((((alg C R x1 x2 x4) % C) ≠ (M 1 26)) → zT g (z2 o) mX10_crosses (zQv (z2 o) q) 19 [(0, zA g 1), (1, zI x1), (2, zI x2), (3, zI x3), (4, zI (x4 + 1))] [] M) ∧ ((((alg C R x1 x2 x4) % C) = (M 1 26)) → zT g (z2 o) mX10_crosses (zQv (z2 o) q) 19 [(0, zA g 1), (1, zI x1), (2, zI x2), (3, zI x3), (4, zI (x4 + 1))] [] (zu M 1 25 ((M 1 25) - 1))))) ∧ ((((alg C R x1 x2 (x4 + 1)) % C) = (M 1 26)) → ((x2 ≠ 2) → zT g (z2 o) mX10_crosses (zQv (z2 o) q) 19 [(0, zA g 1), (1, zI x1), (2, zI x2), (3, zI x3), (4, zI (x4 + 1))] [] (zu M 1 25 ((M 1 25) + 1))) ∧ ((x2 = 2) → (-2147483648 ≤ ((alg C R x1 x2 x4) % C) ∧ ((alg C R x1 x2 x4) % C) ≤ 2147483647) ∧ (-2147483648 ≤ ((zu M 1 25 ((M 1 25) + 1)) 1 26) ∧ ((zu M 1 25 ((M 1 25) + 1)) 1 26) ≤ 2147483647) ∧ ((((alg C R x1 x2 x4) % C) ≠ ((zu M 1 25 ((M 1 25) + 1)) 1 26)) → zT g (z2 o) mX10_crosses (zQv (z2 o) q) 19 [(0, zA g 1), (1, zI x1), (2, zI x2), (3, zI x3), (4, zI (x4 + 1))] [] (zu M 1 25 ((M 1 25) + 1))) ∧ ((((alg C R x1 x2 x4) % C) = ((zu M 1 25 ((M 1 25) + 1)) 1 26)) → ∀ N31 : zM, N31 = zu M 1 25 ((M 1 25) + 1) → zT g (z2 o) mX10_crosses (zQv (z2 o) q) 19 [(0, zA g 1), (1, zI x1), (2, zI x2), (3, zI x3), (4, zI (x4 + 1))] [] (zu N31 1 25 ((N31 1 25) - 1)))))))) : zT g (z2 o) mX10_crosses (zQv (z2 o) q) 19 [(0, zA g 1), (1, zI x1), (2, zI x2), (3, zI x3), (4, zI x4)] [] M := by
  refine zr_iload 4 dX10_crosses_19 rfl ?_
  refine zr_iload_n 3 dX10_crosses_21 rfl ?_
  obtain ⟨c1, W⟩ := W
  obtain ⟨c2, W⟩ := W
  refine zr_icmp_ge (tgt := 110) dX10_crosses_22 (by decide) c1 c2 (fun h => ?_) (fun h => ?_)
  · have W := W.1 h
    exact zt_ret dX10_crosses_110 rfl W
  · have W := W.2 h
    refine zr_aload_n 0 dX10_crosses_25 rfl ?_
    refine zr_iload_n 1 dX10_crosses_26 rfl ?_
    refine zr_iload_n 2 dX10_crosses_27 rfl ?_
    refine zr_iload 4 dX10_crosses_28 rfl ?_
    obtain ⟨c3, W⟩ := W
    obtain ⟨c4, W⟩ := W
    obtain ⟨c5, W⟩ := W
    obtain ⟨c6, W⟩ := W
    refine zt_callVi (As := [zI x1, zI x2, zI x4]) (rest := []) dX10_crosses_30 kX10_crosses_282 rfl rfl rfl rfl (Nat.le_of_ble_eq_true rfl) (c_along c3 c4 c5 c6) (fun r7 N9 h8 => ?_)
    rw [h8.1, h8.2]
    refine zr_aload_n 0 dX10_crosses_33 rfl ?_
    refine zt_callVi (As := []) (rest := [zI (alg C R x1 x2 x4)]) dX10_crosses_34 kX10_crosses_255 rfl rfl rfl rfl (Nat.le_of_ble_eq_true rfl) (c_columnsC c3) (fun r10 N12 h11 => ?_)
    rw [h11.1, h11.2]
    obtain ⟨c13, W⟩ := W
    obtain ⟨c14, W⟩ := W
    refine zr_irem dX10_crosses_37 c13 c14 ?_
    refine zr_istore (l' := [(0, zA g 1), (1, zI x1), (2, zI x2), (3, zI x3), (4, zI x4), (5, zI ((alg C R x1 x2 x4) % C))]) dX10_crosses_38 (by decide) [1, 2, 3, 4, 5, 0] rfl ?_
    refine zr_aload_n 0 dX10_crosses_40 rfl ?_
    refine zr_iload_n 1 dX10_crosses_41 rfl ?_
    refine zr_iload_n 2 dX10_crosses_42 rfl ?_
    refine zr_iload 4 dX10_crosses_43 rfl ?_
    refine zr_iconst dX10_crosses_45 ?_
    refine zr_iadd dX10_crosses_46 ?_
    obtain ⟨c15, W⟩ := W
    refine zt_callVi (As := [zI x1, zI x2, zI (x4 + 1)]) (rest := []) dX10_crosses_47 kX10_crosses_282 rfl rfl rfl rfl (Nat.le_of_ble_eq_true rfl) (c_along c3 c4 c5 c15) (fun r16 N18 h17 => ?_)
    rw [h17.1, h17.2]
    refine zr_aload_n 0 dX10_crosses_50 rfl ?_
    refine zt_callVi (As := []) (rest := [zI (alg C R x1 x2 (x4 + 1))]) dX10_crosses_51 kX10_crosses_255 rfl rfl rfl rfl (Nat.le_of_ble_eq_true rfl) (c_columnsC c3) (fun r19 N21 h20 => ?_)
    rw [h20.1, h20.2]
    obtain ⟨c22, W⟩ := W
    refine zr_irem dX10_crosses_54 c22 c14 ?_
    refine zr_istore (l' := [(0, zA g 1), (1, zI x1), (2, zI x2), (3, zI x3), (4, zI x4), (5, zI ((alg C R x1 x2 x4) % C)), (6, zI ((alg C R x1 x2 (x4 + 1)) % C))]) dX10_crosses_55 (by decide) [1, 2, 3, 4, 5, 6, 0] rfl ?_
    refine zr_iload_n 2 dX10_crosses_57 rfl ?_
    obtain ⟨c23, W⟩ := W
    refine zr_if_ne (tgt := 80) dX10_crosses_58 (by decide) c23 (fun h => ?_) (fun h => ?_)
    · have W := W.1 h
      refine zr_iload_n 2 dX10_crosses_80 rfl ?_
      refine zr_iconst dX10_crosses_81 ?_
      refine zr_icmp_ne (tgt := 104) dX10_crosses_82 (by decide) c23 ⟨by decide, by decide⟩ (fun h => ?_) (fun h => ?_)
      · have W := W.1 h
        refine zr_iinc (q := 4) (l' := [(0, zA g 1), (1, zI x1), (2, zI x2), (3, zI x3), (4, zI (x4 + 1))]) dX10_crosses_104 rfl (by decide) [1, 2, 3, 4, 0] rfl ?_
        refine zr_goto (tgt := 19) dX10_crosses_107 (by decide) ?_
        exact W
      · have W := W.2 h
        refine zr_iload 5 dX10_crosses_85 rfl ?_
        refine zr_aload_n 0 dX10_crosses_87 rfl ?_
        refine zt_geti 26 rfl dX10_crosses_88 fX10_48 rfl (by decide) ?_
        obtain ⟨c24, W⟩ := W
        obtain ⟨c25, W⟩ := W
        refine zr_icmp_ne (tgt := 104) dX10_crosses_91 (by decide) c24 c25 (fun h => ?_) (fun h => ?_)
        · have W := W.1 h
          refine zr_iinc (q := 4) (l' := [(0, zA g 1), (1, zI x1), (2, zI x2), (3, zI x3), (4, zI (x4 + 1))]) dX10_crosses_104 rfl (by decide) [1, 2, 3, 4, 0] rfl ?_
          refine zr_goto (tgt := 19) dX10_crosses_107 (by decide) ?_
          exact W
        · have W := W.2 h
          refine zr_aload_n 0 dX10_crosses_94 rfl ?_
          refine zr_dup dX10_crosses_95 rfl ?_
          refine zt_geti 25 rfl dX10_crosses_96 fX10_267 rfl (by decide) ?_
          refine zr_iconst dX10_crosses_99 ?_
          refine zr_isub dX10_crosses_100 ?_
          refine zt_puti 25 rfl dX10_crosses_101 fX10_267 lcX10 ltX10_25 rfl rfl ?_
          refine zr_iinc (q := 4) (l' := [(0, zA g 1), (1, zI x1), (2, zI x2), (3, zI x3), (4, zI (x4 + 1))]) dX10_crosses_104 rfl (by decide) [1, 2, 3, 4, 0] rfl ?_
          refine zr_goto (tgt := 19) dX10_crosses_107 (by decide) ?_
          exact W
    · have W := W.2 h
      refine zr_iload 6 dX10_crosses_61 rfl ?_
      refine zr_aload_n 0 dX10_crosses_63 rfl ?_
      refine zt_geti 26 rfl dX10_crosses_64 fX10_48 rfl (by decide) ?_
      obtain ⟨c26, W⟩ := W
      obtain ⟨c27, W⟩ := W
      refine zr_icmp_ne (tgt := 80) dX10_crosses_67 (by decide) c26 c27 (fun h => ?_) (fun h => ?_)
      · have W := W.1 h
        refine zr_iload_n 2 dX10_crosses_80 rfl ?_
        refine zr_iconst dX10_crosses_81 ?_
        refine zr_icmp_ne (tgt := 104) dX10_crosses_82 (by decide) c23 ⟨by decide, by decide⟩ (fun h => ?_) (fun h => ?_)
        · have W := W.1 h
          refine zr_iinc (q := 4) (l' := [(0, zA g 1), (1, zI x1), (2, zI x2), (3, zI x3), (4, zI (x4 + 1))]) dX10_crosses_104 rfl (by decide) [1, 2, 3, 4, 0] rfl ?_
          refine zr_goto (tgt := 19) dX10_crosses_107 (by decide) ?_
          exact W
        · have W := W.2 h
          refine zr_iload 5 dX10_crosses_85 rfl ?_
          refine zr_aload_n 0 dX10_crosses_87 rfl ?_
          refine zt_geti 26 rfl dX10_crosses_88 fX10_48 rfl (by decide) ?_
          obtain ⟨c28, W⟩ := W
          refine zr_icmp_ne (tgt := 104) dX10_crosses_91 (by decide) c28 c27 (fun h => ?_) (fun h => ?_)
          · have W := W.1 h
            refine zr_iinc (q := 4) (l' := [(0, zA g 1), (1, zI x1), (2, zI x2), (3, zI x3), (4, zI (x4 + 1))]) dX10_crosses_104 rfl (by decide) [1, 2, 3, 4, 0] rfl ?_
            refine zr_goto (tgt := 19) dX10_crosses_107 (by decide) ?_
            exact W
          · have W := W.2 h
            refine zr_aload_n 0 dX10_crosses_94 rfl ?_
            refine zr_dup dX10_crosses_95 rfl ?_
            refine zt_geti 25 rfl dX10_crosses_96 fX10_267 rfl (by decide) ?_
            refine zr_iconst dX10_crosses_99 ?_
            refine zr_isub dX10_crosses_100 ?_
            refine zt_puti 25 rfl dX10_crosses_101 fX10_267 lcX10 ltX10_25 rfl rfl ?_
            refine zr_iinc (q := 4) (l' := [(0, zA g 1), (1, zI x1), (2, zI x2), (3, zI x3), (4, zI (x4 + 1))]) dX10_crosses_104 rfl (by decide) [1, 2, 3, 4, 0] rfl ?_
            refine zr_goto (tgt := 19) dX10_crosses_107 (by decide) ?_
            exact W
      · have W := W.2 h
        refine zr_aload_n 0 dX10_crosses_70 rfl ?_
        refine zr_dup dX10_crosses_71 rfl ?_
        refine zt_geti 25 rfl dX10_crosses_72 fX10_267 rfl (by decide) ?_
        refine zr_iconst dX10_crosses_75 ?_
        refine zr_iadd dX10_crosses_76 ?_
        refine zt_puti 25 rfl dX10_crosses_77 fX10_267 lcX10 ltX10_25 rfl rfl ?_
        refine zr_iload_n 2 dX10_crosses_80 rfl ?_
        refine zr_iconst dX10_crosses_81 ?_
        refine zr_icmp_ne (tgt := 104) dX10_crosses_82 (by decide) c23 ⟨by decide, by decide⟩ (fun h => ?_) (fun h => ?_)
        · have W := W.1 h
          refine zr_iinc (q := 4) (l' := [(0, zA g 1), (1, zI x1), (2, zI x2), (3, zI x3), (4, zI (x4 + 1))]) dX10_crosses_104 rfl (by decide) [1, 2, 3, 4, 0] rfl ?_
          refine zr_goto (tgt := 19) dX10_crosses_107 (by decide) ?_
          exact W
        · have W := W.2 h
          refine zr_iload 5 dX10_crosses_85 rfl ?_
          refine zr_aload_n 0 dX10_crosses_87 rfl ?_
          refine zt_geti 26 rfl dX10_crosses_88 fX10_48 rfl (by decide) ?_
          obtain ⟨c29, W⟩ := W
          obtain ⟨c30, W⟩ := W
          refine zr_icmp_ne (tgt := 104) dX10_crosses_91 (by decide) c29 c30 (fun h => ?_) (fun h => ?_)
          · have W := W.1 h
            refine zr_iinc (q := 4) (l' := [(0, zA g 1), (1, zI x1), (2, zI x2), (3, zI x3), (4, zI (x4 + 1))]) dX10_crosses_104 rfl (by decide) [1, 2, 3, 4, 0] rfl ?_
            refine zr_goto (tgt := 19) dX10_crosses_107 (by decide) ?_
            exact W
          · have W := W.2 h
            refine zr_aload_n 0 dX10_crosses_94 rfl ?_
            refine zr_dup dX10_crosses_95 rfl ?_
            refine zt_geti 25 rfl dX10_crosses_96 fX10_267 rfl (by decide) ?_
            refine zr_iconst dX10_crosses_99 ?_
            refine zr_isub dX10_crosses_100 ?_
            obtain ⟨N31, e32⟩ : ∃ N : zM, N = zu M 1 25 ((M 1 25) + 1) := ⟨_, rfl⟩
            rw [← e32]
            have W := W N31 e32
            refine zt_puti 25 rfl dX10_crosses_101 fX10_267 lcX10 ltX10_25 rfl rfl ?_
            refine zr_iinc (q := 4) (l' := [(0, zA g 1), (1, zI x1), (2, zI x2), (3, zI x3), (4, zI (x4 + 1))]) dX10_crosses_104 rfl (by decide) [1, 2, 3, 4, 0] rfl ?_
            refine zr_goto (tgt := 19) dX10_crosses_107 (by decide) ?_
            exact W
/-- the way to the first of the highest, of the lowest ones beside -/
def pmx (C R : Int) (H : Int → Int) (c : Int) : Nat → Int
  | 0 => 0
  | n + 1 => if H (alg C R c (pmx C R H c n) 1) < H (alg C R c ((n + 1 : Nat) : Int) 1) then ((n + 1 : Nat) : Int) else pmx C R H c n
def pmn (C R : Int) (H : Int → Int) (c : Int) : Nat → Int
  | 0 => 0
  | n + 1 => if H (alg C R c ((n + 1 : Nat) : Int) 1) < H (alg C R c (pmn C R H c n) 1) then ((n + 1 : Nat) : Int) else pmn C R H c n
/-- what crossed the line is what crosses its column -/
def rX (M : zM) (X : Int → Int) : Prop := M 1 26 = -1 ∨ M 1 25 = X (M 1 26)
section RN
variable {g : zG} {o : Bool} {M : zM} {x y z w c k t C R : Int} {H X : Int → Int}
theorem pmx_in (n : Nat) : 0 ≤ pmx C R H c n ∧ pmx C R H c n ≤ n := by
  induction n with
  | zero => exact ⟨Int.le_refl 0, Int.le_refl 0⟩
  | succ n ih => unfold pmx; split <;> omega
theorem pmn_in (n : Nat) : 0 ≤ pmn C R H c n ∧ pmn C R H c n ≤ n := by
  induction n with
  | zero => exact ⟨Int.le_refl 0, Int.le_refl 0⟩
  | succ n ih => unfold pmn; split <;> omega
theorem c_windNow (h : zRf M C R) (ht : 0 ≤ M 11 197 ∧ M 11 197 ≤ 2147483647) : zKi g (z2 o) mX10_windNow [zA g 1] M (fun r M' => r = wnr M (M 11 197) ∧ M' = M) :=
  zki_of rfl (Nat.le_of_ble_eq_true rfl) (SX10_windNow_0 (C := C) (R := R) ⟨h, ht, rfl, rfl⟩)
theorem c_wayToH (h : zRf M C R) (hc : 0 ≤ c ∧ c < C * R) (hB : Bd (M 11)) : zKi g (z2 o) mX10_wayTo [zA g 1, zI c, zI 1] M (fun r M' => r = pmx C R (M 11) c 3 ∧ M' = M) := by
  have hn := geo_n h.1
  refine zki_of rfl (Nat.le_of_ble_eq_true rfl) (SX10_wayTo_0 ?_)
  suffices hs : ∀ (j k : Nat), k + j = 3 → zT g (z2 o) mX10_wayTo (zQi (z2 o) (fun r M' => r = pmx C R (M 11) c 3 ∧ M' = M)) 5 [(0, zA g 1), (1, zI c), (2, zI 1), (3, zI (pmx C R (M 11) c k)), (4, zI ((k + 1 : Nat) : Int))] [] M from hs 3 0 rfl
  intro j
  induction j with
  | zero => intro k hk; exact SX10_wayTo_5 (C := C) (R := R) ⟨by omega, fun h4 => ⟨by rw [show k = 3 by omega], rfl⟩, fun h4 => by omega⟩
  | succ j ih =>
    intro k hk
    have p := pmx_in (C := C) (R := R) (H := M 11) (c := c) k
    have a1 := alg_in (w := ((k + 1 : Nat) : Int)) (k := 1) h.1 hc
    have a2 := alg_in (w := pmx C R (M 11) c k) (k := 1) h.1 hc
    have b1 := hB _ a1.1 (by omega)
    have b2 := hB _ a2.1 (by omega)
    have hk2 := ih (k + 1) (by omega)
    refine SX10_wayTo_5 ⟨by omega, fun h4 => by omega, fun h4 => ⟨h, hc, by omega, by omega, by omega, by omega, by decide, fun h5 => absurd h5 (by decide), fun h5 => ⟨by omega, by omega, fun h6 => ?_, fun h6 => ?_⟩⟩⟩
    · have e : pmx C R (M 11) c (k + 1) = pmx C R (M 11) c k := by show (if _ then _ else _) = _; rw [if_neg (by omega)]
      rw [e] at hk2; exact hk2
    · have e : pmx C R (M 11) c (k + 1) = ((k + 1 : Nat) : Int) := by show (if _ then _ else _) = _; rw [if_pos (by omega)]
      rw [e] at hk2; exact hk2
theorem c_wayToL (h : zRf M C R) (hc : 0 ≤ c ∧ c < C * R) (hB : Bd (M 11)) : zKi g (z2 o) mX10_wayTo [zA g 1, zI c, zI 0] M (fun r M' => r = pmn C R (M 11) c 3 ∧ M' = M) := by
  have hn := geo_n h.1
  refine zki_of rfl (Nat.le_of_ble_eq_true rfl) (SX10_wayTo_0 ?_)
  suffices hs : ∀ (j k : Nat), k + j = 3 → zT g (z2 o) mX10_wayTo (zQi (z2 o) (fun r M' => r = pmn C R (M 11) c 3 ∧ M' = M)) 5 [(0, zA g 1), (1, zI c), (2, zI 0), (3, zI (pmn C R (M 11) c k)), (4, zI ((k + 1 : Nat) : Int))] [] M from hs 3 0 rfl
  intro j
  induction j with
  | zero => intro k hk; exact SX10_wayTo_5 (C := C) (R := R) ⟨by omega, fun h4 => ⟨by rw [show k = 3 by omega], rfl⟩, fun h4 => by omega⟩
  | succ j ih =>
    intro k hk
    have p := pmn_in (C := C) (R := R) (H := M 11) (c := c) k
    have a1 := alg_in (w := ((k + 1 : Nat) : Int)) (k := 1) h.1 hc
    have a2 := alg_in (w := pmn C R (M 11) c k) (k := 1) h.1 hc
    have b1 := hB _ a1.1 (by omega)
    have b2 := hB _ a2.1 (by omega)
    have hk2 := ih (k + 1) (by omega)
    refine SX10_wayTo_5 ⟨by omega, fun h4 => by omega, fun h4 => ⟨h, hc, by omega, by omega, by omega, by omega, by decide, fun h5 => ⟨by omega, by omega, fun h6 => ?_, fun h6 => ?_⟩, fun h5 => absurd rfl h5⟩⟩
    · have e : pmn C R (M 11) c (k + 1) = pmn C R (M 11) c k := by show (if _ then _ else _) = _; rw [if_neg (by omega)]
      rw [e] at hk2; exact hk2
    · have e : pmn C R (M 11) c (k + 1) = ((k + 1 : Nat) : Int) := by show (if _ then _ else _) = _; rw [if_pos (by omega)]
      rw [e] at hk2; exact hk2
theorem hpx_snoc (hG : Geo C R) (n : Nat) (c : Int) (hc : 0 ≤ c ∧ c < C * R) (X : Int → Int) : hpx C R w (n + 1) c X = crs C (hpx C R w n c X) (alg C R c w n) (alg C R c w ((n + 1 : Nat) : Int)) w := by
  induction n generalizing c X with
  | zero =>
    show crs C X c (alg C R c w 1) w = crs C X (alg C R c w 0) (alg C R c w 1) w
    rw [alg_0 hG hc]
  | succ n ih =>
    show hpx C R w (n + 1) (alg C R c w 1) (crs C X c (alg C R c w 1) w) = _
    rw [ih _ (alg_in hG hc), alg_s hG hc, alg_s hG hc, show (1 : Int) + (n : Int) = ((n + 1 : Nat) : Int) by omega, show (1 : Int) + ((n + 1 : Nat) : Int) = ((n + 1 + 1 : Nat) : Int) by omega]
    rfl
theorem hpx_odd (h0 : w ≠ 0) (h2 : w ≠ 2) (n : Nat) (c : Int) (X : Int → Int) : hpx C R w n c X = X := by
  induction n generalizing c X with
  | zero => rfl
  | succ n ih =>
    show hpx C R w n (alg C R c w 1) (crs C X c (alg C R c w 1) w) = X
    rw [ih]; unfold crs; rw [if_neg h0, if_neg h2]
theorem c_crosses (h : zRf M C R) (hc : 0 ≤ c ∧ c < C * R) (hw : 0 ≤ w ∧ w ≤ 3) {n : Nat} (hn : n ≤ 100) (hl : -1 ≤ M 1 26 ∧ M 1 26 ≤ 12) (hX : rX M X) : zKv g (z2 o) mX10_crosses [zA g 1, zI c, zI w, zI n] M (fun M' => (∃ v, M' = zu M 1 25 v) ∧ rX M' (hpx C R w n c X)) := by
  have hnn := geo_n h.1
  have hG := h.1
  unfold Geo at hG
  have self : zu M 1 25 (M 1 25) = M := by rw [zu_zrw, show up (M 1) 25 (M 1 25) = M 1 by funext j; unfold up; split <;> simp_all, zrw_self]
  have r25 : ∀ v, zu M 1 25 v 1 25 = v := fun v => zu_at M 1 25 v
  have r26 : ∀ v, zu M 1 25 v 1 26 = M 1 26 := fun v => by rw [zu_row, if_neg (by decide)]
  refine zkv_of rfl (Nat.le_of_ble_eq_true rfl) (SX10_crosses_0 ⟨by omega, by omega, fun h1 => ?_, fun h1 => ⟨by omega, fun h2 => ?_, fun h2 => ?_⟩⟩)
  · exact ⟨⟨_, self.symm⟩, by rw [hpx_odd (by omega) (by omega)]; exact hX⟩
  · suffices hs : ∀ (j k : Nat) (v : Int), k + j = n → v = hpx C R w k c X (M 1 26) → zT g (z2 o) mX10_crosses (zQv (z2 o) (fun M' => (∃ v, M' = zu M 1 25 v) ∧ rX M' (hpx C R w n c X))) 19 [(0, zA g 1), (1, zI c), (2, zI w), (3, zI n), (4, zI k)] [] (zu M 1 25 v) by
      have := hs n 0 (M 1 25) (by omega) (by rcases hX with e | e; exact absurd e h2; exact e)
      rw [self] at this; exact this
    intro j
    induction j with
    | zero =>
      intro k v hk hv
      refine SX10_crosses_19 (C := C) (R := R) ⟨by omega, by omega, fun h3 => ⟨⟨v, rfl⟩, Or.inr ?_⟩, fun h3 => by omega⟩
      rw [r25, r26, hv, show k = n by omega]
    | succ j ih =>
      intro k v hk hv
      have hL : zRf (zu M 1 25 v) C R := h.of (zu_other (by decide)) (zu_other (by decide)) (zu_other (by decide))
      have a1 := alg_in (w := w) (k := (k : Int)) h.1 hc
      have a2 := alg_in (w := w) (k := (k : Int) + 1) h.1 hc
      have m1 := md (C := C) (k := alg C R c w k) (by omega)
      have m2 := md (C := C) (k := alg C R c w ((k : Int) + 1)) (by omega)
      have hsn := hpx_snoc (w := w) h.1 k c hc X
      rw [show ((k + 1 : Nat) : Int) = (k : Int) + 1 by omega] at hsn
      have uu : ∀ v', zu (zu M 1 25 v) 1 25 v' = zu M 1 25 v' := fun v' => by rw [zu_zrw, zu_zrw, zrw_row, zrw_zrw, zu_zrw]; congr 1; funext j; unfold up; split <;> rfl
      have go := fun v' hv' => ih (k + 1) v' (by omega) hv'
      rw [show ((k + 1 : Nat) : Int) = (k : Int) + 1 by omega] at go
      refine SX10_crosses_19 (C := C) (R := R) ?_
      rw [r26, r25, uu, uu]
      refine ⟨by omega, by omega, fun h3 => by omega, fun h3 => ⟨hL, hc, hw, by omega, by omega, by omega, by omega, by omega, by omega, fun h4 => ⟨fun h5 => by omega, fun h5 => ⟨by omega, by omega, fun h6 => go v ?_, fun h6 => go (v - 1) ?_⟩⟩, fun h4 => ⟨by omega, by omega, fun h6 => ⟨fun h5 => go v ?_, fun h5 => by omega⟩, fun h6 => ⟨fun h5 => go (v + 1) ?_, fun h5 => by omega⟩⟩⟩⟩
      · rw [hsn, hv]; unfold crs; rw [if_neg h4, if_pos h5, up_ne (fun e => h6 e.symm)]
      · rw [hsn, hv]; unfold crs; rw [if_neg h4, if_pos h5, h6, up_at]
      · rw [hsn, hv]; unfold crs; rw [if_pos h4, up_ne (fun e => h6 e.symm)]
      · rw [hsn, hv]; unfold crs; rw [if_pos h4, h6, up_at]
  · exact ⟨⟨_, self.symm⟩, Or.inl h2⟩
end RN
theorem dX10_isShadow_0 : decode cX10_isShadow 0 = .ok (.aload_n 0, 1) := by decide +kernel
theorem dX10_isShadow_1 : decode cX10_isShadow 1 = .ok (.invokevirtual 273, 3) := by decide +kernel
theorem dX10_isShadow_4 : decode cX10_isShadow 4 = .ok (.istore_n 2, 1) := by decide +kernel
theorem dX10_isShadow_5 : decode cX10_isShadow 5 = .ok (.iconst 1, 1) := by decide +kernel
theorem dX10_isShadow_6 : decode cX10_isShadow 6 = .ok (.istore_n 3, 1) := by decide +kernel
theorem dX10_isShadow_7 : decode cX10_isShadow 7 = .ok (.iload_n 3, 1) := by decide +kernel
theorem dX10_isShadow_8 : decode cX10_isShadow 8 = .ok (.aload_n 0, 1) := by decide +kernel
theorem dX10_isShadow_9 : decode cX10_isShadow 9 = .ok (.iload_n 2, 1) := by decide +kernel
theorem dX10_isShadow_10 : decode cX10_isShadow 10 = .ok (.invokevirtual 276, 3) := by decide +kernel
theorem dX10_isShadow_13 : decode cX10_isShadow 13 = .ok (.if_icmp .ge 46, 3) := by decide +kernel
theorem dX10_isShadow_16 : decode cX10_isShadow 16 = .ok (.aload_n 0, 1) := by decide +kernel
theorem dX10_isShadow_17 : decode cX10_isShadow 17 = .ok (.getfield 45, 3) := by decide +kernel
theorem dX10_isShadow_20 : decode cX10_isShadow 20 = .ok (.aload_n 0, 1) := by decide +kernel
theorem dX10_isShadow_21 : decode cX10_isShadow 21 = .ok (.iload_n 1, 1) := by decide +kernel
theorem dX10_isShadow_22 : decode cX10_isShadow 22 = .ok (.iload_n 2, 1) := by decide +kernel
theorem dX10_isShadow_23 : decode cX10_isShadow 23 = .ok (.invokestatic 279, 3) := by decide +kernel
theorem dX10_isShadow_26 : decode cX10_isShadow 26 = .ok (.iload_n 3, 1) := by decide +kernel
theorem dX10_isShadow_27 : decode cX10_isShadow 27 = .ok (.invokevirtual 282, 3) := by decide +kernel
theorem dX10_isShadow_30 : decode cX10_isShadow 30 = .ok (.iaload, 1) := by decide +kernel
theorem dX10_isShadow_31 : decode cX10_isShadow 31 = .ok (.aload_n 0, 1) := by decide +kernel
theorem dX10_isShadow_32 : decode cX10_isShadow 32 = .ok (.getfield 45, 3) := by decide +kernel
theorem dX10_isShadow_35 : decode cX10_isShadow 35 = .ok (.iload_n 1, 1) := by decide +kernel
theorem dX10_isShadow_36 : decode cX10_isShadow 36 = .ok (.iaload, 1) := by decide +kernel
theorem dX10_isShadow_37 : decode cX10_isShadow 37 = .ok (.iload_n 3, 1) := by decide +kernel
theorem dX10_isShadow_38 : decode cX10_isShadow 38 = .ok (.aload_n 0, 1) := by decide +kernel
theorem dX10_isShadow_39 : decode cX10_isShadow 39 = .ok (.getfield 45, 3) := by decide +kernel
theorem dX10_isShadow_42 : decode cX10_isShadow 42 = .ok (.sipush 193, 3) := by decide +kernel
theorem dX10_isShadow_45 : decode cX10_isShadow 45 = .ok (.iaload, 1) := by decide +kernel
theorem dX10_isShadow_46 : decode cX10_isShadow 46 = .ok (.imul, 1) := by decide +kernel
theorem dX10_isShadow_47 : decode cX10_isShadow 47 = .ok (.iadd, 1) := by decide +kernel
theorem dX10_isShadow_48 : decode cX10_isShadow 48 = .ok (.if_icmp .lt 5, 3) := by decide +kernel
theorem dX10_isShadow_51 : decode cX10_isShadow 51 = .ok (.iconst 1, 1) := by decide +kernel
theorem dX10_isShadow_52 : decode cX10_isShadow 52 = .ok (.ireturn, 1) := by decide +kernel
theorem dX10_isShadow_53 : decode cX10_isShadow 53 = .ok (.iinc 3 1, 3) := by decide +kernel
theorem dX10_isShadow_56 : decode cX10_isShadow 56 = .ok (.goto (-49), 3) := by decide +kernel
theorem dX10_isShadow_59 : decode cX10_isShadow 59 = .ok (.iconst 0, 1) := by decide +kernel
theorem dX10_isShadow_60 : decode cX10_isShadow 60 = .ok (.ireturn, 1) := by decide +kernel
set_option maxRecDepth 100000 in
theorem SX10_isShadow_0 {g : zG} {o : Bool} {C R : Int} {M : zM} {q : Int → zM → Prop} {x1 : Int} (W : (zRf M C R) ∧ (0 ≤ M 11 197 ∧ M 11 197 ≤ 2147483647) ∧ zT g (z2 o) mX10_isShadow (zQi (z2 o) q) 7 [(0, zA g 1), (1, zI x1), (2, zI (wnr M (M 11 197))), (3, zI 1)] [] M) : zT g (z2 o) mX10_isShadow (zQi (z2 o) q) 0 [(0, zA g 1), (1, zI x1)] [] M := by
  refine zr_aload_n 0 dX10_isShadow_0 rfl ?_
  obtain ⟨c1, W⟩ := W
  obtain ⟨c2, W⟩ := W
  refine zt_callVi (As := []) (rest := []) dX10_isShadow_1 kX10_isShadow_273 rfl rfl rfl rfl (Nat.le_of_ble_eq_true rfl) (c_windNow c1 c2) (fun r3 N5 h4 => ?_)
  rw [h4.1, h4.2]
  refine zr_istore_n (l' := [(0, zA g 1), (1, zI x1), (2, zI (wnr M (M 11 197)))]) dX10_isShadow_4 (by decide) [1, 2, 0] rfl ?_
  refine zr_iconst dX10_isShadow_5 ?_
  refine zr_istore_n (l' := [(0, zA g 1), (1, zI x1), (2, zI (wnr M (M 11 197))), (3, zI 1)]) dX10_isShadow_6 (by decide) [1, 2, 3, 0] rfl ?_
  exact W
set_option maxRecDepth 100000 in
theorem SX10_isShadow_7 {g : zG} {o : Bool} {C R : Int} {M : zM} {q : Int → zM → Prop} {x1 x2 x3 : Int} (W : (zRf M C R) ∧ (0 ≤ x2 ∧ x2 ≤ 3) ∧ (-2147483648 ≤ x3 ∧ x3 ≤ 2147483647) ∧ (-2147483648 ≤ (rnd C R x2) ∧ (rnd C R x2) ≤ 2147483647) ∧ (((rnd C R x2) ≤ x3) → q 0 M) ∧ ((¬ ((rnd C R x2) ≤ x3)) → (0 ≤ x1 ∧ x1 < C * R) ∧ (0 ≤ (opp x2) ∧ (opp x2) ≤ 3) ∧ (0 ≤ x3 ∧ x3 ≤ 10000) ∧ (0 ≤ (alg C R x1 (opp x2) x3) ∧ (alg C R x1 (opp x2) x3) < 198) ∧ (0 ≤ x1 ∧ x1 < 198) ∧ (-2147483648 ≤ (M 11 (alg C R x1 (opp x2) x3)) ∧ (M 11 (alg C R x1 (opp x2) x3)) ≤ 2147483647) ∧ (-2147483648 ≤ ((M 11 x1) + (x3 * (M 11 193))) ∧ ((M 11 x1) + (x3 * (M 11 193))) ≤ 2147483647) ∧ (((M 11 (alg C R x1 (opp x2) x3)) < ((M 11 x1) + (x3 * (M 11 193)))) → zT g (z2 o) mX10_isShadow (zQi (z2 o) q) 7 [(0, zA g 1), (1, zI x1), (2, zI x2), (3, zI (x3 + 1))] [] M) ∧ ((¬ ((M 11 (alg C R x1 (opp x2) x3)) < ((M 11 x1) + (x3 * (M 11 193))))) → q 1 M))) : zT g (z2 o) mX10_isShadow (zQi (z2 o) q) 7 [(0, zA g 1), (1, zI x1), (2, zI x2), (3, zI x3)] [] M := by
  refine zr_iload_n 3 dX10_isShadow_7 rfl ?_
  refine zr_aload_n 0 dX10_isShadow_8 rfl ?_
  refine zr_iload_n 2 dX10_isShadow_9 rfl ?_
  obtain ⟨c1, W⟩ := W
  obtain ⟨c2, W⟩ := W
  refine zt_callVi (As := [zI x2]) (rest := [zI x3]) dX10_isShadow_10 kX10_isShadow_276 rfl rfl rfl rfl (Nat.le_of_ble_eq_true rfl) (c_roundR c1 c2) (fun r3 N5 h4 => ?_)
  rw [h4.1, h4.2]
  obtain ⟨c6, W⟩ := W
  obtain ⟨c7, W⟩ := W
  refine zr_icmp_ge (tgt := 59) dX10_isShadow_13 (by decide) c6 c7 (fun h => ?_) (fun h => ?_)
  · have W := W.1 h
    refine zr_iconst dX10_isShadow_59 ?_
    exact zt_zret dX10_isShadow_60 rfl (by decide) W
  · have W := W.2 h
    refine zr_aload_n 0 dX10_isShadow_16 rfl ?_
    refine zr_getr (b := 11) dX10_isShadow_17 fX10_45 rfl rfl rfl (by decide) ?_
    refine zr_aload_n 0 dX10_isShadow_20 rfl ?_
    refine zr_iload_n 1 dX10_isShadow_21 rfl ?_
    refine zr_iload_n 2 dX10_isShadow_22 rfl ?_
    refine zt_callSi (As := [zI x2]) (rest := [zI x1, zA g 1, zA g 11]) dX10_isShadow_23 kX10_isShadow_279 rfl rfl (Nat.le_of_ble_eq_true rfl) (c_against c2) (fun r8 N10 h9 => ?_)
    rw [h9.1, h9.2]
    refine zr_iload_n 3 dX10_isShadow_26 rfl ?_
    obtain ⟨c11, W⟩ := W
    obtain ⟨c12, W⟩ := W
    obtain ⟨c13, W⟩ := W
    refine zt_callVi (As := [zI x1, zI (opp x2), zI x3]) (rest := [zA g 11]) dX10_isShadow_27 kX10_isShadow_282 rfl rfl rfl rfl (Nat.le_of_ble_eq_true rfl) (c_along c1 c11 c12 c13) (fun r14 N16 h15 => ?_)
    rw [h15.1, h15.2]
    obtain ⟨c17, W⟩ := W
    refine zr_iald dX10_isShadow_30 rfl (by decide) c17 ?_
    refine zr_aload_n 0 dX10_isShadow_31 rfl ?_
    refine zr_getr (b := 11) dX10_isShadow_32 fX10_45 rfl rfl rfl (by decide) ?_
    refine zr_iload_n 1 dX10_isShadow_35 rfl ?_
    obtain ⟨c18, W⟩ := W
    refine zr_iald dX10_isShadow_36 rfl (by decide) c18 ?_
    refine zr_iload_n 3 dX10_isShadow_37 rfl ?_
    refine zr_aload_n 0 dX10_isShadow_38 rfl ?_
    refine zr_getr (b := 11) dX10_isShadow_39 fX10_45 rfl rfl rfl (by decide) ?_
    refine zr_sipush dX10_isShadow_42 (by decide) ?_
    refine zr_iald dX10_isShadow_45 rfl (by decide) ⟨by decide, by decide⟩ ?_
    refine zr_imul dX10_isShadow_46 ?_
    refine zr_iadd dX10_isShadow_47 ?_
    obtain ⟨c19, W⟩ := W
    obtain ⟨c20, W⟩ := W
    refine zr_icmp_lt (tgt := 53) dX10_isShadow_48 (by decide) c19 c20 (fun h => ?_) (fun h => ?_)
    · have W := W.1 h
      refine zr_iinc (q := 3) (l' := [(0, zA g 1), (1, zI x1), (2, zI x2), (3, zI (x3 + 1))]) dX10_isShadow_53 rfl (by decide) [1, 2, 3, 0] rfl ?_
      refine zr_goto (tgt := 7) dX10_isShadow_56 (by decide) ?_
      exact W
    · have W := W.2 h
      refine zr_iconst dX10_isShadow_51 ?_
      exact zt_zret dX10_isShadow_52 rfl (by decide) W
section RO
variable {g : zG} {o : Bool} {M : zM} {x y z w c k t C R : Int} {H X : Int → Int}
theorem wnr_in (h : zRf M C R) (ht : 0 ≤ t) : 0 ≤ wnr M t ∧ wnr M t ≤ 3 := by
  obtain ⟨-, -, -, -, hn, hw⟩ := h
  obtain ⟨n, hnn⟩ : ∃ n : Nat, M 3 9 = (n : Int) := znn (by omega)
  rw [hnn] at hw hn
  have hpos : 1 ≤ smt (M 5) n := by
    cases n with
    | zero => omega
    | succ k =>
      have h1 := smt_nn (f := M 5) (n := k) (fun i h0 h1 => by have := hw i h0 (by omega); omega)
      have h2 := hw k (by omega) (by omega)
      show 1 ≤ smt (M 5) k + M 5 k
      omega
  have hmod := md (C := smt (M 5) n) (k := t) (by omega)
  have hx := wix_lt (sp := M 5) (n := n) (i := 0) (l := t % smt (M 5) n) (fun j h1 h2 => (hw j h1 (by omega)).2.1) hmod.1 (by simpa using hmod.2)
  unfold wnr
  rw [hnn, Int.toNat_natCast]
  exact (hw _ hx.1 (by omega)).1
theorem c_isShadow (h : zRf M C R) (hc : 0 ≤ c ∧ c < C * R) (ht : 0 ≤ M 11 197 ∧ M 11 197 ≤ 2147483647) (hB : Bd (M 11)) (hsh : 0 ≤ M 11 193 ∧ M 11 193 ≤ 9) : zKi g (z2 o) mX10_isShadow [zA g 1, zI c] M (fun r M' => r = zb (shd C R (M 11) (M 11 193) c (wnr M (M 11 197))) ∧ M' = M) := by
  have hn := geo_n h.1
  have w1 := wnr_in (t := M 11 197) h ht.1
  have hr := rnd_in (w := wnr M (M 11 197)) h.1
  have ho := opp_in w1
  have hc0 := hB c hc.1 (by omega)
  refine zki_of rfl (Nat.le_of_ble_eq_true rfl) (SX10_isShadow_0 (C := C) (R := R) ⟨h, ht, ?_⟩)
  suffices hs : ∀ (n : Nat) (k : Int), 1 ≤ k → k + n = rnd C R (wnr M (M 11 197)) → (∀ j, 1 ≤ j → j < k → ¬ (M 11 c + j * M 11 193 ≤ M 11 (alg C R c (opp (wnr M (M 11 197))) j))) → zT g (z2 o) mX10_isShadow (zQi (z2 o) (fun r M' => r = zb (shd C R (M 11) (M 11 193) c (wnr M (M 11 197))) ∧ M' = M)) 7 [(0, zA g 1), (1, zI c), (2, zI (wnr M (M 11 197))), (3, zI k)] [] M from
    hs (rnd C R (wnr M (M 11 197)) - 1).toNat 1 (by omega) (by omega) (fun j h1 h2 => by omega)
  intro n
  induction n with
  | zero =>
    intro k h1 hk hno
    refine SX10_isShadow_7 ⟨h, w1, by omega, by omega, fun h2 => ⟨(zb_f ?_).symm, rfl⟩, fun h2 => by omega⟩
    rintro ⟨j, j1, j2, j3⟩
    exact hno j j1 (by omega) j3
  | succ n ih =>
    intro k h1 hk hno
    have a2 := alg_in (w := opp (wnr M (M 11 197))) (k := k) h.1 hc
    have b2 := hB _ a2.1 (by omega)
    have b3 : 0 ≤ k * M 11 193 ∧ k * M 11 193 ≤ 108 := by
      constructor
      · exact Int.mul_nonneg (by omega) hsh.1
      · have := Int.mul_le_mul (show k ≤ 12 by omega) hsh.2 hsh.1 (by decide); omega
    refine SX10_isShadow_7 ⟨h, w1, by omega, by omega, fun h2 => by omega, fun h2 => ⟨hc, ho, by omega, by omega, by omega, by omega, by omega, fun h4 => ?_, fun h4 => ⟨(zb_t ⟨k, h1, by omega, by omega⟩).symm, rfl⟩⟩⟩
    exact ih (k + 1) (by omega) (by omega) (fun j j1 j2 => by
      by_cases hj : j < k
      · exact hno j j1 hj
      · rw [show j = k by omega]; omega)
end RO
theorem dX10_gives_0 : decode cX10_gives 0 = .ok (.aload_n 0, 1) := by decide +kernel
theorem dX10_gives_1 : decode cX10_gives 1 = .ok (.getfield 45, 3) := by decide +kernel
theorem dX10_gives_4 : decode cX10_gives 4 = .ok (.iload_n 1, 1) := by decide +kernel
theorem dX10_gives_5 : decode cX10_gives 5 = .ok (.iaload, 1) := by decide +kernel
theorem dX10_gives_6 : decode cX10_gives 6 = .ok (.ifCond .le 27, 3) := by decide +kernel
theorem dX10_gives_9 : decode cX10_gives 9 = .ok (.aload_n 0, 1) := by decide +kernel
theorem dX10_gives_10 : decode cX10_gives 10 = .ok (.getfield 45, 3) := by decide +kernel
theorem dX10_gives_13 : decode cX10_gives 13 = .ok (.bipush 96, 2) := by decide +kernel
theorem dX10_gives_15 : decode cX10_gives 15 = .ok (.iload_n 1, 1) := by decide +kernel
theorem dX10_gives_16 : decode cX10_gives 16 = .ok (.iadd, 1) := by decide +kernel
theorem dX10_gives_17 : decode cX10_gives 17 = .ok (.iaload, 1) := by decide +kernel
theorem dX10_gives_18 : decode cX10_gives 18 = .ok (.ifCond .ne 15, 3) := by decide +kernel
theorem dX10_gives_21 : decode cX10_gives 21 = .ok (.aload_n 0, 1) := by decide +kernel
theorem dX10_gives_22 : decode cX10_gives 22 = .ok (.iload_n 1, 1) := by decide +kernel
theorem dX10_gives_23 : decode cX10_gives 23 = .ok (.invokevirtual 286, 3) := by decide +kernel
theorem dX10_gives_26 : decode cX10_gives 26 = .ok (.ifCond .ne 7, 3) := by decide +kernel
theorem dX10_gives_29 : decode cX10_gives 29 = .ok (.iconst 1, 1) := by decide +kernel
theorem dX10_gives_30 : decode cX10_gives 30 = .ok (.goto 4, 3) := by decide +kernel
theorem dX10_gives_33 : decode cX10_gives 33 = .ok (.iconst 0, 1) := by decide +kernel
theorem dX10_gives_34 : decode cX10_gives 34 = .ok (.ireturn, 1) := by decide +kernel
set_option maxRecDepth 100000 in
theorem SX10_gives_0 {g : zG} {o : Bool} {C R : Int} {M : zM} {q : Int → zM → Prop} {x1 : Int} (W : (0 ≤ x1 ∧ x1 < 198) ∧ (-2147483648 ≤ (M 11 x1) ∧ (M 11 x1) ≤ 2147483647) ∧ (((M 11 x1) ≤ 0) → q 0 M) ∧ ((¬ ((M 11 x1) ≤ 0)) → (0 ≤ (96 + x1) ∧ (96 + x1) < 198) ∧ (-2147483648 ≤ (M 11 (96 + x1)) ∧ (M 11 (96 + x1)) ≤ 2147483647) ∧ (((M 11 (96 + x1)) ≠ 0) → q 0 M) ∧ (((M 11 (96 + x1)) = 0) → (zRf M C R) ∧ (0 ≤ x1 ∧ x1 < C * R) ∧ (0 ≤ M 11 197 ∧ M 11 197 ≤ 2147483647) ∧ (Bd (M 11)) ∧ (0 ≤ M 11 193 ∧ M 11 193 ≤ 9) ∧ ((shd C R (M 11) (M 11 193) x1 (wnr M (M 11 197))) → q 0 M) ∧ ((¬ (shd C R (M 11) (M 11 193) x1 (wnr M (M 11 197)))) → q 1 M)))) : zT g (z2 o) mX10_gives (zQi (z2 o) q) 0 [(0, zA g 1), (1, zI x1)] [] M := by
  refine zr_aload_n 0 dX10_gives_0 rfl ?_
  refine zr_getr (b := 11) dX10_gives_1 fX10_45 rfl rfl rfl (by decide) ?_
  refine zr_iload_n 1 dX10_gives_4 rfl ?_
  obtain ⟨c1, W⟩ := W
  refine zr_iald dX10_gives_5 rfl (by decide) c1 ?_
  obtain ⟨c2, W⟩ := W
  refine zr_if_le (tgt := 33) dX10_gives_6 (by decide) c2 (fun h => ?_) (fun h => ?_)
  · have W := W.1 h
    refine zr_iconst dX10_gives_33 ?_
    exact zt_zret dX10_gives_34 rfl (by decide) W
  · have W := W.2 h
    refine zr_aload_n 0 dX10_gives_9 rfl ?_
    refine zr_getr (b := 11) dX10_gives_10 fX10_45 rfl rfl rfl (by decide) ?_
    refine zr_bipush dX10_gives_13 (by decide) ?_
    refine zr_iload_n 1 dX10_gives_15 rfl ?_
    refine zr_iadd dX10_gives_16 ?_
    obtain ⟨c3, W⟩ := W
    refine zr_iald dX10_gives_17 rfl (by decide) c3 ?_
    obtain ⟨c4, W⟩ := W
    refine zr_if_ne (tgt := 33) dX10_gives_18 (by decide) c4 (fun h => ?_) (fun h => ?_)
    · have W := W.1 h
      refine zr_iconst dX10_gives_33 ?_
      exact zt_zret dX10_gives_34 rfl (by decide) W
    · have W := W.2 h
      refine zr_aload_n 0 dX10_gives_21 rfl ?_
      refine zr_iload_n 1 dX10_gives_22 rfl ?_
      obtain ⟨c5, W⟩ := W
      obtain ⟨c6, W⟩ := W
      obtain ⟨c7, W⟩ := W
      obtain ⟨c8, W⟩ := W
      obtain ⟨c9, W⟩ := W
      refine zt_callVi (As := [zI x1]) (rest := []) dX10_gives_23 kX10_gives_286 rfl rfl rfl rfl (Nat.le_of_ble_eq_true rfl) (c_isShadow c5 c6 c7 c8 c9) (fun r10 N12 h11 => ?_)
      rw [h11.1, h11.2]
      refine zt_ifne_b (tgt := 33) dX10_gives_26 (by decide) (fun h => ?_) (fun h => ?_)
      · have W := W.1 h
        refine zr_iconst dX10_gives_33 ?_
        exact zt_zret dX10_gives_34 rfl (by decide) W
      · have W := W.2 h
        refine zr_iconst dX10_gives_29 ?_
        refine zr_goto (tgt := 34) dX10_gives_30 (by decide) ?_
        exact zt_zret dX10_gives_34 rfl (by decide) W
theorem dX10_draw_0 : decode cX10_draw 0 = .ok (.aload_n 0, 1) := by decide +kernel
theorem dX10_draw_1 : decode cX10_draw 1 = .ok (.getfield 45, 3) := by decide +kernel
theorem dX10_draw_4 : decode cX10_draw 4 = .ok (.sipush 196, 3) := by decide +kernel
theorem dX10_draw_7 : decode cX10_draw 7 = .ok (.sipush 137, 3) := by decide +kernel
theorem dX10_draw_10 : decode cX10_draw 10 = .ok (.aload_n 0, 1) := by decide +kernel
theorem dX10_draw_11 : decode cX10_draw 11 = .ok (.getfield 45, 3) := by decide +kernel
theorem dX10_draw_14 : decode cX10_draw 14 = .ok (.sipush 196, 3) := by decide +kernel
theorem dX10_draw_17 : decode cX10_draw 17 = .ok (.iaload, 1) := by decide +kernel
theorem dX10_draw_18 : decode cX10_draw 18 = .ok (.imul, 1) := by decide +kernel
theorem dX10_draw_19 : decode cX10_draw 19 = .ok (.bipush 71, 2) := by decide +kernel
theorem dX10_draw_21 : decode cX10_draw 21 = .ok (.iadd, 1) := by decide +kernel
theorem dX10_draw_22 : decode cX10_draw 22 = .ok (.sipush 10007, 3) := by decide +kernel
theorem dX10_draw_25 : decode cX10_draw 25 = .ok (.irem, 1) := by decide +kernel
theorem dX10_draw_26 : decode cX10_draw 26 = .ok (.iastore, 1) := by decide +kernel
theorem dX10_draw_27 : decode cX10_draw 27 = .ok (.aload_n 0, 1) := by decide +kernel
theorem dX10_draw_28 : decode cX10_draw 28 = .ok (.getfield 45, 3) := by decide +kernel
theorem dX10_draw_31 : decode cX10_draw 31 = .ok (.sipush 196, 3) := by decide +kernel
theorem dX10_draw_34 : decode cX10_draw 34 = .ok (.iaload, 1) := by decide +kernel
theorem dX10_draw_35 : decode cX10_draw 35 = .ok (.iload_n 1, 1) := by decide +kernel
theorem dX10_draw_36 : decode cX10_draw 36 = .ok (.irem, 1) := by decide +kernel
theorem dX10_draw_37 : decode cX10_draw 37 = .ok (.ireturn, 1) := by decide +kernel
set_option maxRecDepth 100000 in
theorem SX10_draw_0 {g : zG} {o : Bool} {M : zM} {q : Int → zM → Prop} {x1 : Int} (W : (0 ≤ ((137 * (M 11 196)) + 71) ∧ ((137 * (M 11 196)) + 71) ≤ 2147483647) ∧ (0 ≤ ((zu M 11 196 (((137 * (M 11 196)) + 71) % 10007)) 11 196) ∧ ((zu M 11 196 (((137 * (M 11 196)) + 71) % 10007)) 11 196) ≤ 2147483647) ∧ (0 < x1 ∧ x1 ≤ 2147483647) ∧ q (((zu M 11 196 (((137 * (M 11 196)) + 71) % 10007)) 11 196) % x1) (zu M 11 196 (((137 * (M 11 196)) + 71) % 10007))) : zT g (z2 o) mX10_draw (zQi (z2 o) q) 0 [(0, zA g 1), (1, zI x1)] [] M := by
  refine zr_aload_n 0 dX10_draw_0 rfl ?_
  refine zr_getr (b := 11) dX10_draw_1 fX10_45 rfl rfl rfl (by decide) ?_
  refine zr_sipush dX10_draw_4 (by decide) ?_
  refine zr_sipush dX10_draw_7 (by decide) ?_
  refine zr_aload_n 0 dX10_draw_10 rfl ?_
  refine zr_getr (b := 11) dX10_draw_11 fX10_45 rfl rfl rfl (by decide) ?_
  refine zr_sipush dX10_draw_14 (by decide) ?_
  refine zr_iald dX10_draw_17 rfl (by decide) ⟨by decide, by decide⟩ ?_
  refine zr_imul dX10_draw_18 ?_
  refine zr_bipush dX10_draw_19 (by decide) ?_
  refine zr_iadd dX10_draw_21 ?_
  refine zr_sipush dX10_draw_22 (by decide) ?_
  obtain ⟨c1, W⟩ := W
  refine zr_irem dX10_draw_25 c1 ⟨by decide, by decide⟩ ?_
  refine zr_iast dX10_draw_26 rfl (by decide) ⟨by decide, by decide⟩ ?_
  refine zr_aload_n 0 dX10_draw_27 rfl ?_
  refine zr_getr (b := 11) dX10_draw_28 fX10_45 rfl rfl rfl (by decide) ?_
  refine zr_sipush dX10_draw_31 (by decide) ?_
  refine zr_iald dX10_draw_34 rfl (by decide) ⟨by decide, by decide⟩ ?_
  refine zr_iload_n 1 dX10_draw_35 rfl ?_
  obtain ⟨c2, W⟩ := W
  obtain ⟨c3, W⟩ := W
  refine zr_irem dX10_draw_36 c2 c3 ?_
  exact zt_iret dX10_draw_37 rfl W
section RP
variable {g : zG} {o : Bool} {M : zM} {x y z w c k t m C R : Int} {H X : Int → Int}
theorem c_gives (h : zRf M C R) (hc : 0 ≤ c ∧ c < C * R) (ht : 0 ≤ M 11 197 ∧ M 11 197 ≤ 2147483647) (hB : Bd (M 11)) (hsh : 0 ≤ M 11 193 ∧ M 11 193 ≤ 9) (hg : 0 ≤ M 11 (96 + c) ∧ M 11 (96 + c) ≤ 1) : zKi g (z2 o) mX10_gives [zA g 1, zI c] M (fun r M' => r = zb (yld C R (M 11) (fun i => M 11 (96 + i)) (M 11 193) c (wnr M (M 11 197))) ∧ M' = M) := by
  have hn := geo_n h.1
  have hc0 := hB c hc.1 (by omega)
  exact zki_of rfl (Nat.le_of_ble_eq_true rfl) (SX10_gives_0 (C := C) (R := R) ⟨by omega, by omega, fun h1 => ⟨(zb_f fun q => by have := q.1; omega).symm, rfl⟩, fun h1 => ⟨by omega, by omega, fun h2 => ⟨(zb_f fun q => h2 q.2.1).symm, rfl⟩, fun h2 => ⟨h, hc, ht, hB, hsh, fun h3 => ⟨(zb_f fun q => q.2.2 h3).symm, rfl⟩, fun h3 => ⟨(zb_t ⟨by omega, h2, h3⟩).symm, rfl⟩⟩⟩⟩)
theorem c_drawR (h0 : 0 ≤ M 11 196 ∧ M 11 196 ≤ 10006) (hm : 0 < m ∧ m ≤ 2147483647) : zKi g (z2 o) mX10_draw [zA g 1, zI m] M (fun r M' => r = dsd (M 11 196) % m ∧ M' = zu M 11 196 (dsd (M 11 196))) := by
  have d := dsd_in (M 11 196)
  have e : (137 * M 11 196 + 71) % 10007 = dsd (M 11 196) := by unfold dsd; rw [Int.mul_comm]
  refine zki_of rfl (Nat.le_of_ble_eq_true rfl) (SX10_draw_0 ?_)
  rw [e, zu_at]
  exact ⟨by omega, by omega, hm, rfl, rfl⟩
end RP
end
section
theorem dX10_slides_0 : decode cX10_slides 0 = .ok (.aload_n 0, 1) := by decide +kernel
theorem dX10_slides_1 : decode cX10_slides 1 = .ok (.getfield 45, 3) := by decide +kernel
theorem dX10_slides_4 : decode cX10_slides 4 = .ok (.iload_n 1, 1) := by decide +kernel
theorem dX10_slides_5 : decode cX10_slides 5 = .ok (.dup2, 1) := by decide +kernel
theorem dX10_slides_6 : decode cX10_slides 6 = .ok (.iaload, 1) := by decide +kernel
theorem dX10_slides_7 : decode cX10_slides 7 = .ok (.iconst 1, 1) := by decide +kernel
theorem dX10_slides_8 : decode cX10_slides 8 = .ok (.isub, 1) := by decide +kernel
theorem dX10_slides_9 : decode cX10_slides 9 = .ok (.iastore, 1) := by decide +kernel
theorem dX10_slides_10 : decode cX10_slides 10 = .ok (.aload_n 0, 1) := by decide +kernel
theorem dX10_slides_11 : decode cX10_slides 11 = .ok (.getfield 45, 3) := by decide +kernel
theorem dX10_slides_14 : decode cX10_slides 14 = .ok (.aload_n 0, 1) := by decide +kernel
theorem dX10_slides_15 : decode cX10_slides 15 = .ok (.iload_n 1, 1) := by decide +kernel
theorem dX10_slides_16 : decode cX10_slides 16 = .ok (.iload_n 2, 1) := by decide +kernel
theorem dX10_slides_17 : decode cX10_slides 17 = .ok (.iconst 1, 1) := by decide +kernel
theorem dX10_slides_18 : decode cX10_slides 18 = .ok (.invokevirtual 282, 3) := by decide +kernel
theorem dX10_slides_21 : decode cX10_slides 21 = .ok (.dup2, 1) := by decide +kernel
theorem dX10_slides_22 : decode cX10_slides 22 = .ok (.iaload, 1) := by decide +kernel
theorem dX10_slides_23 : decode cX10_slides 23 = .ok (.iconst 1, 1) := by decide +kernel
theorem dX10_slides_24 : decode cX10_slides 24 = .ok (.iadd, 1) := by decide +kernel
theorem dX10_slides_25 : decode cX10_slides 25 = .ok (.iastore, 1) := by decide +kernel
theorem dX10_slides_26 : decode cX10_slides 26 = .ok (.aload_n 0, 1) := by decide +kernel
theorem dX10_slides_27 : decode cX10_slides 27 = .ok (.dup, 1) := by decide +kernel
theorem dX10_slides_28 : decode cX10_slides 28 = .ok (.getfield 264, 3) := by decide +kernel
theorem dX10_slides_31 : decode cX10_slides 31 = .ok (.iconst 1, 1) := by decide +kernel
theorem dX10_slides_32 : decode cX10_slides 32 = .ok (.iadd, 1) := by decide +kernel
theorem dX10_slides_33 : decode cX10_slides 33 = .ok (.putfield 264, 3) := by decide +kernel
theorem dX10_slides_36 : decode cX10_slides 36 = .ok (.aload_n 0, 1) := by decide +kernel
theorem dX10_slides_37 : decode cX10_slides 37 = .ok (.iload_n 1, 1) := by decide +kernel
theorem dX10_slides_38 : decode cX10_slides 38 = .ok (.iload_n 2, 1) := by decide +kernel
theorem dX10_slides_39 : decode cX10_slides 39 = .ok (.iconst 1, 1) := by decide +kernel
theorem dX10_slides_40 : decode cX10_slides 40 = .ok (.invokevirtual 289, 3) := by decide +kernel
theorem dX10_slides_43 : decode cX10_slides 43 = .ok (.return_, 1) := by decide +kernel
set_option maxRecDepth 100000 in
theorem SX10_slides_0 {g : zG} {o : Bool} {C R : Int} {M : zM} {q : zM → Prop} {x1 x2 : Int} (W : (0 ≤ x1 ∧ x1 < 198) ∧ (zRf (zu M 11 x1 ((M 11 x1) - 1)) C R) ∧ (0 ≤ x1 ∧ x1 < C * R) ∧ (0 ≤ x2 ∧ x2 ≤ 3) ∧ (0 ≤ (alg C R x1 x2 1) ∧ (alg C R x1 x2 1) < 198) ∧ ∀ N9 : zM, N9 = zu M 11 x1 ((M 11 x1) - 1) → ∀ N11 : zM, N11 = zu N9 11 (alg C R x1 x2 1) ((N9 11 (alg C R x1 x2 1)) + 1) → ∃ q13 : zM → Prop, zKv g (z2 o) mX10_crosses [zA g 1, zI x1, zI x2, zI 1] (zu N11 1 24 ((N11 1 24) + 1)) q13 ∧ ∀ M15 : zM, q13 M15 → q M15) : zT g (z2 o) mX10_slides (zQv (z2 o) q) 0 [(0, zA g 1), (1, zI x1), (2, zI x2)] [] M := by
  refine zr_aload_n 0 dX10_slides_0 rfl ?_
  refine zr_getr (b := 11) dX10_slides_1 fX10_45 rfl rfl rfl (by decide) ?_
  refine zr_iload_n 1 dX10_slides_4 rfl ?_
  refine zr_dup2 dX10_slides_5 rfl rfl ?_
  obtain ⟨c1, W⟩ := W
  refine zr_iald dX10_slides_6 rfl (by decide) c1 ?_
  refine zr_iconst dX10_slides_7 ?_
  refine zr_isub dX10_slides_8 ?_
  refine zr_iast dX10_slides_9 rfl (by decide) c1 ?_
  refine zr_aload_n 0 dX10_slides_10 rfl ?_
  refine zr_getr (b := 11) dX10_slides_11 fX10_45 rfl rfl rfl (by decide) ?_
  refine zr_aload_n 0 dX10_slides_14 rfl ?_
  refine zr_iload_n 1 dX10_slides_15 rfl ?_
  refine zr_iload_n 2 dX10_slides_16 rfl ?_
  refine zr_iconst dX10_slides_17 ?_
  obtain ⟨c2, W⟩ := W
  obtain ⟨c3, W⟩ := W
  obtain ⟨c4, W⟩ := W
  refine zt_callVi (As := [zI x1, zI x2, zI 1]) (rest := [zA g 11]) dX10_slides_18 kX10_slides_282 rfl rfl rfl rfl (Nat.le_of_ble_eq_true rfl) (c_along c2 c3 c4 (by decide)) (fun r5 N7 h6 => ?_)
  rw [h6.1, h6.2]
  refine zr_dup2 dX10_slides_21 rfl rfl ?_
  obtain ⟨c8, W⟩ := W
  refine zr_iald dX10_slides_22 rfl (by decide) c8 ?_
  refine zr_iconst dX10_slides_23 ?_
  refine zr_iadd dX10_slides_24 ?_
  obtain ⟨N9, e10⟩ : ∃ N : zM, N = zu M 11 x1 ((M 11 x1) - 1) := ⟨_, rfl⟩
  rw [← e10]
  have W := W N9 e10
  refine zr_iast dX10_slides_25 rfl (by decide) c8 ?_
  refine zr_aload_n 0 dX10_slides_26 rfl ?_
  refine zr_dup dX10_slides_27 rfl ?_
  refine zt_geti 24 rfl dX10_slides_28 fX10_264 rfl (by decide) ?_
  refine zr_iconst dX10_slides_31 ?_
  refine zr_iadd dX10_slides_32 ?_
  obtain ⟨N11, e12⟩ : ∃ N : zM, N = zu N9 11 (alg C R x1 x2 1) ((N9 11 (alg C R x1 x2 1)) + 1) := ⟨_, rfl⟩
  rw [← e12]
  have W := W N11 e12
  refine zt_puti 24 rfl dX10_slides_33 fX10_264 lcX10 ltX10_24 rfl rfl ?_
  refine zr_aload_n 0 dX10_slides_36 rfl ?_
  refine zr_iload_n 1 dX10_slides_37 rfl ?_
  refine zr_iload_n 2 dX10_slides_38 rfl ?_
  refine zr_iconst dX10_slides_39 ?_
  obtain ⟨q13, k17, W⟩ := W
  refine zt_callVv (As := [zI x1, zI x2, zI 1]) (rest := []) dX10_slides_40 kX10_slides_289 rfl rfl rfl rfl (Nat.le_of_ble_eq_true rfl) k17 (fun M15 h16 => ?_)
  have W := W M15 h16
  exact zt_ret dX10_slides_43 rfl W
theorem dX10_fills_0 : decode cX10_fills 0 = .ok (.iload_n 1, 1) := by decide +kernel
theorem dX10_fills_1 : decode cX10_fills 1 = .ok (.istore_n 2, 1) := by decide +kernel
theorem dX10_fills_2 : decode cX10_fills 2 = .ok (.iconst 1, 1) := by decide +kernel
theorem dX10_fills_3 : decode cX10_fills 3 = .ok (.istore_n 3, 1) := by decide +kernel
theorem dX10_fills_4 : decode cX10_fills 4 = .ok (.iload_n 3, 1) := by decide +kernel
theorem dX10_fills_5 : decode cX10_fills 5 = .ok (.ifCond .eq 71, 3) := by decide +kernel
theorem dX10_fills_8 : decode cX10_fills 8 = .ok (.aload_n 0, 1) := by decide +kernel
theorem dX10_fills_9 : decode cX10_fills 9 = .ok (.iload_n 2, 1) := by decide +kernel
theorem dX10_fills_10 : decode cX10_fills 10 = .ok (.iconst 1, 1) := by decide +kernel
theorem dX10_fills_11 : decode cX10_fills 11 = .ok (.invokevirtual 293, 3) := by decide +kernel
theorem dX10_fills_14 : decode cX10_fills 14 = .ok (.istore 4, 2) := by decide +kernel
theorem dX10_fills_16 : decode cX10_fills 16 = .ok (.aload_n 0, 1) := by decide +kernel
theorem dX10_fills_17 : decode cX10_fills 17 = .ok (.iload_n 2, 1) := by decide +kernel
theorem dX10_fills_18 : decode cX10_fills 18 = .ok (.iload 4, 2) := by decide +kernel
theorem dX10_fills_20 : decode cX10_fills 20 = .ok (.iconst 1, 1) := by decide +kernel
theorem dX10_fills_21 : decode cX10_fills 21 = .ok (.invokevirtual 282, 3) := by decide +kernel
theorem dX10_fills_24 : decode cX10_fills 24 = .ok (.istore 5, 2) := by decide +kernel
theorem dX10_fills_26 : decode cX10_fills 26 = .ok (.aload_n 0, 1) := by decide +kernel
theorem dX10_fills_27 : decode cX10_fills 27 = .ok (.getfield 45, 3) := by decide +kernel
theorem dX10_fills_30 : decode cX10_fills 30 = .ok (.iload 5, 2) := by decide +kernel
theorem dX10_fills_32 : decode cX10_fills 32 = .ok (.iaload, 1) := by decide +kernel
theorem dX10_fills_33 : decode cX10_fills 33 = .ok (.aload_n 0, 1) := by decide +kernel
theorem dX10_fills_34 : decode cX10_fills 34 = .ok (.getfield 45, 3) := by decide +kernel
theorem dX10_fills_37 : decode cX10_fills 37 = .ok (.iload_n 2, 1) := by decide +kernel
theorem dX10_fills_38 : decode cX10_fills 38 = .ok (.iaload, 1) := by decide +kernel
theorem dX10_fills_39 : decode cX10_fills 39 = .ok (.aload_n 0, 1) := by decide +kernel
theorem dX10_fills_40 : decode cX10_fills 40 = .ok (.getfield 20, 3) := by decide +kernel
theorem dX10_fills_43 : decode cX10_fills 43 = .ok (.iconst 5, 1) := by decide +kernel
theorem dX10_fills_44 : decode cX10_fills 44 = .ok (.iaload, 1) := by decide +kernel
theorem dX10_fills_45 : decode cX10_fills 45 = .ok (.iadd, 1) := by decide +kernel
theorem dX10_fills_46 : decode cX10_fills 46 = .ok (.if_icmp .le 7, 3) := by decide +kernel
theorem dX10_fills_49 : decode cX10_fills 49 = .ok (.iconst 1, 1) := by decide +kernel
theorem dX10_fills_50 : decode cX10_fills 50 = .ok (.goto 4, 3) := by decide +kernel
theorem dX10_fills_53 : decode cX10_fills 53 = .ok (.iconst 0, 1) := by decide +kernel
theorem dX10_fills_54 : decode cX10_fills 54 = .ok (.istore_n 3, 1) := by decide +kernel
theorem dX10_fills_55 : decode cX10_fills 55 = .ok (.iload_n 3, 1) := by decide +kernel
theorem dX10_fills_56 : decode cX10_fills 56 = .ok (.ifCond .eq 14, 3) := by decide +kernel
theorem dX10_fills_59 : decode cX10_fills 59 = .ok (.aload_n 0, 1) := by decide +kernel
theorem dX10_fills_60 : decode cX10_fills 60 = .ok (.iload 5, 2) := by decide +kernel
theorem dX10_fills_62 : decode cX10_fills 62 = .ok (.iload 4, 2) := by decide +kernel
theorem dX10_fills_64 : decode cX10_fills 64 = .ok (.invokestatic 279, 3) := by decide +kernel
theorem dX10_fills_67 : decode cX10_fills 67 = .ok (.invokevirtual 297, 3) := by decide +kernel
theorem dX10_fills_70 : decode cX10_fills 70 = .ok (.iload 5, 2) := by decide +kernel
theorem dX10_fills_72 : decode cX10_fills 72 = .ok (.istore_n 2, 1) := by decide +kernel
theorem dX10_fills_73 : decode cX10_fills 73 = .ok (.goto (-69), 3) := by decide +kernel
theorem dX10_fills_76 : decode cX10_fills 76 = .ok (.return_, 1) := by decide +kernel
set_option maxRecDepth 100000 in
theorem SX10_fills_0 {g : zG} {o : Bool} {M : zM} {q : zM → Prop} {x1 : Int} (W : zT g (z2 o) mX10_fills (zQv (z2 o) q) 4 [(0, zA g 1), (2, zI x1), (3, zI 1)] [] M) : zT g (z2 o) mX10_fills (zQv (z2 o) q) 0 [(0, zA g 1), (1, zI x1)] [] M := by
  refine zr_iload_n 1 dX10_fills_0 rfl ?_
  refine zr_istore_n (l' := [(0, zA g 1), (2, zI x1)]) dX10_fills_1 (by decide) [1, 0] rfl ?_
  refine zr_iconst dX10_fills_2 ?_
  refine zr_istore_n (l' := [(0, zA g 1), (2, zI x1), (3, zI 1)]) dX10_fills_3 (by decide) [1, 2, 0] rfl ?_
  exact W
set_option maxRecDepth 100000 in
theorem SX10_fills_4 {g : zG} {o : Bool} {C R : Int} {M : zM} {q : zM → Prop} {x2 x3 : Int} (W : (-2147483648 ≤ x3 ∧ x3 ≤ 2147483647) ∧ ((x3 = 0) → q M) ∧ ((¬ (x3 = 0)) → (zRf M C R) ∧ (0 ≤ x2 ∧ x2 < C * R) ∧ (Bd (M 11)) ∧ (0 ≤ (pmx C R (M 11) x2 3) ∧ (pmx C R (M 11) x2 3) ≤ 3) ∧ (0 ≤ (alg C R x2 (pmx C R (M 11) x2 3) 1) ∧ (alg C R x2 (pmx C R (M 11) x2 3) 1) < 198) ∧ (0 ≤ x2 ∧ x2 < 198) ∧ (-2147483648 ≤ (M 11 (alg C R x2 (pmx C R (M 11) x2 3) 1)) ∧ (M 11 (alg C R x2 (pmx C R (M 11) x2 3) 1)) ≤ 2147483647) ∧ (-2147483648 ≤ ((M 11 x2) + (M 3 5)) ∧ ((M 11 x2) + (M 3 5)) ≤ 2147483647) ∧ (((M 11 (alg C R x2 (pmx C R (M 11) x2 3) 1)) ≤ ((M 11 x2) + (M 3 5))) → zT g (z2 o) mX10_fills (zQv (z2 o) q) 4 [(0, zA g 1), (2, zI (alg C R x2 (pmx C R (M 11) x2 3) 1)), (3, zI 0)] [] M) ∧ ((¬ ((M 11 (alg C R x2 (pmx C R (M 11) x2 3) 1)) ≤ ((M 11 x2) + (M 3 5)))) → ∃ q19 : zM → Prop, zKv g (z2 o) mX10_slides [zA g 1, zI (alg C R x2 (pmx C R (M 11) x2 3) 1), zI (opp (pmx C R (M 11) x2 3))] M q19 ∧ ∀ M21 : zM, q19 M21 → zT g (z2 o) mX10_fills (zQv (z2 o) q) 4 [(0, zA g 1), (2, zI (alg C R x2 (pmx C R (M 11) x2 3) 1)), (3, zI 1)] [] M21))) : zT g (z2 o) mX10_fills (zQv (z2 o) q) 4 [(0, zA g 1), (2, zI x2), (3, zI x3)] [] M := by
  refine zr_iload_n 2 dX10_fills_4 rfl ?_
  obtain ⟨c1, W⟩ := W
  refine zr_if_eq (tgt := 76) dX10_fills_5 (by decide) c1 (fun h => ?_) (fun h => ?_)
  · have W := W.1 h
    exact zt_ret dX10_fills_76 rfl W
  · have W := W.2 h
    refine zr_aload_n 0 dX10_fills_8 rfl ?_
    refine zr_iload_n 1 dX10_fills_9 rfl ?_
    refine zr_iconst dX10_fills_10 ?_
    obtain ⟨c2, W⟩ := W
    obtain ⟨c3, W⟩ := W
    obtain ⟨c4, W⟩ := W
    refine zt_callVi (As := [zI x2, zI 1]) (rest := []) dX10_fills_11 kX10_fills_293 rfl rfl rfl rfl (Nat.le_of_ble_eq_true rfl) (c_wayToH c2 c3 c4) (fun r5 N7 h6 => ?_)
    rw [h6.1, h6.2]
    refine zr_istore (l' := [(0, zA g 1), (2, zI x2), (4, zI (pmx C R (M 11) x2 3))]) dX10_fills_14 (by decide) [1, 2, 0] rfl ?_
    refine zr_aload_n 0 dX10_fills_16 rfl ?_
    refine zr_iload_n 1 dX10_fills_17 rfl ?_
    refine zr_iload 2 dX10_fills_18 rfl ?_
    refine zr_iconst dX10_fills_20 ?_
    obtain ⟨c8, W⟩ := W
    refine zt_callVi (As := [zI x2, zI (pmx C R (M 11) x2 3), zI 1]) (rest := []) dX10_fills_21 kX10_fills_282 rfl rfl rfl rfl (Nat.le_of_ble_eq_true rfl) (c_along c2 c3 c8 (by decide)) (fun r9 N11 h10 => ?_)
    rw [h10.1, h10.2]
    refine zr_istore (l' := [(0, zA g 1), (2, zI x2), (4, zI (pmx C R (M 11) x2 3)), (5, zI (alg C R x2 (pmx C R (M 11) x2 3) 1))]) dX10_fills_24 (by decide) [1, 2, 3, 0] rfl ?_
    refine zr_aload_n 0 dX10_fills_26 rfl ?_
    refine zr_getr (b := 11) dX10_fills_27 fX10_45 rfl rfl rfl (by decide) ?_
    refine zr_iload 3 dX10_fills_30 rfl ?_
    obtain ⟨c12, W⟩ := W
    refine zr_iald dX10_fills_32 rfl (by decide) c12 ?_
    refine zr_aload_n 0 dX10_fills_33 rfl ?_
    refine zr_getr (b := 11) dX10_fills_34 fX10_45 rfl rfl rfl (by decide) ?_
    refine zr_iload_n 1 dX10_fills_37 rfl ?_
    obtain ⟨c13, W⟩ := W
    refine zr_iald dX10_fills_38 rfl (by decide) c13 ?_
    refine zr_aload_n 0 dX10_fills_39 rfl ?_
    refine zr_getr (b := 3) dX10_fills_40 fX10_20 rfl rfl rfl (by decide) ?_
    refine zr_iconst dX10_fills_43 ?_
    refine zr_iald dX10_fills_44 rfl (by decide) ⟨by decide, by decide⟩ ?_
    refine zr_iadd dX10_fills_45 ?_
    obtain ⟨c14, W⟩ := W
    obtain ⟨c15, W⟩ := W
    refine zr_icmp_le (tgt := 53) dX10_fills_46 (by decide) c14 c15 (fun h => ?_) (fun h => ?_)
    · have W := W.1 h
      refine zr_iconst dX10_fills_53 ?_
      refine zr_istore_n (l' := [(0, zA g 1), (3, zI 0), (4, zI (pmx C R (M 11) x2 3)), (5, zI (alg C R x2 (pmx C R (M 11) x2 3) 1))]) dX10_fills_54 (by decide) [1, 0, 3, 4] rfl ?_
      refine zr_iload_n 1 dX10_fills_55 rfl ?_
      refine zr_if_eq (tgt := 70) dX10_fills_56 (by decide) ⟨by decide, by decide⟩ (fun h => ?_) (fun h => ?_)
      · skip
        refine zr_iload 3 dX10_fills_70 rfl ?_
        refine zr_istore_n (l' := [(0, zA g 1), (2, zI (alg C R x2 (pmx C R (M 11) x2 3) 1)), (3, zI 0)]) dX10_fills_72 (by decide) [1, 0, 2] rfl ?_
        refine zr_goto (tgt := 4) dX10_fills_73 (by decide) ?_
        exact W
      · exact absurd h (by decide)
    · have W := W.2 h
      refine zr_iconst dX10_fills_49 ?_
      refine zr_goto (tgt := 54) dX10_fills_50 (by decide) ?_
      refine zr_istore_n (l' := [(0, zA g 1), (3, zI 1), (4, zI (pmx C R (M 11) x2 3)), (5, zI (alg C R x2 (pmx C R (M 11) x2 3) 1))]) dX10_fills_54 (by decide) [1, 0, 3, 4] rfl ?_
      refine zr_iload_n 1 dX10_fills_55 rfl ?_
      refine zr_if_eq (tgt := 70) dX10_fills_56 (by decide) ⟨by decide, by decide⟩ (fun h => ?_) (fun h => ?_)
      · exact absurd h (by decide)
      · skip
        refine zr_aload_n 0 dX10_fills_59 rfl ?_
        refine zr_iload 3 dX10_fills_60 rfl ?_
        refine zr_iload 2 dX10_fills_62 rfl ?_
        refine zt_callSi (As := [zI (pmx C R (M 11) x2 3)]) (rest := [zI (alg C R x2 (pmx C R (M 11) x2 3) 1), zA g 1]) dX10_fills_64 kX10_fills_279 rfl rfl (Nat.le_of_ble_eq_true rfl) (c_against c8) (fun r16 N18 h17 => ?_)
        rw [h17.1, h17.2]
        obtain ⟨q19, k23, W⟩ := W
        refine zt_callVv (As := [zI (alg C R x2 (pmx C R (M 11) x2 3) 1), zI (opp (pmx C R (M 11) x2 3))]) (rest := []) dX10_fills_67 kX10_fills_297 rfl rfl rfl rfl (Nat.le_of_ble_eq_true rfl) k23 (fun M21 h22 => ?_)
        have W := W M21 h22
        refine zr_iload 3 dX10_fills_70 rfl ?_
        refine zr_istore_n (l' := [(0, zA g 1), (2, zI (alg C R x2 (pmx C R (M 11) x2 3) 1)), (3, zI 1)]) dX10_fills_72 (by decide) [1, 0, 2] rfl ?_
        refine zr_goto (tgt := 4) dX10_fills_73 (by decide) ?_
        exact W
theorem dX10_spills_0 : decode cX10_spills 0 = .ok (.iload_n 1, 1) := by decide +kernel
theorem dX10_spills_1 : decode cX10_spills 1 = .ok (.istore_n 2, 1) := by decide +kernel
theorem dX10_spills_2 : decode cX10_spills 2 = .ok (.iconst 1, 1) := by decide +kernel
theorem dX10_spills_3 : decode cX10_spills 3 = .ok (.istore_n 3, 1) := by decide +kernel
theorem dX10_spills_4 : decode cX10_spills 4 = .ok (.iload_n 3, 1) := by decide +kernel
theorem dX10_spills_5 : decode cX10_spills 5 = .ok (.ifCond .eq 67, 3) := by decide +kernel
theorem dX10_spills_8 : decode cX10_spills 8 = .ok (.aload_n 0, 1) := by decide +kernel
theorem dX10_spills_9 : decode cX10_spills 9 = .ok (.iload_n 2, 1) := by decide +kernel
theorem dX10_spills_10 : decode cX10_spills 10 = .ok (.iconst 0, 1) := by decide +kernel
theorem dX10_spills_11 : decode cX10_spills 11 = .ok (.invokevirtual 293, 3) := by decide +kernel
theorem dX10_spills_14 : decode cX10_spills 14 = .ok (.istore 4, 2) := by decide +kernel
theorem dX10_spills_16 : decode cX10_spills 16 = .ok (.aload_n 0, 1) := by decide +kernel
theorem dX10_spills_17 : decode cX10_spills 17 = .ok (.iload_n 2, 1) := by decide +kernel
theorem dX10_spills_18 : decode cX10_spills 18 = .ok (.iload 4, 2) := by decide +kernel
theorem dX10_spills_20 : decode cX10_spills 20 = .ok (.iconst 1, 1) := by decide +kernel
theorem dX10_spills_21 : decode cX10_spills 21 = .ok (.invokevirtual 282, 3) := by decide +kernel
theorem dX10_spills_24 : decode cX10_spills 24 = .ok (.istore 5, 2) := by decide +kernel
theorem dX10_spills_26 : decode cX10_spills 26 = .ok (.aload_n 0, 1) := by decide +kernel
theorem dX10_spills_27 : decode cX10_spills 27 = .ok (.getfield 45, 3) := by decide +kernel
theorem dX10_spills_30 : decode cX10_spills 30 = .ok (.iload 5, 2) := by decide +kernel
theorem dX10_spills_32 : decode cX10_spills 32 = .ok (.iaload, 1) := by decide +kernel
theorem dX10_spills_33 : decode cX10_spills 33 = .ok (.aload_n 0, 1) := by decide +kernel
theorem dX10_spills_34 : decode cX10_spills 34 = .ok (.getfield 45, 3) := by decide +kernel
theorem dX10_spills_37 : decode cX10_spills 37 = .ok (.iload_n 2, 1) := by decide +kernel
theorem dX10_spills_38 : decode cX10_spills 38 = .ok (.iaload, 1) := by decide +kernel
theorem dX10_spills_39 : decode cX10_spills 39 = .ok (.aload_n 0, 1) := by decide +kernel
theorem dX10_spills_40 : decode cX10_spills 40 = .ok (.getfield 20, 3) := by decide +kernel
theorem dX10_spills_43 : decode cX10_spills 43 = .ok (.iconst 5, 1) := by decide +kernel
theorem dX10_spills_44 : decode cX10_spills 44 = .ok (.iaload, 1) := by decide +kernel
theorem dX10_spills_45 : decode cX10_spills 45 = .ok (.isub, 1) := by decide +kernel
theorem dX10_spills_46 : decode cX10_spills 46 = .ok (.if_icmp .ge 7, 3) := by decide +kernel
theorem dX10_spills_49 : decode cX10_spills 49 = .ok (.iconst 1, 1) := by decide +kernel
theorem dX10_spills_50 : decode cX10_spills 50 = .ok (.goto 4, 3) := by decide +kernel
theorem dX10_spills_53 : decode cX10_spills 53 = .ok (.iconst 0, 1) := by decide +kernel
theorem dX10_spills_54 : decode cX10_spills 54 = .ok (.istore_n 3, 1) := by decide +kernel
theorem dX10_spills_55 : decode cX10_spills 55 = .ok (.iload_n 3, 1) := by decide +kernel
theorem dX10_spills_56 : decode cX10_spills 56 = .ok (.ifCond .eq 10, 3) := by decide +kernel
theorem dX10_spills_59 : decode cX10_spills 59 = .ok (.aload_n 0, 1) := by decide +kernel
theorem dX10_spills_60 : decode cX10_spills 60 = .ok (.iload_n 2, 1) := by decide +kernel
theorem dX10_spills_61 : decode cX10_spills 61 = .ok (.iload 4, 2) := by decide +kernel
theorem dX10_spills_63 : decode cX10_spills 63 = .ok (.invokevirtual 297, 3) := by decide +kernel
theorem dX10_spills_66 : decode cX10_spills 66 = .ok (.iload 5, 2) := by decide +kernel
theorem dX10_spills_68 : decode cX10_spills 68 = .ok (.istore_n 2, 1) := by decide +kernel
theorem dX10_spills_69 : decode cX10_spills 69 = .ok (.goto (-65), 3) := by decide +kernel
theorem dX10_spills_72 : decode cX10_spills 72 = .ok (.return_, 1) := by decide +kernel
set_option maxRecDepth 100000 in
theorem SX10_spills_0 {g : zG} {o : Bool} {M : zM} {q : zM → Prop} {x1 : Int} (W : zT g (z2 o) mX10_spills (zQv (z2 o) q) 4 [(0, zA g 1), (2, zI x1), (3, zI 1)] [] M) : zT g (z2 o) mX10_spills (zQv (z2 o) q) 0 [(0, zA g 1), (1, zI x1)] [] M := by
  refine zr_iload_n 1 dX10_spills_0 rfl ?_
  refine zr_istore_n (l' := [(0, zA g 1), (2, zI x1)]) dX10_spills_1 (by decide) [1, 0] rfl ?_
  refine zr_iconst dX10_spills_2 ?_
  refine zr_istore_n (l' := [(0, zA g 1), (2, zI x1), (3, zI 1)]) dX10_spills_3 (by decide) [1, 2, 0] rfl ?_
  exact W
set_option maxRecDepth 100000 in
theorem SX10_spills_4 {g : zG} {o : Bool} {C R : Int} {M : zM} {q : zM → Prop} {x2 x3 : Int} (W : (-2147483648 ≤ x3 ∧ x3 ≤ 2147483647) ∧ ((x3 = 0) → q M) ∧ ((¬ (x3 = 0)) → (zRf M C R) ∧ (0 ≤ x2 ∧ x2 < C * R) ∧ (Bd (M 11)) ∧ (0 ≤ (pmn C R (M 11) x2 3) ∧ (pmn C R (M 11) x2 3) ≤ 3) ∧ (0 ≤ (alg C R x2 (pmn C R (M 11) x2 3) 1) ∧ (alg C R x2 (pmn C R (M 11) x2 3) 1) < 198) ∧ (0 ≤ x2 ∧ x2 < 198) ∧ (-2147483648 ≤ (M 11 (alg C R x2 (pmn C R (M 11) x2 3) 1)) ∧ (M 11 (alg C R x2 (pmn C R (M 11) x2 3) 1)) ≤ 2147483647) ∧ (-2147483648 ≤ ((M 11 x2) - (M 3 5)) ∧ ((M 11 x2) - (M 3 5)) ≤ 2147483647) ∧ ((((M 11 x2) - (M 3 5)) ≤ (M 11 (alg C R x2 (pmn C R (M 11) x2 3) 1))) → zT g (z2 o) mX10_spills (zQv (z2 o) q) 4 [(0, zA g 1), (2, zI (alg C R x2 (pmn C R (M 11) x2 3) 1)), (3, zI 0)] [] M) ∧ ((¬ (((M 11 x2) - (M 3 5)) ≤ (M 11 (alg C R x2 (pmn C R (M 11) x2 3) 1)))) → ∃ q16 : zM → Prop, zKv g (z2 o) mX10_slides [zA g 1, zI x2, zI (pmn C R (M 11) x2 3)] M q16 ∧ ∀ M18 : zM, q16 M18 → zT g (z2 o) mX10_spills (zQv (z2 o) q) 4 [(0, zA g 1), (2, zI (alg C R x2 (pmn C R (M 11) x2 3) 1)), (3, zI 1)] [] M18))) : zT g (z2 o) mX10_spills (zQv (z2 o) q) 4 [(0, zA g 1), (2, zI x2), (3, zI x3)] [] M := by
  refine zr_iload_n 2 dX10_spills_4 rfl ?_
  obtain ⟨c1, W⟩ := W
  refine zr_if_eq (tgt := 72) dX10_spills_5 (by decide) c1 (fun h => ?_) (fun h => ?_)
  · have W := W.1 h
    exact zt_ret dX10_spills_72 rfl W
  · have W := W.2 h
    refine zr_aload_n 0 dX10_spills_8 rfl ?_
    refine zr_iload_n 1 dX10_spills_9 rfl ?_
    refine zr_iconst dX10_spills_10 ?_
    obtain ⟨c2, W⟩ := W
    obtain ⟨c3, W⟩ := W
    obtain ⟨c4, W⟩ := W
    refine zt_callVi (As := [zI x2, zI 0]) (rest := []) dX10_spills_11 kX10_spills_293 rfl rfl rfl rfl (Nat.le_of_ble_eq_true rfl) (c_wayToL c2 c3 c4) (fun r5 N7 h6 => ?_)
    rw [h6.1, h6.2]
    refine zr_istore (l' := [(0, zA g 1), (2, zI x2), (4, zI (pmn C R (M 11) x2 3))]) dX10_spills_14 (by decide) [1, 2, 0] rfl ?_
    refine zr_aload_n 0 dX10_spills_16 rfl ?_
    refine zr_iload_n 1 dX10_spills_17 rfl ?_
    refine zr_iload 2 dX10_spills_18 rfl ?_
    refine zr_iconst dX10_spills_20 ?_
    obtain ⟨c8, W⟩ := W
    refine zt_callVi (As := [zI x2, zI (pmn C R (M 11) x2 3), zI 1]) (rest := []) dX10_spills_21 kX10_spills_282 rfl rfl rfl rfl (Nat.le_of_ble_eq_true rfl) (c_along c2 c3 c8 (by decide)) (fun r9 N11 h10 => ?_)
    rw [h10.1, h10.2]
    refine zr_istore (l' := [(0, zA g 1), (2, zI x2), (4, zI (pmn C R (M 11) x2 3)), (5, zI (alg C R x2 (pmn C R (M 11) x2 3) 1))]) dX10_spills_24 (by decide) [1, 2, 3, 0] rfl ?_
    refine zr_aload_n 0 dX10_spills_26 rfl ?_
    refine zr_getr (b := 11) dX10_spills_27 fX10_45 rfl rfl rfl (by decide) ?_
    refine zr_iload 3 dX10_spills_30 rfl ?_
    obtain ⟨c12, W⟩ := W
    refine zr_iald dX10_spills_32 rfl (by decide) c12 ?_
    refine zr_aload_n 0 dX10_spills_33 rfl ?_
    refine zr_getr (b := 11) dX10_spills_34 fX10_45 rfl rfl rfl (by decide) ?_
    refine zr_iload_n 1 dX10_spills_37 rfl ?_
    obtain ⟨c13, W⟩ := W
    refine zr_iald dX10_spills_38 rfl (by decide) c13 ?_
    refine zr_aload_n 0 dX10_spills_39 rfl ?_
    refine zr_getr (b := 3) dX10_spills_40 fX10_20 rfl rfl rfl (by decide) ?_
    refine zr_iconst dX10_spills_43 ?_
    refine zr_iald dX10_spills_44 rfl (by decide) ⟨by decide, by decide⟩ ?_
    refine zr_isub dX10_spills_45 ?_
    obtain ⟨c14, W⟩ := W
    obtain ⟨c15, W⟩ := W
    refine zr_icmp_ge (tgt := 53) dX10_spills_46 (by decide) c14 c15 (fun h => ?_) (fun h => ?_)
    · have W := W.1 h
      refine zr_iconst dX10_spills_53 ?_
      refine zr_istore_n (l' := [(0, zA g 1), (2, zI x2), (3, zI 0), (4, zI (pmn C R (M 11) x2 3)), (5, zI (alg C R x2 (pmn C R (M 11) x2 3) 1))]) dX10_spills_54 (by decide) [1, 2, 0, 3, 4] rfl ?_
      refine zr_iload_n 2 dX10_spills_55 rfl ?_
      refine zr_if_eq (tgt := 66) dX10_spills_56 (by decide) ⟨by decide, by decide⟩ (fun h => ?_) (fun h => ?_)
      · skip
        refine zr_iload 4 dX10_spills_66 rfl ?_
        refine zr_istore_n (l' := [(0, zA g 1), (2, zI (alg C R x2 (pmn C R (M 11) x2 3) 1)), (3, zI 0)]) dX10_spills_68 (by decide) [1, 0, 2] rfl ?_
        refine zr_goto (tgt := 4) dX10_spills_69 (by decide) ?_
        exact W
      · exact absurd h (by decide)
    · have W := W.2 h
      refine zr_iconst dX10_spills_49 ?_
      refine zr_goto (tgt := 54) dX10_spills_50 (by decide) ?_
      refine zr_istore_n (l' := [(0, zA g 1), (2, zI x2), (3, zI 1), (4, zI (pmn C R (M 11) x2 3)), (5, zI (alg C R x2 (pmn C R (M 11) x2 3) 1))]) dX10_spills_54 (by decide) [1, 2, 0, 3, 4] rfl ?_
      refine zr_iload_n 2 dX10_spills_55 rfl ?_
      refine zr_if_eq (tgt := 66) dX10_spills_56 (by decide) ⟨by decide, by decide⟩ (fun h => ?_) (fun h => ?_)
      · exact absurd h (by decide)
      · skip
        refine zr_aload_n 0 dX10_spills_59 rfl ?_
        refine zr_iload_n 1 dX10_spills_60 rfl ?_
        refine zr_iload 3 dX10_spills_61 rfl ?_
        obtain ⟨q16, k20, W⟩ := W
        refine zt_callVv (As := [zI x2, zI (pmn C R (M 11) x2 3)]) (rest := []) dX10_spills_63 kX10_spills_297 rfl rfl rfl rfl (Nat.le_of_ble_eq_true rfl) k20 (fun M18 h19 => ?_)
        have W := W M18 h19
        refine zr_iload 4 dX10_spills_66 rfl ?_
        refine zr_istore_n (l' := [(0, zA g 1), (2, zI (alg C R x2 (pmn C R (M 11) x2 3) 1)), (3, zI 1)]) dX10_spills_68 (by decide) [1, 0, 2] rfl ?_
        refine zr_goto (tgt := 4) dX10_spills_69 (by decide) ?_
        exact W
theorem dX10_settles_0 : decode cX10_settles 0 = .ok (.iconst 0, 1) := by decide +kernel
theorem dX10_settles_1 : decode cX10_settles 1 = .ok (.istore_n 1, 1) := by decide +kernel
theorem dX10_settles_2 : decode cX10_settles 2 = .ok (.iload_n 1, 1) := by decide +kernel
theorem dX10_settles_3 : decode cX10_settles 3 = .ok (.aload_n 0, 1) := by decide +kernel
theorem dX10_settles_4 : decode cX10_settles 4 = .ok (.invokevirtual 226, 3) := by decide +kernel
theorem dX10_settles_7 : decode cX10_settles 7 = .ok (.if_icmp .ge 69, 3) := by decide +kernel
theorem dX10_settles_10 : decode cX10_settles 10 = .ok (.aload_n 0, 1) := by decide +kernel
theorem dX10_settles_11 : decode cX10_settles 11 = .ok (.iload_n 1, 1) := by decide +kernel
theorem dX10_settles_12 : decode cX10_settles 12 = .ok (.iconst 0, 1) := by decide +kernel
theorem dX10_settles_13 : decode cX10_settles 13 = .ok (.invokevirtual 293, 3) := by decide +kernel
theorem dX10_settles_16 : decode cX10_settles 16 = .ok (.istore_n 2, 1) := by decide +kernel
theorem dX10_settles_17 : decode cX10_settles 17 = .ok (.aload_n 0, 1) := by decide +kernel
theorem dX10_settles_18 : decode cX10_settles 18 = .ok (.getfield 45, 3) := by decide +kernel
theorem dX10_settles_21 : decode cX10_settles 21 = .ok (.aload_n 0, 1) := by decide +kernel
theorem dX10_settles_22 : decode cX10_settles 22 = .ok (.iload_n 1, 1) := by decide +kernel
theorem dX10_settles_23 : decode cX10_settles 23 = .ok (.iload_n 2, 1) := by decide +kernel
theorem dX10_settles_24 : decode cX10_settles 24 = .ok (.iconst 1, 1) := by decide +kernel
theorem dX10_settles_25 : decode cX10_settles 25 = .ok (.invokevirtual 282, 3) := by decide +kernel
theorem dX10_settles_28 : decode cX10_settles 28 = .ok (.iaload, 1) := by decide +kernel
theorem dX10_settles_29 : decode cX10_settles 29 = .ok (.aload_n 0, 1) := by decide +kernel
theorem dX10_settles_30 : decode cX10_settles 30 = .ok (.getfield 45, 3) := by decide +kernel
theorem dX10_settles_33 : decode cX10_settles 33 = .ok (.iload_n 1, 1) := by decide +kernel
theorem dX10_settles_34 : decode cX10_settles 34 = .ok (.iaload, 1) := by decide +kernel
theorem dX10_settles_35 : decode cX10_settles 35 = .ok (.aload_n 0, 1) := by decide +kernel
theorem dX10_settles_36 : decode cX10_settles 36 = .ok (.getfield 20, 3) := by decide +kernel
theorem dX10_settles_39 : decode cX10_settles 39 = .ok (.iconst 5, 1) := by decide +kernel
theorem dX10_settles_40 : decode cX10_settles 40 = .ok (.iaload, 1) := by decide +kernel
theorem dX10_settles_41 : decode cX10_settles 41 = .ok (.isub, 1) := by decide +kernel
theorem dX10_settles_42 : decode cX10_settles 42 = .ok (.if_icmp .ge 7, 3) := by decide +kernel
theorem dX10_settles_45 : decode cX10_settles 45 = .ok (.iconst 1, 1) := by decide +kernel
theorem dX10_settles_46 : decode cX10_settles 46 = .ok (.goto 4, 3) := by decide +kernel
theorem dX10_settles_49 : decode cX10_settles 49 = .ok (.iconst 0, 1) := by decide +kernel
theorem dX10_settles_50 : decode cX10_settles 50 = .ok (.istore_n 3, 1) := by decide +kernel
theorem dX10_settles_51 : decode cX10_settles 51 = .ok (.iload_n 3, 1) := by decide +kernel
theorem dX10_settles_52 : decode cX10_settles 52 = .ok (.ifCond .eq 9, 3) := by decide +kernel
theorem dX10_settles_55 : decode cX10_settles 55 = .ok (.aload_n 0, 1) := by decide +kernel
theorem dX10_settles_56 : decode cX10_settles 56 = .ok (.iload_n 1, 1) := by decide +kernel
theorem dX10_settles_57 : decode cX10_settles 57 = .ok (.iload_n 2, 1) := by decide +kernel
theorem dX10_settles_58 : decode cX10_settles 58 = .ok (.invokevirtual 297, 3) := by decide +kernel
theorem dX10_settles_61 : decode cX10_settles 61 = .ok (.iload_n 3, 1) := by decide +kernel
theorem dX10_settles_62 : decode cX10_settles 62 = .ok (.ifCond .eq 7, 3) := by decide +kernel
theorem dX10_settles_65 : decode cX10_settles 65 = .ok (.iconst 0, 1) := by decide +kernel
theorem dX10_settles_66 : decode cX10_settles 66 = .ok (.goto 6, 3) := by decide +kernel
theorem dX10_settles_69 : decode cX10_settles 69 = .ok (.iload_n 1, 1) := by decide +kernel
theorem dX10_settles_70 : decode cX10_settles 70 = .ok (.iconst 1, 1) := by decide +kernel
theorem dX10_settles_71 : decode cX10_settles 71 = .ok (.iadd, 1) := by decide +kernel
theorem dX10_settles_72 : decode cX10_settles 72 = .ok (.istore_n 1, 1) := by decide +kernel
theorem dX10_settles_73 : decode cX10_settles 73 = .ok (.goto (-71), 3) := by decide +kernel
theorem dX10_settles_76 : decode cX10_settles 76 = .ok (.return_, 1) := by decide +kernel
set_option maxRecDepth 100000 in
theorem SX10_settles_0 {g : zG} {o : Bool} {M : zM} {q : zM → Prop} (W : zT g (z2 o) mX10_settles (zQv (z2 o) q) 2 [(0, zA g 1), (1, zI 0)] [] M) : zT g (z2 o) mX10_settles (zQv (z2 o) q) 0 [(0, zA g 1)] [] M := by
  refine zr_iconst dX10_settles_0 ?_
  refine zr_istore_n (l' := [(0, zA g 1), (1, zI 0)]) dX10_settles_1 (by decide) [1, 0] rfl ?_
  exact W
set_option maxRecDepth 100000 in
theorem SX10_settles_2 {g : zG} {o : Bool} {C R : Int} {M : zM} {q : zM → Prop} {x1 : Int} (W : (zRf M C R) ∧ (-2147483648 ≤ x1 ∧ x1 ≤ 2147483647) ∧ (-2147483648 ≤ (C * R) ∧ (C * R) ≤ 2147483647) ∧ (((C * R) ≤ x1) → q M) ∧ ((¬ ((C * R) ≤ x1)) → (0 ≤ x1 ∧ x1 < C * R) ∧ (Bd (M 11)) ∧ (0 ≤ (pmn C R (M 11) x1 3) ∧ (pmn C R (M 11) x1 3) ≤ 3) ∧ (0 ≤ (alg C R x1 (pmn C R (M 11) x1 3) 1) ∧ (alg C R x1 (pmn C R (M 11) x1 3) 1) < 198) ∧ (0 ≤ x1 ∧ x1 < 198) ∧ (-2147483648 ≤ (M 11 (alg C R x1 (pmn C R (M 11) x1 3) 1)) ∧ (M 11 (alg C R x1 (pmn C R (M 11) x1 3) 1)) ≤ 2147483647) ∧ (-2147483648 ≤ ((M 11 x1) - (M 3 5)) ∧ ((M 11 x1) - (M 3 5)) ≤ 2147483647) ∧ ((((M 11 x1) - (M 3 5)) ≤ (M 11 (alg C R x1 (pmn C R (M 11) x1 3) 1))) → zT g (z2 o) mX10_settles (zQv (z2 o) q) 2 [(0, zA g 1), (1, zI (x1 + 1))] [] M) ∧ ((¬ (((M 11 x1) - (M 3 5)) ≤ (M 11 (alg C R x1 (pmn C R (M 11) x1 3) 1)))) → ∃ q20 : zM → Prop, zKv g (z2 o) mX10_slides [zA g 1, zI x1, zI (pmn C R (M 11) x1 3)] M q20 ∧ ∀ M22 : zM, q20 M22 → zT g (z2 o) mX10_settles (zQv (z2 o) q) 2 [(0, zA g 1), (1, zI 0)] [] M22))) : zT g (z2 o) mX10_settles (zQv (z2 o) q) 2 [(0, zA g 1), (1, zI x1)] [] M := by
  refine zr_iload_n 1 dX10_settles_2 rfl ?_
  refine zr_aload_n 0 dX10_settles_3 rfl ?_
  obtain ⟨c1, W⟩ := W
  refine zt_callVi (As := []) (rest := [zI x1]) dX10_settles_4 kX10_settles_226 rfl rfl rfl rfl (Nat.le_of_ble_eq_true rfl) (c_cells c1) (fun r2 N4 h3 => ?_)
  rw [h3.1, h3.2]
  obtain ⟨c5, W⟩ := W
  obtain ⟨c6, W⟩ := W
  refine zr_icmp_ge (tgt := 76) dX10_settles_7 (by decide) c5 c6 (fun h => ?_) (fun h => ?_)
  · have W := W.1 h
    exact zt_ret dX10_settles_76 rfl W
  · have W := W.2 h
    refine zr_aload_n 0 dX10_settles_10 rfl ?_
    refine zr_iload_n 1 dX10_settles_11 rfl ?_
    refine zr_iconst dX10_settles_12 ?_
    obtain ⟨c7, W⟩ := W
    obtain ⟨c8, W⟩ := W
    refine zt_callVi (As := [zI x1, zI 0]) (rest := []) dX10_settles_13 kX10_settles_293 rfl rfl rfl rfl (Nat.le_of_ble_eq_true rfl) (c_wayToL c1 c7 c8) (fun r9 N11 h10 => ?_)
    rw [h10.1, h10.2]
    refine zr_istore_n (l' := [(0, zA g 1), (1, zI x1), (2, zI (pmn C R (M 11) x1 3))]) dX10_settles_16 (by decide) [1, 2, 0] rfl ?_
    refine zr_aload_n 0 dX10_settles_17 rfl ?_
    refine zr_getr (b := 11) dX10_settles_18 fX10_45 rfl rfl rfl (by decide) ?_
    refine zr_aload_n 0 dX10_settles_21 rfl ?_
    refine zr_iload_n 1 dX10_settles_22 rfl ?_
    refine zr_iload_n 2 dX10_settles_23 rfl ?_
    refine zr_iconst dX10_settles_24 ?_
    obtain ⟨c12, W⟩ := W
    refine zt_callVi (As := [zI x1, zI (pmn C R (M 11) x1 3), zI 1]) (rest := [zA g 11]) dX10_settles_25 kX10_settles_282 rfl rfl rfl rfl (Nat.le_of_ble_eq_true rfl) (c_along c1 c7 c12 (by decide)) (fun r13 N15 h14 => ?_)
    rw [h14.1, h14.2]
    obtain ⟨c16, W⟩ := W
    refine zr_iald dX10_settles_28 rfl (by decide) c16 ?_
    refine zr_aload_n 0 dX10_settles_29 rfl ?_
    refine zr_getr (b := 11) dX10_settles_30 fX10_45 rfl rfl rfl (by decide) ?_
    refine zr_iload_n 1 dX10_settles_33 rfl ?_
    obtain ⟨c17, W⟩ := W
    refine zr_iald dX10_settles_34 rfl (by decide) c17 ?_
    refine zr_aload_n 0 dX10_settles_35 rfl ?_
    refine zr_getr (b := 3) dX10_settles_36 fX10_20 rfl rfl rfl (by decide) ?_
    refine zr_iconst dX10_settles_39 ?_
    refine zr_iald dX10_settles_40 rfl (by decide) ⟨by decide, by decide⟩ ?_
    refine zr_isub dX10_settles_41 ?_
    obtain ⟨c18, W⟩ := W
    obtain ⟨c19, W⟩ := W
    refine zr_icmp_ge (tgt := 49) dX10_settles_42 (by decide) c18 c19 (fun h => ?_) (fun h => ?_)
    · have W := W.1 h
      refine zr_iconst dX10_settles_49 ?_
      refine zr_istore_n (l' := [(0, zA g 1), (1, zI x1), (2, zI (pmn C R (M 11) x1 3)), (3, zI 0)]) dX10_settles_50 (by decide) [1, 2, 3, 0] rfl ?_
      refine zr_iload_n 3 dX10_settles_51 rfl ?_
      refine zr_if_eq (tgt := 61) dX10_settles_52 (by decide) ⟨by decide, by decide⟩ (fun h => ?_) (fun h => ?_)
      · skip
        refine zr_iload_n 3 dX10_settles_61 rfl ?_
        refine zr_if_eq (tgt := 69) dX10_settles_62 (by decide) ⟨by decide, by decide⟩ (fun h => ?_) (fun h => ?_)
        · skip
          refine zr_iload_n 1 dX10_settles_69 rfl ?_
          refine zr_iconst dX10_settles_70 ?_
          refine zr_iadd dX10_settles_71 ?_
          refine zr_istore_n (l' := [(0, zA g 1), (1, zI (x1 + 1))]) dX10_settles_72 (by decide) [1, 0] rfl ?_
          refine zr_goto (tgt := 2) dX10_settles_73 (by decide) ?_
          exact W
        · exact absurd h (by decide)
      · exact absurd h (by decide)
    · have W := W.2 h
      refine zr_iconst dX10_settles_45 ?_
      refine zr_goto (tgt := 50) dX10_settles_46 (by decide) ?_
      refine zr_istore_n (l' := [(0, zA g 1), (1, zI x1), (2, zI (pmn C R (M 11) x1 3)), (3, zI 1)]) dX10_settles_50 (by decide) [1, 2, 3, 0] rfl ?_
      refine zr_iload_n 3 dX10_settles_51 rfl ?_
      refine zr_if_eq (tgt := 61) dX10_settles_52 (by decide) ⟨by decide, by decide⟩ (fun h => ?_) (fun h => ?_)
      · exact absurd h (by decide)
      · skip
        refine zr_aload_n 0 dX10_settles_55 rfl ?_
        refine zr_iload_n 1 dX10_settles_56 rfl ?_
        refine zr_iload_n 2 dX10_settles_57 rfl ?_
        obtain ⟨q20, k24, W⟩ := W
        refine zt_callVv (As := [zI x1, zI (pmn C R (M 11) x1 3)]) (rest := []) dX10_settles_58 kX10_settles_297 rfl rfl rfl rfl (Nat.le_of_ble_eq_true rfl) k24 (fun M22 h23 => ?_)
        have W := W M22 h23
        refine zr_iload_n 3 dX10_settles_61 rfl ?_
        refine zr_if_eq (tgt := 69) dX10_settles_62 (by decide) ⟨by decide, by decide⟩ (fun h => ?_) (fun h => ?_)
        · exact absurd h (by decide)
        · skip
          refine zr_iconst dX10_settles_65 ?_
          refine zr_goto (tgt := 72) dX10_settles_66 (by decide) ?_
          refine zr_istore_n (l' := [(0, zA g 1), (1, zI 0)]) dX10_settles_72 (by decide) [1, 0] rfl ?_
          refine zr_goto (tgt := 2) dX10_settles_73 (by decide) ?_
          exact W
/-- the reference's row, slides and line stand for (heights, slides, lines) -/
def repz (M : zM) (z : Hz) : Prop := (∀ i : Int, 0 ≤ i → i < 96 → M 11 i = z.1 i) ∧ M 1 24 = z.2.1 ∧ rX M z.2.2
def rfz (M M' : zM) : Prop := (∀ b : Nat, b ≠ 1 → b ≠ 11 → M' b = M b) ∧ (∀ i : Int, i ≠ 24 → i ≠ 25 → M' 1 i = M 1 i) ∧ ∀ i : Int, 96 ≤ i → M' 11 i = M 11 i
section RQ
variable {g : zG} {o : Bool} {M M' M'' : zM} {x y w c k t S C R B : Int} {H H' X : Int → Int} {z : Hz}
theorem rfz.trans (h1 : rfz M M') (h2 : rfz M' M'') : rfz M M'' :=
  ⟨fun b p q => (h2.1 b p q).trans (h1.1 b p q), fun i p q => (h2.2.1 i p q).trans (h1.2.1 i p q), fun i p => (h2.2.2 i p).trans (h1.2.2 i p)⟩
theorem rfz.rf : rfz M M := ⟨fun _ _ _ => rfl, fun _ _ _ => rfl, fun _ _ => rfl⟩
theorem rfz.L (h : rfz M M') (hL : zRf M C R) : zRf M' C R := hL.of (h.1 3 (by decide) (by decide)) (h.1 4 (by decide) (by decide)) (h.1 5 (by decide) (by decide))
def eq96 (H H' : Int → Int) : Prop := ∀ i : Int, 0 ≤ i → i < 96 → H i = H' i
theorem bd_eq (h : eq96 H H') (hB : Bd H') : Bd H := fun i h0 h1 => by rw [h i h0 h1]; exact hB i h0 h1
theorem pmx_eq (hG : Geo C R) (hc : 0 ≤ c ∧ c < C * R) (h : eq96 H H') (n : Nat) : pmx C R H c n = pmx C R H' c n := by
  have hn := geo_n hG
  induction n with
  | zero => rfl
  | succ n ih =>
    unfold pmx
    have a1 := alg_in (w := ((n + 1 : Nat) : Int)) (k := 1) hG hc
    have a2 := alg_in (w := pmx C R H' c n) (k := 1) hG hc
    rw [ih, h _ a1.1 (by omega), h _ a2.1 (by omega)]
theorem pmn_eq (hG : Geo C R) (hc : 0 ≤ c ∧ c < C * R) (h : eq96 H H') (n : Nat) : pmn C R H c n = pmn C R H' c n := by
  have hn := geo_n hG
  induction n with
  | zero => rfl
  | succ n ih =>
    unfold pmn
    have a1 := alg_in (w := ((n + 1 : Nat) : Int)) (k := 1) hG hc
    have a2 := alg_in (w := pmn C R H' c n) (k := 1) hG hc
    rw [ih, h _ a1.1 (by omega), h _ a2.1 (by omega)]
theorem pmx_spec (n : Nat) : (∀ i : Nat, i ≤ n → H (alg C R c i 1) ≤ H (alg C R c (pmx C R H c n) 1)) ∧ ∀ i : Nat, (i : Int) < pmx C R H c n → H (alg C R c i 1) < H (alg C R c (pmx C R H c n) 1) := by
  induction n with
  | zero =>
    refine ⟨fun i hi => ?_, fun i hi => ?_⟩
    · rw [show i = 0 by omega]; exact Int.le_refl _
    · have : (i : Int) < 0 := hi
      omega
  | succ n ih =>
    have p := pmx_in (C := C) (R := R) (H := H) (c := c) n
    unfold pmx
    by_cases h : H (alg C R c (pmx C R H c n) 1) < H (alg C R c ((n + 1 : Nat) : Int) 1)
    · rw [if_pos h]
      refine ⟨fun i hi => ?_, fun i hi => ?_⟩
      · by_cases e : i = n + 1
        · rw [e]; exact Int.le_refl _
        · have := ih.1 i (by omega); omega
      · have := ih.1 i (by omega); omega
    · rw [if_neg h]
      refine ⟨fun i hi => ?_, ih.2⟩
      by_cases e : i = n + 1
      · rw [e]; omega
      · exact ih.1 i (by omega)
theorem pmn_spec (n : Nat) : (∀ i : Nat, i ≤ n → H (alg C R c (pmn C R H c n) 1) ≤ H (alg C R c i 1)) ∧ ∀ i : Nat, (i : Int) < pmn C R H c n → H (alg C R c (pmn C R H c n) 1) < H (alg C R c i 1) := by
  induction n with
  | zero =>
    refine ⟨fun i hi => ?_, fun i hi => ?_⟩
    · rw [show i = 0 by omega]; exact Int.le_refl _
    · have : (i : Int) < 0 := hi
      omega
  | succ n ih =>
    have p := pmn_in (C := C) (R := R) (H := H) (c := c) n
    unfold pmn
    by_cases h : H (alg C R c ((n + 1 : Nat) : Int) 1) < H (alg C R c (pmn C R H c n) 1)
    · rw [if_pos h]
      refine ⟨fun i hi => ?_, fun i hi => ?_⟩
      · by_cases e : i = n + 1
        · rw [e]; exact Int.le_refl _
        · have := ih.1 i (by omega); omega
      · have := ih.1 i (by omega); omega
    · rw [if_neg h]
      refine ⟨fun i hi => ?_, ih.2⟩
      by_cases e : i = n + 1
      · rw [e]; omega
      · exact ih.1 i (by omega)
theorem pku_first {m : Int} (n k : Nat) (h : (pku C R H m c n).2 = (k : Int)) : ∀ i : Nat, i < k → H (alg C R c i 1) < H (alg C R c k 1) := by
  induction n with
  | zero => have : (-1 : Int) = k := h
            omega
  | succ n ih =>
    unfold pku at h
    by_cases hc : (pku C R H m c n).1 < H (alg C R c n 1)
    · rw [if_pos hc] at h
      have hk : (n : Int) = k := h
      have hk : n = k := by omega
      subst hk
      intro i hi
      rcases pku_spec (C := C) (R := R) (H := H) (m := m) (c := c) n with ⟨-, e, hh⟩ | ⟨j, -, -, e, -, hh⟩
      · have := hh i hi; omega
      · have := hh i hi; omega
    · rw [if_neg hc] at h; exact ih h
theorem pkd_first {m : Int} (n k : Nat) (h : (pkd C R H m c n).2 = (k : Int)) : ∀ i : Nat, i < k → H (alg C R c k 1) < H (alg C R c i 1) := by
  induction n with
  | zero => have : (-1 : Int) = k := h
            omega
  | succ n ih =>
    unfold pkd at h
    by_cases hc : H (alg C R c n 1) < (pkd C R H m c n).1
    · rw [if_pos hc] at h
      have hk : (n : Int) = k := h
      have hk : n = k := by omega
      subst hk
      intro i hi
      rcases pkd_spec (C := C) (R := R) (H := H) (m := m) (c := c) n with ⟨-, e, hh⟩ | ⟨j, -, -, e, -, hh⟩
      · have := hh i hi; omega
      · have := hh i hi; omega
    · rw [if_neg hc] at h; exact ih h
/-- both ways of looking for the highest one beside agree -/
theorem wup_pmx (C R : Int) (H : Int → Int) (S c : Int) : (wup C R H S c = -1 ∧ H (alg C R c (pmx C R H c 3) 1) ≤ H c + S) ∨ (wup C R H S c = pmx C R H c 3 ∧ H c + S < H (alg C R c (pmx C R H c 3) 1)) := by
  have p := pmx_in (C := C) (R := R) (H := H) (c := c) 3
  obtain ⟨q, hq⟩ := znn p.1
  have s1 := pmx_spec (C := C) (R := R) (H := H) (c := c) 3
  rw [hq] at s1 p ⊢
  rcases pku_spec (C := C) (R := R) (H := H) (m := H c + S) (c := c) 4 with ⟨e, -, h⟩ | ⟨k, hk, e, -, h, hm⟩
  · exact Or.inl ⟨e, h q (by omega)⟩
  · have f := pku_first 4 k e
    have h1 := hm q (by omega)
    have h2 := s1.1 k (by omega)
    refine Or.inr ⟨?_, by omega⟩
    show (pku C R H (H c + S) c 4).2 = q
    rw [e]
    rcases Nat.lt_trichotomy k q with h3 | h3 | h3
    · have := s1.2 k (by omega); omega
    · rw [h3]
    · have := f q h3; omega
theorem wdn_pmn (C R : Int) (H : Int → Int) (S c : Int) : (wdn C R H S c = -1 ∧ H c - S ≤ H (alg C R c (pmn C R H c 3) 1)) ∨ (wdn C R H S c = pmn C R H c 3 ∧ H (alg C R c (pmn C R H c 3) 1) < H c - S) := by
  have p := pmn_in (C := C) (R := R) (H := H) (c := c) 3
  obtain ⟨q, hq⟩ := znn p.1
  have s1 := pmn_spec (C := C) (R := R) (H := H) (c := c) 3
  rw [hq] at s1 p ⊢
  rcases pkd_spec (C := C) (R := R) (H := H) (m := H c - S) (c := c) 4 with ⟨e, -, h⟩ | ⟨k, hk, e, -, h, hm⟩
  · exact Or.inl ⟨e, h q (by omega)⟩
  · have f := pkd_first 4 k e
    have h1 := hm q (by omega)
    have h2 := s1.1 k (by omega)
    refine Or.inr ⟨?_, by omega⟩
    show (pkd C R H (H c - S) c 4).2 = q
    rw [e]
    rcases Nat.lt_trichotomy k q with h3 | h3 | h3
    · have := s1.2 k (by omega); omega
    · rw [h3]
    · have := f q h3; omega
theorem c_slides (h : zRf M C R) (hc : 0 ≤ c ∧ c < C * R) (hw : 0 ≤ w ∧ w ≤ 3) (hl : -1 ≤ M 1 26 ∧ M 1 26 ≤ 12) (hz : repz M z) : zKv g (z2 o) mX10_slides [zA g 1, zI c, zI w] M (fun M' => repz M' (sldz C R z c w) ∧ rfz M M') := by
  have hn := geo_n h.1
  have a1 := alg_in (w := w) (k := 1) h.1 hc
  refine zkv_of rfl (Nat.le_of_ble_eq_true rfl) (SX10_slides_0 (C := C) (R := R) ⟨by omega, h.of (zu_other (by decide)) (zu_other (by decide)) (zu_other (by decide)), hc, hw, by omega, fun N9 e9 N11 e11 => ?_⟩)
  have p1 : ∀ b : Nat, b ≠ 1 → b ≠ 11 → zu N11 1 24 (N11 1 24 + 1) b = M b := fun b h1 h2 => by rw [zu_other h1, e11, zu_other h2, e9, zu_other h2]
  have p11 : zu N11 1 24 (N11 1 24 + 1) 11 = sld (M 11) c (alg C R c w 1) := by
    rw [zu_other (by decide), e11, e9]
    funext j
    simp only [zu_row, sld, up]
  have pi : ∀ i : Int, i ≠ 24 → zu N11 1 24 (N11 1 24 + 1) 1 i = M 1 i := fun i hi => by rw [zu_row, if_neg hi, e11, zu_other (by decide), e9, zu_other (by decide)]
  have p24 : zu N11 1 24 (N11 1 24 + 1) 1 24 = M 1 24 + 1 := by rw [zu_at, e11, zu_other (by decide), e9, zu_other (by decide)]
  have hX : rX (zu N11 1 24 (N11 1 24 + 1)) z.2.2 := by unfold rX; rw [pi 25 (by decide), pi 26 (by decide)]; exact hz.2.2
  have hcr := c_crosses (g := g) (o := o) (n := 1) (w := w) (c := c) (X := z.2.2) (M := zu N11 1 24 (N11 1 24 + 1)) (h.of (p1 3 (by decide) (by decide)) (p1 4 (by decide) (by decide)) (p1 5 (by decide) (by decide))) hc hw (by decide) (by rw [pi 26 (by decide)]; exact hl) hX
  refine ⟨_, hcr, fun M15 hq => ?_⟩
  obtain ⟨⟨v, e⟩, hX'⟩ := hq
  refine ⟨⟨fun i h0 h1 => ?_, ?_, hX'⟩, fun b h1 h2 => ?_, fun i h1 h2 => ?_, fun i h1 => ?_⟩
  · rw [e, zu_other (by decide), p11]
    show sld (M 11) c (alg C R c w 1) i = sld z.1 c (alg C R c w 1) i
    unfold sld up
    rw [hz.1 i h0 h1, hz.1 c hc.1 (by omega), hz.1 _ a1.1 (by omega)]
  · rw [e, zu_row, if_neg (by decide), p24, hz.2.1]; rfl
  · rw [e, zu_other h1, p1 b h1 h2]
  · rw [e, zu_row, if_neg h2, pi i h1]
  · rw [e, zu_other (by decide), p11, sld_o (by omega) (by omega)]
theorem c_fills (h : zRf M C R) (hc : 0 ≤ c ∧ c < C * R) (hl : -1 ≤ M 1 26 ∧ M 1 26 ≤ 12) (hz : repz M z) (hB : Bd z.1) : zKv g (z2 o) mX10_fills [zA g 1, zI c] M (fun M' => repz M' (flz C R (M 3 5) 96 z c) ∧ rfz M M') := by
  have hn := geo_n h.1
  have hS := h.2.2.2.1
  refine zkv_of rfl (Nat.le_of_ble_eq_true rfl) (SX10_fills_0 ?_)
  suffices hs : ∀ (n : Nat) (z : Hz) (c : Int) (M1 : zM), 0 ≤ c ∧ c < C * R → Bd z.1 → repz M1 z → rfz M M1 → muF C R (M 3 5) z.1 c < n → zT g (z2 o) mX10_fills (zQv (z2 o) (fun M' => repz M' (flz C R (M 3 5) n z c) ∧ rfz M M')) 4 [(0, zA g 1), (2, zI c), (3, zI 1)] [] M1 from
    hs 96 z c M hc hB hz rfz.rf (mu_le _ h.1 hc (by omega))
  intro n
  induction n with
  | zero =>
    intro z c M1 hc hB hz hf hmu
    have := (cnt_in (fun x => z.1 c + M 3 5 < z.1 x) (C * R).toNat).1
    unfold muF at hmu; omega
  | succ n ih =>
    intro z c M1 hc hB hz hf hmu
    have hL1 := hf.L h
    have e35 : M1 3 = M 3 := hf.1 3 (by decide) (by decide)
    have ep := pmx_eq h.1 hc (H := M1 11) (H' := z.1) hz.1 3
    have p := pmx_in (C := C) (R := R) (H := z.1) (c := c) 3
    have a1 := alg_in (w := pmx C R z.1 c 3) (k := 1) h.1 hc
    have b1 := hB _ a1.1 (by omega)
    have b2 := hB c hc.1 (by omega)
    refine SX10_fills_4 (C := C) (R := R) ⟨by omega, fun h4 => by omega, fun h4 => ?_⟩
    rw [ep, e35, hz.1 _ a1.1 (by omega), hz.1 c hc.1 (by omega)]
    refine ⟨hL1, hc, bd_eq hz.1 hB, by omega, by omega, by omega, by omega, by omega, fun h5 => ?_, fun h5 => ?_⟩
    · rcases wup_pmx C R z.1 (M 3 5) c with ⟨e, -⟩ | ⟨-, e2⟩
      · have ef : flz C R (M 3 5) (n + 1) z c = z := by show (if _ then _ else _) = _; rw [if_pos e]
        rw [ef]
        exact SX10_fills_4 (C := C) (R := R) ⟨by omega, fun _ => ⟨hz, hf⟩, fun h6 => absurd rfl h6⟩
      · omega
    · rcases wup_pmx C R z.1 (M 3 5) c with ⟨-, e2⟩ | ⟨e, e2⟩
      · omega
      · obtain ⟨p1, p2, p3, p4, p5⟩ := fill_step (B := 1000000000) (H := z.1) h.1 hS.1 hc (show 0 ≤ pmx C R z.1 c 3 ∧ pmx C R z.1 c 3 ≤ 3 by omega) e2
        refine ⟨_, c_slides hL1 p1 (opp_in (by omega)) (by rw [hf.2.1 26 (by decide) (by decide)]; exact hl) hz, fun M2 hq => ?_⟩
        have ef : flz C R (M 3 5) (n + 1) z c = flz C R (M 3 5) n (sldz C R z (alg C R c (pmx C R z.1 c 3) 1) (opp (pmx C R z.1 c 3))) (alg C R c (pmx C R z.1 c 3) 1) := by
          show (if wup C R z.1 (M 3 5) c = -1 then z else _) = _
          rw [if_neg (by omega), e]
        rw [ef]
        have ez : (sldz C R z (alg C R c (pmx C R z.1 c 3) 1) (opp (pmx C R z.1 c 3))).1 = sld z.1 (alg C R c (pmx C R z.1 c 3) 1) c := by
          show sld z.1 _ (alg C R (alg C R c (pmx C R z.1 c 3) 1) (opp (pmx C R z.1 c 3)) 1) = _
          rw [p2]
        exact ih _ _ M2 p1 (by rw [ez]; exact p5 hB) hq.1 (hf.trans hq.2) (by rw [ez]; omega)
theorem c_spills (h : zRf M C R) (hc : 0 ≤ c ∧ c < C * R) (hl : -1 ≤ M 1 26 ∧ M 1 26 ≤ 12) (hz : repz M z) (hB : Bd z.1) : zKv g (z2 o) mX10_spills [zA g 1, zI c] M (fun M' => repz M' (spz C R (M 3 5) 96 z c) ∧ rfz M M') := by
  have hn := geo_n h.1
  have hS := h.2.2.2.1
  refine zkv_of rfl (Nat.le_of_ble_eq_true rfl) (SX10_spills_0 ?_)
  suffices hs : ∀ (n : Nat) (z : Hz) (c : Int) (M1 : zM), 0 ≤ c ∧ c < C * R → Bd z.1 → repz M1 z → rfz M M1 → muS C R (M 3 5) z.1 c < n → zT g (z2 o) mX10_spills (zQv (z2 o) (fun M' => repz M' (spz C R (M 3 5) n z c) ∧ rfz M M')) 4 [(0, zA g 1), (2, zI c), (3, zI 1)] [] M1 from
    hs 96 z c M hc hB hz rfz.rf (mu_le _ h.1 hc (by omega))
  intro n
  induction n with
  | zero =>
    intro z c M1 hc hB hz hf hmu
    have := (cnt_in (fun x => z.1 x < z.1 c - M 3 5) (C * R).toNat).1
    unfold muS at hmu; omega
  | succ n ih =>
    intro z c M1 hc hB hz hf hmu
    have hL1 := hf.L h
    have e35 : M1 3 = M 3 := hf.1 3 (by decide) (by decide)
    have ep := pmn_eq h.1 hc (H := M1 11) (H' := z.1) hz.1 3
    have p := pmn_in (C := C) (R := R) (H := z.1) (c := c) 3
    have a1 := alg_in (w := pmn C R z.1 c 3) (k := 1) h.1 hc
    have b1 := hB _ a1.1 (by omega)
    have b2 := hB c hc.1 (by omega)
    refine SX10_spills_4 (C := C) (R := R) ⟨by omega, fun h4 => by omega, fun h4 => ?_⟩
    rw [ep, e35, hz.1 _ a1.1 (by omega), hz.1 c hc.1 (by omega)]
    refine ⟨hL1, hc, bd_eq hz.1 hB, by omega, by omega, by omega, by omega, by omega, fun h5 => ?_, fun h5 => ?_⟩
    · rcases wdn_pmn C R z.1 (M 3 5) c with ⟨e, -⟩ | ⟨-, e2⟩
      · have ef : spz C R (M 3 5) (n + 1) z c = z := by show (if _ then _ else _) = _; rw [if_pos e]
        rw [ef]
        exact SX10_spills_4 (C := C) (R := R) ⟨by omega, fun _ => ⟨hz, hf⟩, fun h6 => absurd rfl h6⟩
      · omega
    · rcases wdn_pmn C R z.1 (M 3 5) c with ⟨-, e2⟩ | ⟨e, e2⟩
      · omega
      · obtain ⟨p1, p3, p4, p5⟩ := spill_step (B := 1000000000) (H := z.1) h.1 hS.1 hc e2
        refine ⟨_, c_slides hL1 hc (by omega) (by rw [hf.2.1 26 (by decide) (by decide)]; exact hl) hz, fun M2 hq => ?_⟩
        have ef : spz C R (M 3 5) (n + 1) z c = spz C R (M 3 5) n (sldz C R z c (pmn C R z.1 c 3)) (alg C R c (pmn C R z.1 c 3) 1) := by
          show (if wdn C R z.1 (M 3 5) c = -1 then z else _) = _
          rw [if_neg (by omega), e]
        rw [ef]
        exact ih _ _ M2 p1 (p5 hB) hq.1 (hf.trans hq.2) (by show muS C R (M 3 5) (sld z.1 c _) _ < n; omega)
end RQ
end
section
theorem dX10_flies_0 : decode cX10_flies 0 = .ok (.aload_n 0, 1) := by decide +kernel
theorem dX10_flies_1 : decode cX10_flies 1 = .ok (.invokevirtual 273, 3) := by decide +kernel
theorem dX10_flies_4 : decode cX10_flies 4 = .ok (.istore_n 2, 1) := by decide +kernel
theorem dX10_flies_5 : decode cX10_flies 5 = .ok (.iload_n 1, 1) := by decide +kernel
theorem dX10_flies_6 : decode cX10_flies 6 = .ok (.istore_n 3, 1) := by decide +kernel
theorem dX10_flies_7 : decode cX10_flies 7 = .ok (.iconst 0, 1) := by decide +kernel
theorem dX10_flies_8 : decode cX10_flies 8 = .ok (.istore 4, 2) := by decide +kernel
theorem dX10_flies_10 : decode cX10_flies 10 = .ok (.iconst 1, 1) := by decide +kernel
theorem dX10_flies_11 : decode cX10_flies 11 = .ok (.istore 5, 2) := by decide +kernel
theorem dX10_flies_13 : decode cX10_flies 13 = .ok (.iload 4, 2) := by decide +kernel
theorem dX10_flies_15 : decode cX10_flies 15 = .ok (.ifCond .ne 119, 3) := by decide +kernel
theorem dX10_flies_18 : decode cX10_flies 18 = .ok (.aload_n 0, 1) := by decide +kernel
theorem dX10_flies_19 : decode cX10_flies 19 = .ok (.iload_n 3, 1) := by decide +kernel
theorem dX10_flies_20 : decode cX10_flies 20 = .ok (.iload_n 2, 1) := by decide +kernel
theorem dX10_flies_21 : decode cX10_flies 21 = .ok (.aload_n 0, 1) := by decide +kernel
theorem dX10_flies_22 : decode cX10_flies 22 = .ok (.getfield 45, 3) := by decide +kernel
theorem dX10_flies_25 : decode cX10_flies 25 = .ok (.sipush 192, 3) := by decide +kernel
theorem dX10_flies_28 : decode cX10_flies 28 = .ok (.iaload, 1) := by decide +kernel
theorem dX10_flies_29 : decode cX10_flies 29 = .ok (.invokevirtual 289, 3) := by decide +kernel
theorem dX10_flies_32 : decode cX10_flies 32 = .ok (.aload_n 0, 1) := by decide +kernel
theorem dX10_flies_33 : decode cX10_flies 33 = .ok (.iload_n 3, 1) := by decide +kernel
theorem dX10_flies_34 : decode cX10_flies 34 = .ok (.iload_n 2, 1) := by decide +kernel
theorem dX10_flies_35 : decode cX10_flies 35 = .ok (.aload_n 0, 1) := by decide +kernel
theorem dX10_flies_36 : decode cX10_flies 36 = .ok (.getfield 45, 3) := by decide +kernel
theorem dX10_flies_39 : decode cX10_flies 39 = .ok (.sipush 192, 3) := by decide +kernel
theorem dX10_flies_42 : decode cX10_flies 42 = .ok (.iaload, 1) := by decide +kernel
theorem dX10_flies_43 : decode cX10_flies 43 = .ok (.invokevirtual 282, 3) := by decide +kernel
theorem dX10_flies_46 : decode cX10_flies 46 = .ok (.istore_n 3, 1) := by decide +kernel
theorem dX10_flies_47 : decode cX10_flies 47 = .ok (.aload_n 0, 1) := by decide +kernel
theorem dX10_flies_48 : decode cX10_flies 48 = .ok (.dup, 1) := by decide +kernel
theorem dX10_flies_49 : decode cX10_flies 49 = .ok (.getfield 261, 3) := by decide +kernel
theorem dX10_flies_52 : decode cX10_flies 52 = .ok (.iconst 1, 1) := by decide +kernel
theorem dX10_flies_53 : decode cX10_flies 53 = .ok (.iadd, 1) := by decide +kernel
theorem dX10_flies_54 : decode cX10_flies 54 = .ok (.putfield 261, 3) := by decide +kernel
theorem dX10_flies_57 : decode cX10_flies 57 = .ok (.iload 5, 2) := by decide +kernel
theorem dX10_flies_59 : decode cX10_flies 59 = .ok (.bipush 20, 2) := by decide +kernel
theorem dX10_flies_61 : decode cX10_flies 61 = .ok (.if_icmp .eq 11, 3) := by decide +kernel
theorem dX10_flies_64 : decode cX10_flies 64 = .ok (.aload_n 0, 1) := by decide +kernel
theorem dX10_flies_65 : decode cX10_flies 65 = .ok (.iload_n 3, 1) := by decide +kernel
theorem dX10_flies_66 : decode cX10_flies 66 = .ok (.invokevirtual 286, 3) := by decide +kernel
theorem dX10_flies_69 : decode cX10_flies 69 = .ok (.ifCond .eq 7, 3) := by decide +kernel
theorem dX10_flies_72 : decode cX10_flies 72 = .ok (.iconst 1, 1) := by decide +kernel
theorem dX10_flies_73 : decode cX10_flies 73 = .ok (.goto 4, 3) := by decide +kernel
theorem dX10_flies_76 : decode cX10_flies 76 = .ok (.iconst 0, 1) := by decide +kernel
theorem dX10_flies_77 : decode cX10_flies 77 = .ok (.istore 4, 2) := by decide +kernel
theorem dX10_flies_79 : decode cX10_flies 79 = .ok (.iload 4, 2) := by decide +kernel
theorem dX10_flies_81 : decode cX10_flies 81 = .ok (.ifCond .ne 47, 3) := by decide +kernel
theorem dX10_flies_84 : decode cX10_flies 84 = .ok (.aload_n 0, 1) := by decide +kernel
theorem dX10_flies_85 : decode cX10_flies 85 = .ok (.bipush 16, 2) := by decide +kernel
theorem dX10_flies_87 : decode cX10_flies 87 = .ok (.invokevirtual 300, 3) := by decide +kernel
theorem dX10_flies_90 : decode cX10_flies 90 = .ok (.aload_n 0, 1) := by decide +kernel
theorem dX10_flies_91 : decode cX10_flies 91 = .ok (.getfield 45, 3) := by decide +kernel
theorem dX10_flies_94 : decode cX10_flies 94 = .ok (.iload_n 3, 1) := by decide +kernel
theorem dX10_flies_95 : decode cX10_flies 95 = .ok (.iaload, 1) := by decide +kernel
theorem dX10_flies_96 : decode cX10_flies 96 = .ok (.ifCond .le 14, 3) := by decide +kernel
theorem dX10_flies_99 : decode cX10_flies 99 = .ok (.aload_n 0, 1) := by decide +kernel
theorem dX10_flies_100 : decode cX10_flies 100 = .ok (.getfield 45, 3) := by decide +kernel
theorem dX10_flies_103 : decode cX10_flies 103 = .ok (.sipush 194, 3) := by decide +kernel
theorem dX10_flies_106 : decode cX10_flies 106 = .ok (.iaload, 1) := by decide +kernel
theorem dX10_flies_107 : decode cX10_flies 107 = .ok (.goto 11, 3) := by decide +kernel
theorem dX10_flies_110 : decode cX10_flies 110 = .ok (.aload_n 0, 1) := by decide +kernel
theorem dX10_flies_111 : decode cX10_flies 111 = .ok (.getfield 45, 3) := by decide +kernel
theorem dX10_flies_114 : decode cX10_flies 114 = .ok (.sipush 195, 3) := by decide +kernel
theorem dX10_flies_117 : decode cX10_flies 117 = .ok (.iaload, 1) := by decide +kernel
theorem dX10_flies_118 : decode cX10_flies 118 = .ok (.if_icmp .ge 7, 3) := by decide +kernel
theorem dX10_flies_121 : decode cX10_flies 121 = .ok (.iconst 1, 1) := by decide +kernel
theorem dX10_flies_122 : decode cX10_flies 122 = .ok (.goto 4, 3) := by decide +kernel
theorem dX10_flies_125 : decode cX10_flies 125 = .ok (.iconst 0, 1) := by decide +kernel
theorem dX10_flies_126 : decode cX10_flies 126 = .ok (.istore 4, 2) := by decide +kernel
theorem dX10_flies_128 : decode cX10_flies 128 = .ok (.iinc 5 1, 3) := by decide +kernel
theorem dX10_flies_131 : decode cX10_flies 131 = .ok (.goto (-118), 3) := by decide +kernel
theorem dX10_flies_134 : decode cX10_flies 134 = .ok (.iload_n 3, 1) := by decide +kernel
theorem dX10_flies_135 : decode cX10_flies 135 = .ok (.ireturn, 1) := by decide +kernel
set_option maxRecDepth 100000 in
theorem SX10_flies_0 {g : zG} {o : Bool} {C R : Int} {M : zM} {q : Int → zM → Prop} {x1 : Int} (W : (zRf M C R) ∧ (0 ≤ M 11 197 ∧ M 11 197 ≤ 2147483647) ∧ zT g (z2 o) mX10_flies (zQi (z2 o) q) 13 [(0, zA g 1), (2, zI (wnr M (M 11 197))), (3, zI x1), (4, zI 0), (5, zI 1)] [] M) : zT g (z2 o) mX10_flies (zQi (z2 o) q) 0 [(0, zA g 1), (1, zI x1)] [] M := by
  refine zr_aload_n 0 dX10_flies_0 rfl ?_
  obtain ⟨c1, W⟩ := W
  obtain ⟨c2, W⟩ := W
  refine zt_callVi (As := []) (rest := []) dX10_flies_1 kX10_flies_273 rfl rfl rfl rfl (Nat.le_of_ble_eq_true rfl) (c_windNow c1 c2) (fun r3 N5 h4 => ?_)
  rw [h4.1, h4.2]
  refine zr_istore_n (l' := [(0, zA g 1), (1, zI x1), (2, zI (wnr M (M 11 197)))]) dX10_flies_4 (by decide) [1, 2, 0] rfl ?_
  refine zr_iload_n 1 dX10_flies_5 rfl ?_
  refine zr_istore_n (l' := [(0, zA g 1), (2, zI (wnr M (M 11 197))), (3, zI x1)]) dX10_flies_6 (by decide) [1, 3, 0] rfl ?_
  refine zr_iconst dX10_flies_7 ?_
  refine zr_istore (l' := [(0, zA g 1), (2, zI (wnr M (M 11 197))), (3, zI x1), (4, zI 0)]) dX10_flies_8 (by decide) [1, 2, 3, 0] rfl ?_
  refine zr_iconst dX10_flies_10 ?_
  refine zr_istore (l' := [(0, zA g 1), (2, zI (wnr M (M 11 197))), (3, zI x1), (4, zI 0), (5, zI 1)]) dX10_flies_11 (by decide) [1, 2, 3, 4, 0] rfl ?_
  exact W
set_option maxRecDepth 100000 in
theorem SX10_flies_13 {g : zG} {o : Bool} {C R : Int} {M : zM} {q : Int → zM → Prop} {x2 x3 x4 x5 : Int} (W : (-2147483648 ≤ x4 ∧ x4 ≤ 2147483647) ∧ ((x4 ≠ 0) → q x3 M) ∧ ((x4 = 0) → ∃ q2 : zM → Prop, zKv g (z2 o) mX10_crosses [zA g 1, zI x3, zI x2, zI (M 11 192)] M q2 ∧ ∀ M4 : zM, q2 M4 → (zRf M4 C R) ∧ (0 ≤ x3 ∧ x3 < C * R) ∧ (0 ≤ x2 ∧ x2 ≤ 3) ∧ (0 ≤ (M4 11 192) ∧ (M4 11 192) ≤ 10000) ∧ (-2147483648 ≤ x5 ∧ x5 ≤ 2147483647) ∧ ((x5 = 20) → zT g (z2 o) mX10_flies (zQi (z2 o) q) 72 [(0, zA g 1), (2, zI x2), (3, zI (alg C R x3 x2 (M4 11 192))), (5, zI x5)] [] (zu M4 1 23 ((M4 1 23) + 1))) ∧ ((¬ (x5 = 20)) → (zRf (zu M4 1 23 ((M4 1 23) + 1)) C R) ∧ (0 ≤ (alg C R x3 x2 (M4 11 192)) ∧ (alg C R x3 x2 (M4 11 192)) < C * R) ∧ (0 ≤ (zu M4 1 23 ((M4 1 23) + 1)) 11 197 ∧ (zu M4 1 23 ((M4 1 23) + 1)) 11 197 ≤ 2147483647) ∧ (Bd ((zu M4 1 23 ((M4 1 23) + 1)) 11)) ∧ (0 ≤ (zu M4 1 23 ((M4 1 23) + 1)) 11 193 ∧ (zu M4 1 23 ((M4 1 23) + 1)) 11 193 ≤ 9) ∧ ((¬ (shd C R ((zu M4 1 23 ((M4 1 23) + 1)) 11) ((zu M4 1 23 ((M4 1 23) + 1)) 11 193) (alg C R x3 x2 (M4 11 192)) (wnr (zu M4 1 23 ((M4 1 23) + 1)) ((zu M4 1 23 ((M4 1 23) + 1)) 11 197)))) → (0 ≤ (zu M4 1 23 ((M4 1 23) + 1)) 11 196 ∧ (zu M4 1 23 ((M4 1 23) + 1)) 11 196 ≤ 10006) ∧ ((0 : Int) < 16 ∧ 16 ≤ (2147483647 : Int)) ∧ ∀ (r25 : Int) (N27 : zM), r25 = dsd ((zu M4 1 23 ((M4 1 23) + 1)) 11 196) % 16 → N27 = zu (zu M4 1 23 ((M4 1 23) + 1)) 11 196 (dsd ((zu M4 1 23 ((M4 1 23) + 1)) 11 196)) → (0 ≤ (alg C R x3 x2 (M4 11 192)) ∧ (alg C R x3 x2 (M4 11 192)) < 198) ∧ (-2147483648 ≤ (N27 11 (alg C R x3 x2 (M4 11 192))) ∧ (N27 11 (alg C R x3 x2 (M4 11 192))) ≤ 2147483647) ∧ (((N27 11 (alg C R x3 x2 (M4 11 192))) ≤ 0) → (-2147483648 ≤ r25 ∧ r25 ≤ 2147483647) ∧ (-2147483648 ≤ (N27 11 195) ∧ (N27 11 195) ≤ 2147483647) ∧ (((N27 11 195) ≤ r25) → zT g (z2 o) mX10_flies (zQi (z2 o) q) 13 [(0, zA g 1), (2, zI x2), (3, zI (alg C R x3 x2 (M4 11 192))), (4, zI 0), (5, zI (x5 + 1))] [] N27) ∧ ((¬ ((N27 11 195) ≤ r25)) → zT g (z2 o) mX10_flies (zQi (z2 o) q) 13 [(0, zA g 1), (2, zI x2), (3, zI (alg C R x3 x2 (M4 11 192))), (4, zI 1), (5, zI (x5 + 1))] [] N27)) ∧ ((¬ ((N27 11 (alg C R x3 x2 (M4 11 192))) ≤ 0)) → (-2147483648 ≤ r25 ∧ r25 ≤ 2147483647) ∧ (-2147483648 ≤ (N27 11 194) ∧ (N27 11 194) ≤ 2147483647) ∧ (((N27 11 194) ≤ r25) → zT g (z2 o) mX10_flies (zQi (z2 o) q) 13 [(0, zA g 1), (2, zI x2), (3, zI (alg C R x3 x2 (M4 11 192))), (4, zI 0), (5, zI (x5 + 1))] [] N27) ∧ ((¬ ((N27 11 194) ≤ r25)) → zT g (z2 o) mX10_flies (zQi (z2 o) q) 13 [(0, zA g 1), (2, zI x2), (3, zI (alg C R x3 x2 (M4 11 192))), (4, zI 1), (5, zI (x5 + 1))] [] N27))) ∧ ((shd C R ((zu M4 1 23 ((M4 1 23) + 1)) 11) ((zu M4 1 23 ((M4 1 23) + 1)) 11 193) (alg C R x3 x2 (M4 11 192)) (wnr (zu M4 1 23 ((M4 1 23) + 1)) ((zu M4 1 23 ((M4 1 23) + 1)) 11 197))) → zT g (z2 o) mX10_flies (zQi (z2 o) q) 72 [(0, zA g 1), (2, zI x2), (3, zI (alg C R x3 x2 (M4 11 192))), (5, zI x5)] [] (zu M4 1 23 ((M4 1 23) + 1)))))) : zT g (z2 o) mX10_flies (zQi (z2 o) q) 13 [(0, zA g 1), (2, zI x2), (3, zI x3), (4, zI x4), (5, zI x5)] [] M := by
  refine zr_iload 3 dX10_flies_13 rfl ?_
  obtain ⟨c1, W⟩ := W
  refine zr_if_ne (tgt := 134) dX10_flies_15 (by decide) c1 (fun h => ?_) (fun h => ?_)
  · have W := W.1 h
    refine zr_iload_n 2 dX10_flies_134 rfl ?_
    exact zt_iret dX10_flies_135 rfl W
  · have W := W.2 h
    refine zr_aload_n 0 dX10_flies_18 rfl ?_
    refine zr_iload_n 2 dX10_flies_19 rfl ?_
    refine zr_iload_n 1 dX10_flies_20 rfl ?_
    refine zr_aload_n 0 dX10_flies_21 rfl ?_
    refine zr_getr (b := 11) dX10_flies_22 fX10_45 rfl rfl rfl (by decide) ?_
    refine zr_sipush dX10_flies_25 (by decide) ?_
    refine zr_iald dX10_flies_28 rfl (by decide) ⟨by decide, by decide⟩ ?_
    obtain ⟨q2, k6, W⟩ := W
    refine zt_callVv (As := [zI x3, zI x2, zI (M 11 192)]) (rest := []) dX10_flies_29 kX10_flies_289 rfl rfl rfl rfl (Nat.le_of_ble_eq_true rfl) k6 (fun M4 h5 => ?_)
    have W := W M4 h5
    refine zr_aload_n 0 dX10_flies_32 rfl ?_
    refine zr_iload_n 2 dX10_flies_33 rfl ?_
    refine zr_iload_n 1 dX10_flies_34 rfl ?_
    refine zr_aload_n 0 dX10_flies_35 rfl ?_
    refine zr_getr (b := 11) dX10_flies_36 fX10_45 rfl rfl rfl (by decide) ?_
    refine zr_sipush dX10_flies_39 (by decide) ?_
    refine zr_iald dX10_flies_42 rfl (by decide) ⟨by decide, by decide⟩ ?_
    obtain ⟨c7, W⟩ := W
    obtain ⟨c8, W⟩ := W
    obtain ⟨c9, W⟩ := W
    obtain ⟨c10, W⟩ := W
    refine zt_callVi (As := [zI x3, zI x2, zI (M4 11 192)]) (rest := []) dX10_flies_43 kX10_flies_282 rfl rfl rfl rfl (Nat.le_of_ble_eq_true rfl) (c_along c7 c8 c9 c10) (fun r11 N13 h12 => ?_)
    rw [h12.1, h12.2]
    refine zr_istore_n (l' := [(0, zA g 1), (2, zI x2), (3, zI (alg C R x3 x2 (M4 11 192))), (5, zI x5)]) dX10_flies_46 (by decide) [1, 2, 0, 4] rfl ?_
    refine zr_aload_n 0 dX10_flies_47 rfl ?_
    refine zr_dup dX10_flies_48 rfl ?_
    refine zt_geti 23 rfl dX10_flies_49 fX10_261 rfl (by decide) ?_
    refine zr_iconst dX10_flies_52 ?_
    refine zr_iadd dX10_flies_53 ?_
    refine zt_puti 23 rfl dX10_flies_54 fX10_261 lcX10 ltX10_23 rfl rfl ?_
    refine zr_iload 3 dX10_flies_57 rfl ?_
    refine zr_bipush dX10_flies_59 (by decide) ?_
    obtain ⟨c14, W⟩ := W
    refine zr_icmp_eq (tgt := 72) dX10_flies_61 (by decide) c14 ⟨by decide, by decide⟩ (fun h => ?_) (fun h => ?_)
    · have W := W.1 h
      exact W
    · have W := W.2 h
      refine zr_aload_n 0 dX10_flies_64 rfl ?_
      refine zr_iload_n 2 dX10_flies_65 rfl ?_
      obtain ⟨c15, W⟩ := W
      obtain ⟨c16, W⟩ := W
      obtain ⟨c17, W⟩ := W
      obtain ⟨c18, W⟩ := W
      obtain ⟨c19, W⟩ := W
      refine zt_callVi (As := [zI (alg C R x3 x2 (M4 11 192))]) (rest := []) dX10_flies_66 kX10_flies_286 rfl rfl rfl rfl (Nat.le_of_ble_eq_true rfl) (c_isShadow c15 c16 c17 c18 c19) (fun r20 N22 h21 => ?_)
      rw [h21.1, h21.2]
      refine zt_ifeq_b (tgt := 76) dX10_flies_69 (by decide) (fun h => ?_) (fun h => ?_)
      · have W := W.1 h
        refine zr_iconst dX10_flies_76 ?_
        refine zr_istore (l' := [(0, zA g 1), (2, zI x2), (3, zI (alg C R x3 x2 (M4 11 192))), (4, zI 0), (5, zI x5)]) dX10_flies_77 (by decide) [1, 2, 3, 0, 4] rfl ?_
        refine zr_iload 3 dX10_flies_79 rfl ?_
        refine zr_if_ne (tgt := 128) dX10_flies_81 (by decide) ⟨by decide, by decide⟩ (fun h => ?_) (fun h => ?_)
        · exact absurd h (by decide)
        · skip
          refine zr_aload_n 0 dX10_flies_84 rfl ?_
          refine zr_bipush dX10_flies_85 (by decide) ?_
          obtain ⟨c23, W⟩ := W
          obtain ⟨c24, W⟩ := W
          refine zt_callVi (As := [zI 16]) (rest := []) dX10_flies_87 kX10_flies_300 rfl rfl rfl rfl (Nat.le_of_ble_eq_true rfl) (c_drawR c23 c24) (fun r25 N27 h26 => ?_)
          have W := W r25 N27 h26.1 h26.2
          refine zr_aload_n 0 dX10_flies_90 rfl ?_
          refine zr_getr (b := 11) dX10_flies_91 fX10_45 rfl rfl rfl (by decide) ?_
          refine zr_iload_n 2 dX10_flies_94 rfl ?_
          obtain ⟨c28, W⟩ := W
          refine zr_iald dX10_flies_95 rfl (by decide) c28 ?_
          obtain ⟨c29, W⟩ := W
          refine zr_if_le (tgt := 110) dX10_flies_96 (by decide) c29 (fun h => ?_) (fun h => ?_)
          · have W := W.1 h
            refine zr_aload_n 0 dX10_flies_110 rfl ?_
            refine zr_getr (b := 11) dX10_flies_111 fX10_45 rfl rfl rfl (by decide) ?_
            refine zr_sipush dX10_flies_114 (by decide) ?_
            refine zr_iald dX10_flies_117 rfl (by decide) ⟨by decide, by decide⟩ ?_
            obtain ⟨c30, W⟩ := W
            obtain ⟨c31, W⟩ := W
            refine zr_icmp_ge (tgt := 125) dX10_flies_118 (by decide) c30 c31 (fun h => ?_) (fun h => ?_)
            · have W := W.1 h
              refine zr_iconst dX10_flies_125 ?_
              refine zr_istore (l' := [(0, zA g 1), (2, zI x2), (3, zI (alg C R x3 x2 (M4 11 192))), (4, zI 0), (5, zI x5)]) dX10_flies_126 (by decide) [1, 2, 3, 0, 4] rfl ?_
              refine zr_iinc (q := 4) (l' := [(0, zA g 1), (2, zI x2), (3, zI (alg C R x3 x2 (M4 11 192))), (4, zI 0), (5, zI (x5 + 1))]) dX10_flies_128 rfl (by decide) [1, 2, 3, 4, 0] rfl ?_
              refine zr_goto (tgt := 13) dX10_flies_131 (by decide) ?_
              exact W
            · have W := W.2 h
              refine zr_iconst dX10_flies_121 ?_
              refine zr_goto (tgt := 126) dX10_flies_122 (by decide) ?_
              refine zr_istore (l' := [(0, zA g 1), (2, zI x2), (3, zI (alg C R x3 x2 (M4 11 192))), (4, zI 1), (5, zI x5)]) dX10_flies_126 (by decide) [1, 2, 3, 0, 4] rfl ?_
              refine zr_iinc (q := 4) (l' := [(0, zA g 1), (2, zI x2), (3, zI (alg C R x3 x2 (M4 11 192))), (4, zI 1), (5, zI (x5 + 1))]) dX10_flies_128 rfl (by decide) [1, 2, 3, 4, 0] rfl ?_
              refine zr_goto (tgt := 13) dX10_flies_131 (by decide) ?_
              exact W
          · have W := W.2 h
            refine zr_aload_n 0 dX10_flies_99 rfl ?_
            refine zr_getr (b := 11) dX10_flies_100 fX10_45 rfl rfl rfl (by decide) ?_
            refine zr_sipush dX10_flies_103 (by decide) ?_
            refine zr_iald dX10_flies_106 rfl (by decide) ⟨by decide, by decide⟩ ?_
            refine zr_goto (tgt := 118) dX10_flies_107 (by decide) ?_
            obtain ⟨c32, W⟩ := W
            obtain ⟨c33, W⟩ := W
            refine zr_icmp_ge (tgt := 125) dX10_flies_118 (by decide) c32 c33 (fun h => ?_) (fun h => ?_)
            · have W := W.1 h
              refine zr_iconst dX10_flies_125 ?_
              refine zr_istore (l' := [(0, zA g 1), (2, zI x2), (3, zI (alg C R x3 x2 (M4 11 192))), (4, zI 0), (5, zI x5)]) dX10_flies_126 (by decide) [1, 2, 3, 0, 4] rfl ?_
              refine zr_iinc (q := 4) (l' := [(0, zA g 1), (2, zI x2), (3, zI (alg C R x3 x2 (M4 11 192))), (4, zI 0), (5, zI (x5 + 1))]) dX10_flies_128 rfl (by decide) [1, 2, 3, 4, 0] rfl ?_
              refine zr_goto (tgt := 13) dX10_flies_131 (by decide) ?_
              exact W
            · have W := W.2 h
              refine zr_iconst dX10_flies_121 ?_
              refine zr_goto (tgt := 126) dX10_flies_122 (by decide) ?_
              refine zr_istore (l' := [(0, zA g 1), (2, zI x2), (3, zI (alg C R x3 x2 (M4 11 192))), (4, zI 1), (5, zI x5)]) dX10_flies_126 (by decide) [1, 2, 3, 0, 4] rfl ?_
              refine zr_iinc (q := 4) (l' := [(0, zA g 1), (2, zI x2), (3, zI (alg C R x3 x2 (M4 11 192))), (4, zI 1), (5, zI (x5 + 1))]) dX10_flies_128 rfl (by decide) [1, 2, 3, 4, 0] rfl ?_
              refine zr_goto (tgt := 13) dX10_flies_131 (by decide) ?_
              exact W
      · have W := W.2 h
        exact W
set_option maxRecDepth 100000 in
theorem SX10_flies_72 {g : zG} {o : Bool} {M : zM} {q : Int → zM → Prop} {x2 x3 x5 : Int} (W : zT g (z2 o) mX10_flies (zQi (z2 o) q) 13 [(0, zA g 1), (2, zI x2), (3, zI x3), (4, zI 1), (5, zI (x5 + 1))] [] M) : zT g (z2 o) mX10_flies (zQi (z2 o) q) 72 [(0, zA g 1), (2, zI x2), (3, zI x3), (5, zI x5)] [] M := by
  refine zr_iconst dX10_flies_72 ?_
  refine zr_goto (tgt := 77) dX10_flies_73 (by decide) ?_
  refine zr_istore (l' := [(0, zA g 1), (2, zI x2), (3, zI x3), (4, zI 1), (5, zI x5)]) dX10_flies_77 (by decide) [1, 2, 3, 0, 4] rfl ?_
  refine zr_iload 3 dX10_flies_79 rfl ?_
  refine zr_if_ne (tgt := 128) dX10_flies_81 (by decide) ⟨by decide, by decide⟩ (fun h => ?_) (fun h => ?_)
  · skip
    refine zr_iinc (q := 4) (l' := [(0, zA g 1), (2, zI x2), (3, zI x3), (4, zI 1), (5, zI (x5 + 1))]) dX10_flies_128 rfl (by decide) [1, 2, 3, 4, 0] rfl ?_
    refine zr_goto (tgt := 13) dX10_flies_131 (by decide) ?_
    exact W
  · exact absurd h (by decide)
theorem dX10_tries_0 : decode cX10_tries 0 = .ok (.aload_n 0, 1) := by decide +kernel
theorem dX10_tries_1 : decode cX10_tries 1 = .ok (.aload_n 0, 1) := by decide +kernel
theorem dX10_tries_2 : decode cX10_tries 2 = .ok (.invokevirtual 226, 3) := by decide +kernel
theorem dX10_tries_5 : decode cX10_tries 5 = .ok (.invokevirtual 300, 3) := by decide +kernel
theorem dX10_tries_8 : decode cX10_tries 8 = .ok (.istore_n 1, 1) := by decide +kernel
theorem dX10_tries_9 : decode cX10_tries 9 = .ok (.aload_n 0, 1) := by decide +kernel
theorem dX10_tries_10 : decode cX10_tries 10 = .ok (.iload_n 1, 1) := by decide +kernel
theorem dX10_tries_11 : decode cX10_tries 11 = .ok (.invokevirtual 303, 3) := by decide +kernel
theorem dX10_tries_14 : decode cX10_tries 14 = .ok (.istore_n 2, 1) := by decide +kernel
theorem dX10_tries_15 : decode cX10_tries 15 = .ok (.iload_n 2, 1) := by decide +kernel
theorem dX10_tries_16 : decode cX10_tries 16 = .ok (.ifCond .eq 39, 3) := by decide +kernel
theorem dX10_tries_19 : decode cX10_tries 19 = .ok (.aload_n 0, 1) := by decide +kernel
theorem dX10_tries_20 : decode cX10_tries 20 = .ok (.getfield 45, 3) := by decide +kernel
theorem dX10_tries_23 : decode cX10_tries 23 = .ok (.iload_n 1, 1) := by decide +kernel
theorem dX10_tries_24 : decode cX10_tries 24 = .ok (.dup2, 1) := by decide +kernel
theorem dX10_tries_25 : decode cX10_tries 25 = .ok (.iaload, 1) := by decide +kernel
theorem dX10_tries_26 : decode cX10_tries 26 = .ok (.iconst 1, 1) := by decide +kernel
theorem dX10_tries_27 : decode cX10_tries 27 = .ok (.isub, 1) := by decide +kernel
theorem dX10_tries_28 : decode cX10_tries 28 = .ok (.iastore, 1) := by decide +kernel
theorem dX10_tries_29 : decode cX10_tries 29 = .ok (.aload_n 0, 1) := by decide +kernel
theorem dX10_tries_30 : decode cX10_tries 30 = .ok (.iload_n 1, 1) := by decide +kernel
theorem dX10_tries_31 : decode cX10_tries 31 = .ok (.invokevirtual 306, 3) := by decide +kernel
theorem dX10_tries_34 : decode cX10_tries 34 = .ok (.aload_n 0, 1) := by decide +kernel
theorem dX10_tries_35 : decode cX10_tries 35 = .ok (.iload_n 1, 1) := by decide +kernel
theorem dX10_tries_36 : decode cX10_tries 36 = .ok (.invokevirtual 309, 3) := by decide +kernel
theorem dX10_tries_39 : decode cX10_tries 39 = .ok (.istore_n 3, 1) := by decide +kernel
theorem dX10_tries_40 : decode cX10_tries 40 = .ok (.aload_n 0, 1) := by decide +kernel
theorem dX10_tries_41 : decode cX10_tries 41 = .ok (.getfield 45, 3) := by decide +kernel
theorem dX10_tries_44 : decode cX10_tries 44 = .ok (.iload_n 3, 1) := by decide +kernel
theorem dX10_tries_45 : decode cX10_tries 45 = .ok (.dup2, 1) := by decide +kernel
theorem dX10_tries_46 : decode cX10_tries 46 = .ok (.iaload, 1) := by decide +kernel
theorem dX10_tries_47 : decode cX10_tries 47 = .ok (.iconst 1, 1) := by decide +kernel
theorem dX10_tries_48 : decode cX10_tries 48 = .ok (.iadd, 1) := by decide +kernel
theorem dX10_tries_49 : decode cX10_tries 49 = .ok (.iastore, 1) := by decide +kernel
theorem dX10_tries_50 : decode cX10_tries 50 = .ok (.aload_n 0, 1) := by decide +kernel
theorem dX10_tries_51 : decode cX10_tries 51 = .ok (.iload_n 3, 1) := by decide +kernel
theorem dX10_tries_52 : decode cX10_tries 52 = .ok (.invokevirtual 312, 3) := by decide +kernel
theorem dX10_tries_55 : decode cX10_tries 55 = .ok (.aload_n 0, 1) := by decide +kernel
theorem dX10_tries_56 : decode cX10_tries 56 = .ok (.getfield 45, 3) := by decide +kernel
theorem dX10_tries_59 : decode cX10_tries 59 = .ok (.sipush 197, 3) := by decide +kernel
theorem dX10_tries_62 : decode cX10_tries 62 = .ok (.dup2, 1) := by decide +kernel
theorem dX10_tries_63 : decode cX10_tries 63 = .ok (.iaload, 1) := by decide +kernel
theorem dX10_tries_64 : decode cX10_tries 64 = .ok (.iconst 1, 1) := by decide +kernel
theorem dX10_tries_65 : decode cX10_tries 65 = .ok (.iadd, 1) := by decide +kernel
theorem dX10_tries_66 : decode cX10_tries 66 = .ok (.iastore, 1) := by decide +kernel
theorem dX10_tries_67 : decode cX10_tries 67 = .ok (.iload_n 2, 1) := by decide +kernel
theorem dX10_tries_68 : decode cX10_tries 68 = .ok (.ireturn, 1) := by decide +kernel
set_option maxRecDepth 100000 in
theorem SX10_tries_0 {g : zG} {o : Bool} {C R : Int} {M : zM} {q : Int → zM → Prop} (W : (zRf M C R) ∧ (0 ≤ M 11 196 ∧ M 11 196 ≤ 10006) ∧ ((0 : Int) < (C * R) ∧ (C * R) ≤ (2147483647 : Int)) ∧ ∀ (r7 : Int) (N9 : zM), r7 = dsd (M 11 196) % (C * R) → N9 = zu M 11 196 (dsd (M 11 196)) → (zRf N9 C R) ∧ (0 ≤ r7 ∧ r7 < C * R) ∧ (0 ≤ N9 11 197 ∧ N9 11 197 ≤ 2147483647) ∧ (Bd (N9 11)) ∧ (0 ≤ N9 11 193 ∧ N9 11 193 ≤ 9) ∧ (0 ≤ N9 11 (96 + r7) ∧ N9 11 (96 + r7) ≤ 1) ∧ ((¬ (yld C R (N9 11) (fun i => N9 11 (96 + i)) (N9 11 193) r7 (wnr N9 (N9 11 197)))) → q (zb (yld C R (N9 11) (fun i => N9 11 (96 + i)) (N9 11 193) r7 (wnr N9 (N9 11 197)))) (zu N9 11 197 ((N9 11 197) + 1))) ∧ ((yld C R (N9 11) (fun i => N9 11 (96 + i)) (N9 11 193) r7 (wnr N9 (N9 11 197))) → (0 ≤ r7 ∧ r7 < 198) ∧ ∃ q20 : zM → Prop, zKv g (z2 o) mX10_fills [zA g 1, zI r7] (zu N9 11 r7 ((N9 11 r7) - 1)) q20 ∧ ∀ M22 : zM, q20 M22 → ∃ q25 : Int → zM → Prop, zKi g (z2 o) mX10_flies [zA g 1, zI r7] M22 q25 ∧ ∀ (r26 : Int) (M27 : zM), q25 r26 M27 → (0 ≤ r26 ∧ r26 < 198) ∧ ∃ q31 : zM → Prop, zKv g (z2 o) mX10_spills [zA g 1, zI r26] (zu M27 11 r26 ((M27 11 r26) + 1)) q31 ∧ ∀ M33 : zM, q31 M33 → q (zb (yld C R (N9 11) (fun i => N9 11 (96 + i)) (N9 11 193) r7 (wnr N9 (N9 11 197)))) (zu M33 11 197 ((M33 11 197) + 1)))) : zT g (z2 o) mX10_tries (zQi (z2 o) q) 0 [(0, zA g 1)] [] M := by
  refine zr_aload_n 0 dX10_tries_0 rfl ?_
  refine zr_aload_n 0 dX10_tries_1 rfl ?_
  obtain ⟨c1, W⟩ := W
  refine zt_callVi (As := []) (rest := [zA g 1]) dX10_tries_2 kX10_tries_226 rfl rfl rfl rfl (Nat.le_of_ble_eq_true rfl) (c_cells c1) (fun r2 N4 h3 => ?_)
  rw [h3.1, h3.2]
  obtain ⟨c5, W⟩ := W
  obtain ⟨c6, W⟩ := W
  refine zt_callVi (As := [zI (C * R)]) (rest := []) dX10_tries_5 kX10_tries_300 rfl rfl rfl rfl (Nat.le_of_ble_eq_true rfl) (c_drawR c5 c6) (fun r7 N9 h8 => ?_)
  have W := W r7 N9 h8.1 h8.2
  refine zr_istore_n (l' := [(0, zA g 1), (1, zI r7)]) dX10_tries_8 (by decide) [1, 0] rfl ?_
  refine zr_aload_n 0 dX10_tries_9 rfl ?_
  refine zr_iload_n 1 dX10_tries_10 rfl ?_
  obtain ⟨c10, W⟩ := W
  obtain ⟨c11, W⟩ := W
  obtain ⟨c12, W⟩ := W
  obtain ⟨c13, W⟩ := W
  obtain ⟨c14, W⟩ := W
  obtain ⟨c15, W⟩ := W
  refine zt_callVi (As := [zI r7]) (rest := []) dX10_tries_11 kX10_tries_303 rfl rfl rfl rfl (Nat.le_of_ble_eq_true rfl) (c_gives c10 c11 c12 c13 c14 c15) (fun r16 N18 h17 => ?_)
  rw [h17.1, h17.2]
  refine zr_istore_n (l' := [(0, zA g 1), (1, zI r7), (2, zI (zb (yld C R (N9 11) (fun i => N9 11 (96 + i)) (N9 11 193) r7 (wnr N9 (N9 11 197)))))]) dX10_tries_14 (by decide) [1, 2, 0] rfl ?_
  refine zr_iload_n 2 dX10_tries_15 rfl ?_
  refine zt_ifeq_b (tgt := 55) dX10_tries_16 (by decide) (fun h => ?_) (fun h => ?_)
  · have W := W.1 h
    refine zr_aload_n 0 dX10_tries_55 rfl ?_
    refine zr_getr (b := 11) dX10_tries_56 fX10_45 rfl rfl rfl (by decide) ?_
    refine zr_sipush dX10_tries_59 (by decide) ?_
    refine zr_dup2 dX10_tries_62 rfl rfl ?_
    refine zr_iald dX10_tries_63 rfl (by decide) ⟨by decide, by decide⟩ ?_
    refine zr_iconst dX10_tries_64 ?_
    refine zr_iadd dX10_tries_65 ?_
    refine zr_iast dX10_tries_66 rfl (by decide) ⟨by decide, by decide⟩ ?_
    refine zr_iload_n 2 dX10_tries_67 rfl ?_
    exact zt_zret dX10_tries_68 rfl (zb01 _) W
  · have W := W.2 h
    refine zr_aload_n 0 dX10_tries_19 rfl ?_
    refine zr_getr (b := 11) dX10_tries_20 fX10_45 rfl rfl rfl (by decide) ?_
    refine zr_iload_n 1 dX10_tries_23 rfl ?_
    refine zr_dup2 dX10_tries_24 rfl rfl ?_
    obtain ⟨c19, W⟩ := W
    refine zr_iald dX10_tries_25 rfl (by decide) c19 ?_
    refine zr_iconst dX10_tries_26 ?_
    refine zr_isub dX10_tries_27 ?_
    refine zr_iast dX10_tries_28 rfl (by decide) c19 ?_
    refine zr_aload_n 0 dX10_tries_29 rfl ?_
    refine zr_iload_n 1 dX10_tries_30 rfl ?_
    obtain ⟨q20, k24, W⟩ := W
    refine zt_callVv (As := [zI r7]) (rest := []) dX10_tries_31 kX10_tries_306 rfl rfl rfl rfl (Nat.le_of_ble_eq_true rfl) k24 (fun M22 h23 => ?_)
    have W := W M22 h23
    refine zr_aload_n 0 dX10_tries_34 rfl ?_
    refine zr_iload_n 1 dX10_tries_35 rfl ?_
    obtain ⟨q25, k29, W⟩ := W
    refine zt_callVi (As := [zI r7]) (rest := []) dX10_tries_36 kX10_tries_309 rfl rfl rfl rfl (Nat.le_of_ble_eq_true rfl) k29 (fun r26 M27 h28 => ?_)
    have W := W r26 M27 h28
    refine zr_istore_n (l' := [(0, zA g 1), (2, zI (zb (yld C R (N9 11) (fun i => N9 11 (96 + i)) (N9 11 193) r7 (wnr N9 (N9 11 197))))), (3, zI r26)]) dX10_tries_39 (by decide) [1, 3, 0] rfl ?_
    refine zr_aload_n 0 dX10_tries_40 rfl ?_
    refine zr_getr (b := 11) dX10_tries_41 fX10_45 rfl rfl rfl (by decide) ?_
    refine zr_iload_n 2 dX10_tries_44 rfl ?_
    refine zr_dup2 dX10_tries_45 rfl rfl ?_
    obtain ⟨c30, W⟩ := W
    refine zr_iald dX10_tries_46 rfl (by decide) c30 ?_
    refine zr_iconst dX10_tries_47 ?_
    refine zr_iadd dX10_tries_48 ?_
    refine zr_iast dX10_tries_49 rfl (by decide) c30 ?_
    refine zr_aload_n 0 dX10_tries_50 rfl ?_
    refine zr_iload_n 2 dX10_tries_51 rfl ?_
    obtain ⟨q31, k35, W⟩ := W
    refine zt_callVv (As := [zI r26]) (rest := []) dX10_tries_52 kX10_tries_312 rfl rfl rfl rfl (Nat.le_of_ble_eq_true rfl) k35 (fun M33 h34 => ?_)
    have W := W M33 h34
    refine zr_aload_n 0 dX10_tries_55 rfl ?_
    refine zr_getr (b := 11) dX10_tries_56 fX10_45 rfl rfl rfl (by decide) ?_
    refine zr_sipush dX10_tries_59 (by decide) ?_
    refine zr_dup2 dX10_tries_62 rfl rfl ?_
    refine zr_iald dX10_tries_63 rfl (by decide) ⟨by decide, by decide⟩ ?_
    refine zr_iconst dX10_tries_64 ?_
    refine zr_iadd dX10_tries_65 ?_
    refine zr_iast dX10_tries_66 rfl (by decide) ⟨by decide, by decide⟩ ?_
    refine zr_iload_n 1 dX10_tries_67 rfl ?_
    exact zt_zret dX10_tries_68 rfl (zb01 _) W
theorem dX10_blows_0 : decode cX10_blows 0 = .ok (.iconst 0, 1) := by decide +kernel
theorem dX10_blows_1 : decode cX10_blows 1 = .ok (.istore_n 2, 1) := by decide +kernel
theorem dX10_blows_2 : decode cX10_blows 2 = .ok (.iconst 0, 1) := by decide +kernel
theorem dX10_blows_3 : decode cX10_blows 3 = .ok (.istore_n 3, 1) := by decide +kernel
theorem dX10_blows_4 : decode cX10_blows 4 = .ok (.iload_n 3, 1) := by decide +kernel
theorem dX10_blows_5 : decode cX10_blows 5 = .ok (.iload_n 1, 1) := by decide +kernel
theorem dX10_blows_6 : decode cX10_blows 6 = .ok (.if_icmp .ge 19, 3) := by decide +kernel
theorem dX10_blows_9 : decode cX10_blows 9 = .ok (.iload_n 2, 1) := by decide +kernel
theorem dX10_blows_10 : decode cX10_blows 10 = .ok (.aload_n 0, 1) := by decide +kernel
theorem dX10_blows_11 : decode cX10_blows 11 = .ok (.invokevirtual 315, 3) := by decide +kernel
theorem dX10_blows_14 : decode cX10_blows 14 = .ok (.invokestatic 317, 3) := by decide +kernel
theorem dX10_blows_17 : decode cX10_blows 17 = .ok (.iadd, 1) := by decide +kernel
theorem dX10_blows_18 : decode cX10_blows 18 = .ok (.istore_n 2, 1) := by decide +kernel
theorem dX10_blows_19 : decode cX10_blows 19 = .ok (.iinc 3 1, 3) := by decide +kernel
theorem dX10_blows_22 : decode cX10_blows 22 = .ok (.goto (-18), 3) := by decide +kernel
theorem dX10_blows_25 : decode cX10_blows 25 = .ok (.iload_n 2, 1) := by decide +kernel
theorem dX10_blows_26 : decode cX10_blows 26 = .ok (.ireturn, 1) := by decide +kernel
set_option maxRecDepth 100000 in
theorem SX10_blows_0 {g : zG} {o : Bool} {M : zM} {q : Int → zM → Prop} {x1 : Int} (W : zT g (z2 o) mX10_blows (zQi (z2 o) q) 4 [(0, zA g 1), (1, zI x1), (2, zI 0), (3, zI 0)] [] M) : zT g (z2 o) mX10_blows (zQi (z2 o) q) 0 [(0, zA g 1), (1, zI x1)] [] M := by
  refine zr_iconst dX10_blows_0 ?_
  refine zr_istore_n (l' := [(0, zA g 1), (1, zI x1), (2, zI 0)]) dX10_blows_1 (by decide) [1, 2, 0] rfl ?_
  refine zr_iconst dX10_blows_2 ?_
  refine zr_istore_n (l' := [(0, zA g 1), (1, zI x1), (2, zI 0), (3, zI 0)]) dX10_blows_3 (by decide) [1, 2, 3, 0] rfl ?_
  exact W
set_option maxRecDepth 100000 in
theorem SX10_blows_4 {g : zG} {o : Bool} {M : zM} {q : Int → zM → Prop} {x1 x2 x3 : Int} (W : (-2147483648 ≤ x3 ∧ x3 ≤ 2147483647) ∧ (-2147483648 ≤ x1 ∧ x1 ≤ 2147483647) ∧ ((x1 ≤ x3) → q x2 M) ∧ ((¬ (x1 ≤ x3)) → ∃ q3 : Int → zM → Prop, zKi g (z2 o) mX10_tries [zA g 1] M q3 ∧ ∀ (r4 : Int) (M5 : zM), q3 r4 M5 → (r4 = 0 ∨ r4 = 1) ∧ zT g (z2 o) mX10_blows (zQi (z2 o) q) 4 [(0, zA g 1), (1, zI x1), (2, zI (x2 + r4)), (3, zI (x3 + 1))] [] M5)) : zT g (z2 o) mX10_blows (zQi (z2 o) q) 4 [(0, zA g 1), (1, zI x1), (2, zI x2), (3, zI x3)] [] M := by
  refine zr_iload_n 3 dX10_blows_4 rfl ?_
  refine zr_iload_n 1 dX10_blows_5 rfl ?_
  obtain ⟨c1, W⟩ := W
  obtain ⟨c2, W⟩ := W
  refine zr_icmp_ge (tgt := 25) dX10_blows_6 (by decide) c1 c2 (fun h => ?_) (fun h => ?_)
  · have W := W.1 h
    refine zr_iload_n 2 dX10_blows_25 rfl ?_
    exact zt_iret dX10_blows_26 rfl W
  · have W := W.2 h
    refine zr_iload_n 2 dX10_blows_9 rfl ?_
    refine zr_aload_n 0 dX10_blows_10 rfl ?_
    obtain ⟨q3, k7, W⟩ := W
    refine zt_callVi (As := []) (rest := [zI x2]) dX10_blows_11 kX10_blows_315 rfl rfl rfl rfl (Nat.le_of_ble_eq_true rfl) k7 (fun r4 M5 h6 => ?_)
    have W := W r4 M5 h6
    obtain ⟨c8, W⟩ := W
    refine zt_callSi (As := [zI r4]) (rest := [zI x2]) dX10_blows_14 kX10_blows_317 rfl rfl (Nat.le_of_ble_eq_true rfl) (c_truthi c8) (fun r9 N11 h10 => ?_)
    rw [h10.1, h10.2]
    refine zr_iadd dX10_blows_17 ?_
    refine zr_istore_n (l' := [(0, zA g 1), (1, zI x1), (2, zI (x2 + r4)), (3, zI x3)]) dX10_blows_18 (by decide) [1, 2, 0, 3] rfl ?_
    refine zr_iinc (q := 3) (l' := [(0, zA g 1), (1, zI x1), (2, zI (x2 + r4)), (3, zI (x3 + 1))]) dX10_blows_19 rfl (by decide) [1, 2, 3, 0] rfl ?_
    refine zr_goto (tgt := 4) dX10_blows_22 (by decide) ?_
    exact W
def repx (M : zM) (x : Sx) : Prop := repz M x.1 ∧ M 1 23 = x.2.1 ∧ M 11 196 = x.2.2.1 ∧ M 11 197 = x.2.2.2
def rfx (M M' : zM) : Prop := (∀ b : Nat, b ≠ 1 → b ≠ 11 → M' b = M b) ∧ (∀ i : Int, i ≠ 23 → i ≠ 24 → i ≠ 25 → M' 1 i = M 1 i) ∧ ∀ i : Int, 96 ≤ i → i ≠ 196 → i ≠ 197 → M' 11 i = M 11 i
def RefOK (M : zM) (B T : Int) : Prop := BdB B (M 11) ∧ (∀ i : Int, 0 ≤ i → i < 96 → 0 ≤ M 11 (96 + i) ∧ M 11 (96 + i) ≤ 1) ∧ (1 ≤ M 11 192 ∧ M 11 192 ≤ 6) ∧ (1 ≤ M 11 193 ∧ M 11 193 ≤ 9) ∧ (0 ≤ M 11 194 ∧ M 11 194 ≤ 16) ∧ (0 ≤ M 11 195 ∧ M 11 195 ≤ 16) ∧ (0 ≤ M 11 196 ∧ M 11 196 ≤ 10006) ∧ (0 ≤ M 11 197 ∧ M 11 197 ≤ T)
section RS
variable {g : zG} {o : Bool} {M M' M'' : zM} {x y w c k t sh S C R B T : Int} {H H' G G' X wd : Int → Int} {z : Hz}
theorem shd_eq (hG : Geo C R) (hc : 0 ≤ c ∧ c < C * R) (h : eq96 H H') : shd C R H sh c w ↔ shd C R H' sh c w := by
  have hn := geo_n hG
  unfold shd
  constructor
  · rintro ⟨k, h1, h2, h3⟩
    have a := alg_in (w := opp w) (k := k) hG hc
    exact ⟨k, h1, h2, by rw [h c hc.1 (by omega), h _ a.1 (by omega)] at h3; exact h3⟩
  · rintro ⟨k, h1, h2, h3⟩
    have a := alg_in (w := opp w) (k := k) hG hc
    exact ⟨k, h1, h2, by rw [h c hc.1 (by omega), h _ a.1 (by omega)]; exact h3⟩
theorem yld_eq (hG : Geo C R) (hc : 0 ≤ c ∧ c < C * R) (h : eq96 H H') (hg : eq96 G G') : yld C R H G sh c w ↔ yld C R H' G' sh c w := by
  have hn := geo_n hG
  unfold yld
  rw [h c hc.1 (by omega), hg c hc.1 (by omega), shd_eq hG hc h]
theorem fsp_at {n : Nat} (h1 : 0 ≤ c ∧ c < n) (h2 : wdn C R H S c ≠ -1) (h3 : ∀ i, 0 ≤ i → i < c → wdn C R H S i = -1) : fsp C R S H n 0 = c := by
  rcases fsp_spec (C := C) (R := R) (S := S) (H := H) n 0 with ⟨-, h⟩ | ⟨p1, p2, p3, p4⟩
  · exact absurd (h c h1.1 (by omega)) h2
  · rcases Int.lt_trichotomy (fsp C R S H n 0) c with h | h | h
    · exact absurd (h3 _ p1 h) p3
    · exact h
    · exact absurd (p4 c h1.1 h) h2
theorem c_settles (h : zRf M C R) (hl : -1 ≤ M 1 26 ∧ M 1 26 ≤ 12) (hz : repz M z) (hB : Bd z.1) (hq : ssq z.1 < 2000000) : zKv g (z2 o) mX10_settles [zA g 1] M (fun M' => repz M' (stz C R (M 3 5) 1000000 z) ∧ rfz M M') := by
  have hn := geo_n h.1
  have hS := h.2.2.2.1
  refine zkv_of rfl (Nat.le_of_ble_eq_true rfl) (SX10_settles_0 ?_)
  suffices hs : ∀ (n : Nat) (z : Hz) (M1 : zM), Bd z.1 → repz M1 z → rfz M M1 → ssq z.1 < 2 * n → zT g (z2 o) mX10_settles (zQv (z2 o) (fun M' => repz M' (stz C R (M 3 5) n z) ∧ rfz M M')) 2 [(0, zA g 1), (1, zI 0)] [] M1 from hs 1000000 z M hB hz rfz.rf (by omega)
  intro n
  induction n with
  | zero => intro z M1 hB hz hf hq; have := ssq_nn z.1; omega
  | succ n ih =>
    intro z M1 hB hz hf hq
    have hL1 := hf.L h
    have e35 : M1 3 = M 3 := hf.1 3 (by decide) (by decide)
    suffices hi : ∀ (m : Nat) (c : Int), 0 ≤ c → c + m = C * R → (∀ i, 0 ≤ i → i < c → wdn C R z.1 (M 3 5) i = -1) → zT g (z2 o) mX10_settles (zQv (z2 o) (fun M' => repz M' (stz C R (M 3 5) (n + 1) z) ∧ rfz M M')) 2 [(0, zA g 1), (1, zI c)] [] M1 from hi (C * R).toNat 0 (by omega) (by omega) (fun i h1 h2 => by omega)
    intro m
    induction m with
    | zero =>
      intro c h0 hcm hno
      refine SX10_settles_2 ⟨hL1, by omega, by omega, fun h4 => ?_, fun h4 => by omega⟩
      rcases fsp_spec (C := C) (R := R) (S := M 3 5) (H := z.1) (C * R).toNat 0 with ⟨e, -⟩ | ⟨p1, p2, p3, -⟩
      · have es : stz C R (M 3 5) (n + 1) z = z := by show (if _ then _ else _) = _; rw [if_pos e]
        rw [es]; exact ⟨hz, hf⟩
      · exact absurd (hno _ p1 (by omega)) p3
    | succ m ihm =>
      intro c h0 hcm hno
      have hc : 0 ≤ c ∧ c < C * R := by omega
      have ep := pmn_eq h.1 hc (H := M1 11) (H' := z.1) hz.1 3
      have p := pmn_in (C := C) (R := R) (H := z.1) (c := c) 3
      have a1 := alg_in (w := pmn C R z.1 c 3) (k := 1) h.1 hc
      have b1 := hB _ a1.1 (by omega)
      have b2 := hB c hc.1 (by omega)
      refine SX10_settles_2 ⟨hL1, by omega, by omega, fun h4 => by omega, fun h4 => ?_⟩
      rw [ep, e35, hz.1 _ a1.1 (by omega), hz.1 c hc.1 (by omega)]
      refine ⟨hc, bd_eq hz.1 hB, by omega, by omega, by omega, by omega, by omega, fun h5 => ?_, fun h5 => ?_⟩
      · refine ihm (c + 1) (by omega) (by omega) (fun i i1 i2 => ?_)
        by_cases hi : i = c
        · rw [hi]
          rcases wdn_pmn C R z.1 (M 3 5) c with ⟨e, -⟩ | ⟨-, e2⟩
          · exact e
          · omega
        · exact hno i i1 (by omega)
      · rcases wdn_pmn C R z.1 (M 3 5) c with ⟨-, e2⟩ | ⟨e, e2⟩
        · omega
        · obtain ⟨p1, p3, -, p5⟩ := spill_step (B := 1000000000) (H := z.1) h.1 hS.1 hc e2
          refine ⟨_, c_slides hL1 hc (by omega) (by rw [hf.2.1 26 (by decide) (by decide)]; exact hl) hz, fun M2 hq2 => ?_⟩
          have ef := fsp_at (C := C) (R := R) (S := M 3 5) (H := z.1) (n := (C * R).toNat) (c := c) ⟨hc.1, by omega⟩ (by omega) hno
          have es : stz C R (M 3 5) (n + 1) z = stz C R (M 3 5) n (sldz C R z c (pmn C R z.1 c 3)) := by
            show (if _ then _ else _) = _
            rw [ef, if_neg (by omega), e]
          rw [es]
          refine ih _ M2 (p5 hB) hq2.1 (hf.trans hq2.2) ?_
          have := ssq_sld (H := z.1) (f := c) (t := alg C R c (pmn C R z.1 c 3) 1) (by omega) (by omega) (by omega)
          show ssq (sld z.1 c _) < _
          omega
theorem c_flies (h : zRf M C R) (hc : 0 ≤ c ∧ c < C * R) (hO : RefOK M B T) (hBT : B ≤ 1000000000 ∧ T ≤ 2147483647) (hl : -1 ≤ M 1 26 ∧ M 1 26 ≤ 12) (hX : rX M X) (hH : eq96 (M 11) H) :
    zKi g (z2 o) mX10_flies [zA g 1, zI c] M (fun r M' => r = (fly C R (wnr M (M 11 197)) (M 11 192) H (M 11 193) (M 11 194) (M 11 195) 20 c (M 11 196) X (M 1 23)).1 ∧ M' 11 196 = (fly C R (wnr M (M 11 197)) (M 11 192) H (M 11 193) (M 11 194) (M 11 195) 20 c (M 11 196) X (M 1 23)).2.1 ∧ rX M' (fly C R (wnr M (M 11 197)) (M 11 192) H (M 11 193) (M 11 194) (M 11 195) 20 c (M 11 196) X (M 1 23)).2.2.1 ∧ M' 1 23 = (fly C R (wnr M (M 11 197)) (M 11 192) H (M 11 193) (M 11 194) (M 11 195) 20 c (M 11 196) X (M 1 23)).2.2.2 ∧ (∀ b : Nat, b ≠ 1 → b ≠ 11 → M' b = M b) ∧ (∀ i : Int, i ≠ 23 → i ≠ 25 → M' 1 i = M 1 i) ∧ ∀ i : Int, i ≠ 196 → M' 11 i = M 11 i) := by
  obtain ⟨o1, o2, o3, o4, o5, o6, o7, o8⟩ := hO
  have hn := geo_n h.1
  have w1 := wnr_in (t := M 11 197) h o8.1
  refine zki_of rfl (Nat.le_of_ble_eq_true rfl) (SX10_flies_0 (C := C) (R := R) ⟨h, by omega, ?_⟩)
  suffices hs : ∀ (n : Nat) (i c sd hp : Int) (X : Int → Int) (M1 : zM), 1 ≤ i → i + n = 21 → 1 ≤ n → 0 ≤ c ∧ c < C * R → 0 ≤ sd ∧ sd ≤ 10006 → M1 11 196 = sd → rX M1 X → M1 1 23 = hp → (∀ b : Nat, b ≠ 1 → b ≠ 11 → M1 b = M b) → (∀ i : Int, i ≠ 23 → i ≠ 25 → M1 1 i = M 1 i) → (∀ i : Int, i ≠ 196 → M1 11 i = M 11 i) → zT g (z2 o) mX10_flies (zQi (z2 o) (fun r M' => r = (fly C R (wnr M (M 11 197)) (M 11 192) H (M 11 193) (M 11 194) (M 11 195) n c sd X hp).1 ∧ M' 11 196 = (fly C R (wnr M (M 11 197)) (M 11 192) H (M 11 193) (M 11 194) (M 11 195) n c sd X hp).2.1 ∧ rX M' (fly C R (wnr M (M 11 197)) (M 11 192) H (M 11 193) (M 11 194) (M 11 195) n c sd X hp).2.2.1 ∧ M' 1 23 = (fly C R (wnr M (M 11 197)) (M 11 192) H (M 11 193) (M 11 194) (M 11 195) n c sd X hp).2.2.2 ∧ (∀ b : Nat, b ≠ 1 → b ≠ 11 → M' b = M b) ∧ (∀ i : Int, i ≠ 23 → i ≠ 25 → M' 1 i = M 1 i) ∧ ∀ i : Int, i ≠ 196 → M' 11 i = M 11 i)) 13 [(0, zA g 1), (2, zI (wnr M (M 11 197))), (3, zI c), (4, zI 0), (5, zI i)] [] M1 from
    hs 20 1 c (M 11 196) (M 1 23) X M (by omega) (by omega) (by omega) hc o7 rfl hX rfl (fun _ _ _ => rfl) (fun _ _ _ => rfl) (fun _ _ => rfl)
  intro n
  induction n with
  | zero => intro i c sd hp X M1 i1 i2 i3; omega
  | succ n ih =>
    intro i c sd hp X M1 i1 i2 i3 hc hsd e196 hX e23 fb f1 f11
    have hL1 : zRf M1 C R := h.of (fb 3 (by decide) (by decide)) (fb 4 (by decide) (by decide)) (fb 5 (by decide) (by decide))
    have ehop : M1 11 192 = M 11 192 := f11 192 (by decide)
    obtain ⟨hn', hhn⟩ := znn (show 0 ≤ M 11 192 by omega)
    have hcr := c_crosses (g := g) (o := o) (M := M1) (n := hn') (X := X) (c := c) (w := wnr M (M 11 197)) hL1 hc w1 (by omega) (by rw [f1 26 (by decide) (by decide)]; exact hl) hX
    rw [← hhn, ← ehop] at hcr
    have a1 := alg_in (w := wnr M (M 11 197)) (k := M 11 192) h.1 hc
    have b1 := o1 _ a1.1 (by omega)
    have e : ∀ y, fly C R (wnr M (M 11 197)) (M 11 192) H (M 11 193) (M 11 194) (M 11 195) (n + 1) c sd X hp = y ↔ (if zb (n = 0 ∨ shd C R H (M 11 193) (alg C R c (wnr M (M 11 197)) (M 11 192)) (wnr M (M 11 197))) = 1 then (alg C R c (wnr M (M 11 197)) (M 11 192), sd, hpx C R (wnr M (M 11 197)) (M 11 192).toNat c X, hp + 1)
      else if (sd * 137 + 71) % 10007 % 16 < (if 0 < H (alg C R c (wnr M (M 11 197)) (M 11 192)) then M 11 194 else M 11 195) then (alg C R c (wnr M (M 11 197)) (M 11 192), (sd * 137 + 71) % 10007, hpx C R (wnr M (M 11 197)) (M 11 192).toNat c X, hp + 1)
      else fly C R (wnr M (M 11 197)) (M 11 192) H (M 11 193) (M 11 194) (M 11 195) n (alg C R c (wnr M (M 11 197)) (M 11 192)) ((sd * 137 + 71) % 10007) (hpx C R (wnr M (M 11 197)) (M 11 192).toNat c X) (hp + 1)) = y := fun y => Iff.rfl
    refine SX10_flies_13 (C := C) (R := R) ⟨by decide, fun h4 => absurd rfl h4, fun _ => ⟨_, hcr, fun M4 hq4 => ?_⟩⟩
    obtain ⟨⟨v, e4⟩, hX4⟩ := hq4
    rw [show hn' = (M 11 192).toNat by omega] at hX4
    have g11 : M4 11 = M1 11 := by rw [e4, zu_other (by decide)]
    have gb : ∀ b : Nat, b ≠ 1 → M4 b = M1 b := fun b hb => by rw [e4, zu_other hb]
    have g1 : ∀ i : Int, i ≠ 25 → M4 1 i = M1 1 i := fun i hi => by rw [e4, zu_row, if_neg hi]
    rw [g11, ehop]
    obtain ⟨M5, e5⟩ : ∃ N : zM, N = zu M4 1 23 (M4 1 23 + 1) := ⟨_, rfl⟩
    rw [← e5]
    have h5b : ∀ b : Nat, b ≠ 1 → b ≠ 11 → M5 b = M b := fun b p1 p2 => by rw [e5, zu_other p1, gb b p1, fb b p1 p2]
    have h511 : M5 11 = M1 11 := by rw [e5, zu_other (by decide), g11]
    have h51 : ∀ i : Int, i ≠ 23 → i ≠ 25 → M5 1 i = M 1 i := fun i p1 p2 => by rw [e5, zu_row, if_neg p1, g1 i p2, f1 i p1 p2]
    have h523 : M5 1 23 = hp + 1 := by rw [e5, zu_at, g1 23 (by decide), e23]
    have hX5 : rX M5 (hpx C R (wnr M (M 11 197)) (M 11 192).toNat c X) := by
      unfold rX at hX4 ⊢
      rw [e5, zu_row, if_neg (by decide), zu_row, if_neg (by decide)]; exact hX4
    have hL4 : zRf M4 C R := hL1.of (gb 3 (by decide)) (gb 4 (by decide)) (gb 5 (by decide))
    have hL5 : zRf M5 C R := h.of (h5b 3 (by decide) (by decide)) (h5b 4 (by decide) (by decide)) (h5b 5 (by decide) (by decide))
    have m197 : M5 11 197 = M 11 197 := by rw [h511, f11 197 (by decide)]
    have m193 : M5 11 193 = M 11 193 := by rw [h511, f11 193 (by decide)]
    have m196 : M5 11 196 = sd := by rw [h511, e196]
    have ew : wnr M5 (M5 11 197) = wnr M (M 11 197) := by rw [m197]; unfold wnr; rw [h5b 3 (by decide) (by decide), h5b 4 (by decide) (by decide), h5b 5 (by decide) (by decide)]
    have hH5 : eq96 (M5 11) H := fun i h0 h1 => by rw [h511, f11 i (by omega)]; exact hH i h0 h1
    have hB5 : Bd (M5 11) := fun i h0 h1 => by rw [h511, f11 i (by omega)]; have := o1 i h0 h1; omega
    have done : fly C R (wnr M (M 11 197)) (M 11 192) H (M 11 193) (M 11 194) (M 11 195) (n + 1) c sd X hp = (alg C R c (wnr M (M 11 197)) (M 11 192), sd, hpx C R (wnr M (M 11 197)) (M 11 192).toNat c X, hp + 1) → ∀ i', -2147483648 ≤ i' ∧ i' ≤ 2147483647 → zT g (z2 o) mX10_flies (zQi (z2 o) (fun r M' => r = (fly C R (wnr M (M 11 197)) (M 11 192) H (M 11 193) (M 11 194) (M 11 195) (n + 1) c sd X hp).1 ∧ M' 11 196 = (fly C R (wnr M (M 11 197)) (M 11 192) H (M 11 193) (M 11 194) (M 11 195) (n + 1) c sd X hp).2.1 ∧ rX M' (fly C R (wnr M (M 11 197)) (M 11 192) H (M 11 193) (M 11 194) (M 11 195) (n + 1) c sd X hp).2.2.1 ∧ M' 1 23 = (fly C R (wnr M (M 11 197)) (M 11 192) H (M 11 193) (M 11 194) (M 11 195) (n + 1) c sd X hp).2.2.2 ∧ (∀ b : Nat, b ≠ 1 → b ≠ 11 → M' b = M b) ∧ (∀ i : Int, i ≠ 23 → i ≠ 25 → M' 1 i = M 1 i) ∧ ∀ i : Int, i ≠ 196 → M' 11 i = M 11 i)) 13 [(0, zA g 1), (2, zI (wnr M (M 11 197))), (3, zI (alg C R c (wnr M (M 11 197)) (M 11 192))), (4, zI 1), (5, zI i')] [] M5 := by
      intro ed i' _
      refine SX10_flies_13 (C := C) (R := R) ⟨by decide, fun _ => ?_, fun h4 => absurd h4 (by decide)⟩
      rw [ed]
      exact ⟨rfl, m196, hX5, h523, h5b, h51, fun i p => by rw [h511, f11 i p]⟩
    rw [m197, m193, m196]
    have ew' : wnr M5 (M 11 197) = wnr M (M 11 197) := by rw [← m197, ew, m197]
    rw [ew']
    refine ⟨hL4, hc, w1, by omega, by omega, fun h6 => ?_, fun h6 => ⟨hL5, a1, by omega, hB5, by omega, fun h7 => ⟨hsd, by decide, fun r25 N27 e25 e27 => ?_⟩, fun h7 => ?_⟩⟩
    · exact SX10_flies_72 (done ((e _).mpr (if_pos (zb_t (Or.inl (by omega))))) _ (by omega))
    · have hz : ¬ zb (n = 0 ∨ shd C R H (M 11 193) (alg C R c (wnr M (M 11 197)) (M 11 192)) (wnr M (M 11 197))) = 1 := fun q => by
        rcases zb_1.mp q with q | q
        · omega
        · exact h7 ((shd_eq h.1 a1 hH5).mpr q)
      have n11 : ∀ i : Int, i ≠ 196 → N27 11 i = M 11 i := fun i p => by rw [e27, zu_row, if_neg p, h511, f11 i p]
      have n196 : N27 11 196 = dsd sd := by rw [e27, zu_at]
      have nb : ∀ b : Nat, b ≠ 1 → b ≠ 11 → N27 b = M b := fun b p1 p2 => by rw [e27, zu_other p2, h5b b p1 p2]
      have n1' : N27 1 = M5 1 := by rw [e27, zu_other (by decide)]
      have nX : rX N27 (hpx C R (wnr M (M 11 197)) (M 11 192).toNat c X) := by unfold rX; rw [n1']; exact hX5
      have eH : N27 11 (alg C R c (wnr M (M 11 197)) (M 11 192)) = H (alg C R c (wnr M (M 11 197)) (M 11 192)) := by rw [n11 _ (by omega)]; exact hH _ a1.1 (by omega)
      have bH : 0 ≤ H (alg C R c (wnr M (M 11 197)) (M 11 192)) ∧ H (alg C R c (wnr M (M 11 197)) (M 11 192)) ≤ B := by rw [← hH _ a1.1 (by omega)]; exact b1
      have dd := dsd_in sd
      have go : (¬ (sd * 137 + 71) % 10007 % 16 < (if 0 < H (alg C R c (wnr M (M 11 197)) (M 11 192)) then M 11 194 else M 11 195)) → _ := fun hlt => by
        have hk := ih (i + 1) (alg C R c (wnr M (M 11 197)) (M 11 192)) (dsd sd) (hp + 1) (hpx C R (wnr M (M 11 197)) (M 11 192).toNat c X) N27 (by omega) (by omega) (by omega) a1 dd n196 nX (by rw [n1', h523]) nb (fun i p1 p2 => by rw [n1', h51 i p1 p2]) n11
        have ed := (e _).mpr ((if_neg hz).trans (if_neg hlt))
        exact (show _ from ed ▸ hk)
      have stop : ((sd * 137 + 71) % 10007 % 16 < (if 0 < H (alg C R c (wnr M (M 11 197)) (M 11 192)) then M 11 194 else M 11 195)) → _ := fun hlt => by
        have ed := (e _).mpr ((if_neg hz).trans (if_pos hlt))
        exact SX10_flies_13 (g := g) (o := o) (C := C) (R := R) (M := N27) (x2 := wnr M (M 11 197)) (x3 := alg C R c (wnr M (M 11 197)) (M 11 192)) (x4 := 1) (x5 := i + 1) (q := fun r M' => r = (fly C R (wnr M (M 11 197)) (M 11 192) H (M 11 193) (M 11 194) (M 11 195) (n + 1) c sd X hp).1 ∧ M' 11 196 = (fly C R (wnr M (M 11 197)) (M 11 192) H (M 11 193) (M 11 194) (M 11 195) (n + 1) c sd X hp).2.1 ∧ rX M' (fly C R (wnr M (M 11 197)) (M 11 192) H (M 11 193) (M 11 194) (M 11 195) (n + 1) c sd X hp).2.2.1 ∧ M' 1 23 = (fly C R (wnr M (M 11 197)) (M 11 192) H (M 11 193) (M 11 194) (M 11 195) (n + 1) c sd X hp).2.2.2 ∧ (∀ b : Nat, b ≠ 1 → b ≠ 11 → M' b = M b) ∧ (∀ i : Int, i ≠ 23 → i ≠ 25 → M' 1 i = M 1 i) ∧ ∀ i : Int, i ≠ 196 → M' 11 i = M 11 i) ⟨by decide, fun _ => by rw [ed]; exact ⟨rfl, n196, nX, by rw [n1', h523], nb, fun i p1 p2 => by rw [n1', h51 i p1 p2], n11⟩, fun h4 => absurd h4 (by decide)⟩
      have er : r25 = (sd * 137 + 71) % 10007 % 16 := e25
      rw [eH, n11 194 (by decide), n11 195 (by decide)]
      refine ⟨by omega, by omega, fun h8 => ⟨by omega, by omega, fun h9 => ?_, fun h9 => ?_⟩, fun h8 => ⟨by omega, by omega, fun h9 => ?_, fun h9 => ?_⟩⟩
      · exact go (by rw [if_neg (by omega)]; omega)
      · exact stop (by rw [if_neg (by omega)]; omega)
      · exact go (by rw [if_pos (by omega)]; omega)
      · exact stop (by rw [if_pos (by omega)]; omega)
    · exact SX10_flies_72 (done ((e _).mpr (if_pos (zb_t (Or.inr ((shd_eq h.1 a1 hH5).mp h7))))) _ (by omega))
end RS
end
section
section RT
variable {g : zG} {o : Bool} {M M' M'' : zM} {x y w c k t sh S C R B T : Int} {H H' G G' X wd : Int → Int} {z : Hz}
theorem rfx.trans (h1 : rfx M M') (h2 : rfx M' M'') : rfx M M'' :=
  ⟨fun b p q => (h2.1 b p q).trans (h1.1 b p q), fun i p q r => (h2.2.1 i p q r).trans (h1.2.1 i p q r), fun i p q r => (h2.2.2 i p q r).trans (h1.2.2 i p q r)⟩
theorem rfx.rf : rfx M M := ⟨fun _ _ _ => rfl, fun _ _ _ _ => rfl, fun _ _ _ _ => rfl⟩
theorem rfx.L (h : rfx M M') (hL : zRf M C R) : zRf M' C R := hL.of (h.1 3 (by decide) (by decide)) (h.1 4 (by decide) (by decide)) (h.1 5 (by decide) (by decide))
theorem wnr_of (h3 : M' 3 = M 3) (h4 : M' 4 = M 4) (h5 : M' 5 = M 5) : wnr M' = wnr M := by funext t; unfold wnr; rw [h3, h4, h5]
theorem rfx.W (h : rfx M M') : wnr M' = wnr M := wnr_of (h.1 3 (by decide) (by decide)) (h.1 4 (by decide) (by decide)) (h.1 5 (by decide) (by decide))
theorem c_tries {x : Sx} (h : zRf M C R) (hO : RefOK M B T) (hB : 0 ≤ B ∧ B < 900000000) (hT : T ≤ 2000000000) (hl : -1 ≤ M 1 26 ∧ M 1 26 ≤ 12) (hx : repx M x) (hG : eq96 (fun i => M 11 (96 + i)) G) (hw : ∀ t, 0 ≤ t → wnr M t = wd t) :
    zKi g (z2 o) mX10_tries [zA g 1] M (fun r M' => r = zb (tryB C R wd G (M 11 193) x) ∧ repx M' (tryS C R (M 3 5) wd G (M 11 192) (M 11 193) (M 11 194) (M 11 195) x) ∧ rfx M M' ∧ RefOK M' (B + 1) (T + 1)) := by
  have hO' := hO
  obtain ⟨o1, o2, o3, o4, o5, o6, o7, o8⟩ := hO
  obtain ⟨⟨x1, x2, x3⟩, x4, x5, x6⟩ := hx
  have hn := geo_n h.1
  have hS := h.2.2.2.1
  have d1 := dsd_in (M 11 196)
  have c1 := md (C := C * R) (k := dsd (M 11 196)) (by omega)
  have w1 := wnr_in (t := M 11 197) h o8.1
  refine zki_of rfl (Nat.le_of_ble_eq_true rfl) (SX10_tries_0 (C := C) (R := R) ⟨h, o7, by omega, fun r7 N9 e7 e9 => ?_⟩)
  have n11 : ∀ i : Int, i ≠ 196 → N9 11 i = M 11 i := fun i p => by rw [e9, zu_row, if_neg p]
  have n196 : N9 11 196 = dsd (M 11 196) := by rw [e9, zu_at]
  have nb : ∀ b : Nat, b ≠ 11 → N9 b = M b := fun b p => by rw [e9, zu_other p]
  have hL9 : zRf N9 C R := h.of (nb 3 (by decide)) (nb 4 (by decide)) (nb 5 (by decide))
  have eW : wnr N9 = wnr M := wnr_of (nb 3 (by decide)) (nb 4 (by decide)) (nb 5 (by decide))
  have hr : 0 ≤ r7 ∧ r7 < C * R := by omega
  have er : r7 = dsd x.2.2.1 % (C * R) := by rw [e7, x5]
  have eH : eq96 (N9 11) x.1.1 := fun i h0 h1 => by rw [n11 i (by omega)]; exact x1 i h0 h1
  have eG : eq96 (fun i => N9 11 (96 + i)) G := fun i h0 h1 => by show N9 11 (96 + i) = G i; rw [n11 _ (by omega)]; exact hG i h0 h1
  have hB9 : Bd (N9 11) := fun i h0 h1 => by rw [n11 i (by omega)]; have := o1 i h0 h1; omega
  have og := o2 r7 hr.1 (by omega)
  have bX : BdB B x.1.1 := fun i h0 h1 => by rw [← x1 i h0 h1]; exact o1 i h0 h1
  rw [n11 197 (by decide), n11 193 (by decide), n11 (96 + r7) (by omega), eW, hw _ o8.1]
  have hy : yld C R (N9 11) (fun i => N9 11 (96 + i)) (M 11 193) r7 (wd (M 11 197)) ↔ tryB C R wd G (M 11 193) x := by
    rw [yld_eq h.1 hr eH eG, er, x6]; exact Iff.rfl
  refine ⟨hL9, hr, by omega, hB9, by omega, og, fun h4 => ?_, fun h4 => ?_⟩
  · rw [zb_congr hy]
    have hb : ¬ tryB C R wd G (M 11 193) x := fun q => h4 (hy.mpr q)
    have es : tryS C R (M 3 5) wd G (M 11 192) (M 11 193) (M 11 194) (M 11 195) x = (x.1, x.2.1, dsd x.2.2.1, x.2.2.2 + 1) := by
      unfold tryS; rw [if_neg (by rw [zb_f hb]; decide)]
    obtain ⟨N, eN⟩ : ∃ N : zM, N = zu N9 11 197 (M 11 197 + 1) := ⟨_, rfl⟩
    rw [← eN, es]
    have m11 : ∀ i : Int, i ≠ 196 → i ≠ 197 → N 11 i = M 11 i := fun i p1 p2 => by rw [eN, zu_row, if_neg p2, n11 i p1]
    have m197 : N 11 197 = M 11 197 + 1 := by rw [eN, zu_at]
    have m196 : N 11 196 = dsd (M 11 196) := by rw [eN, zu_row, if_neg (by decide), n196]
    have m1 : N 1 = M 1 := by rw [eN, zu_other (by decide), nb 1 (by decide)]
    refine ⟨rfl, ⟨⟨fun i h0 h1 => by rw [m11 i (by omega) (by omega)]; exact x1 i h0 h1, by rw [m1]; exact x2, by unfold rX; rw [m1]; exact x3⟩, by rw [m1]; exact x4, by rw [m196, x5], by rw [m197, x6]⟩, ⟨fun b p1 p2 => by rw [eN, zu_other p2, nb b p2], fun i _ _ _ => by rw [m1], fun i _ p1 p2 => m11 i p1 p2⟩, ?_⟩
    exact ⟨fun i h0 h1 => by rw [m11 i (by omega) (by omega)]; have := o1 i h0 h1; omega, fun i h0 h1 => by rw [m11 _ (by omega) (by omega)]; exact o2 i h0 h1, by rw [m11 192 (by decide) (by decide)]; exact o3, by rw [m11 193 (by decide) (by decide)]; exact o4, by rw [m11 194 (by decide) (by decide)]; exact o5, by rw [m11 195 (by decide) (by decide)]; exact o6, by rw [m196]; exact d1, by rw [m197]; omega⟩
  · rw [zb_congr hy]
    have hb : tryB C R wd G (M 11 193) x := hy.mp h4
    have hpos : 0 < x.1.1 r7 := by have := h4.1; rw [eH r7 hr.1 (by omega)] at this; exact this
    have bx := bX r7 hr.1 (by omega)
    have e9r : N9 11 r7 = x.1.1 r7 := eH r7 hr.1 (by omega)
    obtain ⟨N, eN⟩ : ∃ N : zM, N = zu N9 11 r7 (N9 11 r7 - 1) := ⟨_, rfl⟩
    rw [← eN]
    have b11 : ∀ i : Int, i ≠ r7 → N 11 i = N9 11 i := fun i p => by rw [eN, zu_row, if_neg p]
    have bb : ∀ b : Nat, b ≠ 11 → N b = M b := fun b p => by rw [eN, zu_other p, nb b p]
    have hLN : zRf N C R := h.of (bb 3 (by decide)) (bb 4 (by decide)) (bb 5 (by decide))
    have hU : BdB B (up x.1.1 r7 (x.1.1 r7 - 1)) := up_bd bX (by omega)
    have hzN : repz N (up x.1.1 r7 (x.1.1 r7 - 1), x.1.2.1, x.1.2.2) := by
      refine ⟨fun i h0 h1 => ?_, by rw [bb 1 (by decide)]; exact x2, by unfold rX; rw [bb 1 (by decide)]; exact x3⟩
      rw [eN, zu_row]
      show _ = up x.1.1 r7 _ i
      unfold up
      rw [e9r, eH i h0 h1]
    refine ⟨by omega, _, c_fills hLN hr (by rw [bb 1 (by decide)]; exact hl) hzN (hU.le (by omega)), fun M22 hq => ?_⟩
    rw [bb 3 (by decide)] at hq
    have ez : flz C R (M 3 5) 96 (up x.1.1 r7 (x.1.1 r7 - 1), x.1.2.1, x.1.2.2) r7 = tryZ C R (M 3 5) x := by rw [er]; rfl
    rw [ez] at hq
    obtain ⟨⟨z1, z2', z3⟩, f1, f2, f3⟩ := hq
    have hZ : BdB B (tryZ C R (M 3 5) x).1 := by rw [← ez]; exact flz_bd h.1 hS.1 96 _ r7 hr hU
    have p11 : ∀ i : Int, 96 ≤ i → i ≠ 196 → M22 11 i = M 11 i := fun i p1 p2 => by rw [f3 i p1, b11 i (by omega), n11 i p2]
    have p196 : M22 11 196 = dsd (M 11 196) := by rw [f3 196 (by decide), b11 196 (by omega), n196]
    have pb : ∀ b : Nat, b ≠ 1 → b ≠ 11 → M22 b = M b := fun b p1 p2 => by rw [f1 b p1 p2, bb b p2]
    have p1 : ∀ i : Int, i ≠ 24 → i ≠ 25 → M22 1 i = M 1 i := fun i q1 q2 => by rw [f2 i q1 q2, bb 1 (by decide)]
    have hL22 : zRf M22 C R := h.of (pb 3 (by decide) (by decide)) (pb 4 (by decide) (by decide)) (pb 5 (by decide) (by decide))
    have eW22 : wnr M22 = wnr M := wnr_of (pb 3 (by decide) (by decide)) (pb 4 (by decide) (by decide)) (pb 5 (by decide) (by decide))
    have hO22 : RefOK M22 B T := ⟨fun i h0 h1 => by rw [z1 i h0 h1]; exact hZ i h0 h1, fun i h0 h1 => by rw [p11 _ (by omega) (by omega)]; exact o2 i h0 h1, by rw [p11 192 (by decide) (by decide)]; exact o3, by rw [p11 193 (by decide) (by decide)]; exact o4, by rw [p11 194 (by decide) (by decide)]; exact o5, by rw [p11 195 (by decide) (by decide)]; exact o6, by rw [p196]; exact d1, by rw [p11 197 (by decide) (by decide)]; exact o8⟩
    have hfl := c_flies (g := g) (o := o) (H := (tryZ C R (M 3 5) x).1) (X := (tryZ C R (M 3 5) x).2.2) hL22 hr hO22 (by omega) (by rw [p1 26 (by decide) (by decide)]; exact hl) z3 z1
    rw [eW22, p11 197 (by decide) (by decide), p11 192 (by decide) (by decide), p11 193 (by decide) (by decide), p11 194 (by decide) (by decide), p11 195 (by decide) (by decide), p196, p1 23 (by decide) (by decide), hw _ o8.1] at hfl
    have ey : fly C R (wd (M 11 197)) (M 11 192) (tryZ C R (M 3 5) x).1 (M 11 193) (M 11 194) (M 11 195) 20 r7 (dsd (M 11 196)) (tryZ C R (M 3 5) x).2.2 (M 1 23) = tryY C R (M 3 5) wd (M 11 192) (M 11 193) (M 11 194) (M 11 195) x := by rw [er, x4, x5, x6]; rfl
    rw [ey] at hfl
    refine ⟨_, hfl, fun r26 M27 hq => ?_⟩
    obtain ⟨q1, q2, q3, q4, q5, q6, q7⟩ := hq
    have fi : (0 ≤ r26 ∧ r26 < C * R) ∧ 0 ≤ (tryY C R (M 3 5) wd (M 11 192) (M 11 193) (M 11 194) (M 11 195) x).2.1 ∧ (tryY C R (M 3 5) wd (M 11 192) (M 11 193) (M 11 194) (M 11 195) x).2.1 ≤ 10006 := by
      rw [q1, ← ey]; exact fly_in h.1 20 hr d1
    have qx := hZ r26 fi.1.1 (by omega)
    have e27r : M27 11 r26 = (tryZ C R (M 3 5) x).1 r26 := by rw [q7 _ (by omega)]; exact z1 _ fi.1.1 (by omega)
    obtain ⟨N', eN'⟩ : ∃ N : zM, N = zu M27 11 r26 (M27 11 r26 + 1) := ⟨_, rfl⟩
    rw [← eN']
    have cb : ∀ b : Nat, b ≠ 1 → b ≠ 11 → N' b = M b := fun b p1 p2 => by rw [eN', zu_other p2, q5 b p1 p2, pb b p1 p2]
    have c11 : ∀ i : Int, i ≠ r26 → N' 11 i = M27 11 i := fun i p => by rw [eN', zu_row, if_neg p]
    have cc1 : N' 1 = M27 1 := by rw [eN', zu_other (by decide)]
    have hLN' : zRf N' C R := h.of (cb 3 (by decide) (by decide)) (cb 4 (by decide) (by decide)) (cb 5 (by decide) (by decide))
    have hU2 : BdB (B + 1) (up (tryZ C R (M 3 5) x).1 r26 ((tryZ C R (M 3 5) x).1 r26 + 1)) := up_bd (hZ.le (by omega)) (by omega)
    have hzN' : repz N' (up (tryZ C R (M 3 5) x).1 r26 ((tryZ C R (M 3 5) x).1 r26 + 1), (tryZ C R (M 3 5) x).2.1, (tryY C R (M 3 5) wd (M 11 192) (M 11 193) (M 11 194) (M 11 195) x).2.2.1) := by
      refine ⟨fun i h0 h1 => ?_, by rw [cc1, q6 24 (by decide) (by decide)]; exact z2', by unfold rX; rw [cc1]; exact q3⟩
      rw [eN', zu_row]
      show _ = up _ r26 _ i
      unfold up
      rw [e27r, q7 i (by omega), z1 i h0 h1]
    refine ⟨by omega, _, c_spills hLN' fi.1 (by rw [cc1, q6 26 (by decide) (by decide), p1 26 (by decide) (by decide)]; exact hl) hzN' (hU2.le (by omega)), fun M33 hq => ?_⟩
    rw [cb 3 (by decide) (by decide)] at hq
    obtain ⟨⟨y1, y2, y3⟩, g1, g2, g3⟩ := hq
    have m11 : ∀ i : Int, 96 ≤ i → i ≠ 196 → M33 11 i = M 11 i := fun i p1 p2 => by rw [g3 i p1, c11 i (by omega), q7 i p2, p11 i p1 p2]
    have m196 : M33 11 196 = (tryY C R (M 3 5) wd (M 11 192) (M 11 193) (M 11 194) (M 11 195) x).2.1 := by rw [g3 196 (by decide), c11 196 (by omega), q2]
    have m23 : M33 1 23 = (tryY C R (M 3 5) wd (M 11 192) (M 11 193) (M 11 194) (M 11 195) x).2.2.2 := by rw [g2 23 (by decide) (by decide), cc1, q4]
    have hsp := spz_bd (B := B + 1) h.1 hS.1 96 (up (tryZ C R (M 3 5) x).1 r26 ((tryZ C R (M 3 5) x).1 r26 + 1), (tryZ C R (M 3 5) x).2.1, (tryY C R (M 3 5) wd (M 11 192) (M 11 193) (M 11 194) (M 11 195) x).2.2.1) r26 fi.1 hU2
    have es : tryS C R (M 3 5) wd G (M 11 192) (M 11 193) (M 11 194) (M 11 195) x = (spz C R (M 3 5) 96 (up (tryZ C R (M 3 5) x).1 r26 ((tryZ C R (M 3 5) x).1 r26 + 1), (tryZ C R (M 3 5) x).2.1, (tryY C R (M 3 5) wd (M 11 192) (M 11 193) (M 11 194) (M 11 195) x).2.2.1) r26, (tryY C R (M 3 5) wd (M 11 192) (M 11 193) (M 11 194) (M 11 195) x).2.2.2, (tryY C R (M 3 5) wd (M 11 192) (M 11 193) (M 11 194) (M 11 195) x).2.1, x.2.2.2 + 1) := by
      unfold tryS; rw [if_pos (zb_t hb), q1]
    rw [es, m11 197 (by decide) (by decide)]
    obtain ⟨N2, eN2⟩ : ∃ N : zM, N = zu M33 11 197 (M 11 197 + 1) := ⟨_, rfl⟩
    rw [← eN2]
    have k11 : ∀ i : Int, i ≠ 197 → N2 11 i = M33 11 i := fun i p => by rw [eN2, zu_row, if_neg p]
    have k1 : N2 1 = M33 1 := by rw [eN2, zu_other (by decide)]
    refine ⟨rfl, ⟨⟨fun i h0 h1 => by rw [k11 i (by omega)]; exact y1 i h0 h1, by rw [k1]; exact y2, by unfold rX; rw [k1]; exact y3⟩, by rw [k1]; exact m23, by rw [k11 196 (by decide)]; exact m196, by rw [eN2, zu_at, x6]⟩, ⟨fun b p1 p2 => by rw [eN2, zu_other p2, g1 b p1 p2, cb b p1 p2], fun i a1 a2 a3 => by rw [k1, g2 i a2 a3, cc1, q6 i a1 a3, p1 i a2 a3], fun i a1 a2 a3 => by rw [k11 i a3, m11 i a1 a2]⟩, ?_⟩
    exact ⟨fun i h0 h1 => by rw [k11 i (by omega), y1 i h0 h1]; exact hsp i h0 h1, fun i h0 h1 => by rw [k11 _ (by omega), m11 _ (by omega) (by omega)]; exact o2 i h0 h1, by rw [k11 192 (by decide), m11 192 (by decide) (by decide)]; exact o3, by rw [k11 193 (by decide), m11 193 (by decide) (by decide)]; exact o4, by rw [k11 194 (by decide), m11 194 (by decide) (by decide)]; exact o5, by rw [k11 195 (by decide), m11 195 (by decide) (by decide)]; exact o6, by rw [k11 196 (by decide), m196]; exact fi.2, by rw [eN2, zu_at]; omega⟩
theorem c_blows {x : Sx} (n : Nat) (hn : n ≤ 500) (h : zRf M C R) (hO : RefOK M B T) (hB : 0 ≤ B ∧ B < 800000000) (hT : T ≤ 1900000000) (hl : -1 ≤ M 1 26 ∧ M 1 26 ≤ 12) (hx : repx M x) (hG : eq96 (fun i => M 11 (96 + i)) G) (hw : ∀ t, 0 ≤ t → wnr M t = wd t) :
    zKi g (z2 o) mX10_blows [zA g 1, zI n] M (fun r M' => r = blwN C R (M 3 5) wd G (M 11 192) (M 11 193) (M 11 194) (M 11 195) n x ∧ repx M' (blwS C R (M 3 5) wd G (M 11 192) (M 11 193) (M 11 194) (M 11 195) n x) ∧ rfx M M' ∧ RefOK M' (B + n) (T + n)) := by
  refine zki_of rfl (Nat.le_of_ble_eq_true rfl) (SX10_blows_0 ?_)
  suffices hs : ∀ (j : Nat) (i y : Int) (x : Sx) (M1 : zM) (B1 T1 : Int), 0 ≤ i → i + j = n → repx M1 x → rfx M M1 → RefOK M1 B1 T1 → 0 ≤ B1 → B1 + j = B + n → T1 + j = T + n → zT g (z2 o) mX10_blows (zQi (z2 o) (fun r M' => r = y + blwN C R (M 3 5) wd G (M 11 192) (M 11 193) (M 11 194) (M 11 195) j x ∧ repx M' (blwS C R (M 3 5) wd G (M 11 192) (M 11 193) (M 11 194) (M 11 195) j x) ∧ rfx M M' ∧ RefOK M' (B + n) (T + n))) 4 [(0, zA g 1), (1, zI n), (2, zI y), (3, zI i)] [] M1 by
    have hh := hs n 0 0 x M B T (by omega) (by omega) hx rfx.rf hO hB.1 (by omega) (by omega)
    simp only [Int.zero_add] at hh
    exact hh
  intro j
  induction j with
  | zero =>
    intro i y x M1 B1 T1 h0 hi hx1 hf hO1 hb e1 e2
    refine SX10_blows_4 ⟨by omega, by omega, fun h => ⟨by show y = y + 0; omega, hx1, hf, ?_⟩, fun h => by omega⟩
    rw [← e1, ← e2]; simpa using hO1
  | succ j ih =>
    intro i y x M1 B1 T1 h0 hi hx1 hf hO1 hb e1 e2
    have hL1 := hf.L h
    have f3 : M1 3 = M 3 := hf.1 3 (by decide) (by decide)
    have fg : ∀ i : Int, 96 ≤ i → i ≠ 196 → i ≠ 197 → M1 11 i = M 11 i := hf.2.2
    have ht := c_tries (g := g) (o := o) (G := G) (wd := wd) hL1 hO1 ⟨hb, by omega⟩ (by omega) (by rw [hf.2.1 26 (by decide) (by decide) (by decide)]; exact hl) hx1 (fun i h0 h1 => by show M1 11 (96 + i) = _; rw [fg _ (by omega) (by omega) (by omega)]; exact hG i h0 h1) (by rw [hf.W]; exact hw)
    rw [f3, fg 192 (by decide) (by decide) (by decide), fg 193 (by decide) (by decide) (by decide), fg 194 (by decide) (by decide) (by decide), fg 195 (by decide) (by decide) (by decide)] at ht
    refine SX10_blows_4 ⟨by omega, by omega, fun h => by omega, fun h => ⟨_, ht, fun r4 M5 hq => ?_⟩⟩
    obtain ⟨q1, q2, q3, q4⟩ := hq
    refine ⟨by rw [q1]; exact zb01 _, ?_⟩
    have key := ih (i + 1) (y + r4) _ M5 (B1 + 1) (T1 + 1) (by omega) (by omega) q2 (hf.trans q3) q4 (by omega) (by omega) (by omega)
    rw [q1, Int.add_assoc] at key
    rw [q1]
    exact key
end RT
end
