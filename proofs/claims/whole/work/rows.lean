section
-- ===== PART A: goes FIRST, ahead of the names: the tables' words, and 'selects' of the private methods out of them =====
/-- a private method of a class that the tables say can be made, by its rows of tables_1 -/
def lw_okq (q : MethodName × Nat) : Prop := (q.1.cls ≠ "java/lang/invoke/MethodHandle" ∧ q.1.cls ≠ "java/lang/invoke/VarHandle") ∧ Cond.instantiable q.1.cls q.2 ∈ tables_1 ∧ Cond.privateMethod q.1 ∈ tables_1 ∧ Cond.instanceMethod q.1 ∈ tables_1
theorem lw_p0 : lw_okq (⟨"SandMarch", "adopt", "(LSandMarch$Draft;)V"⟩, 16) := ⟨⟨by decide +kernel, by decide +kernel⟩, List.mem_of_getElem? (i := 21) (by decide +kernel), List.mem_of_getElem? (i := 357) (by decide +kernel), List.mem_of_getElem? (i := 358) (by decide +kernel)⟩
theorem lw_p1 : lw_okq (⟨"SandMarch$Land", "numberCells", "()V"⟩, 11) := ⟨⟨by decide +kernel, by decide +kernel⟩, List.mem_of_getElem? (i := 162) (by decide +kernel), List.mem_of_getElem? (i := 365) (by decide +kernel), List.mem_of_getElem? (i := 366) (by decide +kernel)⟩
theorem lw_p2 : lw_okq (⟨"SandMarch$Land", "joinCells", "()V"⟩, 11) := ⟨⟨by decide +kernel, by decide +kernel⟩, List.mem_of_getElem? (i := 162) (by decide +kernel), List.mem_of_getElem? (i := 369) (by decide +kernel), List.mem_of_getElem? (i := 370) (by decide +kernel)⟩
theorem lw_p3 : lw_okq (⟨"SandMarch$Storm", "firstSteep", "()I"⟩, 5) := ⟨⟨by decide +kernel, by decide +kernel⟩, List.mem_of_getElem? (i := 247) (by decide +kernel), List.mem_of_getElem? (i := 389) (by decide +kernel), List.mem_of_getElem? (i := 390) (by decide +kernel)⟩
theorem lw_p4 : lw_okq (⟨"SandMarch$Storm", "wayDown", "(I)I"⟩, 5) := ⟨⟨by decide +kernel, by decide +kernel⟩, List.mem_of_getElem? (i := 247) (by decide +kernel), List.mem_of_getElem? (i := 393) (by decide +kernel), List.mem_of_getElem? (i := 394) (by decide +kernel)⟩
theorem lw_p5 : lw_okq (⟨"SandMarch$Storm", "slide", "(II)V"⟩, 5) := ⟨⟨by decide +kernel, by decide +kernel⟩, List.mem_of_getElem? (i := 247) (by decide +kernel), List.mem_of_getElem? (i := 401) (by decide +kernel), List.mem_of_getElem? (i := 402) (by decide +kernel)⟩
theorem lw_p6 : lw_okq (⟨"SandMarch$Storm", "cross", "(III)V"⟩, 5) := ⟨⟨by decide +kernel, by decide +kernel⟩, List.mem_of_getElem? (i := 247) (by decide +kernel), List.mem_of_getElem? (i := 405) (by decide +kernel), List.mem_of_getElem? (i := 406) (by decide +kernel)⟩
theorem lw_p7 : lw_okq (⟨"SandMarch$Tape", "scanToken", "(II)V"⟩, 6) := ⟨⟨by decide +kernel, by decide +kernel⟩, List.mem_of_getElem? (i := 29) (by decide +kernel), List.mem_of_getElem? (i := 495) (by decide +kernel), List.mem_of_getElem? (i := 496) (by decide +kernel)⟩
theorem lw_p8 : lw_okq (⟨"SandMarch$Tape", "scanWord", "(I)V"⟩, 6) := ⟨⟨by decide +kernel, by decide +kernel⟩, List.mem_of_getElem? (i := 29) (by decide +kernel), List.mem_of_getElem? (i := 502) (by decide +kernel), List.mem_of_getElem? (i := 503) (by decide +kernel)⟩
theorem lw_p9 : lw_okq (⟨"SandMarch$Tape", "wordNumber", "(I)I"⟩, 6) := ⟨⟨by decide +kernel, by decide +kernel⟩, List.mem_of_getElem? (i := 29) (by decide +kernel), List.mem_of_getElem? (i := 506) (by decide +kernel), List.mem_of_getElem? (i := 507) (by decide +kernel)⟩
theorem lw_p10 : lw_okq (⟨"SandMarch$Tape", "scanNumber", "(I)V"⟩, 6) := ⟨⟨by decide +kernel, by decide +kernel⟩, List.mem_of_getElem? (i := 29) (by decide +kernel), List.mem_of_getElem? (i := 562) (by decide +kernel), List.mem_of_getElem? (i := 563) (by decide +kernel)⟩
theorem lw_p11 : lw_okq (⟨"SandMarch$Reader", "kind", "()I"⟩, 5) := ⟨⟨by decide +kernel, by decide +kernel⟩, List.mem_of_getElem? (i := 59) (by decide +kernel), List.mem_of_getElem? (i := 566) (by decide +kernel), List.mem_of_getElem? (i := 567) (by decide +kernel)⟩
theorem lw_p12 : lw_okq (⟨"SandMarch$Reader", "readLineWord", "(I)I"⟩, 5) := ⟨⟨by decide +kernel, by decide +kernel⟩, List.mem_of_getElem? (i := 59) (by decide +kernel), List.mem_of_getElem? (i := 570) (by decide +kernel), List.mem_of_getElem? (i := 571) (by decide +kernel)⟩
theorem lw_p13 : lw_okq (⟨"SandMarch$Reader", "value", "()I"⟩, 5) := ⟨⟨by decide +kernel, by decide +kernel⟩, List.mem_of_getElem? (i := 59) (by decide +kernel), List.mem_of_getElem? (i := 574) (by decide +kernel), List.mem_of_getElem? (i := 575) (by decide +kernel)⟩
theorem lw_p14 : lw_okq (⟨"SandMarch$Reader", "refuseToken", "()V"⟩, 5) := ⟨⟨by decide +kernel, by decide +kernel⟩, List.mem_of_getElem? (i := 59) (by decide +kernel), List.mem_of_getElem? (i := 578) (by decide +kernel), List.mem_of_getElem? (i := 579) (by decide +kernel)⟩
theorem lw_p15 : lw_okq (⟨"SandMarch$Reader", "refuse", "(II)V"⟩, 5) := ⟨⟨by decide +kernel, by decide +kernel⟩, List.mem_of_getElem? (i := 59) (by decide +kernel), List.mem_of_getElem? (i := 582) (by decide +kernel), List.mem_of_getElem? (i := 583) (by decide +kernel)⟩
def lw_privs_1 : List (MethodName × Nat) := [(⟨"SandMarch", "adopt", "(LSandMarch$Draft;)V"⟩, 16), (⟨"SandMarch$Land", "numberCells", "()V"⟩, 11), (⟨"SandMarch$Land", "joinCells", "()V"⟩, 11), (⟨"SandMarch$Storm", "firstSteep", "()I"⟩, 5), (⟨"SandMarch$Storm", "wayDown", "(I)I"⟩, 5), (⟨"SandMarch$Storm", "slide", "(II)V"⟩, 5), (⟨"SandMarch$Storm", "cross", "(III)V"⟩, 5), (⟨"SandMarch$Tape", "scanToken", "(II)V"⟩, 6), (⟨"SandMarch$Tape", "scanWord", "(I)V"⟩, 6), (⟨"SandMarch$Tape", "wordNumber", "(I)I"⟩, 6), (⟨"SandMarch$Tape", "scanNumber", "(I)V"⟩, 6), (⟨"SandMarch$Reader", "kind", "()I"⟩, 5), (⟨"SandMarch$Reader", "readLineWord", "(I)I"⟩, 5), (⟨"SandMarch$Reader", "value", "()I"⟩, 5), (⟨"SandMarch$Reader", "refuseToken", "()V"⟩, 5), (⟨"SandMarch$Reader", "refuse", "(II)V"⟩, 5)]
theorem lw_r1 : ∀ q ∈ lw_privs_1, lw_okq q := List.forall_mem_cons.mpr ⟨lw_p0, List.forall_mem_cons.mpr ⟨lw_p1, List.forall_mem_cons.mpr ⟨lw_p2, List.forall_mem_cons.mpr ⟨lw_p3, List.forall_mem_cons.mpr ⟨lw_p4, List.forall_mem_cons.mpr ⟨lw_p5, List.forall_mem_cons.mpr ⟨lw_p6, List.forall_mem_cons.mpr ⟨lw_p7, List.forall_mem_cons.mpr ⟨lw_p8, List.forall_mem_cons.mpr ⟨lw_p9, List.forall_mem_cons.mpr ⟨lw_p10, List.forall_mem_cons.mpr ⟨lw_p11, List.forall_mem_cons.mpr ⟨lw_p12, List.forall_mem_cons.mpr ⟨lw_p13, List.forall_mem_cons.mpr ⟨lw_p14, List.forall_mem_cons.mpr ⟨lw_p15, fun _ h => absurd h List.not_mem_nil⟩⟩⟩⟩⟩⟩⟩⟩⟩⟩⟩⟩⟩⟩⟩⟩
theorem lw_p16 : lw_okq (⟨"SandMarch$Reader", "advance", "()V"⟩, 5) := ⟨⟨by decide +kernel, by decide +kernel⟩, List.mem_of_getElem? (i := 59) (by decide +kernel), List.mem_of_getElem? (i := 590) (by decide +kernel), List.mem_of_getElem? (i := 591) (by decide +kernel)⟩
theorem lw_p17 : lw_okq (⟨"SandMarch$Reader", "readRest", "(I)V"⟩, 5) := ⟨⟨by decide +kernel, by decide +kernel⟩, List.mem_of_getElem? (i := 59) (by decide +kernel), List.mem_of_getElem? (i := 598) (by decide +kernel), List.mem_of_getElem? (i := 599) (by decide +kernel)⟩
theorem lw_p18 : lw_okq (⟨"SandMarch$Reader", "readSize", "()V"⟩, 5) := ⟨⟨by decide +kernel, by decide +kernel⟩, List.mem_of_getElem? (i := 59) (by decide +kernel), List.mem_of_getElem? (i := 602) (by decide +kernel), List.mem_of_getElem? (i := 603) (by decide +kernel)⟩
theorem lw_p19 : lw_okq (⟨"SandMarch$Reader", "readNumber", "(II)I"⟩, 5) := ⟨⟨by decide +kernel, by decide +kernel⟩, List.mem_of_getElem? (i := 59) (by decide +kernel), List.mem_of_getElem? (i := 606) (by decide +kernel), List.mem_of_getElem? (i := 607) (by decide +kernel)⟩
theorem lw_p20 : lw_okq (⟨"SandMarch$Reader", "expect", "(Z)V"⟩, 5) := ⟨⟨by decide +kernel, by decide +kernel⟩, List.mem_of_getElem? (i := 59) (by decide +kernel), List.mem_of_getElem? (i := 610) (by decide +kernel), List.mem_of_getElem? (i := 611) (by decide +kernel)⟩
theorem lw_p21 : lw_okq (⟨"SandMarch$Reader", "readHeap", "()V"⟩, 5) := ⟨⟨by decide +kernel, by decide +kernel⟩, List.mem_of_getElem? (i := 59) (by decide +kernel), List.mem_of_getElem? (i := 614) (by decide +kernel), List.mem_of_getElem? (i := 615) (by decide +kernel)⟩
theorem lw_p22 : lw_okq (⟨"SandMarch$Reader", "readGrass", "()V"⟩, 5) := ⟨⟨by decide +kernel, by decide +kernel⟩, List.mem_of_getElem? (i := 59) (by decide +kernel), List.mem_of_getElem? (i := 618) (by decide +kernel), List.mem_of_getElem? (i := 619) (by decide +kernel)⟩
theorem lw_p23 : lw_okq (⟨"SandMarch$Reader", "readWind", "()V"⟩, 5) := ⟨⟨by decide +kernel, by decide +kernel⟩, List.mem_of_getElem? (i := 59) (by decide +kernel), List.mem_of_getElem? (i := 622) (by decide +kernel), List.mem_of_getElem? (i := 623) (by decide +kernel)⟩
theorem lw_p24 : lw_okq (⟨"SandMarch$Reader", "readRule", "(I)V"⟩, 5) := ⟨⟨by decide +kernel, by decide +kernel⟩, List.mem_of_getElem? (i := 59) (by decide +kernel), List.mem_of_getElem? (i := 626) (by decide +kernel), List.mem_of_getElem? (i := 627) (by decide +kernel)⟩
theorem lw_p25 : lw_okq (⟨"SandMarch", "windNow", "()I"⟩, 16) := ⟨⟨by decide +kernel, by decide +kernel⟩, List.mem_of_getElem? (i := 21) (by decide +kernel), List.mem_of_getElem? (i := 647) (by decide +kernel), List.mem_of_getElem? (i := 648) (by decide +kernel)⟩
theorem lw_p26 : lw_okq (⟨"SandMarch", "steepness", "(I)I"⟩, 16) := ⟨⟨by decide +kernel, by decide +kernel⟩, List.mem_of_getElem? (i := 21) (by decide +kernel), List.mem_of_getElem? (i := 663) (by decide +kernel), List.mem_of_getElem? (i := 664) (by decide +kernel)⟩
theorem lw_p27 : lw_okq (⟨"SandMarch$Storm", "tryOnce", "()Z"⟩, 5) := ⟨⟨by decide +kernel, by decide +kernel⟩, List.mem_of_getElem? (i := 247) (by decide +kernel), List.mem_of_getElem? (i := 691) (by decide +kernel), List.mem_of_getElem? (i := 692) (by decide +kernel)⟩
theorem lw_p28 : lw_okq (⟨"SandMarch$Storm", "wayUp", "(I)I"⟩, 5) := ⟨⟨by decide +kernel, by decide +kernel⟩, List.mem_of_getElem? (i := 247) (by decide +kernel), List.mem_of_getElem? (i := 709) (by decide +kernel), List.mem_of_getElem? (i := 710) (by decide +kernel)⟩
theorem lw_p29 : lw_okq (⟨"SandMarch$Storm", "carry", "(II)I"⟩, 5) := ⟨⟨by decide +kernel, by decide +kernel⟩, List.mem_of_getElem? (i := 247) (by decide +kernel), List.mem_of_getElem? (i := 713) (by decide +kernel), List.mem_of_getElem? (i := 714) (by decide +kernel)⟩
theorem lw_p30 : lw_okq (⟨"SandMarch$History", "dropOldest", "()V"⟩, 3) := ⟨⟨by decide +kernel, by decide +kernel⟩, List.mem_of_getElem? (i := 272) (by decide +kernel), List.mem_of_getElem? (i := 733) (by decide +kernel), List.mem_of_getElem? (i := 734) (by decide +kernel)⟩
theorem lw_p31 : lw_okq (⟨"SandMarch", "grassy", "()I"⟩, 16) := ⟨⟨by decide +kernel, by decide +kernel⟩, List.mem_of_getElem? (i := 21) (by decide +kernel), List.mem_of_getElem? (i := 751) (by decide +kernel), List.mem_of_getElem? (i := 752) (by decide +kernel)⟩
def lw_privs_2 : List (MethodName × Nat) := [(⟨"SandMarch$Reader", "advance", "()V"⟩, 5), (⟨"SandMarch$Reader", "readRest", "(I)V"⟩, 5), (⟨"SandMarch$Reader", "readSize", "()V"⟩, 5), (⟨"SandMarch$Reader", "readNumber", "(II)I"⟩, 5), (⟨"SandMarch$Reader", "expect", "(Z)V"⟩, 5), (⟨"SandMarch$Reader", "readHeap", "()V"⟩, 5), (⟨"SandMarch$Reader", "readGrass", "()V"⟩, 5), (⟨"SandMarch$Reader", "readWind", "()V"⟩, 5), (⟨"SandMarch$Reader", "readRule", "(I)V"⟩, 5), (⟨"SandMarch", "windNow", "()I"⟩, 16), (⟨"SandMarch", "steepness", "(I)I"⟩, 16), (⟨"SandMarch$Storm", "tryOnce", "()Z"⟩, 5), (⟨"SandMarch$Storm", "wayUp", "(I)I"⟩, 5), (⟨"SandMarch$Storm", "carry", "(II)I"⟩, 5), (⟨"SandMarch$History", "dropOldest", "()V"⟩, 3), (⟨"SandMarch", "grassy", "()I"⟩, 16)]
theorem lw_r2 : ∀ q ∈ lw_privs_2, lw_okq q := List.forall_mem_cons.mpr ⟨lw_p16, List.forall_mem_cons.mpr ⟨lw_p17, List.forall_mem_cons.mpr ⟨lw_p18, List.forall_mem_cons.mpr ⟨lw_p19, List.forall_mem_cons.mpr ⟨lw_p20, List.forall_mem_cons.mpr ⟨lw_p21, List.forall_mem_cons.mpr ⟨lw_p22, List.forall_mem_cons.mpr ⟨lw_p23, List.forall_mem_cons.mpr ⟨lw_p24, List.forall_mem_cons.mpr ⟨lw_p25, List.forall_mem_cons.mpr ⟨lw_p26, List.forall_mem_cons.mpr ⟨lw_p27, List.forall_mem_cons.mpr ⟨lw_p28, List.forall_mem_cons.mpr ⟨lw_p29, List.forall_mem_cons.mpr ⟨lw_p30, List.forall_mem_cons.mpr ⟨lw_p31, fun _ h => absurd h List.not_mem_nil⟩⟩⟩⟩⟩⟩⟩⟩⟩⟩⟩⟩⟩⟩⟩⟩
theorem lw_p32 : lw_okq (⟨"SandMarch", "shadedCells", "()I"⟩, 16) := ⟨⟨by decide +kernel, by decide +kernel⟩, List.mem_of_getElem? (i := 21) (by decide +kernel), List.mem_of_getElem? (i := 794) (by decide +kernel), List.mem_of_getElem? (i := 795) (by decide +kernel)⟩
theorem lw_p33 : lw_okq (⟨"SandMarch", "greatestDifference", "()I"⟩, 16) := ⟨⟨by decide +kernel, by decide +kernel⟩, List.mem_of_getElem? (i := 21) (by decide +kernel), List.mem_of_getElem? (i := 798) (by decide +kernel), List.mem_of_getElem? (i := 799) (by decide +kernel)⟩
theorem lw_p34 : lw_okq (⟨"SandMarch", "allDifferences", "()I"⟩, 16) := ⟨⟨by decide +kernel, by decide +kernel⟩, List.mem_of_getElem? (i := 21) (by decide +kernel), List.mem_of_getElem? (i := 802) (by decide +kernel), List.mem_of_getElem? (i := 803) (by decide +kernel)⟩
theorem lw_p35 : lw_okq (⟨"SandMarch", "yieldingCells", "()I"⟩, 16) := ⟨⟨by decide +kernel, by decide +kernel⟩, List.mem_of_getElem? (i := 21) (by decide +kernel), List.mem_of_getElem? (i := 809) (by decide +kernel), List.mem_of_getElem? (i := 810) (by decide +kernel)⟩
theorem lw_p36 : lw_okq (⟨"SandMarch$Lumps", "join", "(Z)V"⟩, 6) := ⟨⟨by decide +kernel, by decide +kernel⟩, List.mem_of_getElem? (i := 329) (by decide +kernel), List.mem_of_getElem? (i := 838) (by decide +kernel), List.mem_of_getElem? (i := 839) (by decide +kernel)⟩
theorem lw_p37 : lw_okq (⟨"SandMarch$Lumps", "spread", "(IZ)V"⟩, 6) := ⟨⟨by decide +kernel, by decide +kernel⟩, List.mem_of_getElem? (i := 329) (by decide +kernel), List.mem_of_getElem? (i := 843) (by decide +kernel), List.mem_of_getElem? (i := 844) (by decide +kernel)⟩
theorem lw_p38 : lw_okq (⟨"SandMarch$Lumps", "reach", "(I)V"⟩, 6) := ⟨⟨by decide +kernel, by decide +kernel⟩, List.mem_of_getElem? (i := 329) (by decide +kernel), List.mem_of_getElem? (i := 847) (by decide +kernel), List.mem_of_getElem? (i := 848) (by decide +kernel)⟩
theorem lw_p39 : lw_okq (⟨"SandMarch", "slabsOf", "(I)I"⟩, 16) := ⟨⟨by decide +kernel, by decide +kernel⟩, List.mem_of_getElem? (i := 21) (by decide +kernel), List.mem_of_getElem? (i := 864) (by decide +kernel), List.mem_of_getElem? (i := 865) (by decide +kernel)⟩
theorem lw_p40 : lw_okq (⟨"SandMarch", "peakOf", "(I)I"⟩, 16) := ⟨⟨by decide +kernel, by decide +kernel⟩, List.mem_of_getElem? (i := 21) (by decide +kernel), List.mem_of_getElem? (i := 868) (by decide +kernel), List.mem_of_getElem? (i := 869) (by decide +kernel)⟩
theorem lw_p41 : lw_okq (⟨"SandMarch", "linesOf", "(I[I)I"⟩, 16) := ⟨⟨by decide +kernel, by decide +kernel⟩, List.mem_of_getElem? (i := 21) (by decide +kernel), List.mem_of_getElem? (i := 872) (by decide +kernel), List.mem_of_getElem? (i := 873) (by decide +kernel)⟩
theorem lw_p42 : lw_okq (⟨"SandMarch", "leastFrom", "(I)I"⟩, 16) := ⟨⟨by decide +kernel, by decide +kernel⟩, List.mem_of_getElem? (i := 21) (by decide +kernel), List.mem_of_getElem? (i := 885) (by decide +kernel), List.mem_of_getElem? (i := 886) (by decide +kernel)⟩
theorem lw_p43 : lw_okq (⟨"SandMarch", "greatestBelow", "(I)I"⟩, 16) := ⟨⟨by decide +kernel, by decide +kernel⟩, List.mem_of_getElem? (i := 21) (by decide +kernel), List.mem_of_getElem? (i := 896) (by decide +kernel), List.mem_of_getElem? (i := 897) (by decide +kernel)⟩
theorem lw_p44 : lw_okq (⟨"SandMarch", "isKept", "(I)Z"⟩, 16) := ⟨⟨by decide +kernel, by decide +kernel⟩, List.mem_of_getElem? (i := 21) (by decide +kernel), List.mem_of_getElem? (i := 913) (by decide +kernel), List.mem_of_getElem? (i := 914) (by decide +kernel)⟩
theorem lw_p45 : lw_okq (⟨"SandMarch", "joinBoth", "(II)V"⟩, 16) := ⟨⟨by decide +kernel, by decide +kernel⟩, List.mem_of_getElem? (i := 21) (by decide +kernel), List.mem_of_getElem? (i := 917) (by decide +kernel), List.mem_of_getElem? (i := 918) (by decide +kernel)⟩
theorem lw_p46 : lw_okq (⟨"SandMarch", "meetingMany", "(LSandMarch$Lumps;LSandMarch$Lumps;)I"⟩, 16) := ⟨⟨by decide +kernel, by decide +kernel⟩, List.mem_of_getElem? (i := 21) (by decide +kernel), List.mem_of_getElem? (i := 925) (by decide +kernel), List.mem_of_getElem? (i := 926) (by decide +kernel)⟩
theorem lw_p47 : lw_okq (⟨"SandMarch", "meetingNone", "(LSandMarch$Lumps;LSandMarch$Lumps;)I"⟩, 16) := ⟨⟨by decide +kernel, by decide +kernel⟩, List.mem_of_getElem? (i := 21) (by decide +kernel), List.mem_of_getElem? (i := 929) (by decide +kernel), List.mem_of_getElem? (i := 930) (by decide +kernel)⟩
def lw_privs_3 : List (MethodName × Nat) := [(⟨"SandMarch", "shadedCells", "()I"⟩, 16), (⟨"SandMarch", "greatestDifference", "()I"⟩, 16), (⟨"SandMarch", "allDifferences", "()I"⟩, 16), (⟨"SandMarch", "yieldingCells", "()I"⟩, 16), (⟨"SandMarch$Lumps", "join", "(Z)V"⟩, 6), (⟨"SandMarch$Lumps", "spread", "(IZ)V"⟩, 6), (⟨"SandMarch$Lumps", "reach", "(I)V"⟩, 6), (⟨"SandMarch", "slabsOf", "(I)I"⟩, 16), (⟨"SandMarch", "peakOf", "(I)I"⟩, 16), (⟨"SandMarch", "linesOf", "(I[I)I"⟩, 16), (⟨"SandMarch", "leastFrom", "(I)I"⟩, 16), (⟨"SandMarch", "greatestBelow", "(I)I"⟩, 16), (⟨"SandMarch", "isKept", "(I)Z"⟩, 16), (⟨"SandMarch", "joinBoth", "(II)V"⟩, 16), (⟨"SandMarch", "meetingMany", "(LSandMarch$Lumps;LSandMarch$Lumps;)I"⟩, 16), (⟨"SandMarch", "meetingNone", "(LSandMarch$Lumps;LSandMarch$Lumps;)I"⟩, 16)]
theorem lw_r3 : ∀ q ∈ lw_privs_3, lw_okq q := List.forall_mem_cons.mpr ⟨lw_p32, List.forall_mem_cons.mpr ⟨lw_p33, List.forall_mem_cons.mpr ⟨lw_p34, List.forall_mem_cons.mpr ⟨lw_p35, List.forall_mem_cons.mpr ⟨lw_p36, List.forall_mem_cons.mpr ⟨lw_p37, List.forall_mem_cons.mpr ⟨lw_p38, List.forall_mem_cons.mpr ⟨lw_p39, List.forall_mem_cons.mpr ⟨lw_p40, List.forall_mem_cons.mpr ⟨lw_p41, List.forall_mem_cons.mpr ⟨lw_p42, List.forall_mem_cons.mpr ⟨lw_p43, List.forall_mem_cons.mpr ⟨lw_p44, List.forall_mem_cons.mpr ⟨lw_p45, List.forall_mem_cons.mpr ⟨lw_p46, List.forall_mem_cons.mpr ⟨lw_p47, fun _ h => absurd h List.not_mem_nil⟩⟩⟩⟩⟩⟩⟩⟩⟩⟩⟩⟩⟩⟩⟩⟩
theorem lw_p48 : lw_okq (⟨"SandMarch", "overlap", "([III)I"⟩, 16) := ⟨⟨by decide +kernel, by decide +kernel⟩, List.mem_of_getElem? (i := 21) (by decide +kernel), List.mem_of_getElem? (i := 937) (by decide +kernel), List.mem_of_getElem? (i := 938) (by decide +kernel)⟩
theorem lw_p49 : lw_okq (⟨"SandMarch", "runTrial", "(II)I"⟩, 16) := ⟨⟨by decide +kernel, by decide +kernel⟩, List.mem_of_getElem? (i := 21) (by decide +kernel), List.mem_of_getElem? (i := 946) (by decide +kernel), List.mem_of_getElem? (i := 947) (by decide +kernel)⟩
theorem lw_p50 : lw_okq (⟨"SandMarch$Sightings", "alike", "(IIJ)I"⟩, 9) := ⟨⟨by decide +kernel, by decide +kernel⟩, List.mem_of_getElem? (i := 293) (by decide +kernel), List.mem_of_getElem? (i := 1035) (by decide +kernel), List.mem_of_getElem? (i := 1036) (by decide +kernel)⟩
theorem lw_p51 : lw_okq (⟨"SandMarchModel", "begins", "()V"⟩, 46) := ⟨⟨by decide +kernel, by decide +kernel⟩, List.mem_of_getElem? (i := 1052) (by decide +kernel), List.mem_of_getElem? (i := 1058) (by decide +kernel), List.mem_of_getElem? (i := 1059) (by decide +kernel)⟩
theorem lw_p52 : lw_okq (⟨"SandMarchModel", "takesOver", "()V"⟩, 46) := ⟨⟨by decide +kernel, by decide +kernel⟩, List.mem_of_getElem? (i := 1052) (by decide +kernel), List.mem_of_getElem? (i := 1062) (by decide +kernel), List.mem_of_getElem? (i := 1063) (by decide +kernel)⟩
theorem lw_p53 : lw_okq (⟨"SandMarchModel", "cells", "()I"⟩, 46) := ⟨⟨by decide +kernel, by decide +kernel⟩, List.mem_of_getElem? (i := 1052) (by decide +kernel), List.mem_of_getElem? (i := 1069) (by decide +kernel), List.mem_of_getElem? (i := 1070) (by decide +kernel)⟩
theorem lw_p54 : lw_okq (⟨"SandMarchModel", "columns", "()I"⟩, 46) := ⟨⟨by decide +kernel, by decide +kernel⟩, List.mem_of_getElem? (i := 1052) (by decide +kernel), List.mem_of_getElem? (i := 1073) (by decide +kernel), List.mem_of_getElem? (i := 1074) (by decide +kernel)⟩
theorem lw_p55 : lw_okq (⟨"SandMarchModel", "rows", "()I"⟩, 46) := ⟨⟨by decide +kernel, by decide +kernel⟩, List.mem_of_getElem? (i := 1052) (by decide +kernel), List.mem_of_getElem? (i := 1077) (by decide +kernel), List.mem_of_getElem? (i := 1078) (by decide +kernel)⟩
theorem lw_p56 : lw_okq (⟨"SandMarchModel", "settles", "()V"⟩, 46) := ⟨⟨by decide +kernel, by decide +kernel⟩, List.mem_of_getElem? (i := 1052) (by decide +kernel), List.mem_of_getElem? (i := 1081) (by decide +kernel), List.mem_of_getElem? (i := 1082) (by decide +kernel)⟩
theorem lw_p57 : lw_okq (⟨"SandMarchModel", "wayTo", "(IZ)I"⟩, 46) := ⟨⟨by decide +kernel, by decide +kernel⟩, List.mem_of_getElem? (i := 1052) (by decide +kernel), List.mem_of_getElem? (i := 1085) (by decide +kernel), List.mem_of_getElem? (i := 1086) (by decide +kernel)⟩
theorem lw_p58 : lw_okq (⟨"SandMarchModel", "along", "(III)I"⟩, 46) := ⟨⟨by decide +kernel, by decide +kernel⟩, List.mem_of_getElem? (i := 1052) (by decide +kernel), List.mem_of_getElem? (i := 1089) (by decide +kernel), List.mem_of_getElem? (i := 1090) (by decide +kernel)⟩
theorem lw_p59 : lw_okq (⟨"SandMarchModel", "slides", "(II)V"⟩, 46) := ⟨⟨by decide +kernel, by decide +kernel⟩, List.mem_of_getElem? (i := 1052) (by decide +kernel), List.mem_of_getElem? (i := 1093) (by decide +kernel), List.mem_of_getElem? (i := 1094) (by decide +kernel)⟩
theorem lw_p60 : lw_okq (⟨"SandMarchModel", "crosses", "(III)V"⟩, 46) := ⟨⟨by decide +kernel, by decide +kernel⟩, List.mem_of_getElem? (i := 1052) (by decide +kernel), List.mem_of_getElem? (i := 1097) (by decide +kernel), List.mem_of_getElem? (i := 1098) (by decide +kernel)⟩
theorem lw_p61 : lw_okq (⟨"SandMarchModel", "asTold", "(I)V"⟩, 46) := ⟨⟨by decide +kernel, by decide +kernel⟩, List.mem_of_getElem? (i := 1052) (by decide +kernel), List.mem_of_getElem? (i := 1101) (by decide +kernel), List.mem_of_getElem? (i := 1102) (by decide +kernel)⟩
theorem lw_p62 : lw_okq (⟨"SandMarchModel", "four", "(I)V"⟩, 46) := ⟨⟨by decide +kernel, by decide +kernel⟩, List.mem_of_getElem? (i := 1052) (by decide +kernel), List.mem_of_getElem? (i := 1248) (by decide +kernel), List.mem_of_getElem? (i := 1249) (by decide +kernel)⟩
theorem lw_p63 : lw_okq (⟨"SandMarchModel", "goOn", "()V"⟩, 46) := ⟨⟨by decide +kernel, by decide +kernel⟩, List.mem_of_getElem? (i := 1052) (by decide +kernel), List.mem_of_getElem? (i := 1263) (by decide +kernel), List.mem_of_getElem? (i := 1264) (by decide +kernel)⟩
def lw_privs_4 : List (MethodName × Nat) := [(⟨"SandMarch", "overlap", "([III)I"⟩, 16), (⟨"SandMarch", "runTrial", "(II)I"⟩, 16), (⟨"SandMarch$Sightings", "alike", "(IIJ)I"⟩, 9), (⟨"SandMarchModel", "begins", "()V"⟩, 46), (⟨"SandMarchModel", "takesOver", "()V"⟩, 46), (⟨"SandMarchModel", "cells", "()I"⟩, 46), (⟨"SandMarchModel", "columns", "()I"⟩, 46), (⟨"SandMarchModel", "rows", "()I"⟩, 46), (⟨"SandMarchModel", "settles", "()V"⟩, 46), (⟨"SandMarchModel", "wayTo", "(IZ)I"⟩, 46), (⟨"SandMarchModel", "along", "(III)I"⟩, 46), (⟨"SandMarchModel", "slides", "(II)V"⟩, 46), (⟨"SandMarchModel", "crosses", "(III)V"⟩, 46), (⟨"SandMarchModel", "asTold", "(I)V"⟩, 46), (⟨"SandMarchModel", "four", "(I)V"⟩, 46), (⟨"SandMarchModel", "goOn", "()V"⟩, 46)]
theorem lw_r4 : ∀ q ∈ lw_privs_4, lw_okq q := List.forall_mem_cons.mpr ⟨lw_p48, List.forall_mem_cons.mpr ⟨lw_p49, List.forall_mem_cons.mpr ⟨lw_p50, List.forall_mem_cons.mpr ⟨lw_p51, List.forall_mem_cons.mpr ⟨lw_p52, List.forall_mem_cons.mpr ⟨lw_p53, List.forall_mem_cons.mpr ⟨lw_p54, List.forall_mem_cons.mpr ⟨lw_p55, List.forall_mem_cons.mpr ⟨lw_p56, List.forall_mem_cons.mpr ⟨lw_p57, List.forall_mem_cons.mpr ⟨lw_p58, List.forall_mem_cons.mpr ⟨lw_p59, List.forall_mem_cons.mpr ⟨lw_p60, List.forall_mem_cons.mpr ⟨lw_p61, List.forall_mem_cons.mpr ⟨lw_p62, List.forall_mem_cons.mpr ⟨lw_p63, fun _ h => absurd h List.not_mem_nil⟩⟩⟩⟩⟩⟩⟩⟩⟩⟩⟩⟩⟩⟩⟩⟩
theorem lw_p64 : lw_okq (⟨"SandMarchModel", "here", "(I)I"⟩, 46) := ⟨⟨by decide +kernel, by decide +kernel⟩, List.mem_of_getElem? (i := 1052) (by decide +kernel), List.mem_of_getElem? (i := 1267) (by decide +kernel), List.mem_of_getElem? (i := 1268) (by decide +kernel)⟩
theorem lw_p65 : lw_okq (⟨"SandMarchModel", "isGood", "()Z"⟩, 46) := ⟨⟨by decide +kernel, by decide +kernel⟩, List.mem_of_getElem? (i := 1052) (by decide +kernel), List.mem_of_getElem? (i := 1277) (by decide +kernel), List.mem_of_getElem? (i := 1278) (by decide +kernel)⟩
theorem lw_p66 : lw_okq (⟨"SandMarchModel", "isWord", "(J)Z"⟩, 46) := ⟨⟨by decide +kernel, by decide +kernel⟩, List.mem_of_getElem? (i := 1052) (by decide +kernel), List.mem_of_getElem? (i := 1282) (by decide +kernel), List.mem_of_getElem? (i := 1283) (by decide +kernel)⟩
theorem lw_p67 : lw_okq (⟨"SandMarchModel", "sizeLine", "()V"⟩, 46) := ⟨⟨by decide +kernel, by decide +kernel⟩, List.mem_of_getElem? (i := 1052) (by decide +kernel), List.mem_of_getElem? (i := 1286) (by decide +kernel), List.mem_of_getElem? (i := 1287) (by decide +kernel)⟩
theorem lw_p68 : lw_okq (⟨"SandMarchModel", "wrong", "(I)V"⟩, 46) := ⟨⟨by decide +kernel, by decide +kernel⟩, List.mem_of_getElem? (i := 1052) (by decide +kernel), List.mem_of_getElem? (i := 1290) (by decide +kernel), List.mem_of_getElem? (i := 1291) (by decide +kernel)⟩
theorem lw_p69 : lw_okq (⟨"SandMarchModel", "once", "(I)Z"⟩, 46) := ⟨⟨by decide +kernel, by decide +kernel⟩, List.mem_of_getElem? (i := 1052) (by decide +kernel), List.mem_of_getElem? (i := 1294) (by decide +kernel), List.mem_of_getElem? (i := 1295) (by decide +kernel)⟩
theorem lw_p70 : lw_okq (⟨"SandMarchModel", "number", "(II)I"⟩, 46) := ⟨⟨by decide +kernel, by decide +kernel⟩, List.mem_of_getElem? (i := 1052) (by decide +kernel), List.mem_of_getElem? (i := 1298) (by decide +kernel), List.mem_of_getElem? (i := 1299) (by decide +kernel)⟩
theorem lw_p71 : lw_okq (⟨"SandMarchModel", "numberHere", "(II)I"⟩, 46) := ⟨⟨by decide +kernel, by decide +kernel⟩, List.mem_of_getElem? (i := 1052) (by decide +kernel), List.mem_of_getElem? (i := 1302) (by decide +kernel), List.mem_of_getElem? (i := 1303) (by decide +kernel)⟩
theorem lw_p72 : lw_okq (⟨"SandMarchModel", "otherLine", "()V"⟩, 46) := ⟨⟨by decide +kernel, by decide +kernel⟩, List.mem_of_getElem? (i := 1052) (by decide +kernel), List.mem_of_getElem? (i := 1307) (by decide +kernel), List.mem_of_getElem? (i := 1308) (by decide +kernel)⟩
theorem lw_p73 : lw_okq (⟨"SandMarchModel", "simple", "(IIII)V"⟩, 46) := ⟨⟨by decide +kernel, by decide +kernel⟩, List.mem_of_getElem? (i := 1052) (by decide +kernel), List.mem_of_getElem? (i := 1312) (by decide +kernel), List.mem_of_getElem? (i := 1313) (by decide +kernel)⟩
theorem lw_p74 : lw_okq (⟨"SandMarchModel", "heapLine", "()V"⟩, 46) := ⟨⟨by decide +kernel, by decide +kernel⟩, List.mem_of_getElem? (i := 1052) (by decide +kernel), List.mem_of_getElem? (i := 1317) (by decide +kernel), List.mem_of_getElem? (i := 1318) (by decide +kernel)⟩
theorem lw_p75 : lw_okq (⟨"SandMarchModel", "grassLine", "()V"⟩, 46) := ⟨⟨by decide +kernel, by decide +kernel⟩, List.mem_of_getElem? (i := 1052) (by decide +kernel), List.mem_of_getElem? (i := 1322) (by decide +kernel), List.mem_of_getElem? (i := 1323) (by decide +kernel)⟩
theorem lw_p76 : lw_okq (⟨"SandMarchModel", "windLine", "()V"⟩, 46) := ⟨⟨by decide +kernel, by decide +kernel⟩, List.mem_of_getElem? (i := 1052) (by decide +kernel), List.mem_of_getElem? (i := 1327) (by decide +kernel), List.mem_of_getElem? (i := 1328) (by decide +kernel)⟩
theorem lw_p77 : lw_okq (⟨"SandMarchModel", "wayHere", "()I"⟩, 46) := ⟨⟨by decide +kernel, by decide +kernel⟩, List.mem_of_getElem? (i := 1052) (by decide +kernel), List.mem_of_getElem? (i := 1331) (by decide +kernel), List.mem_of_getElem? (i := 1332) (by decide +kernel)⟩
theorem lw_p78 : lw_okq (⟨"SandMarchModel", "stickLine", "()V"⟩, 46) := ⟨⟨by decide +kernel, by decide +kernel⟩, List.mem_of_getElem? (i := 1052) (by decide +kernel), List.mem_of_getElem? (i := 1343) (by decide +kernel), List.mem_of_getElem? (i := 1344) (by decide +kernel)⟩
theorem lw_p79 : lw_okq (⟨"SandMarchModel", "exchanges", "(I)V"⟩, 46) := ⟨⟨by decide +kernel, by decide +kernel⟩, List.mem_of_getElem? (i := 1052) (by decide +kernel), List.mem_of_getElem? (i := 1356) (by decide +kernel), List.mem_of_getElem? (i := 1357) (by decide +kernel)⟩
def lw_privs_5 : List (MethodName × Nat) := [(⟨"SandMarchModel", "here", "(I)I"⟩, 46), (⟨"SandMarchModel", "isGood", "()Z"⟩, 46), (⟨"SandMarchModel", "isWord", "(J)Z"⟩, 46), (⟨"SandMarchModel", "sizeLine", "()V"⟩, 46), (⟨"SandMarchModel", "wrong", "(I)V"⟩, 46), (⟨"SandMarchModel", "once", "(I)Z"⟩, 46), (⟨"SandMarchModel", "number", "(II)I"⟩, 46), (⟨"SandMarchModel", "numberHere", "(II)I"⟩, 46), (⟨"SandMarchModel", "otherLine", "()V"⟩, 46), (⟨"SandMarchModel", "simple", "(IIII)V"⟩, 46), (⟨"SandMarchModel", "heapLine", "()V"⟩, 46), (⟨"SandMarchModel", "grassLine", "()V"⟩, 46), (⟨"SandMarchModel", "windLine", "()V"⟩, 46), (⟨"SandMarchModel", "wayHere", "()I"⟩, 46), (⟨"SandMarchModel", "stickLine", "()V"⟩, 46), (⟨"SandMarchModel", "exchanges", "(I)V"⟩, 46)]
theorem lw_r5 : ∀ q ∈ lw_privs_5, lw_okq q := List.forall_mem_cons.mpr ⟨lw_p64, List.forall_mem_cons.mpr ⟨lw_p65, List.forall_mem_cons.mpr ⟨lw_p66, List.forall_mem_cons.mpr ⟨lw_p67, List.forall_mem_cons.mpr ⟨lw_p68, List.forall_mem_cons.mpr ⟨lw_p69, List.forall_mem_cons.mpr ⟨lw_p70, List.forall_mem_cons.mpr ⟨lw_p71, List.forall_mem_cons.mpr ⟨lw_p72, List.forall_mem_cons.mpr ⟨lw_p73, List.forall_mem_cons.mpr ⟨lw_p74, List.forall_mem_cons.mpr ⟨lw_p75, List.forall_mem_cons.mpr ⟨lw_p76, List.forall_mem_cons.mpr ⟨lw_p77, List.forall_mem_cons.mpr ⟨lw_p78, List.forall_mem_cons.mpr ⟨lw_p79, fun _ h => absurd h List.not_mem_nil⟩⟩⟩⟩⟩⟩⟩⟩⟩⟩⟩⟩⟩⟩⟩⟩
theorem lw_p80 : lw_okq (⟨"SandMarchModel", "act", "()V"⟩, 46) := ⟨⟨by decide +kernel, by decide +kernel⟩, List.mem_of_getElem? (i := 1052) (by decide +kernel), List.mem_of_getElem? (i := 1368) (by decide +kernel), List.mem_of_getElem? (i := 1369) (by decide +kernel)⟩
theorem lw_p81 : lw_okq (⟨"SandMarchModel", "goesOn", "()V"⟩, 46) := ⟨⟨by decide +kernel, by decide +kernel⟩, List.mem_of_getElem? (i := 1052) (by decide +kernel), List.mem_of_getElem? (i := 1372) (by decide +kernel), List.mem_of_getElem? (i := 1373) (by decide +kernel)⟩
theorem lw_p82 : lw_okq (⟨"SandMarchModel", "blows", "(I)I"⟩, 46) := ⟨⟨by decide +kernel, by decide +kernel⟩, List.mem_of_getElem? (i := 1052) (by decide +kernel), List.mem_of_getElem? (i := 1376) (by decide +kernel), List.mem_of_getElem? (i := 1377) (by decide +kernel)⟩
theorem lw_p83 : lw_okq (⟨"SandMarchModel", "tries", "()Z"⟩, 46) := ⟨⟨by decide +kernel, by decide +kernel⟩, List.mem_of_getElem? (i := 1052) (by decide +kernel), List.mem_of_getElem? (i := 1380) (by decide +kernel), List.mem_of_getElem? (i := 1381) (by decide +kernel)⟩
theorem lw_p84 : lw_okq (⟨"SandMarchModel", "draw", "(I)I"⟩, 46) := ⟨⟨by decide +kernel, by decide +kernel⟩, List.mem_of_getElem? (i := 1052) (by decide +kernel), List.mem_of_getElem? (i := 1384) (by decide +kernel), List.mem_of_getElem? (i := 1385) (by decide +kernel)⟩
theorem lw_p85 : lw_okq (⟨"SandMarchModel", "gives", "(I)Z"⟩, 46) := ⟨⟨by decide +kernel, by decide +kernel⟩, List.mem_of_getElem? (i := 1052) (by decide +kernel), List.mem_of_getElem? (i := 1388) (by decide +kernel), List.mem_of_getElem? (i := 1389) (by decide +kernel)⟩
theorem lw_p86 : lw_okq (⟨"SandMarchModel", "isShadow", "(I)Z"⟩, 46) := ⟨⟨by decide +kernel, by decide +kernel⟩, List.mem_of_getElem? (i := 1052) (by decide +kernel), List.mem_of_getElem? (i := 1392) (by decide +kernel), List.mem_of_getElem? (i := 1393) (by decide +kernel)⟩
theorem lw_p87 : lw_okq (⟨"SandMarchModel", "windNow", "()I"⟩, 46) := ⟨⟨by decide +kernel, by decide +kernel⟩, List.mem_of_getElem? (i := 1052) (by decide +kernel), List.mem_of_getElem? (i := 1396) (by decide +kernel), List.mem_of_getElem? (i := 1397) (by decide +kernel)⟩
theorem lw_p88 : lw_okq (⟨"SandMarchModel", "windOf", "(I)I"⟩, 46) := ⟨⟨by decide +kernel, by decide +kernel⟩, List.mem_of_getElem? (i := 1052) (by decide +kernel), List.mem_of_getElem? (i := 1400) (by decide +kernel), List.mem_of_getElem? (i := 1401) (by decide +kernel)⟩
theorem lw_p89 : lw_okq (⟨"SandMarchModel", "roundOf", "(I)I"⟩, 46) := ⟨⟨by decide +kernel, by decide +kernel⟩, List.mem_of_getElem? (i := 1052) (by decide +kernel), List.mem_of_getElem? (i := 1404) (by decide +kernel), List.mem_of_getElem? (i := 1405) (by decide +kernel)⟩
theorem lw_p90 : lw_okq (⟨"SandMarchModel", "fills", "(I)V"⟩, 46) := ⟨⟨by decide +kernel, by decide +kernel⟩, List.mem_of_getElem? (i := 1052) (by decide +kernel), List.mem_of_getElem? (i := 1411) (by decide +kernel), List.mem_of_getElem? (i := 1412) (by decide +kernel)⟩
theorem lw_p91 : lw_okq (⟨"SandMarchModel", "flies", "(I)I"⟩, 46) := ⟨⟨by decide +kernel, by decide +kernel⟩, List.mem_of_getElem? (i := 1052) (by decide +kernel), List.mem_of_getElem? (i := 1415) (by decide +kernel), List.mem_of_getElem? (i := 1416) (by decide +kernel)⟩
theorem lw_p92 : lw_okq (⟨"SandMarchModel", "spills", "(I)V"⟩, 46) := ⟨⟨by decide +kernel, by decide +kernel⟩, List.mem_of_getElem? (i := 1052) (by decide +kernel), List.mem_of_getElem? (i := 1419) (by decide +kernel), List.mem_of_getElem? (i := 1420) (by decide +kernel)⟩
theorem lw_p93 : lw_okq (⟨"SandMarchModel", "keepsRow", "()V"⟩, 46) := ⟨⟨by decide +kernel, by decide +kernel⟩, List.mem_of_getElem? (i := 1052) (by decide +kernel), List.mem_of_getElem? (i := 1426) (by decide +kernel), List.mem_of_getElem? (i := 1427) (by decide +kernel)⟩
theorem lw_p94 : lw_okq (⟨"SandMarchModel", "isCell", "(I)Z"⟩, 46) := ⟨⟨by decide +kernel, by decide +kernel⟩, List.mem_of_getElem? (i := 1052) (by decide +kernel), List.mem_of_getElem? (i := 1434) (by decide +kernel), List.mem_of_getElem? (i := 1435) (by decide +kernel)⟩
theorem lw_p95 : lw_okq (⟨"SandMarchModel", "sownMany", "()I"⟩, 46) := ⟨⟨by decide +kernel, by decide +kernel⟩, List.mem_of_getElem? (i := 1052) (by decide +kernel), List.mem_of_getElem? (i := 1446) (by decide +kernel), List.mem_of_getElem? (i := 1447) (by decide +kernel)⟩
def lw_privs_6 : List (MethodName × Nat) := [(⟨"SandMarchModel", "act", "()V"⟩, 46), (⟨"SandMarchModel", "goesOn", "()V"⟩, 46), (⟨"SandMarchModel", "blows", "(I)I"⟩, 46), (⟨"SandMarchModel", "tries", "()Z"⟩, 46), (⟨"SandMarchModel", "draw", "(I)I"⟩, 46), (⟨"SandMarchModel", "gives", "(I)Z"⟩, 46), (⟨"SandMarchModel", "isShadow", "(I)Z"⟩, 46), (⟨"SandMarchModel", "windNow", "()I"⟩, 46), (⟨"SandMarchModel", "windOf", "(I)I"⟩, 46), (⟨"SandMarchModel", "roundOf", "(I)I"⟩, 46), (⟨"SandMarchModel", "fills", "(I)V"⟩, 46), (⟨"SandMarchModel", "flies", "(I)I"⟩, 46), (⟨"SandMarchModel", "spills", "(I)V"⟩, 46), (⟨"SandMarchModel", "keepsRow", "()V"⟩, 46), (⟨"SandMarchModel", "isCell", "(I)Z"⟩, 46), (⟨"SandMarchModel", "sownMany", "()I"⟩, 46)]
theorem lw_r6 : ∀ q ∈ lw_privs_6, lw_okq q := List.forall_mem_cons.mpr ⟨lw_p80, List.forall_mem_cons.mpr ⟨lw_p81, List.forall_mem_cons.mpr ⟨lw_p82, List.forall_mem_cons.mpr ⟨lw_p83, List.forall_mem_cons.mpr ⟨lw_p84, List.forall_mem_cons.mpr ⟨lw_p85, List.forall_mem_cons.mpr ⟨lw_p86, List.forall_mem_cons.mpr ⟨lw_p87, List.forall_mem_cons.mpr ⟨lw_p88, List.forall_mem_cons.mpr ⟨lw_p89, List.forall_mem_cons.mpr ⟨lw_p90, List.forall_mem_cons.mpr ⟨lw_p91, List.forall_mem_cons.mpr ⟨lw_p92, List.forall_mem_cons.mpr ⟨lw_p93, List.forall_mem_cons.mpr ⟨lw_p94, List.forall_mem_cons.mpr ⟨lw_p95, fun _ h => absurd h List.not_mem_nil⟩⟩⟩⟩⟩⟩⟩⟩⟩⟩⟩⟩⟩⟩⟩⟩
theorem lw_p96 : lw_okq (⟨"SandMarchModel", "lowestBeside", "(I)I"⟩, 46) := ⟨⟨by decide +kernel, by decide +kernel⟩, List.mem_of_getElem? (i := 1052) (by decide +kernel), List.mem_of_getElem? (i := 1461) (by decide +kernel), List.mem_of_getElem? (i := 1462) (by decide +kernel)⟩
theorem lw_p97 : lw_okq (⟨"SandMarchModel", "isCrest", "(I)Z"⟩, 46) := ⟨⟨by decide +kernel, by decide +kernel⟩, List.mem_of_getElem? (i := 1052) (by decide +kernel), List.mem_of_getElem? (i := 1468) (by decide +kernel), List.mem_of_getElem? (i := 1469) (by decide +kernel)⟩
theorem lw_p98 : lw_okq (⟨"SandMarchModel", "slabs", "()I"⟩, 46) := ⟨⟨by decide +kernel, by decide +kernel⟩, List.mem_of_getElem? (i := 1052) (by decide +kernel), List.mem_of_getElem? (i := 1484) (by decide +kernel), List.mem_of_getElem? (i := 1485) (by decide +kernel)⟩
theorem lw_p99 : lw_okq (⟨"SandMarchModel", "highest", "()I"⟩, 46) := ⟨⟨by decide +kernel, by decide +kernel⟩, List.mem_of_getElem? (i := 1052) (by decide +kernel), List.mem_of_getElem? (i := 1488) (by decide +kernel), List.mem_of_getElem? (i := 1489) (by decide +kernel)⟩
theorem lw_p100 : lw_okq (⟨"SandMarchModel", "bare", "()I"⟩, 46) := ⟨⟨by decide +kernel, by decide +kernel⟩, List.mem_of_getElem? (i := 1052) (by decide +kernel), List.mem_of_getElem? (i := 1492) (by decide +kernel), List.mem_of_getElem? (i := 1493) (by decide +kernel)⟩
theorem lw_p101 : lw_okq (⟨"SandMarchModel", "shadows", "()I"⟩, 46) := ⟨⟨by decide +kernel, by decide +kernel⟩, List.mem_of_getElem? (i := 1052) (by decide +kernel), List.mem_of_getElem? (i := 1496) (by decide +kernel), List.mem_of_getElem? (i := 1497) (by decide +kernel)⟩
theorem lw_p102 : lw_okq (⟨"SandMarchModel", "steepest", "()I"⟩, 46) := ⟨⟨by decide +kernel, by decide +kernel⟩, List.mem_of_getElem? (i := 1052) (by decide +kernel), List.mem_of_getElem? (i := 1500) (by decide +kernel), List.mem_of_getElem? (i := 1501) (by decide +kernel)⟩
theorem lw_p103 : lw_okq (⟨"SandMarchModel", "rough", "()I"⟩, 46) := ⟨⟨by decide +kernel, by decide +kernel⟩, List.mem_of_getElem? (i := 1052) (by decide +kernel), List.mem_of_getElem? (i := 1507) (by decide +kernel), List.mem_of_getElem? (i := 1508) (by decide +kernel)⟩
theorem lw_p104 : lw_okq (⟨"SandMarchModel", "givers", "()I"⟩, 46) := ⟨⟨by decide +kernel, by decide +kernel⟩, List.mem_of_getElem? (i := 1052) (by decide +kernel), List.mem_of_getElem? (i := 1511) (by decide +kernel), List.mem_of_getElem? (i := 1512) (by decide +kernel)⟩
theorem lw_p105 : lw_okq (⟨"SandMarchModel", "dunesNow", "(I)I"⟩, 46) := ⟨⟨by decide +kernel, by decide +kernel⟩, List.mem_of_getElem? (i := 1052) (by decide +kernel), List.mem_of_getElem? (i := 1532) (by decide +kernel), List.mem_of_getElem? (i := 1533) (by decide +kernel)⟩
theorem lw_p106 : lw_okq (⟨"SandMarchModel", "laysDunes", "([III[I)I"⟩, 46) := ⟨⟨by decide +kernel, by decide +kernel⟩, List.mem_of_getElem? (i := 1052) (by decide +kernel), List.mem_of_getElem? (i := 1536) (by decide +kernel), List.mem_of_getElem? (i := 1537) (by decide +kernel)⟩
theorem lw_p107 : lw_okq (⟨"SandMarchModel", "piles", "(II[I)V"⟩, 46) := ⟨⟨by decide +kernel, by decide +kernel⟩, List.mem_of_getElem? (i := 1052) (by decide +kernel), List.mem_of_getElem? (i := 1540) (by decide +kernel), List.mem_of_getElem? (i := 1541) (by decide +kernel)⟩
theorem lw_p108 : lw_okq (⟨"SandMarchModel", "spanOf", "(IZ)I"⟩, 46) := ⟨⟨by decide +kernel, by decide +kernel⟩, List.mem_of_getElem? (i := 1052) (by decide +kernel), List.mem_of_getElem? (i := 1548) (by decide +kernel), List.mem_of_getElem? (i := 1549) (by decide +kernel)⟩
theorem lw_p109 : lw_okq (⟨"SandMarchModel", "hasIn", "(IIZ)Z"⟩, 46) := ⟨⟨by decide +kernel, by decide +kernel⟩, List.mem_of_getElem? (i := 1052) (by decide +kernel), List.mem_of_getElem? (i := 1552) (by decide +kernel), List.mem_of_getElem? (i := 1553) (by decide +kernel)⟩
theorem lw_p110 : lw_okq (⟨"SandMarchModel", "areOne", "(III)Z"⟩, 46) := ⟨⟨by decide +kernel, by decide +kernel⟩, List.mem_of_getElem? (i := 1052) (by decide +kernel), List.mem_of_getElem? (i := 1571) (by decide +kernel), List.mem_of_getElem? (i := 1572) (by decide +kernel)⟩
theorem lw_p111 : lw_okq (⟨"SandMarchModel", "laysCrests", "()I"⟩, 46) := ⟨⟨by decide +kernel, by decide +kernel⟩, List.mem_of_getElem? (i := 1052) (by decide +kernel), List.mem_of_getElem? (i := 1579) (by decide +kernel), List.mem_of_getElem? (i := 1580) (by decide +kernel)⟩
def lw_privs_7 : List (MethodName × Nat) := [(⟨"SandMarchModel", "lowestBeside", "(I)I"⟩, 46), (⟨"SandMarchModel", "isCrest", "(I)Z"⟩, 46), (⟨"SandMarchModel", "slabs", "()I"⟩, 46), (⟨"SandMarchModel", "highest", "()I"⟩, 46), (⟨"SandMarchModel", "bare", "()I"⟩, 46), (⟨"SandMarchModel", "shadows", "()I"⟩, 46), (⟨"SandMarchModel", "steepest", "()I"⟩, 46), (⟨"SandMarchModel", "rough", "()I"⟩, 46), (⟨"SandMarchModel", "givers", "()I"⟩, 46), (⟨"SandMarchModel", "dunesNow", "(I)I"⟩, 46), (⟨"SandMarchModel", "laysDunes", "([III[I)I"⟩, 46), (⟨"SandMarchModel", "piles", "(II[I)V"⟩, 46), (⟨"SandMarchModel", "spanOf", "(IZ)I"⟩, 46), (⟨"SandMarchModel", "hasIn", "(IIZ)Z"⟩, 46), (⟨"SandMarchModel", "areOne", "(III)Z"⟩, 46), (⟨"SandMarchModel", "laysCrests", "()I"⟩, 46)]
theorem lw_r7 : ∀ q ∈ lw_privs_7, lw_okq q := List.forall_mem_cons.mpr ⟨lw_p96, List.forall_mem_cons.mpr ⟨lw_p97, List.forall_mem_cons.mpr ⟨lw_p98, List.forall_mem_cons.mpr ⟨lw_p99, List.forall_mem_cons.mpr ⟨lw_p100, List.forall_mem_cons.mpr ⟨lw_p101, List.forall_mem_cons.mpr ⟨lw_p102, List.forall_mem_cons.mpr ⟨lw_p103, List.forall_mem_cons.mpr ⟨lw_p104, List.forall_mem_cons.mpr ⟨lw_p105, List.forall_mem_cons.mpr ⟨lw_p106, List.forall_mem_cons.mpr ⟨lw_p107, List.forall_mem_cons.mpr ⟨lw_p108, List.forall_mem_cons.mpr ⟨lw_p109, List.forall_mem_cons.mpr ⟨lw_p110, List.forall_mem_cons.mpr ⟨lw_p111, fun _ h => absurd h List.not_mem_nil⟩⟩⟩⟩⟩⟩⟩⟩⟩⟩⟩⟩⟩⟩⟩⟩
theorem lw_p112 : lw_okq (⟨"SandMarchModel", "sidled", "(III)I"⟩, 46) := ⟨⟨by decide +kernel, by decide +kernel⟩, List.mem_of_getElem? (i := 1052) (by decide +kernel), List.mem_of_getElem? (i := 1583) (by decide +kernel), List.mem_of_getElem? (i := 1584) (by decide +kernel)⟩
theorem lw_p113 : lw_okq (⟨"SandMarchModel", "isKept", "(I)Z"⟩, 46) := ⟨⟨by decide +kernel, by decide +kernel⟩, List.mem_of_getElem? (i := 1052) (by decide +kernel), List.mem_of_getElem? (i := 1591) (by decide +kernel), List.mem_of_getElem? (i := 1592) (by decide +kernel)⟩
theorem lw_p114 : lw_okq (⟨"SandMarchModel", "isBox", "(I)Z"⟩, 46) := ⟨⟨by decide +kernel, by decide +kernel⟩, List.mem_of_getElem? (i := 1052) (by decide +kernel), List.mem_of_getElem? (i := 1595) (by decide +kernel), List.mem_of_getElem? (i := 1596) (by decide +kernel)⟩
theorem lw_p115 : lw_okq (⟨"SandMarchModel", "inCommon", "(II)I"⟩, 46) := ⟨⟨by decide +kernel, by decide +kernel⟩, List.mem_of_getElem? (i := 1052) (by decide +kernel), List.mem_of_getElem? (i := 1599) (by decide +kernel), List.mem_of_getElem? (i := 1600) (by decide +kernel)⟩
theorem lw_p116 : lw_okq (⟨"SandMarchModel", "meets", "(IIZ)I"⟩, 46) := ⟨⟨by decide +kernel, by decide +kernel⟩, List.mem_of_getElem? (i := 1052) (by decide +kernel), List.mem_of_getElem? (i := 1607) (by decide +kernel), List.mem_of_getElem? (i := 1608) (by decide +kernel)⟩
theorem lw_p117 : lw_okq (⟨"SandMarchModel", "overlap", "(III)I"⟩, 46) := ⟨⟨by decide +kernel, by decide +kernel⟩, List.mem_of_getElem? (i := 1052) (by decide +kernel), List.mem_of_getElem? (i := 1615) (by decide +kernel), List.mem_of_getElem? (i := 1616) (by decide +kernel)⟩
theorem lw_p118 : lw_okq (⟨"SandMarchModel", "laysFits", "(I)I"⟩, 46) := ⟨⟨by decide +kernel, by decide +kernel⟩, List.mem_of_getElem? (i := 1052) (by decide +kernel), List.mem_of_getElem? (i := 1657) (by decide +kernel), List.mem_of_getElem? (i := 1658) (by decide +kernel)⟩
theorem lw_p119 : lw_okq (⟨"SandMarchModel", "fitsBy", "(II)Z"⟩, 46) := ⟨⟨by decide +kernel, by decide +kernel⟩, List.mem_of_getElem? (i := 1052) (by decide +kernel), List.mem_of_getElem? (i := 1661) (by decide +kernel), List.mem_of_getElem? (i := 1662) (by decide +kernel)⟩
theorem lw_p120 : lw_okq (⟨"SandMarchModel", "lastSeen", "(I)I"⟩, 46) := ⟨⟨by decide +kernel, by decide +kernel⟩, List.mem_of_getElem? (i := 1052) (by decide +kernel), List.mem_of_getElem? (i := 1665) (by decide +kernel), List.mem_of_getElem? (i := 1666) (by decide +kernel)⟩
theorem lw_p121 : lw_okq (⟨"SandMarchModel", "doesCount", "(II)Z"⟩, 46) := ⟨⟨by decide +kernel, by decide +kernel⟩, List.mem_of_getElem? (i := 1052) (by decide +kernel), List.mem_of_getElem? (i := 1669) (by decide +kernel), List.mem_of_getElem? (i := 1670) (by decide +kernel)⟩
theorem lw_p122 : lw_okq (⟨"SandMarchModel", "isSoAfter", "(II)Z"⟩, 46) := ⟨⟨by decide +kernel, by decide +kernel⟩, List.mem_of_getElem? (i := 1052) (by decide +kernel), List.mem_of_getElem? (i := 1673) (by decide +kernel), List.mem_of_getElem? (i := 1674) (by decide +kernel)⟩
theorem lw_p123 : lw_okq (⟨"SandMarchModel", "leftBy", "(I)I"⟩, 46) := ⟨⟨by decide +kernel, by decide +kernel⟩, List.mem_of_getElem? (i := 1052) (by decide +kernel), List.mem_of_getElem? (i := 1685) (by decide +kernel), List.mem_of_getElem? (i := 1686) (by decide +kernel)⟩
theorem lw_p124 : lw_okq (⟨"SandMarchModel", "roundTries", "()I"⟩, 46) := ⟨⟨by decide +kernel, by decide +kernel⟩, List.mem_of_getElem? (i := 1052) (by decide +kernel), List.mem_of_getElem? (i := 1702) (by decide +kernel), List.mem_of_getElem? (i := 1703) (by decide +kernel)⟩
def lw_privs_8 : List (MethodName × Nat) := [(⟨"SandMarchModel", "sidled", "(III)I"⟩, 46), (⟨"SandMarchModel", "isKept", "(I)Z"⟩, 46), (⟨"SandMarchModel", "isBox", "(I)Z"⟩, 46), (⟨"SandMarchModel", "inCommon", "(II)I"⟩, 46), (⟨"SandMarchModel", "meets", "(IIZ)I"⟩, 46), (⟨"SandMarchModel", "overlap", "(III)I"⟩, 46), (⟨"SandMarchModel", "laysFits", "(I)I"⟩, 46), (⟨"SandMarchModel", "fitsBy", "(II)Z"⟩, 46), (⟨"SandMarchModel", "lastSeen", "(I)I"⟩, 46), (⟨"SandMarchModel", "doesCount", "(II)Z"⟩, 46), (⟨"SandMarchModel", "isSoAfter", "(II)Z"⟩, 46), (⟨"SandMarchModel", "leftBy", "(I)I"⟩, 46), (⟨"SandMarchModel", "roundTries", "()I"⟩, 46)]
theorem lw_r8 : ∀ q ∈ lw_privs_8, lw_okq q := List.forall_mem_cons.mpr ⟨lw_p112, List.forall_mem_cons.mpr ⟨lw_p113, List.forall_mem_cons.mpr ⟨lw_p114, List.forall_mem_cons.mpr ⟨lw_p115, List.forall_mem_cons.mpr ⟨lw_p116, List.forall_mem_cons.mpr ⟨lw_p117, List.forall_mem_cons.mpr ⟨lw_p118, List.forall_mem_cons.mpr ⟨lw_p119, List.forall_mem_cons.mpr ⟨lw_p120, List.forall_mem_cons.mpr ⟨lw_p121, List.forall_mem_cons.mpr ⟨lw_p122, List.forall_mem_cons.mpr ⟨lw_p123, List.forall_mem_cons.mpr ⟨lw_p124, fun _ h => absurd h List.not_mem_nil⟩⟩⟩⟩⟩⟩⟩⟩⟩⟩⟩⟩⟩
def lw_privs : List (MethodName × Nat) := lw_privs_1 ++ (lw_privs_2 ++ (lw_privs_3 ++ (lw_privs_4 ++ (lw_privs_5 ++ (lw_privs_6 ++ (lw_privs_7 ++ (lw_privs_8)))))))
def lw_tbl : List Cond := k2_sels lw_privs ++ tables_1
theorem lw_privs_ok : ∀ q ∈ lw_privs, lw_okq q := by
  show ∀ q ∈ lw_privs_1 ++ (lw_privs_2 ++ (lw_privs_3 ++ (lw_privs_4 ++ (lw_privs_5 ++ (lw_privs_6 ++ (lw_privs_7 ++ (lw_privs_8))))))), lw_okq q
  exact List.forall_mem_append.mpr ⟨lw_r1, List.forall_mem_append.mpr ⟨lw_r2, List.forall_mem_append.mpr ⟨lw_r3, List.forall_mem_append.mpr ⟨lw_r4, List.forall_mem_append.mpr ⟨lw_r5, List.forall_mem_append.mpr ⟨lw_r6, List.forall_mem_append.mpr ⟨lw_r7, lw_r8⟩⟩⟩⟩⟩⟩⟩
end
section
def RX0 : String := "SandMarch$Draft"
def TX0 : u_T := fun k => match k with
  | 0 => ("SandMarch$Draft", "columns", "I", false)
  | 1 => ("SandMarch$Draft", "rows", "I", false)
  | 2 => ("SandMarch$Draft", "base", "I", false)
  | 3 => ("SandMarch$Draft", "slope", "I", false)
  | 4 => ("SandMarch$Draft", "seed", "I", false)
  | 5 => ("SandMarch$Draft", "heaps", "I", false)
  | 6 => ("SandMarch$Draft", "winds", "I", false)
  | 7 => ("SandMarch$Draft", "linesTold", "I", false)
  | 8 => ("SandMarch$Draft", "rules", "[I", true)
  | 9 => ("SandMarch$Draft", "added", "[I", true)
  | 10 => ("SandMarch$Draft", "grass", "[I", true)
  | 11 => ("SandMarch$Draft", "ways", "[I", true)
  | _ => ("SandMarch$Draft", "spans", "[I", true)
def tyX0 : Nat → FieldType := fun k => match k with
  | 0 => .int
  | 1 => .int
  | 2 => .int
  | 3 => .int
  | 4 => .int
  | 5 => .int
  | 6 => .int
  | 7 => .int
  | 8 => .array .int
  | 9 => .array .int
  | 10 => .array .int
  | 11 => .array .int
  | _ => .array .int
theorem nmX0 : ∀ a, a < 13 → ∀ b, b < 13 → a ≠ b → (TX0 a).2.1 ≠ (TX0 b).2.1 := by decide +kernel
theorem tyX0_ok : ∀ k, k < 13 → parseFieldDescriptor (TX0 k).2.2.1 = some (tyX0 k) := by decide +kernel
abbrev cX0_init : ByteArray := prog_2_method_1_code
def yX0_init : MethodName := ⟨RX0, "<init>", "()V"⟩
abbrev cX0_clear : ByteArray := prog_2_method_2_code
def yX0_clear : MethodName := ⟨RX0, "clear", "()V"⟩
abbrev cX0_isTold : ByteArray := prog_2_method_3_code
def yX0_isTold : MethodName := ⟨RX0, "isTold", "(I)Z"⟩
abbrev cX0_setTold : ByteArray := prog_2_method_4_code
def yX0_setTold : MethodName := ⟨RX0, "setTold", "(I)V"⟩
def RX1 : String := "SandMarch$History"
def TX1 : u_T := fun k => match k with
  | 0 => ("SandMarch$History", "states", "[LSandMarch$Sand;", true)
  | 1 => ("SandMarch$History", "done", "I", false)
  | _ => ("SandMarch$History", "undone", "I", false)
def tyX1 : Nat → FieldType := fun k => match k with
  | 0 => .array (.object "SandMarch$Sand")
  | 1 => .int
  | _ => .int
theorem nmX1 : ∀ a, a < 3 → ∀ b, b < 3 → a ≠ b → (TX1 a).2.1 ≠ (TX1 b).2.1 := by decide +kernel
theorem tyX1_ok : ∀ k, k < 3 → parseFieldDescriptor (TX1 k).2.2.1 = some (tyX1 k) := by decide +kernel
abbrev cX1_init : ByteArray := prog_3_method_1_code
def yX1_init : MethodName := ⟨RX1, "<init>", "()V"⟩
abbrev cX1_forget : ByteArray := prog_3_method_2_code
def yX1_forget : MethodName := ⟨RX1, "forget", "(LSandMarch$Sand;)V"⟩
abbrev cX1_add : ByteArray := prog_3_method_3_code
def yX1_add : MethodName := ⟨RX1, "add", "(LSandMarch$Sand;)V"⟩
abbrev cX1_dropOldest : ByteArray := prog_3_method_4_code
def yX1_dropOldest : MethodName := ⟨RX1, "dropOldest", "()V"⟩
abbrev cX1_goBack : ByteArray := prog_3_method_5_code
def yX1_goBack : MethodName := ⟨RX1, "goBack", "(LSandMarch$Sand;)Z"⟩
abbrev cX1_goOn : ByteArray := prog_3_method_6_code
def yX1_goOn : MethodName := ⟨RX1, "goOn", "(LSandMarch$Sand;)Z"⟩
def RX2 : String := "SandMarch$Land"
def TX2 : u_T := fun k => match k with
  | 0 => ("SandMarch$Land", "columns", "I", false)
  | 1 => ("SandMarch$Land", "rows", "I", false)
  | 2 => ("SandMarch$Land", "cells", "I", false)
  | 3 => ("SandMarch$Land", "slope", "I", false)
  | 4 => ("SandMarch$Land", "winds", "I", false)
  | 5 => ("SandMarch$Land", "round", "I", false)
  | 6 => ("SandMarch$Land", "columnOf", "[I", true)
  | 7 => ("SandMarch$Land", "rowOf", "[I", true)
  | 8 => ("SandMarch$Land", "near", "[I", true)
  | 9 => ("SandMarch$Land", "ways", "[I", true)
  | _ => ("SandMarch$Land", "spans", "[I", true)
def tyX2 : Nat → FieldType := fun k => match k with
  | 0 => .int
  | 1 => .int
  | 2 => .int
  | 3 => .int
  | 4 => .int
  | 5 => .int
  | 6 => .array .int
  | 7 => .array .int
  | 8 => .array .int
  | 9 => .array .int
  | _ => .array .int
theorem nmX2 : ∀ a, a < 11 → ∀ b, b < 11 → a ≠ b → (TX2 a).2.1 ≠ (TX2 b).2.1 := by decide +kernel
theorem tyX2_ok : ∀ k, k < 11 → parseFieldDescriptor (TX2 k).2.2.1 = some (tyX2 k) := by decide +kernel
abbrev cX2_init : ByteArray := prog_4_method_1_code
def yX2_init : MethodName := ⟨RX2, "<init>", "()V"⟩
abbrev cX2_shape : ByteArray := prog_4_method_2_code
def yX2_shape : MethodName := ⟨RX2, "shape", "(LSandMarch$Draft;)V"⟩
abbrev cX2_numberCells : ByteArray := prog_4_method_3_code
def yX2_numberCells : MethodName := ⟨RX2, "numberCells", "()V"⟩
abbrev cX2_joinCells : ByteArray := prog_4_method_4_code
def yX2_joinCells : MethodName := ⟨RX2, "joinCells", "()V"⟩
abbrev cX2_moved : ByteArray := prog_4_method_5_code
def yX2_moved : MethodName := ⟨RX2, "moved", "(III)I"⟩
abbrev cX2_has : ByteArray := prog_4_method_6_code
def yX2_has : MethodName := ⟨RX2, "has", "(I)Z"⟩
abbrev cX2_neighbour : ByteArray := prog_4_method_7_code
def yX2_neighbour : MethodName := ⟨RX2, "neighbour", "(II)I"⟩
abbrev cX2_roundOf : ByteArray := prog_4_method_8_code
def yX2_roundOf : MethodName := ⟨RX2, "roundOf", "(I)I"⟩
abbrev cX2_windAt : ByteArray := prog_4_method_9_code
def yX2_windAt : MethodName := ⟨RX2, "windAt", "(I)I"⟩
def RX3 : String := "SandMarch$Lumps"
def TX3 : u_T := fun k => match k with
  | 0 => ("SandMarch$Lumps", "land", "LSandMarch$Land;", true)
  | 1 => ("SandMarch$Lumps", "in", "[Z", true)
  | 2 => ("SandMarch$Lumps", "reached", "[I", true)
  | 3 => ("SandMarch$Lumps", "reachedCount", "I", false)
  | 4 => ("SandMarch$Lumps", "label", "[I", true)
  | _ => ("SandMarch$Lumps", "count", "I", false)
def tyX3 : Nat → FieldType := fun k => match k with
  | 0 => .object "SandMarch$Land"
  | 1 => .array .boolean
  | 2 => .array .int
  | 3 => .int
  | 4 => .array .int
  | _ => .int
theorem nmX3 : ∀ a, a < 6 → ∀ b, b < 6 → a ≠ b → (TX3 a).2.1 ≠ (TX3 b).2.1 := by decide +kernel
theorem tyX3_ok : ∀ k, k < 6 → parseFieldDescriptor (TX3 k).2.2.1 = some (tyX3 k) := by decide +kernel
abbrev cX3_init : ByteArray := prog_5_method_1_code
def yX3_init : MethodName := ⟨RX3, "<init>", "(LSandMarch$Land;)V"⟩
abbrev cX3_joinLevel : ByteArray := prog_5_method_2_code
def yX3_joinLevel : MethodName := ⟨RX3, "joinLevel", "([II)V"⟩
abbrev cX3_joinCrests : ByteArray := prog_5_method_3_code
def yX3_joinCrests : MethodName := ⟨RX3, "joinCrests", "(LSandMarch$Storm;I)V"⟩
abbrev cX3_join : ByteArray := prog_5_method_4_code
def yX3_join : MethodName := ⟨RX3, "join", "(Z)V"⟩
abbrev cX3_spread : ByteArray := prog_5_method_5_code
def yX3_spread : MethodName := ⟨RX3, "spread", "(IZ)V"⟩
abbrev cX3_reach : ByteArray := prog_5_method_6_code
def yX3_reach : MethodName := ⟨RX3, "reach", "(I)V"⟩
abbrev cX3_firstCell : ByteArray := prog_5_method_7_code
def yX3_firstCell : MethodName := ⟨RX3, "firstCell", "(I)I"⟩
abbrev cX3_size : ByteArray := prog_5_method_8_code
def yX3_size : MethodName := ⟨RX3, "size", "(I)I"⟩
def RX4 : String := "SandMarch$Reader"
def TX4 : u_T := fun k => match k with
  | 0 => ("SandMarch$Reader", "tape", "LSandMarch$Tape;", true)
  | 1 => ("SandMarch$Reader", "draft", "LSandMarch$Draft;", true)
  | 2 => ("SandMarch$Reader", "wrong", "I", false)
  | 3 => ("SandMarch$Reader", "wrongPlace", "I", false)
  | _ => ("SandMarch$Reader", "token", "I", false)
def tyX4 : Nat → FieldType := fun k => match k with
  | 0 => .object "SandMarch$Tape"
  | 1 => .object "SandMarch$Draft"
  | 2 => .int
  | 3 => .int
  | _ => .int
theorem nmX4 : ∀ a, a < 5 → ∀ b, b < 5 → a ≠ b → (TX4 a).2.1 ≠ (TX4 b).2.1 := by decide +kernel
theorem tyX4_ok : ∀ k, k < 5 → parseFieldDescriptor (TX4 k).2.2.1 = some (tyX4 k) := by decide +kernel
abbrev cX4_init : ByteArray := prog_6_method_1_code
def yX4_init : MethodName := ⟨RX4, "<init>", "(LSandMarch$Tape;)V"⟩
abbrev cX4_read : ByteArray := prog_6_method_2_code
def yX4_read : MethodName := ⟨RX4, "read", "()Z"⟩
abbrev cX4_kind : ByteArray := prog_6_method_3_code
def yX4_kind : MethodName := ⟨RX4, "kind", "()I"⟩
abbrev cX4_value : ByteArray := prog_6_method_4_code
def yX4_value : MethodName := ⟨RX4, "value", "()I"⟩
abbrev cX4_advance : ByteArray := prog_6_method_5_code
def yX4_advance : MethodName := ⟨RX4, "advance", "()V"⟩
abbrev cX4_refuse : ByteArray := prog_6_method_6_code
def yX4_refuse : MethodName := ⟨RX4, "refuse", "(II)V"⟩
abbrev cX4_refuseToken : ByteArray := prog_6_method_7_code
def yX4_refuseToken : MethodName := ⟨RX4, "refuseToken", "()V"⟩
abbrev cX4_readLineWord : ByteArray := prog_6_method_8_code
def yX4_readLineWord : MethodName := ⟨RX4, "readLineWord", "(I)I"⟩
abbrev cX4_readRest : ByteArray := prog_6_method_9_code
def yX4_readRest : MethodName := ⟨RX4, "readRest", "(I)V"⟩
abbrev cX4_readSize : ByteArray := prog_6_method_10_code
def yX4_readSize : MethodName := ⟨RX4, "readSize", "()V"⟩
abbrev cX4_readHeap : ByteArray := prog_6_method_11_code
def yX4_readHeap : MethodName := ⟨RX4, "readHeap", "()V"⟩
abbrev cX4_readGrass : ByteArray := prog_6_method_12_code
def yX4_readGrass : MethodName := ⟨RX4, "readGrass", "()V"⟩
abbrev cX4_readWind : ByteArray := prog_6_method_13_code
def yX4_readWind : MethodName := ⟨RX4, "readWind", "()V"⟩
abbrev cX4_readRule : ByteArray := prog_6_method_14_code
def yX4_readRule : MethodName := ⟨RX4, "readRule", "(I)V"⟩
abbrev cX4_expect : ByteArray := prog_6_method_15_code
def yX4_expect : MethodName := ⟨RX4, "expect", "(Z)V"⟩
abbrev cX4_readNumber : ByteArray := prog_6_method_16_code
def yX4_readNumber : MethodName := ⟨RX4, "readNumber", "(II)I"⟩
def RX5 : String := "SandMarch$Sand"
def TX5 : u_T := fun k => match k with
  | 0 => ("SandMarch$Sand", "heights", "[I", true)
  | 1 => ("SandMarch$Sand", "grass", "[I", true)
  | 2 => ("SandMarch$Sand", "rules", "[I", true)
  | 3 => ("SandMarch$Sand", "seed", "I", false)
  | _ => ("SandMarch$Sand", "tries", "I", false)
def tyX5 : Nat → FieldType := fun k => match k with
  | 0 => .array .int
  | 1 => .array .int
  | 2 => .array .int
  | 3 => .int
  | _ => .int
theorem nmX5 : ∀ a, a < 5 → ∀ b, b < 5 → a ≠ b → (TX5 a).2.1 ≠ (TX5 b).2.1 := by decide +kernel
theorem tyX5_ok : ∀ k, k < 5 → parseFieldDescriptor (TX5 k).2.2.1 = some (tyX5 k) := by decide +kernel
abbrev cX5_init : ByteArray := prog_7_method_1_code
def yX5_init : MethodName := ⟨RX5, "<init>", "()V"⟩
abbrev cX5_begin : ByteArray := prog_7_method_2_code
def yX5_begin : MethodName := ⟨RX5, "begin", "(LSandMarch$Draft;)V"⟩
abbrev cX5_copy : ByteArray := prog_7_method_3_code
def yX5_copy : MethodName := ⟨RX5, "copy", "(LSandMarch$Sand;)V"⟩
abbrev cX5_slabs : ByteArray := prog_7_method_4_code
def yX5_slabs : MethodName := ⟨RX5, "slabs", "()I"⟩
abbrev cX5_highest : ByteArray := prog_7_method_5_code
def yX5_highest : MethodName := ⟨RX5, "highest", "()I"⟩
abbrev cX5_bareCells : ByteArray := prog_7_method_6_code
def yX5_bareCells : MethodName := ⟨RX5, "bareCells", "(I)I"⟩
abbrev cX5_stickAt : ByteArray := prog_7_method_7_code
def yX5_stickAt : MethodName := ⟨RX5, "stickAt", "(I)I"⟩
abbrev cX5_drawOf : ByteArray := prog_7_method_8_code
def yX5_drawOf : MethodName := ⟨RX5, "drawOf", "(I)I"⟩
def RX6 : String := "SandMarch$Sightings"
def TX6 : u_T := fun k => match k with
  | 0 => ("SandMarch$Sightings", "land", "LSandMarch$Land;", true)
  | 1 => ("SandMarch$Sightings", "told", "LSandMarch$Sand;", true)
  | 2 => ("SandMarch$Sightings", "probe", "LSandMarch$Sand;", true)
  | 3 => ("SandMarch$Sightings", "trial", "LSandMarch$Storm;", true)
  | 4 => ("SandMarch$Sightings", "toldAt", "[I", true)
  | 5 => ("SandMarch$Sightings", "untoldAt", "[I", true)
  | 6 => ("SandMarch$Sightings", "seeds", "[J", true)
  | 7 => ("SandMarch$Sightings", "surveyed", "[I", true)
  | _ => ("SandMarch$Sightings", "count", "I", false)
def tyX6 : Nat → FieldType := fun k => match k with
  | 0 => .object "SandMarch$Land"
  | 1 => .object "SandMarch$Sand"
  | 2 => .object "SandMarch$Sand"
  | 3 => .object "SandMarch$Storm"
  | 4 => .array .int
  | 5 => .array .int
  | 6 => .array .long
  | 7 => .array .int
  | _ => .int
theorem nmX6 : ∀ a, a < 9 → ∀ b, b < 9 → a ≠ b → (TX6 a).2.1 ≠ (TX6 b).2.1 := by decide +kernel
theorem tyX6_ok : ∀ k, k < 9 → parseFieldDescriptor (TX6 k).2.2.1 = some (tyX6 k) := by decide +kernel
abbrev cX6_init : ByteArray := prog_8_method_1_code
def yX6_init : MethodName := ⟨RX6, "<init>", "(LSandMarch$Land;LSandMarch$Sand;LSandMarch$Sand;LSandMarch$Storm;)V"⟩
abbrev cX6_tell : ByteArray := prog_8_method_2_code
def yX6_tell : MethodName := ⟨RX6, "tell", "(JI)I"⟩
abbrev cX6_takeBack : ByteArray := prog_8_method_3_code
def yX6_takeBack : MethodName := ⟨RX6, "takeBack", "(II)Z"⟩
abbrev cX6_seedsFor : ByteArray := prog_8_method_4_code
def yX6_seedsFor : MethodName := ⟨RX6, "seedsFor", "(IIIZ)J"⟩
abbrev cX6_fitting : ByteArray := prog_8_method_5_code
def yX6_fitting : MethodName := ⟨RX6, "fitting", "(I)J"⟩
abbrev cX6_survey : ByteArray := prog_8_method_6_code
def yX6_survey : MethodName := ⟨RX6, "survey", "(IJ)V"⟩
abbrev cX6_mostAlike : ByteArray := prog_8_method_7_code
def yX6_mostAlike : MethodName := ⟨RX6, "mostAlike", "(IJ)I"⟩
abbrev cX6_alike : ByteArray := prog_8_method_8_code
def yX6_alike : MethodName := ⟨RX6, "alike", "(IIJ)I"⟩
abbrev cX6_holds : ByteArray := prog_8_method_9_code
def yX6_holds : MethodName := ⟨RX6, "holds", "(JI)Z"⟩
def RX7 : String := "SandMarch$Storm"
def TX7 : u_T := fun k => match k with
  | 0 => ("SandMarch$Storm", "land", "LSandMarch$Land;", true)
  | 1 => ("SandMarch$Storm", "sand", "LSandMarch$Sand;", true)
  | 2 => ("SandMarch$Storm", "crossings", "[I", true)
  | 3 => ("SandMarch$Storm", "hops", "I", false)
  | _ => ("SandMarch$Storm", "slides", "I", false)
def tyX7 : Nat → FieldType := fun k => match k with
  | 0 => .object "SandMarch$Land"
  | 1 => .object "SandMarch$Sand"
  | 2 => .array .int
  | 3 => .int
  | _ => .int
theorem nmX7 : ∀ a, a < 5 → ∀ b, b < 5 → a ≠ b → (TX7 a).2.1 ≠ (TX7 b).2.1 := by decide +kernel
theorem tyX7_ok : ∀ k, k < 5 → parseFieldDescriptor (TX7 k).2.2.1 = some (tyX7 k) := by decide +kernel
abbrev cX7_init : ByteArray := prog_9_method_1_code
def yX7_init : MethodName := ⟨RX7, "<init>", "(LSandMarch$Land;LSandMarch$Sand;)V"⟩
abbrev cX7_startFrom : ByteArray := prog_9_method_2_code
def yX7_startFrom : MethodName := ⟨RX7, "startFrom", "(LSandMarch$Sand;I)V"⟩
abbrev cX7_blowOn : ByteArray := prog_9_method_3_code
def yX7_blowOn : MethodName := ⟨RX7, "blowOn", "(I)I"⟩
abbrev cX7_tryOnce : ByteArray := prog_9_method_4_code
def yX7_tryOnce : MethodName := ⟨RX7, "tryOnce", "()Z"⟩
abbrev cX7_yields : ByteArray := prog_9_method_5_code
def yX7_yields : MethodName := ⟨RX7, "yields", "(II)Z"⟩
abbrev cX7_carry : ByteArray := prog_9_method_6_code
def yX7_carry : MethodName := ⟨RX7, "carry", "(II)I"⟩
abbrev cX7_hopOn : ByteArray := prog_9_method_7_code
def yX7_hopOn : MethodName := ⟨RX7, "hopOn", "(II)I"⟩
abbrev cX7_shaded : ByteArray := prog_9_method_8_code
def yX7_shaded : MethodName := ⟨RX7, "shaded", "(II)Z"⟩
abbrev cX7_isCrest : ByteArray := prog_9_method_9_code
def yX7_isCrest : MethodName := ⟨RX7, "isCrest", "(II)Z"⟩
abbrev cX7_lift : ByteArray := prog_9_method_10_code
def yX7_lift : MethodName := ⟨RX7, "lift", "(I)V"⟩
abbrev cX7_drop : ByteArray := prog_9_method_11_code
def yX7_drop : MethodName := ⟨RX7, "drop", "(I)V"⟩
abbrev cX7_settle : ByteArray := prog_9_method_12_code
def yX7_settle : MethodName := ⟨RX7, "settle", "()V"⟩
abbrev cX7_firstSteep : ByteArray := prog_9_method_13_code
def yX7_firstSteep : MethodName := ⟨RX7, "firstSteep", "()I"⟩
abbrev cX7_wayUp : ByteArray := prog_9_method_14_code
def yX7_wayUp : MethodName := ⟨RX7, "wayUp", "(I)I"⟩
abbrev cX7_wayDown : ByteArray := prog_9_method_15_code
def yX7_wayDown : MethodName := ⟨RX7, "wayDown", "(I)I"⟩
abbrev cX7_slide : ByteArray := prog_9_method_16_code
def yX7_slide : MethodName := ⟨RX7, "slide", "(II)V"⟩
abbrev cX7_cross : ByteArray := prog_9_method_17_code
def yX7_cross : MethodName := ⟨RX7, "cross", "(III)V"⟩
def RX8 : String := "SandMarch$Tape"
def TX8 : u_T := fun k => match k with
  | 0 => ("SandMarch$Tape", "bytes", "[I", true)
  | 1 => ("SandMarch$Tape", "length", "I", false)
  | 2 => ("SandMarch$Tape", "kinds", "[I", true)
  | 3 => ("SandMarch$Tape", "places", "[I", true)
  | 4 => ("SandMarch$Tape", "values", "[I", true)
  | _ => ("SandMarch$Tape", "at", "I", false)
def tyX8 : Nat → FieldType := fun k => match k with
  | 0 => .array .int
  | 1 => .int
  | 2 => .array .int
  | 3 => .array .int
  | 4 => .array .int
  | _ => .int
theorem nmX8 : ∀ a, a < 6 → ∀ b, b < 6 → a ≠ b → (TX8 a).2.1 ≠ (TX8 b).2.1 := by decide +kernel
theorem tyX8_ok : ∀ k, k < 6 → parseFieldDescriptor (TX8 k).2.2.1 = some (tyX8 k) := by decide +kernel
abbrev cX8_init : ByteArray := prog_10_method_1_code
def yX8_init : MethodName := ⟨RX8, "<init>", "()V"⟩
abbrev cX8_append : ByteArray := prog_10_method_2_code
def yX8_append : MethodName := ⟨RX8, "append", "(I)V"⟩
abbrev cX8_scan : ByteArray := prog_10_method_3_code
def yX8_scan : MethodName := ⟨RX8, "scan", "()V"⟩
abbrev cX8_scanToken : ByteArray := prog_10_method_4_code
def yX8_scanToken : MethodName := ⟨RX8, "scanToken", "(II)V"⟩
abbrev cX8_scanWord : ByteArray := prog_10_method_5_code
def yX8_scanWord : MethodName := ⟨RX8, "scanWord", "(I)V"⟩
abbrev cX8_scanNumber : ByteArray := prog_10_method_6_code
def yX8_scanNumber : MethodName := ⟨RX8, "scanNumber", "(I)V"⟩
abbrev cX8_wordNumber : ByteArray := prog_10_method_7_code
def yX8_wordNumber : MethodName := ⟨RX8, "wordNumber", "(I)I"⟩
abbrev cX8_isBlank : ByteArray := prog_10_method_8_code
def yX8_isBlank : MethodName := ⟨RX8, "isBlank", "(I)Z"⟩
abbrev cX8_isLetter : ByteArray := prog_10_method_9_code
def yX8_isLetter : MethodName := ⟨RX8, "isLetter", "(I)Z"⟩
abbrev cX8_isDigit : ByteArray := prog_10_method_10_code
def yX8_isDigit : MethodName := ⟨RX8, "isDigit", "(I)Z"⟩
def RX9 : String := "SandMarch"
def TX9 : u_T := fun k => match k with
  | 0 => ("SandMarch", "tape", "LSandMarch$Tape;", true)
  | 1 => ("SandMarch", "reader", "LSandMarch$Reader;", true)
  | 2 => ("SandMarch", "land", "LSandMarch$Land;", true)
  | 3 => ("SandMarch", "told", "LSandMarch$Sand;", true)
  | 4 => ("SandMarch", "now", "LSandMarch$Sand;", true)
  | 5 => ("SandMarch", "probe", "LSandMarch$Sand;", true)
  | 6 => ("SandMarch", "weather", "LSandMarch$Storm;", true)
  | 7 => ("SandMarch", "trial", "LSandMarch$Storm;", true)
  | 8 => ("SandMarch", "history", "LSandMarch$History;", true)
  | 9 => ("SandMarch", "sightings", "LSandMarch$Sightings;", true)
  | 10 => ("SandMarch", "lumps", "LSandMarch$Lumps;", true)
  | 11 => ("SandMarch", "lumpsThen", "LSandMarch$Lumps;", true)
  | 12 => ("SandMarch", "boxes", "[LSandMarch$Sand;", true)
  | 13 => ("SandMarch", "kept", "[Z", true)
  | 14 => ("SandMarch", "tally", "[I", true)
  | _ => ("SandMarch", "time", "I", false)
def tyX9 : Nat → FieldType := fun k => match k with
  | 0 => .object "SandMarch$Tape"
  | 1 => .object "SandMarch$Reader"
  | 2 => .object "SandMarch$Land"
  | 3 => .object "SandMarch$Sand"
  | 4 => .object "SandMarch$Sand"
  | 5 => .object "SandMarch$Sand"
  | 6 => .object "SandMarch$Storm"
  | 7 => .object "SandMarch$Storm"
  | 8 => .object "SandMarch$History"
  | 9 => .object "SandMarch$Sightings"
  | 10 => .object "SandMarch$Lumps"
  | 11 => .object "SandMarch$Lumps"
  | 12 => .array (.object "SandMarch$Sand")
  | 13 => .array .boolean
  | 14 => .array .int
  | _ => .int
theorem nmX9 : ∀ a, a < 16 → ∀ b, b < 16 → a ≠ b → (TX9 a).2.1 ≠ (TX9 b).2.1 := by decide +kernel
theorem tyX9_ok : ∀ k, k < 16 → parseFieldDescriptor (TX9 k).2.2.1 = some (tyX9 k) := by decide +kernel
abbrev cX9_init : ByteArray := prog_1_method_1_code
def yX9_init : MethodName := ⟨RX9, "<init>", "()V"⟩
abbrev cX9_feed : ByteArray := prog_1_method_2_code
def yX9_feed : MethodName := ⟨RX9, "feed", "(IIIII)I"⟩
abbrev cX9_end : ByteArray := prog_1_method_3_code
def yX9_end : MethodName := ⟨RX9, "end", "(I)I"⟩
abbrev cX9_field : ByteArray := prog_1_method_4_code
def yX9_field : MethodName := ⟨RX9, "field", "()I"⟩
abbrev cX9_fault : ByteArray := prog_1_method_5_code
def yX9_fault : MethodName := ⟨RX9, "fault", "(I)I"⟩
abbrev cX9_adopt : ByteArray := prog_1_method_6_code
def yX9_adopt : MethodName := ⟨RX9, "adopt", "(LSandMarch$Draft;)V"⟩
abbrev cX9_cell : ByteArray := prog_1_method_7_code
def yX9_cell : MethodName := ⟨RX9, "cell", "(II)I"⟩
abbrev cX9_beside : ByteArray := prog_1_method_8_code
def yX9_beside : MethodName := ⟨RX9, "beside", "(II)I"⟩
abbrev cX9_wind : ByteArray := prog_1_method_9_code
def yX9_wind : MethodName := ⟨RX9, "wind", "(I)I"⟩
abbrev cX9_windNow : ByteArray := prog_1_method_10_code
def yX9_windNow : MethodName := ⟨RX9, "windNow", "()I"⟩
abbrev cX9_steepness : ByteArray := prog_1_method_11_code
def yX9_steepness : MethodName := ⟨RX9, "steepness", "(I)I"⟩
abbrev cX9_blow : ByteArray := prog_1_method_12_code
def yX9_blow : MethodName := ⟨RX9, "blow", "(I)I"⟩
abbrev cX9_put : ByteArray := prog_1_method_13_code
def yX9_put : MethodName := ⟨RX9, "put", "(II)I"⟩
abbrev cX9_take : ByteArray := prog_1_method_14_code
def yX9_take : MethodName := ⟨RX9, "take", "(I)I"⟩
abbrev cX9_sow : ByteArray := prog_1_method_15_code
def yX9_sow : MethodName := ⟨RX9, "sow", "(IZ)I"⟩
abbrev cX9_turn : ByteArray := prog_1_method_16_code
def yX9_turn : MethodName := ⟨RX9, "turn", "(II)I"⟩
abbrev cX9_undo : ByteArray := prog_1_method_17_code
def yX9_undo : MethodName := ⟨RX9, "undo", "()Z"⟩
abbrev cX9_redo : ByteArray := prog_1_method_18_code
def yX9_redo : MethodName := ⟨RX9, "redo", "()Z"⟩
abbrev cX9_grassy : ByteArray := prog_1_method_19_code
def yX9_grassy : MethodName := ⟨RX9, "grassy", "()I"⟩
abbrev cX9_all : ByteArray := prog_1_method_20_code
def yX9_all : MethodName := ⟨RX9, "all", "(I)I"⟩
abbrev cX9_shadedCells : ByteArray := prog_1_method_21_code
def yX9_shadedCells : MethodName := ⟨RX9, "shadedCells", "()I"⟩
abbrev cX9_greatestDifference : ByteArray := prog_1_method_22_code
def yX9_greatestDifference : MethodName := ⟨RX9, "greatestDifference", "()I"⟩
abbrev cX9_allDifferences : ByteArray := prog_1_method_23_code
def yX9_allDifferences : MethodName := ⟨RX9, "allDifferences", "()I"⟩
abbrev cX9_yieldingCells : ByteArray := prog_1_method_24_code
def yX9_yieldingCells : MethodName := ⟨RX9, "yieldingCells", "()I"⟩
abbrev cX9_skyline : ByteArray := prog_1_method_25_code
def yX9_skyline : MethodName := ⟨RX9, "skyline", "(II)I"⟩
abbrev cX9_lands : ByteArray := prog_1_method_26_code
def yX9_lands : MethodName := ⟨RX9, "lands", "(IIII)J"⟩
abbrev cX9_lowestTerms : ByteArray := prog_1_method_27_code
def yX9_lowestTerms : MethodName := ⟨RX9, "lowestTerms", "(JJI)J"⟩
abbrev cX9_dunes : ByteArray := prog_1_method_28_code
def yX9_dunes : MethodName := ⟨RX9, "dunes", "(I)I"⟩
abbrev cX9_dune : ByteArray := prog_1_method_29_code
def yX9_dune : MethodName := ⟨RX9, "dune", "(III)I"⟩
abbrev cX9_duneOf : ByteArray := prog_1_method_30_code
def yX9_duneOf : MethodName := ⟨RX9, "duneOf", "(II)I"⟩
abbrev cX9_slabsOf : ByteArray := prog_1_method_31_code
def yX9_slabsOf : MethodName := ⟨RX9, "slabsOf", "(I)I"⟩
abbrev cX9_peakOf : ByteArray := prog_1_method_32_code
def yX9_peakOf : MethodName := ⟨RX9, "peakOf", "(I)I"⟩
abbrev cX9_linesOf : ByteArray := prog_1_method_33_code
def yX9_linesOf : MethodName := ⟨RX9, "linesOf", "(I[I)I"⟩
abbrev cX9_parts : ByteArray := prog_1_method_34_code
def yX9_parts : MethodName := ⟨RX9, "parts", "(I)I"⟩
abbrev cX9_leastFrom : ByteArray := prog_1_method_35_code
def yX9_leastFrom : MethodName := ⟨RX9, "leastFrom", "(I)I"⟩
abbrev cX9_saddle : ByteArray := prog_1_method_36_code
def yX9_saddle : MethodName := ⟨RX9, "saddle", "(II)I"⟩
abbrev cX9_greatestBelow : ByteArray := prog_1_method_37_code
def yX9_greatestBelow : MethodName := ⟨RX9, "greatestBelow", "(I)I"⟩
abbrev cX9_crests : ByteArray := prog_1_method_38_code
def yX9_crests : MethodName := ⟨RX9, "crests", "(I)I"⟩
abbrev cX9_follows : ByteArray := prog_1_method_39_code
def yX9_follows : MethodName := ⟨RX9, "follows", "(III)I"⟩
abbrev cX9_fates : ByteArray := prog_1_method_40_code
def yX9_fates : MethodName := ⟨RX9, "fates", "(III)I"⟩
abbrev cX9_isKept : ByteArray := prog_1_method_41_code
def yX9_isKept : MethodName := ⟨RX9, "isKept", "(I)Z"⟩
abbrev cX9_joinBoth : ByteArray := prog_1_method_42_code
def yX9_joinBoth : MethodName := ⟨RX9, "joinBoth", "(II)V"⟩
abbrev cX9_meetingMany : ByteArray := prog_1_method_43_code
def yX9_meetingMany : MethodName := ⟨RX9, "meetingMany", "(LSandMarch$Lumps;LSandMarch$Lumps;)I"⟩
abbrev cX9_meetingNone : ByteArray := prog_1_method_44_code
def yX9_meetingNone : MethodName := ⟨RX9, "meetingNone", "(LSandMarch$Lumps;LSandMarch$Lumps;)I"⟩
abbrev cX9_shift : ByteArray := prog_1_method_45_code
def yX9_shift : MethodName := ⟨RX9, "shift", "(II)I"⟩
abbrev cX9_overlap : ByteArray := prog_1_method_46_code
def yX9_overlap : MethodName := ⟨RX9, "overlap", "([III)I"⟩
abbrev cX9_would : ByteArray := prog_1_method_47_code
def yX9_would : MethodName := ⟨RX9, "would", "(II)I"⟩
abbrev cX9_next : ByteArray := prog_1_method_48_code
def yX9_next : MethodName := ⟨RX9, "next", "(II)I"⟩
abbrev cX9_flux : ByteArray := prog_1_method_49_code
def yX9_flux : MethodName := ⟨RX9, "flux", "(II)I"⟩
abbrev cX9_game : ByteArray := prog_1_method_50_code
def yX9_game : MethodName := ⟨RX9, "game", "(III)I"⟩
abbrev cX9_tallest : ByteArray := prog_1_method_51_code
def yX9_tallest : MethodName := ⟨RX9, "tallest", "(II)I"⟩
abbrev cX9_runTrial : ByteArray := prog_1_method_52_code
def yX9_runTrial : MethodName := ⟨RX9, "runTrial", "(II)I"⟩
abbrev cX9_seen : ByteArray := prog_1_method_53_code
def yX9_seen : MethodName := ⟨RX9, "seen", "(IIIZ)I"⟩
abbrev cX9_untell : ByteArray := prog_1_method_54_code
def yX9_untell : MethodName := ⟨RX9, "untell", "(I)Z"⟩
abbrev cX9_later : ByteArray := prog_1_method_55_code
def yX9_later : MethodName := ⟨RX9, "later", "(I)I"⟩
abbrev cX9_fits : ByteArray := prog_1_method_56_code
def yX9_fits : MethodName := ⟨RX9, "fits", "(I)I"⟩
abbrev cX9_fit : ByteArray := prog_1_method_57_code
def yX9_fit : MethodName := ⟨RX9, "fit", "(II)I"⟩
abbrev cX9_ask : ByteArray := prog_1_method_58_code
def yX9_ask : MethodName := ⟨RX9, "ask", "(III)I"⟩
abbrev cX9_image : ByteArray := prog_1_method_59_code
def yX9_image : MethodName := ⟨RX9, "image", "(I)I"⟩
abbrev cX9_back : ByteArray := prog_1_method_60_code
def yX9_back : MethodName := ⟨RX9, "back", "(I)I"⟩
abbrev cX9_about : ByteArray := prog_1_method_61_code
def yX9_about : MethodName := ⟨RX9, "about", "(I)I"⟩
def RX10 : String := "SandMarchModel"
def TX10 : u_T := fun k => match k with
  | 0 => ("SandMarchModel", "tape", "[I", true)
  | 1 => ("SandMarchModel", "taped", "I", false)
  | 2 => ("SandMarchModel", "size", "I", false)
  | 3 => ("SandMarchModel", "at", "I", false)
  | 4 => ("SandMarchModel", "place", "I", false)
  | 5 => ("SandMarchModel", "sort", "I", false)
  | 6 => ("SandMarchModel", "value", "I", false)
  | 7 => ("SandMarchModel", "fault", "I", false)
  | 8 => ("SandMarchModel", "faultPlace", "I", false)
  | 9 => ("SandMarchModel", "toldFault", "I", false)
  | 10 => ("SandMarchModel", "toldPlace", "I", false)
  | 11 => ("SandMarchModel", "word", "J", false)
  | 12 => ("SandMarchModel", "told", "[I", true)
  | 13 => ("SandMarchModel", "way", "[I", true)
  | 14 => ("SandMarchModel", "tries", "[I", true)
  | 15 => ("SandMarchModel", "heaped", "[I", true)
  | 16 => ("SandMarchModel", "sown", "[I", true)
  | 17 => ("SandMarchModel", "first", "[I", true)
  | 18 => ("SandMarchModel", "has", "[Z", true)
  | 19 => ("SandMarchModel", "hasOther", "Z", false)
  | 20 => ("SandMarchModel", "heaps", "I", false)
  | 21 => ("SandMarchModel", "now", "[I", true)
  | 22 => ("SandMarchModel", "row", "[I", true)
  | 23 => ("SandMarchModel", "hops", "I", false)
  | 24 => ("SandMarchModel", "slides", "I", false)
  | 25 => ("SandMarchModel", "crossed", "I", false)
  | 26 => ("SandMarchModel", "line", "I", false)
  | 27 => ("SandMarchModel", "past", "[I", true)
  | 28 => ("SandMarchModel", "acts", "I", false)
  | 29 => ("SandMarchModel", "undone", "I", false)
  | 30 => ("SandMarchModel", "of", "[I", true)
  | 31 => ("SandMarchModel", "beforeOf", "[I", true)
  | 32 => ("SandMarchModel", "pile", "[I", true)
  | 33 => ("SandMarchModel", "piles", "I", false)
  | 34 => ("SandMarchModel", "boxes", "[I", true)
  | 35 => ("SandMarchModel", "isThere", "[Z", true)
  | 36 => ("SandMarchModel", "seenAfter", "[I", true)
  | 37 => ("SandMarchModel", "seenCell", "[I", true)
  | 38 => ("SandMarchModel", "seenHigh", "[I", true)
  | 39 => ("SandMarchModel", "seenIs", "[I", true)
  | 40 => ("SandMarchModel", "toldAt", "[I", true)
  | 41 => ("SandMarchModel", "untoldAt", "[I", true)
  | 42 => ("SandMarchModel", "seens", "I", false)
  | 43 => ("SandMarchModel", "time", "I", false)
  | 44 => ("SandMarchModel", "isFit", "[Z", true)
  | _ => ("SandMarchModel", "heightsBy", "[I", true)
def tyX10 : Nat → FieldType := fun k => match k with
  | 0 => .array .int
  | 1 => .int
  | 2 => .int
  | 3 => .int
  | 4 => .int
  | 5 => .int
  | 6 => .int
  | 7 => .int
  | 8 => .int
  | 9 => .int
  | 10 => .int
  | 11 => .long
  | 12 => .array .int
  | 13 => .array .int
  | 14 => .array .int
  | 15 => .array .int
  | 16 => .array .int
  | 17 => .array .int
  | 18 => .array .boolean
  | 19 => .boolean
  | 20 => .int
  | 21 => .array .int
  | 22 => .array .int
  | 23 => .int
  | 24 => .int
  | 25 => .int
  | 26 => .int
  | 27 => .array .int
  | 28 => .int
  | 29 => .int
  | 30 => .array .int
  | 31 => .array .int
  | 32 => .array .int
  | 33 => .int
  | 34 => .array .int
  | 35 => .array .boolean
  | 36 => .array .int
  | 37 => .array .int
  | 38 => .array .int
  | 39 => .array .int
  | 40 => .array .int
  | 41 => .array .int
  | 42 => .int
  | 43 => .int
  | 44 => .array .boolean
  | _ => .array .int
theorem nmX10 : ∀ a, a < 46 → ∀ b, b < 46 → a ≠ b → (TX10 a).2.1 ≠ (TX10 b).2.1 := by decide +kernel
theorem tyX10_ok : ∀ k, k < 46 → parseFieldDescriptor (TX10 k).2.2.1 = some (tyX10 k) := by decide +kernel
abbrev cX10_init : ByteArray := prog_12_method_1_code
def yX10_init : MethodName := ⟨RX10, "<init>", "()V"⟩
abbrev cX10_isIn : ByteArray := prog_12_method_2_code
def yX10_isIn : MethodName := ⟨RX10, "isIn", "(III)Z"⟩
abbrev cX10_greater : ByteArray := prog_12_method_3_code
def yX10_greater : MethodName := ⟨RX10, "greater", "(II)I"⟩
abbrev cX10_lesser : ByteArray := prog_12_method_4_code
def yX10_lesser : MethodName := ⟨RX10, "lesser", "(II)I"⟩
abbrev cX10_truth : ByteArray := prog_12_method_5_code
def yX10_truth : MethodName := ⟨RX10, "truth", "(Z)I"⟩
abbrev cX10_off : ByteArray := prog_12_method_6_code
def yX10_off : MethodName := ⟨RX10, "off", "(II)I"⟩
abbrev cX10_feed : ByteArray := prog_12_method_7_code
def yX10_feed : MethodName := ⟨RX10, "feed", "(IIIII)I"⟩
abbrev cX10_four : ByteArray := prog_12_method_8_code
def yX10_four : MethodName := ⟨RX10, "four", "(I)V"⟩
abbrev cX10_end : ByteArray := prog_12_method_9_code
def yX10_end : MethodName := ⟨RX10, "end", "(I)I"⟩
abbrev cX10_here : ByteArray := prog_12_method_10_code
def yX10_here : MethodName := ⟨RX10, "here", "(I)I"⟩
abbrev cX10_isLetter : ByteArray := prog_12_method_11_code
def yX10_isLetter : MethodName := ⟨RX10, "isLetter", "(I)Z"⟩
abbrev cX10_isDigit : ByteArray := prog_12_method_12_code
def yX10_isDigit : MethodName := ⟨RX10, "isDigit", "(I)Z"⟩
abbrev cX10_goOn : ByteArray := prog_12_method_13_code
def yX10_goOn : MethodName := ⟨RX10, "goOn", "()V"⟩
abbrev cX10_wrong : ByteArray := prog_12_method_14_code
def yX10_wrong : MethodName := ⟨RX10, "wrong", "(I)V"⟩
abbrev cX10_isGood : ByteArray := prog_12_method_15_code
def yX10_isGood : MethodName := ⟨RX10, "isGood", "()Z"⟩
abbrev cX10_isWord : ByteArray := prog_12_method_16_code
def yX10_isWord : MethodName := ⟨RX10, "isWord", "(J)Z"⟩
abbrev cX10_numberHere : ByteArray := prog_12_method_17_code
def yX10_numberHere : MethodName := ⟨RX10, "numberHere", "(II)I"⟩
abbrev cX10_number : ByteArray := prog_12_method_18_code
def yX10_number : MethodName := ⟨RX10, "number", "(II)I"⟩
abbrev cX10_begins : ByteArray := prog_12_method_19_code
def yX10_begins : MethodName := ⟨RX10, "begins", "()V"⟩
abbrev cX10_once : ByteArray := prog_12_method_20_code
def yX10_once : MethodName := ⟨RX10, "once", "(I)Z"⟩
abbrev cX10_sizeLine : ByteArray := prog_12_method_21_code
def yX10_sizeLine : MethodName := ⟨RX10, "sizeLine", "()V"⟩
abbrev cX10_simple : ByteArray := prog_12_method_22_code
def yX10_simple : MethodName := ⟨RX10, "simple", "(IIII)V"⟩
abbrev cX10_heapLine : ByteArray := prog_12_method_23_code
def yX10_heapLine : MethodName := ⟨RX10, "heapLine", "()V"⟩
abbrev cX10_grassLine : ByteArray := prog_12_method_24_code
def yX10_grassLine : MethodName := ⟨RX10, "grassLine", "()V"⟩
abbrev cX10_wayHere : ByteArray := prog_12_method_25_code
def yX10_wayHere : MethodName := ⟨RX10, "wayHere", "()I"⟩
abbrev cX10_windLine : ByteArray := prog_12_method_26_code
def yX10_windLine : MethodName := ⟨RX10, "windLine", "()V"⟩
abbrev cX10_stickLine : ByteArray := prog_12_method_27_code
def yX10_stickLine : MethodName := ⟨RX10, "stickLine", "()V"⟩
abbrev cX10_otherLine : ByteArray := prog_12_method_28_code
def yX10_otherLine : MethodName := ⟨RX10, "otherLine", "()V"⟩
abbrev cX10_takesHalf : ByteArray := prog_12_method_29_code
def yX10_takesHalf : MethodName := ⟨RX10, "takesHalf", "([I)V"⟩
abbrev cX10_takesOver : ByteArray := prog_12_method_30_code
def yX10_takesOver : MethodName := ⟨RX10, "takesOver", "()V"⟩
abbrev cX10_asTold : ByteArray := prog_12_method_31_code
def yX10_asTold : MethodName := ⟨RX10, "asTold", "(I)V"⟩
abbrev cX10_field : ByteArray := prog_12_method_32_code
def yX10_field : MethodName := ⟨RX10, "field", "()I"⟩
abbrev cX10_fault : ByteArray := prog_12_method_33_code
def yX10_fault : MethodName := ⟨RX10, "fault", "(I)I"⟩
abbrev cX10_columns : ByteArray := prog_12_method_34_code
def yX10_columns : MethodName := ⟨RX10, "columns", "()I"⟩
abbrev cX10_rows : ByteArray := prog_12_method_35_code
def yX10_rows : MethodName := ⟨RX10, "rows", "()I"⟩
abbrev cX10_cells : ByteArray := prog_12_method_36_code
def yX10_cells : MethodName := ⟨RX10, "cells", "()I"⟩
abbrev cX10_isCell : ByteArray := prog_12_method_37_code
def yX10_isCell : MethodName := ⟨RX10, "isCell", "(I)Z"⟩
abbrev cX10_goesOn : ByteArray := prog_12_method_38_code
def yX10_goesOn : MethodName := ⟨RX10, "goesOn", "()V"⟩
abbrev cX10_keepsRow : ByteArray := prog_12_method_39_code
def yX10_keepsRow : MethodName := ⟨RX10, "keepsRow", "()V"⟩
abbrev cX10_along : ByteArray := prog_12_method_40_code
def yX10_along : MethodName := ⟨RX10, "along", "(III)I"⟩
abbrev cX10_roundOf : ByteArray := prog_12_method_41_code
def yX10_roundOf : MethodName := ⟨RX10, "roundOf", "(I)I"⟩
abbrev cX10_against : ByteArray := prog_12_method_42_code
def yX10_against : MethodName := ⟨RX10, "against", "(I)I"⟩
abbrev cX10_windOf : ByteArray := prog_12_method_43_code
def yX10_windOf : MethodName := ⟨RX10, "windOf", "(I)I"⟩
abbrev cX10_windNow : ByteArray := prog_12_method_44_code
def yX10_windNow : MethodName := ⟨RX10, "windNow", "()I"⟩
abbrev cX10_isShadow : ByteArray := prog_12_method_45_code
def yX10_isShadow : MethodName := ⟨RX10, "isShadow", "(I)Z"⟩
abbrev cX10_gives : ByteArray := prog_12_method_46_code
def yX10_gives : MethodName := ⟨RX10, "gives", "(I)Z"⟩
abbrev cX10_wayTo : ByteArray := prog_12_method_47_code
def yX10_wayTo : MethodName := ⟨RX10, "wayTo", "(IZ)I"⟩
abbrev cX10_slides : ByteArray := prog_12_method_48_code
def yX10_slides : MethodName := ⟨RX10, "slides", "(II)V"⟩
abbrev cX10_crosses : ByteArray := prog_12_method_49_code
def yX10_crosses : MethodName := ⟨RX10, "crosses", "(III)V"⟩
abbrev cX10_fills : ByteArray := prog_12_method_50_code
def yX10_fills : MethodName := ⟨RX10, "fills", "(I)V"⟩
abbrev cX10_spills : ByteArray := prog_12_method_51_code
def yX10_spills : MethodName := ⟨RX10, "spills", "(I)V"⟩
abbrev cX10_settles : ByteArray := prog_12_method_52_code
def yX10_settles : MethodName := ⟨RX10, "settles", "()V"⟩
abbrev cX10_draw : ByteArray := prog_12_method_53_code
def yX10_draw : MethodName := ⟨RX10, "draw", "(I)I"⟩
abbrev cX10_flies : ByteArray := prog_12_method_54_code
def yX10_flies : MethodName := ⟨RX10, "flies", "(I)I"⟩
abbrev cX10_tries : ByteArray := prog_12_method_55_code
def yX10_tries : MethodName := ⟨RX10, "tries", "()Z"⟩
abbrev cX10_blows : ByteArray := prog_12_method_56_code
def yX10_blows : MethodName := ⟨RX10, "blows", "(I)I"⟩
abbrev cX10_act : ByteArray := prog_12_method_57_code
def yX10_act : MethodName := ⟨RX10, "act", "()V"⟩
abbrev cX10_exchanges : ByteArray := prog_12_method_58_code
def yX10_exchanges : MethodName := ⟨RX10, "exchanges", "(I)V"⟩
abbrev cX10_undo : ByteArray := prog_12_method_59_code
def yX10_undo : MethodName := ⟨RX10, "undo", "()Z"⟩
abbrev cX10_redo : ByteArray := prog_12_method_60_code
def yX10_redo : MethodName := ⟨RX10, "redo", "()Z"⟩
abbrev cX10_blow : ByteArray := prog_12_method_61_code
def yX10_blow : MethodName := ⟨RX10, "blow", "(I)I"⟩
abbrev cX10_put : ByteArray := prog_12_method_62_code
def yX10_put : MethodName := ⟨RX10, "put", "(II)I"⟩
abbrev cX10_take : ByteArray := prog_12_method_63_code
def yX10_take : MethodName := ⟨RX10, "take", "(I)I"⟩
abbrev cX10_sownMany : ByteArray := prog_12_method_64_code
def yX10_sownMany : MethodName := ⟨RX10, "sownMany", "()I"⟩
abbrev cX10_sow : ByteArray := prog_12_method_65_code
def yX10_sow : MethodName := ⟨RX10, "sow", "(IZ)I"⟩
abbrev cX10_isRule : ByteArray := prog_12_method_66_code
def yX10_isRule : MethodName := ⟨RX10, "isRule", "(II)Z"⟩
abbrev cX10_turn : ByteArray := prog_12_method_67_code
def yX10_turn : MethodName := ⟨RX10, "turn", "(II)I"⟩
abbrev cX10_lowestBeside : ByteArray := prog_12_method_68_code
def yX10_lowestBeside : MethodName := ⟨RX10, "lowestBeside", "(I)I"⟩
abbrev cX10_isCrest : ByteArray := prog_12_method_69_code
def yX10_isCrest : MethodName := ⟨RX10, "isCrest", "(I)Z"⟩
abbrev cX10_cell : ByteArray := prog_12_method_70_code
def yX10_cell : MethodName := ⟨RX10, "cell", "(II)I"⟩
abbrev cX10_beside : ByteArray := prog_12_method_71_code
def yX10_beside : MethodName := ⟨RX10, "beside", "(II)I"⟩
abbrev cX10_wind : ByteArray := prog_12_method_72_code
def yX10_wind : MethodName := ⟨RX10, "wind", "(I)I"⟩
abbrev cX10_slabs : ByteArray := prog_12_method_73_code
def yX10_slabs : MethodName := ⟨RX10, "slabs", "()I"⟩
abbrev cX10_highest : ByteArray := prog_12_method_74_code
def yX10_highest : MethodName := ⟨RX10, "highest", "()I"⟩
abbrev cX10_bare : ByteArray := prog_12_method_75_code
def yX10_bare : MethodName := ⟨RX10, "bare", "()I"⟩
abbrev cX10_steepest : ByteArray := prog_12_method_76_code
def yX10_steepest : MethodName := ⟨RX10, "steepest", "()I"⟩
abbrev cX10_rough : ByteArray := prog_12_method_77_code
def yX10_rough : MethodName := ⟨RX10, "rough", "()I"⟩
abbrev cX10_shadows : ByteArray := prog_12_method_78_code
def yX10_shadows : MethodName := ⟨RX10, "shadows", "()I"⟩
abbrev cX10_givers : ByteArray := prog_12_method_79_code
def yX10_givers : MethodName := ⟨RX10, "givers", "()I"⟩
abbrev cX10_all : ByteArray := prog_12_method_80_code
def yX10_all : MethodName := ⟨RX10, "all", "(I)I"⟩
abbrev cX10_skyline : ByteArray := prog_12_method_81_code
def yX10_skyline : MethodName := ⟨RX10, "skyline", "(II)I"⟩
abbrev cX10_common : ByteArray := prog_12_method_82_code
def yX10_common : MethodName := ⟨RX10, "common", "(JJ)J"⟩
abbrev cX10_lands : ByteArray := prog_12_method_83_code
def yX10_lands : MethodName := ⟨RX10, "lands", "(IIII)J"⟩
abbrev cX10_piles : ByteArray := prog_12_method_84_code
def yX10_piles : MethodName := ⟨RX10, "piles", "(II[I)V"⟩
abbrev cX10_laysDunes : ByteArray := prog_12_method_85_code
def yX10_laysDunes : MethodName := ⟨RX10, "laysDunes", "([III[I)I"⟩
abbrev cX10_dunesNow : ByteArray := prog_12_method_86_code
def yX10_dunesNow : MethodName := ⟨RX10, "dunesNow", "(I)I"⟩
abbrev cX10_dunes : ByteArray := prog_12_method_87_code
def yX10_dunes : MethodName := ⟨RX10, "dunes", "(I)I"⟩
abbrev cX10_hasIn : ByteArray := prog_12_method_88_code
def yX10_hasIn : MethodName := ⟨RX10, "hasIn", "(IIZ)Z"⟩
abbrev cX10_spanOf : ByteArray := prog_12_method_89_code
def yX10_spanOf : MethodName := ⟨RX10, "spanOf", "(IZ)I"⟩
abbrev cX10_dune : ByteArray := prog_12_method_90_code
def yX10_dune : MethodName := ⟨RX10, "dune", "(III)I"⟩
abbrev cX10_duneOf : ByteArray := prog_12_method_91_code
def yX10_duneOf : MethodName := ⟨RX10, "duneOf", "(II)I"⟩
abbrev cX10_parts : ByteArray := prog_12_method_92_code
def yX10_parts : MethodName := ⟨RX10, "parts", "(I)I"⟩
abbrev cX10_areOne : ByteArray := prog_12_method_93_code
def yX10_areOne : MethodName := ⟨RX10, "areOne", "(III)Z"⟩
abbrev cX10_saddle : ByteArray := prog_12_method_94_code
def yX10_saddle : MethodName := ⟨RX10, "saddle", "(II)I"⟩
abbrev cX10_sidled : ByteArray := prog_12_method_95_code
def yX10_sidled : MethodName := ⟨RX10, "sidled", "(III)I"⟩
abbrev cX10_laysCrests : ByteArray := prog_12_method_96_code
def yX10_laysCrests : MethodName := ⟨RX10, "laysCrests", "()I"⟩
abbrev cX10_crests : ByteArray := prog_12_method_97_code
def yX10_crests : MethodName := ⟨RX10, "crests", "(I)I"⟩
abbrev cX10_isBox : ByteArray := prog_12_method_98_code
def yX10_isBox : MethodName := ⟨RX10, "isBox", "(I)Z"⟩
abbrev cX10_isKept : ByteArray := prog_12_method_99_code
def yX10_isKept : MethodName := ⟨RX10, "isKept", "(I)Z"⟩
abbrev cX10_inCommon : ByteArray := prog_12_method_100_code
def yX10_inCommon : MethodName := ⟨RX10, "inCommon", "(II)I"⟩
abbrev cX10_follows : ByteArray := prog_12_method_101_code
def yX10_follows : MethodName := ⟨RX10, "follows", "(III)I"⟩
abbrev cX10_meets : ByteArray := prog_12_method_102_code
def yX10_meets : MethodName := ⟨RX10, "meets", "(IIZ)I"⟩
abbrev cX10_fates : ByteArray := prog_12_method_103_code
def yX10_fates : MethodName := ⟨RX10, "fates", "(III)I"⟩
abbrev cX10_overlap : ByteArray := prog_12_method_104_code
def yX10_overlap : MethodName := ⟨RX10, "overlap", "(III)I"⟩
abbrev cX10_shift : ByteArray := prog_12_method_105_code
def yX10_shift : MethodName := ⟨RX10, "shift", "(II)I"⟩
abbrev cX10_would : ByteArray := prog_12_method_106_code
def yX10_would : MethodName := ⟨RX10, "would", "(II)I"⟩
abbrev cX10_next : ByteArray := prog_12_method_107_code
def yX10_next : MethodName := ⟨RX10, "next", "(II)I"⟩
abbrev cX10_flux : ByteArray := prog_12_method_108_code
def yX10_flux : MethodName := ⟨RX10, "flux", "(II)I"⟩
abbrev cX10_game : ByteArray := prog_12_method_109_code
def yX10_game : MethodName := ⟨RX10, "game", "(III)I"⟩
abbrev cX10_tallest : ByteArray := prog_12_method_110_code
def yX10_tallest : MethodName := ⟨RX10, "tallest", "(II)I"⟩
abbrev cX10_seen : ByteArray := prog_12_method_111_code
def yX10_seen : MethodName := ⟨RX10, "seen", "(IIIZ)I"⟩
abbrev cX10_untell : ByteArray := prog_12_method_112_code
def yX10_untell : MethodName := ⟨RX10, "untell", "(I)Z"⟩
abbrev cX10_later : ByteArray := prog_12_method_113_code
def yX10_later : MethodName := ⟨RX10, "later", "(I)I"⟩
abbrev cX10_doesCount : ByteArray := prog_12_method_114_code
def yX10_doesCount : MethodName := ⟨RX10, "doesCount", "(II)Z"⟩
abbrev cX10_isSoAfter : ByteArray := prog_12_method_115_code
def yX10_isSoAfter : MethodName := ⟨RX10, "isSoAfter", "(II)Z"⟩
abbrev cX10_lastSeen : ByteArray := prog_12_method_116_code
def yX10_lastSeen : MethodName := ⟨RX10, "lastSeen", "(I)I"⟩
abbrev cX10_fitsBy : ByteArray := prog_12_method_117_code
def yX10_fitsBy : MethodName := ⟨RX10, "fitsBy", "(II)Z"⟩
abbrev cX10_laysFits : ByteArray := prog_12_method_118_code
def yX10_laysFits : MethodName := ⟨RX10, "laysFits", "(I)I"⟩
abbrev cX10_fits : ByteArray := prog_12_method_119_code
def yX10_fits : MethodName := ⟨RX10, "fits", "(I)I"⟩
abbrev cX10_fit : ByteArray := prog_12_method_120_code
def yX10_fit : MethodName := ⟨RX10, "fit", "(II)I"⟩
abbrev cX10_leftBy : ByteArray := prog_12_method_121_code
def yX10_leftBy : MethodName := ⟨RX10, "leftBy", "(I)I"⟩
abbrev cX10_ask : ByteArray := prog_12_method_122_code
def yX10_ask : MethodName := ⟨RX10, "ask", "(III)I"⟩
abbrev cX10_image : ByteArray := prog_12_method_123_code
def yX10_image : MethodName := ⟨RX10, "image", "(I)I"⟩
abbrev cX10_back : ByteArray := prog_12_method_124_code
def yX10_back : MethodName := ⟨RX10, "back", "(I)I"⟩
abbrev cX10_roundTries : ByteArray := prog_12_method_125_code
def yX10_roundTries : MethodName := ⟨RX10, "roundTries", "()I"⟩
abbrev cX10_about : ByteArray := prog_12_method_126_code
def yX10_about : MethodName := ⟨RX10, "about", "(I)I"⟩
def RJx145de : String := "java/io/Serializable"
def TJx145de : u_T := fun k => match k with
  | _ => ("", "", "", false)
def tyJx145de : Nat → FieldType := fun k => match k with
  | _ => .int
theorem nmJx145de : ∀ a, a < 0 → ∀ b, b < 0 → a ≠ b → (TJx145de a).2.1 ≠ (TJx145de b).2.1 := by decide +kernel
theorem tyJx145de_ok : ∀ k, k < 0 → parseFieldDescriptor (TJx145de k).2.2.1 = some (tyJx145de k) := by decide +kernel
def RJx9f9b0 : String := "java/lang/CharSequence"
def TJx9f9b0 : u_T := fun k => match k with
  | _ => ("", "", "", false)
def tyJx9f9b0 : Nat → FieldType := fun k => match k with
  | _ => .int
theorem nmJx9f9b0 : ∀ a, a < 0 → ∀ b, b < 0 → a ≠ b → (TJx9f9b0 a).2.1 ≠ (TJx9f9b0 b).2.1 := by decide +kernel
theorem tyJx9f9b0_ok : ∀ k, k < 0 → parseFieldDescriptor (TJx9f9b0 k).2.2.1 = some (tyJx9f9b0 k) := by decide +kernel
def RJxb160c : String := "java/lang/Comparable"
def TJxb160c : u_T := fun k => match k with
  | _ => ("", "", "", false)
def tyJxb160c : Nat → FieldType := fun k => match k with
  | _ => .int
theorem nmJxb160c : ∀ a, a < 0 → ∀ b, b < 0 → a ≠ b → (TJxb160c a).2.1 ≠ (TJxb160c b).2.1 := by decide +kernel
theorem tyJxb160c_ok : ∀ k, k < 0 → parseFieldDescriptor (TJxb160c k).2.2.1 = some (tyJxb160c k) := by decide +kernel
def RJ13 : String := "java/lang/Long"
def TJ13 : u_T := fun k => match k with
  | _ => ("", "", "", false)
def tyJ13 : Nat → FieldType := fun k => match k with
  | _ => .int
theorem nmJ13 : ∀ a, a < 0 → ∀ b, b < 0 → a ≠ b → (TJ13 a).2.1 ≠ (TJ13 b).2.1 := by decide +kernel
theorem tyJ13_ok : ∀ k, k < 0 → parseFieldDescriptor (TJ13 k).2.2.1 = some (tyJ13 k) := by decide +kernel
abbrev cJ13_bitCount_95d88 : ByteArray := prog_13_method_50_code
def yJ13_bitCount_95d88 : MethodName := ⟨RJ13, "bitCount", "(J)I"⟩
def RJ9 : String := "java/lang/Math"
def TJ9 : u_T := fun k => match k with
  | _ => ("", "", "", false)
def tyJ9 : Nat → FieldType := fun k => match k with
  | _ => .int
theorem nmJ9 : ∀ a, a < 0 → ∀ b, b < 0 → a ≠ b → (TJ9 a).2.1 ≠ (TJ9 b).2.1 := by decide +kernel
theorem tyJ9_ok : ∀ k, k < 0 → parseFieldDescriptor (TJ9 k).2.2.1 = some (tyJ9 k) := by decide +kernel
abbrev cJ9_abs_0f7a4 : ByteArray := prog_14_method_59_code
def yJ9_abs_0f7a4 : MethodName := ⟨RJ9, "abs", "(I)I"⟩
abbrev cJ9_max_7cf53 : ByteArray := prog_14_method_65_code
def yJ9_max_7cf53 : MethodName := ⟨RJ9, "max", "(II)I"⟩
abbrev cJ9_min_7cf53 : ByteArray := prog_14_method_69_code
def yJ9_min_7cf53 : MethodName := ⟨RJ9, "min", "(II)I"⟩
def RJ0 : String := "java/lang/String"
def TJ0 : u_T := fun k => match k with
  | _ => ("", "", "", false)
def tyJ0 : Nat → FieldType := fun k => match k with
  | _ => .int
theorem nmJ0 : ∀ a, a < 0 → ∀ b, b < 0 → a ≠ b → (TJ0 a).2.1 ≠ (TJ0 b).2.1 := by decide +kernel
theorem tyJ0_ok : ∀ k, k < 0 → parseFieldDescriptor (TJ0 k).2.2.1 = some (tyJ0 k) := by decide +kernel
abbrev cJ0_length_8abf5 : ByteArray := prog_15_method_54_code
def yJ0_length_8abf5 : MethodName := ⟨RJ0, "length", "()I"⟩
abbrev cJ0_charAt_5068e : ByteArray := prog_15_method_56_code
def yJ0_charAt_5068e : MethodName := ⟨RJ0, "charAt", "(I)C"⟩
abbrev cJ0_coder_7d493 : ByteArray := prog_15_method_152_code
def yJ0_coder_7d493 : MethodName := ⟨RJ0, "coder", "()B"⟩
abbrev cJ0_isLatin1_aae02 : ByteArray := prog_15_method_154_code
def yJ0_isLatin1_aae02 : MethodName := ⟨RJ0, "isLatin1", "()Z"⟩
abbrev cJ0_checkIndex_df160 : ByteArray := prog_15_method_155_code
def yJ0_checkIndex_df160 : MethodName := ⟨RJ0, "checkIndex", "(II)V"⟩
def RJ1 : String := "java/lang/StringLatin1"
def TJ1 : u_T := fun k => match k with
  | _ => ("", "", "", false)
def tyJ1 : Nat → FieldType := fun k => match k with
  | _ => .int
theorem nmJ1 : ∀ a, a < 0 → ∀ b, b < 0 → a ≠ b → (TJ1 a).2.1 ≠ (TJ1 b).2.1 := by decide +kernel
theorem tyJ1_ok : ∀ k, k < 0 → parseFieldDescriptor (TJ1 k).2.2.1 = some (tyJ1 k) := by decide +kernel
abbrev cJ1_charAt_3b067 : ByteArray := prog_16_method_2_code
def yJ1_charAt_3b067 : MethodName := ⟨RJ1, "charAt", "([BI)C"⟩
def RJ2 : String := "java/lang/StringUTF16"
def TJ2 : u_T := fun k => match k with
  | _ => ("", "", "", false)
def tyJ2 : Nat → FieldType := fun k => match k with
  | _ => .int
theorem nmJ2 : ∀ a, a < 0 → ∀ b, b < 0 → a ≠ b → (TJ2 a).2.1 ≠ (TJ2 b).2.1 := by decide +kernel
theorem tyJ2_ok : ∀ k, k < 0 → parseFieldDescriptor (TJ2 k).2.2.1 = some (tyJ2 k) := by decide +kernel
abbrev cJ2_getChar_3b067 : ByteArray := prog_17_method_5_code
def yJ2_getChar_3b067 : MethodName := ⟨RJ2, "getChar", "([BI)C"⟩
abbrev cJ2_length_9d52b : ByteArray := prog_17_method_6_code
def yJ2_length_9d52b : MethodName := ⟨RJ2, "length", "([B)I"⟩
abbrev cJ2_charAt_3b067 : ByteArray := prog_17_method_83_code
def yJ2_charAt_3b067 : MethodName := ⟨RJ2, "charAt", "([BI)C"⟩
abbrev cJ2_checkIndex_2214a : ByteArray := prog_17_method_91_code
def yJ2_checkIndex_2214a : MethodName := ⟨RJ2, "checkIndex", "(I[B)V"⟩
def RJ10 : String := "java/lang/System"
def TJ10 : u_T := fun k => match k with
  | _ => ("", "", "", false)
def tyJ10 : Nat → FieldType := fun k => match k with
  | _ => .int
theorem nmJ10 : ∀ a, a < 0 → ∀ b, b < 0 → a ≠ b → (TJ10 a).2.1 ≠ (TJ10 b).2.1 := by decide +kernel
theorem tyJ10_ok : ∀ k, k < 0 → parseFieldDescriptor (TJ10 k).2.2.1 = some (tyJ10 k) := by decide +kernel
def RJxfd54e : String := "java/lang/constant/Constable"
def TJxfd54e : u_T := fun k => match k with
  | _ => ("", "", "", false)
def tyJxfd54e : Nat → FieldType := fun k => match k with
  | _ => .int
theorem nmJxfd54e : ∀ a, a < 0 → ∀ b, b < 0 → a ≠ b → (TJxfd54e a).2.1 ≠ (TJxfd54e b).2.1 := by decide +kernel
theorem tyJxfd54e_ok : ∀ k, k < 0 → parseFieldDescriptor (TJxfd54e k).2.2.1 = some (tyJxfd54e k) := by decide +kernel
def RJx3cf43 : String := "java/lang/constant/ConstantDesc"
def TJx3cf43 : u_T := fun k => match k with
  | _ => ("", "", "", false)
def tyJx3cf43 : Nat → FieldType := fun k => match k with
  | _ => .int
theorem nmJx3cf43 : ∀ a, a < 0 → ∀ b, b < 0 → a ≠ b → (TJx3cf43 a).2.1 ≠ (TJx3cf43 b).2.1 := by decide +kernel
theorem tyJx3cf43_ok : ∀ k, k < 0 → parseFieldDescriptor (TJx3cf43 k).2.2.1 = some (tyJx3cf43 k) := by decide +kernel
def RJ7 : String := "java/util/Arrays"
def TJ7 : u_T := fun k => match k with
  | _ => ("", "", "", false)
def tyJ7 : Nat → FieldType := fun k => match k with
  | _ => .int
theorem nmJ7 : ∀ a, a < 0 → ∀ b, b < 0 → a ≠ b → (TJ7 a).2.1 ≠ (TJ7 b).2.1 := by decide +kernel
theorem tyJ7_ok : ∀ k, k < 0 → parseFieldDescriptor (TJ7 k).2.2.1 = some (tyJ7 k) := by decide +kernel
abbrev cJ7_fill_53178 : ByteArray := prog_19_method_103_code
def yJ7_fill_53178 : MethodName := ⟨RJ7, "fill", "([II)V"⟩
def RJ3 : String := "jdk/internal/util/Preconditions"
def TJ3 : u_T := fun k => match k with
  | _ => ("", "", "", false)
def tyJ3 : Nat → FieldType := fun k => match k with
  | _ => .int
theorem nmJ3 : ∀ a, a < 0 → ∀ b, b < 0 → a ≠ b → (TJ3 a).2.1 ≠ (TJ3 b).2.1 := by decide +kernel
theorem tyJ3_ok : ∀ k, k < 0 → parseFieldDescriptor (TJ3 k).2.2.1 = some (tyJ3 k) := by decide +kernel
abbrev cJ3_checkIndex_8e157 : ByteArray := prog_20_method_11_code
def yJ3_checkIndex_8e157 : MethodName := ⟨RJ3, "checkIndex", "(IILjava/util/function/BiFunction;)I"⟩
def RL : String := "SandMarchLaw"
abbrev cL_law : ByteArray := code
def yL_law : MethodName := ⟨RL, "law", "([I)Z"⟩
abbrev zcls : List vw_C := [(RX0, TX0, 13), (RX1, TX1, 3), (RX2, TX2, 11), (RX3, TX3, 6), (RX4, TX4, 5), (RX5, TX5, 5), (RX6, TX6, 9), (RX7, TX7, 5), (RX8, TX8, 6), (RX9, TX9, 16), (RX10, TX10, 46)]
/-- the kind of a field: 0 int, 1 long, 2 a reference, 3 boolean -/
def zfk (c k : Nat) : Nat := match c with
  | 0 => [0, 0, 0, 0, 0, 0, 0, 0, 2, 2, 2, 2, 2].getD k 0
  | 1 => [2, 0, 0].getD k 0
  | 2 => [0, 0, 0, 0, 0, 0, 2, 2, 2, 2, 2].getD k 0
  | 3 => [2, 2, 2, 0, 2, 0].getD k 0
  | 4 => [2, 2, 0, 0, 0].getD k 0
  | 5 => [2, 2, 2, 0, 0].getD k 0
  | 6 => [2, 2, 2, 2, 2, 2, 2, 2, 0].getD k 0
  | 7 => [2, 2, 2, 0, 0].getD k 0
  | 8 => [2, 0, 2, 2, 2, 0].getD k 0
  | 9 => [2, 2, 2, 2, 2, 2, 2, 2, 2, 2, 2, 2, 2, 2, 2, 0].getD k 0
  | 10 => [2, 0, 0, 0, 0, 0, 0, 0, 0, 0, 0, 1, 2, 2, 2, 2, 2, 2, 2, 3, 0, 2, 2, 0, 0, 0, 0, 2, 0, 0, 2, 2, 2, 0, 2, 2, 2, 2, 2, 2, 2, 2, 0, 0, 2, 2].getD k 0
  | _ => 0
def ztx : String := "size sand heap grass wind hop shadow slope stick draw east south west north by "
def ztb : List Int32 := [115, 105, 122, 101, 32, 115, 97, 110, 100, 32, 104, 101, 97, 112, 32, 103, 114, 97, 115, 115, 32, 119, 105, 110, 100, 32, 104, 111, 112, 32, 115, 104, 97, 100, 111, 119, 32, 115, 108, 111, 112, 101, 32, 115, 116, 105, 99, 107, 32, 100, 114, 97, 119, 32, 101, 97, 115, 116, 32, 115, 111, 117, 116, 104, 32, 119, 101, 115, 116, 32, 110, 111, 114, 116, 104, 32, 98, 121, 32]
end
section
/-! worlds of Ints: an address a stands for the cell g.1 + a; zh: its kind (0 object of a class, 1 ints, 2 booleans, 3 longs, 4 Sands; 9 none) and class or length; references of fields in the signature, all else in the memory -/
abbrev zG : Type := Nat × va_G × (Nat → ClassId) × (Nat → Nat)
abbrev zM : Type := Nat → Int → Int
abbrev zS : Type := Bool × List (Nat × Nat) × (Nat → Nat → Nat)
/-- a method: name, code, locals, what it returns, frames and words below it -/
abbrev zD : Type := MethodName × ByteArray × Nat × Option FieldType × Nat × Nat
def zI (x : Int) : Value := .int (Int32.ofInt x)
def zL (x : Int) : Value := .long (Int64.ofInt x)
def zA (g : zG) (a : Nat) : Value := .ref (g.1 + a)
def zN (g : zG) (a : Nat) : Value := if a = 0 then .null else .ref (g.1 + a)
def zh (σ : zS) (a : Nat) : Nat × Nat := match a with
  | 0 => (9, 0)
  | k + 1 => σ.2.1.getD k (9, 0)
def zfv (g : zG) (kd F : Nat) (x : Int) : Value := match kd with
  | 0 => zI x
  | 1 => zL x
  | 3 => zI x
  | _ => zN g F
def zev (g : zG) (kd : Nat) (x : Int) : Value := match kd with
  | 1 => zI x
  | 2 => zI x
  | 3 => zL x
  | _ => zN g x.toNat
def zcell (g : zG) (σ : zS) (M : zM) (a : Nat) (H : Heap) : Prop :=
  if (zh σ a).1 = 0 then ∃ r : vw_C, zcls[(zh σ a).2]? = some r ∧ t_OB (g.1 + a) (g.2.1.1 (zh σ a).2) r.2.2 (g.2.1.2 (zh σ a).2) H (fun k => zfv g (zfk (zh σ a).2 k) (σ.2.2 a k) (M a (k : Int)))
  else if (zh σ a).1 = 9 then True else H[g.1 + a]? = some (arrV (g.2.2.1 (zh σ a).1) (zh σ a).2 (fun j => zev g (zh σ a).1 (M a (j : Int))))
def zH (g : zG) (σ : zS) (M : zM) (H : Heap) : Prop := (∀ a, zcell g σ M a H) ∧ (σ.1 = true → H.size = g.1 + σ.2.1.length + 1)
def zAg (g : zG) (σ : zS) : Nat → Prop := fun q => g.1 < q ∧ (σ.1 = true ∨ q ≤ g.1 + σ.2.1.length)
def zu (M : zM) (a : Nat) (i x : Int) : zM := fun b j => if b = a ∧ j = i then x else M b j
def ztys (g : zG) : List (ClassId × FieldType) := [(g.2.2.1 1, .int), (g.2.2.1 2, .boolean), (g.2.2.1 3, .long), (g.2.2.1 4, .object "SandMarch$Sand")]
def zty (kd : Nat) : FieldType := match kd with
  | 1 => .int
  | 2 => .boolean
  | 3 => .long
  | _ => .object "SandMarch$Sand"
def znm : List (String × Nat × MethodName) := [(RX9, 9, yX8_init), (RX9, 27, yX2_init), (RX9, 34, yX5_init), (RX1, 24, yX5_init)]
def znf : List (String × Nat × String) := [(RX4, 141, "RULE_LEAST"), (RX4, 144, "RULE_MOST")]
/-- what is old and stays: static arrays, the text of the words -/
def zX (g : zG) (U : State) : Prop :=
  va_Z "SandMarch" "RULE_LEAST" "[I" (.ref (g.2.2.2 0)) (fun q => g.1 < q) U U.heap ∧ va_T .int (g.2.2.2 0) 4 (fun j => zI ([1, 1, 0, 0].getD j 0)) (fun q => g.1 < q) U U.heap ∧
  va_Z "SandMarch" "RULE_MOST" "[I" (.ref (g.2.2.2 1)) (fun q => g.1 < q) U U.heap ∧ va_T .int (g.2.2.2 1) 4 (fun j => zI ([6, 9, 16, 16].getD j 0)) (fun q => g.1 < q) U U.heap ∧
  va_Z "java/lang/String" "COMPACT_STRINGS" "Z" (.int 1) (fun q => g.1 < q) U U.heap ∧ va_Zq "jdk/internal/util/Preconditions" "SIOOBE_FORMATTER" "Ljava/util/function/BiFunction;" (fun q => g.1 < q) U U.heap ∧
  vk_R "SandMarch$Tape" 56 ztx (g.2.2.2 2) U ∧ vk_S 1 [ztb.length] [ztb] (fun _ => g.2.2.2 2) (fun _ => g.2.2.2 3) (fun q => g.1 < q) U U.heap ∧
  va_AO "SandMarch$Sand" U ∧ (∀ w ∈ znm, va_Nw (.methodLinkNest w.1 w.2.1 w.2.2 "SandMarch") U) ∧ ∀ w ∈ znf, va_Nw (.fieldLinkNest w.1 w.2.1 "SandMarch" w.2.2 "[I" "SandMarch") U
/-- the tables' words that last -/
def zt : List Cond := lw_tbl.filter goodWord
theorem zm {w : Cond} (i : Nat) (h : lw_tbl[i]? = some w) (hg : goodWord w = true) : w ∈ zt := List.mem_filter.mpr ⟨List.mem_of_getElem? h, hg⟩
def zw (d : zD) : List Cond := Cond.code d.1 d.2.1 d.2.2.1 d.2.2.2.1 :: zt
def zrm (d : zD) (mm : Nat × Nat) : Room := { frames := d.2.2.2.2.1, cells := mm.1, slots := mm.2, locals := d.2.2.2.2.2 }
def zWd (g : zG) (σ : zS) (M : zM) (U : State) : Prop := zH g σ M U.heap ∧ va_K g.2.1 zcls (ztys g) U ∧ zX g U ∧ g.1 < U.heap.size
abbrev zP : Type := Option Value → zS → zM → Prop
def zQ (g : zG) (σ : zS) (Q : zP) : Array Value → State → Outcome → State → Prop := fun _ st oc t => (∃ (v : Option Value) (σ' : zS) (M' : zM), oc = .returned v ∧ Q v σ' M' ∧ zH g σ' M' t.heap ∧ zAg g σ' = zAg g σ) ∧ va_F (zAg g σ) st t
/-- a call: from every machine that holds the world, the method returns, and Q -/
def zC (g : zG) (d : zD) (mm : Nat × Nat) (as : List Value) (σ : zS) (M : zM) (Q : zP) : Prop := ∀ l : Launch, Met l d.1 (zw d) (zrm d mm) (va_Pc as (zWd g σ M)) (zQ g σ Q) mm.1 mm.2 (zAg g σ)
def zB (g : zG) (d : zD) (p : Program) (s : State) (m : MethodId) (args : Array Value) (meth : Method) (c : Code) : Prop :=
  p.tables.exec = Jvm.exec ∧ c.code = d.2.1 ∧ c.maxLocals = d.2.2.1 ∧ meth.sig.returnType = d.2.2.2.1 ∧ meth.locks = false ∧ s.vm.findClass d.1.cls = some m.cls ∧ (∀ w ∈ zt, w.before args s = true) ∧ meth.name = d.1.name ∧ va_K g.2.1 zcls (ztys g) s ∧ zX g s ∧ g.1 < s.heap.size
/-- the machine inside a method: at pc, these locals known, this stack, this world: it returns, and Q -/
def zR (g : zG) (d : zD) (mm : Nat × Nat) (σ0 : zS) (Q : zP) (pc : Nat) (l : List (Nat × Value)) (st : List Value) (kw : Nat × Nat) (σ : zS) (M : zM) : Prop :=
  ∀ (la : Launch) (p : Program) (e : Env) (s : State) (m : MethodId) (args : Array Value) (below : List Frame) (meth : Method) (c : Code), zB g d p s m args meth c →
  ∀ (H : Heap) (locs : List Loc) (ls : Array Slot), zAg g σ = zAg g σ0 → va_S (zAg g σ0) s.heap H locs → zH g σ M H → lv_has ls d.2.2.1 l →
  W p la e (zrm d mm) s m args below meth c H locs kw.1 kw.2 (MQ below (zQ g σ0 Q) args s mm.1 mm.2 (zAg g σ0)) (F0 m pc ls st)
section ZR
variable {g : zG} {d : zD} {mm kw : Nat × Nat} {σ0 σ : zS} {Q : zP} {pc pc' : Nat} {l l' : List (Nat × Value)} {st st' : List Value} {M : zM}
/-- fewer known locals -/
theorem zr_sub (ks : List Nat) (h : lv_pick l ks = l') (k : zR g d mm σ0 Q pc l' st kw σ M) : zR g d mm σ0 Q pc l st kw σ M :=
  fun la p e s m args below meth c B H locs ls hA hS hH hl => k la p e s m args below meth c B H locs ls hA hS hH (lv_sub hl ks h)
/-- an instruction that changes the stack alone -/
theorem zr_st (h : ∀ {p : Program} {la : Launch} {e : Env} {R : Room} {s : State} {m : MethodId} {args : Array Value} {below : List Frame} {meth : Method} {c : Code} {H : Heap} {locs : List Loc} {cells slots : Nat} {Q : State → Prop} {ls : Array Slot}, zB g d p s m args meth c → lv_has ls d.2.2.1 l → W p la e R s m args below meth c H locs cells slots Q (F0 m pc' ls st') → W p la e R s m args below meth c H locs cells slots Q (F0 m pc ls st))
    (k : zR g d mm σ0 Q pc' l st' kw σ M) : zR g d mm σ0 Q pc l st kw σ M :=
  fun la p e s m args below meth c B H locs ls hA hS hH hl => h B hl (k la p e s m args below meth c B H locs ls hA hS hH hl)
theorem zr_iconst {n : Int} (hd : decode d.2.1 pc = .ok (.iconst n, 1)) (k : zR g d mm σ0 Q (pc + 1) l (zI n :: st) kw σ M) : zR g d mm σ0 Q pc l st kw σ M :=
  zr_st (fun B hl k => lv_iconst B.1 B.2.1 hd rfl k) k
theorem zr_bipush {n : Int} (hd : decode d.2.1 pc = .ok (.bipush n, 2)) (hn : (Int8.ofInt n).toInt32 = Int32.ofInt n) (k : zR g d mm σ0 Q (pc + 2) l (zI n :: st) kw σ M) : zR g d mm σ0 Q pc l st kw σ M :=
  zr_st (fun B hl k => lv_bipush B.1 B.2.1 hd hn k) k
theorem zr_sipush {n : Int} (hd : decode d.2.1 pc = .ok (.sipush n, 3)) (hn : (Int16.ofInt n).toInt32 = Int32.ofInt n) (k : zR g d mm σ0 Q (pc + 3) l (zI n :: st) kw σ M) : zR g d mm σ0 Q pc l st kw σ M :=
  zr_st (fun B hl k => lv_sipush B.1 B.2.1 hd hn k) k
theorem zr_iload_n {j : Fin 4} {x : Int} (q : Nat) (hd : decode d.2.1 pc = .ok (.iload_n j, 1)) (hl : l[q]? = some ((j : Nat), zI x)) (k : zR g d mm σ0 Q (pc + 1) l (zI x :: st) kw σ M) : zR g d mm σ0 Q pc l st kw σ M :=
  zr_st (fun B hv k => lv_iload_n B.1 B.2.1 hd rfl (lv_at hv q hl) k) k
theorem zr_iload {j : Nat} {x : Int} (q : Nat) (hd : decode d.2.1 pc = .ok (.iload j, 2)) (hl : l[q]? = some (j, zI x)) (k : zR g d mm σ0 Q (pc + 2) l (zI x :: st) kw σ M) : zR g d mm σ0 Q pc l st kw σ M :=
  zr_st (fun B hv k => lv_iload B.1 B.2.1 hd (lv_at hv q hl) k) k
theorem zr_lload_n {j : Fin 4} {x : Int} (q : Nat) (hd : decode d.2.1 pc = .ok (.lload_n j, 1)) (hl : l[q]? = some ((j : Nat), zL x)) (k : zR g d mm σ0 Q (pc + 1) l (zL x :: st) kw σ M) : zR g d mm σ0 Q pc l st kw σ M :=
  zr_st (fun B hv k => lv_lload_n B.1 B.2.1 hd rfl (lv_at hv q hl) k) k
theorem zr_lload {j : Nat} {x : Int} (q : Nat) (hd : decode d.2.1 pc = .ok (.lload j, 2)) (hl : l[q]? = some (j, zL x)) (k : zR g d mm σ0 Q (pc + 2) l (zL x :: st) kw σ M) : zR g d mm σ0 Q pc l st kw σ M :=
  zr_st (fun B hv k => lv_lload B.1 B.2.1 hd (lv_at hv q hl) k) k
theorem zr_aload_n {j : Fin 4} {x : Nat} (q : Nat) (hd : decode d.2.1 pc = .ok (.aload_n j, 1)) (hl : l[q]? = some ((j : Nat), zA g x)) (k : zR g d mm σ0 Q (pc + 1) l (zA g x :: st) kw σ M) : zR g d mm σ0 Q pc l st kw σ M :=
  zr_st (fun B hv k => lv_aload_n B.1 B.2.1 hd rfl (lv_at hv q hl) k) k
theorem zr_aload {j : Nat} {x : Nat} (q : Nat) (hd : decode d.2.1 pc = .ok (.aload j, 2)) (hl : l[q]? = some (j, zA g x)) (k : zR g d mm σ0 Q (pc + 2) l (zA g x :: st) kw σ M) : zR g d mm σ0 Q pc l st kw σ M :=
  zr_st (fun B hv k => lv_aload B.1 B.2.1 hd (lv_at hv q hl) k) k
theorem zr_iadd {x y : Int} (hd : decode d.2.1 pc = .ok (.iadd, 1)) (k : zR g d mm σ0 Q (pc + 1) l (zI (x + y) :: st) kw σ M) : zR g d mm σ0 Q pc l (zI y :: zI x :: st) kw σ M :=
  zr_st (fun B hl k => lv_iadd B.1 B.2.1 hd (by rw [← Int32.ofInt_add]; exact k)) k
theorem zr_isub {x y : Int} (hd : decode d.2.1 pc = .ok (.isub, 1)) (k : zR g d mm σ0 Q (pc + 1) l (zI (x - y) :: st) kw σ M) : zR g d mm σ0 Q pc l (zI y :: zI x :: st) kw σ M :=
  zr_st (fun B hl k => lv_isub B.1 B.2.1 hd (by rw [← Int32.ofInt_sub]; exact k)) k
theorem zr_imul {x y : Int} (hd : decode d.2.1 pc = .ok (.imul, 1)) (k : zR g d mm σ0 Q (pc + 1) l (zI (x * y) :: st) kw σ M) : zR g d mm σ0 Q pc l (zI y :: zI x :: st) kw σ M :=
  zr_st (fun B hl k => lv_imul B.1 B.2.1 hd (by rw [← Int32.ofInt_mul]; exact k)) k
theorem zr_goto {off : Int} {tgt : Nat} (hd : decode d.2.1 pc = .ok (.goto off, 3)) (ht : (pc : Int) + off = (tgt : Int)) (k : zR g d mm σ0 Q tgt l st kw σ M) : zR g d mm σ0 Q pc l st kw σ M :=
  zr_st (fun B hl k => lv_goto B.1 B.2.1 hd ht k) k
end ZR
end
section
def zin (x : Int) : Prop := -2147483648 ≤ x ∧ x ≤ 2147483647
theorem zi_to {x : Int} (h : zin x) : (Int32.ofInt x).toInt = x := Int32.toInt_ofInt_of_le (by have := h.1; omega) (by have := h.2; omega)
theorem zi_lt {x y : Int} (hx : zin x) (hy : zin y) : Int32.ofInt x < Int32.ofInt y ↔ x < y := by rw [Int32.lt_iff_toInt_lt, zi_to hx, zi_to hy]
theorem zi_le {x y : Int} (hx : zin x) (hy : zin y) : Int32.ofInt x ≤ Int32.ofInt y ↔ x ≤ y := by rw [Int32.le_iff_toInt_le, zi_to hx, zi_to hy]
theorem zi_eq {x y : Int} (hx : zin x) (hy : zin y) : Int32.ofInt x = Int32.ofInt y ↔ x = y := by rw [← Int32.toInt_inj, zi_to hx, zi_to hy]
theorem zin0 : zin 0 := ⟨by decide, by decide⟩
theorem zi_nn {x : Int} (hx : zin x) (h0 : 0 ≤ x) : (Int32.ofInt x).toNatClampNeg = x.toNat := by
  show (Int32.ofInt x).toInt.toNat = x.toNat
  rw [zi_to hx]
theorem zi_in {x : Int} {n : Nat} (h0 : 0 ≤ x) (h1 : x < n) (hn : n ≤ 100000) : vp_in (Int32.ofInt x) n := by
  have hx : zin x := ⟨by omega, by omega⟩
  rintro (h | h)
  · have h' : Int32.ofInt x < Int32.ofInt 0 := h
    rw [zi_lt hx zin0] at h'; omega
  · rw [zi_nn hx h0] at h; omega
section ZA
variable {g : zG} {σ : zS} {M M' : zM} {a b ci n kd : Nat} {H H1 : Heap}
theorem zc_obj (h : zcell g σ M a H) (hs : zh σ a = (0, ci)) : ∃ r : vw_C, zcls[ci]? = some r ∧ t_OB (g.1 + a) (g.2.1.1 ci) r.2.2 (g.2.1.2 ci) H (fun k => zfv g (zfk ci k) (σ.2.2 a k) (M a (k : Int))) := by
  unfold zcell at h; rw [hs] at h; exact h
theorem zc_arr (h : zcell g σ M a H) (hs : zh σ a = (kd, n)) (h0 : kd ≠ 0) (h9 : kd ≠ 9) : H[g.1 + a]? = some (arrV (g.2.2.1 kd) n (fun j => zev g kd (M a (j : Int)))) := by
  unfold zcell at h; rw [hs] at h; simp only [h0, h9, if_false] at h; exact h
theorem zc_kept (h : zcell g σ M b H) (hq : H1[g.1 + b]? = H[g.1 + b]?) (hM : ∀ j, M' b j = M b j) : zcell g σ M' b H1 := by
  unfold zcell at h ⊢
  simp only [hM]
  split at h
  · rename_i h0
    rw [if_pos h0]
    obtain ⟨r, h1, h2⟩ := h
    exact ⟨r, h1, h2.kept hq⟩
  · rename_i h0
    rw [if_neg h0]
    split at h
    · rename_i h9
      rw [if_pos h9]; trivial
    · rename_i h9
      rw [if_neg h9, hq]; exact h
/-- a cell of the world is written: the others stay -/
theorem zH.put (h : zH g σ M H) (hz : H1.size = H.size) (oq : ∀ q : Nat, q ≠ g.1 + a → H1[q]? = H[q]?) (hM : ∀ b j, b ≠ a → M' b j = M b j) (ha : zcell g σ M' a H1) : zH g σ M' H1 := by
  refine ⟨fun b => ?_, fun ho => hz.trans (h.2 ho)⟩
  by_cases hb : b = a
  · subst hb; exact ha
  · exact zc_kept (h.1 b) (oq _ (by omega)) (fun j => hM b j hb)
theorem zh_le {q : Nat × Nat} (hs : zh σ a = q) (h9 : q.1 ≠ 9) : 0 < a ∧ a ≤ σ.2.1.length := by
  cases a with
  | zero => subst hs; exact absurd rfl h9
  | succ k =>
    refine ⟨Nat.succ_pos k, ?_⟩
    rcases Nat.lt_or_ge k σ.2.1.length with h | h
    · exact h
    · have : zh σ (k + 1) = (9, 0) := by show σ.2.1.getD k (9, 0) = _; simp [List.getD_eq_getElem?_getD, List.getElem?_eq_none h]
      rw [this] at hs; subst hs; exact absurd rfl h9
theorem zAg_in {q : Nat × Nat} (hs : zh σ a = q) (h9 : q.1 ≠ 9) : zAg g σ (g.1 + a) := by
  have := zh_le hs h9
  exact ⟨by omega, Or.inr (by omega)⟩
theorem zu_ne {x i j : Int} (h : b ≠ a) : zu M a i x b j = M b j := by simp [zu, h]
theorem zu_at (M : zM) (a : Nat) (i x : Int) : zu M a i x a i = x := by simp [zu]
theorem zu_row (M : zM) (a : Nat) (i x j : Int) : zu M a i x a j = if j = i then x else M a j := by simp [zu]
/-- ints and booleans -/
theorem zc_ist {i x : Int} (h0 : 0 ≤ i) (hk : kd = 1 ∨ kd = 2) (hs : zh σ a = (kd, n)) (he : H1[g.1 + a]? = some (arrV (g.2.2.1 kd) n (updV (fun j => zev g kd (M a (j : Int))) i.toNat (zI x)))) : zcell g σ (zu M a i x) a H1 := by
  unfold zcell
  rw [hs]
  have hk0 : kd ≠ 0 := by omega
  have h9 : kd ≠ 9 := by omega
  simp only [hk0, h9, if_false]
  rw [he]
  congr 2
  funext j
  simp only [updV, zu_row]
  by_cases hj : j = i.toNat
  · rw [if_pos hj, if_pos (by omega)]
    rcases hk with rfl | rfl <;> rfl
  · rw [if_neg hj, if_neg (by omega)]
theorem zc_lst {i x : Int} (h0 : 0 ≤ i) (hs : zh σ a = (3, n)) (he : H1[g.1 + a]? = some (arrV (g.2.2.1 3) n (updV (fun j => zev g 3 (M a (j : Int))) i.toNat (zL x)))) : zcell g σ (zu M a i x) a H1 := by
  unfold zcell
  rw [hs]
  simp only [show (3 : Nat) ≠ 0 by decide, show (3 : Nat) ≠ 9 by decide, if_false]
  rw [he]
  congr 2
  funext j
  simp only [updV, zu_row]
  by_cases hj : j = i.toNat
  · rw [if_pos hj, if_pos (by omega)]; rfl
  · rw [if_neg hj, if_neg (by omega)]
theorem zc_ast {i : Int} {v : Nat} (h0 : 0 ≤ i) (hv : v ≠ 0) (hs : zh σ a = (4, n)) (he : H1[g.1 + a]? = some (arrV (g.2.2.1 4) n (updV (fun j => zev g 4 (M a (j : Int))) i.toNat (zA g v)))) : zcell g σ (zu M a i v) a H1 := by
  unfold zcell
  rw [hs]
  simp only [show (4 : Nat) ≠ 0 by decide, show (4 : Nat) ≠ 9 by decide, if_false]
  rw [he]
  congr 2
  funext j
  simp only [updV, zu_row]
  by_cases hj : j = i.toNat
  · rw [if_pos hj, if_pos (by omega)]
    show zA g v = zN g (Int.toNat (v : Int))
    simp [zA, zN, hv]
  · rw [if_neg hj, if_neg (by omega)]
end ZA
/-- a field by its place in a constant pool: class ci, field k -/
def zLf (own : String) (idx ci k : Nat) : Prop := ∃ r : vw_C, zcls[ci]? = some r ∧ k < r.2.2 ∧ (∀ w ∈ u_ws r.1 r.2.1 r.2.2, w ∈ zt) ∧ Cond.fieldLink own idx (r.2.1 k).1 (r.2.1 k).2.1 (r.2.1 k).2.2.1 ∈ zt
/-- what a class's fields are -/
def zLc (ci : Nat) : Prop := ∃ r : vw_C, zcls[ci]? = some r ∧ (∃ ty0 : Nat → FieldType, ∀ k, k < r.2.2 → parseFieldDescriptor (r.2.1 k).2.2.1 = some (ty0 k)) ∧ (∀ a, a < r.2.2 → ∀ b, b < r.2.2 → a ≠ b → (r.2.1 a).2.1 ≠ (r.2.1 b).2.1)
/-- a field that is not final, of a type -/
def zLt (ci k : Nat) (fin : Bool) (own : String) (ty : FieldType) : Prop := ∃ r : vw_C, zcls[ci]? = some r ∧ (r.2.1 k).2.2.2 = fin ∧ (r.2.1 k).1 = own ∧ parseFieldDescriptor (r.2.1 k).2.2.1 = some ty
section ZR2
variable {g : zG} {d : zD} {mm kw : Nat × Nat} {σ0 σ : zS} {Q : zP} {pc pc' : Nat} {l l' : List (Nat × Value)} {st st' : List Value} {M : zM}
theorem zr_istore_n {j : Fin 4} {x : Int} (hd : decode d.2.1 pc = .ok (.istore_n j, 1)) (hn : (j : Nat) < d.2.2.1) (ks : List Nat) (h : lv_pick (((j : Nat), zI x) :: l.filter (fun q => !(q.1 == (j : Nat)) && !(q.1 + 1 == (j : Nat) && q.2.category == 2))) ks = l')
    (k : zR g d mm σ0 Q (pc + 1) l' st kw σ M) : zR g d mm σ0 Q pc l (zI x :: st) kw σ M :=
  fun la p e s m args below meth c B H locs ls hA hS hH hl => lv_istore_n B.1 B.2.1 hd rfl hl hn rfl (fun ls' hl' => k la p e s m args below meth c B H locs ls' hA hS hH (lv_sub hl' ks h))
theorem zr_istore {j : Nat} {x : Int} (hd : decode d.2.1 pc = .ok (.istore j, 2)) (hn : j < d.2.2.1) (ks : List Nat) (h : lv_pick ((j, zI x) :: l.filter (fun q => !(q.1 == j) && !(q.1 + 1 == j && q.2.category == 2))) ks = l')
    (k : zR g d mm σ0 Q (pc + 2) l' st kw σ M) : zR g d mm σ0 Q pc l (zI x :: st) kw σ M :=
  fun la p e s m args below meth c B H locs ls hA hS hH hl => lv_istore B.1 B.2.1 hd hl hn rfl (fun ls' hl' => k la p e s m args below meth c B H locs ls' hA hS hH (lv_sub hl' ks h))
theorem zr_astore_n {j : Fin 4} {x : Nat} (hd : decode d.2.1 pc = .ok (.astore_n j, 1)) (hn : (j : Nat) < d.2.2.1) (ks : List Nat) (h : lv_pick (((j : Nat), zA g x) :: l.filter (fun q => !(q.1 == (j : Nat)) && !(q.1 + 1 == (j : Nat) && q.2.category == 2))) ks = l')
    (k : zR g d mm σ0 Q (pc + 1) l' st kw σ M) : zR g d mm σ0 Q pc l (zA g x :: st) kw σ M :=
  fun la p e s m args below meth c B H locs ls hA hS hH hl => lv_astore_n B.1 B.2.1 hd rfl hl hn rfl (fun ls' hl' => k la p e s m args below meth c B H locs ls' hA hS hH (lv_sub hl' ks h))
theorem zr_astore {j : Nat} {x : Nat} (hd : decode d.2.1 pc = .ok (.astore j, 2)) (hn : j < d.2.2.1) (ks : List Nat) (h : lv_pick ((j, zA g x) :: l.filter (fun q => !(q.1 == j) && !(q.1 + 1 == j && q.2.category == 2))) ks = l')
    (k : zR g d mm σ0 Q (pc + 2) l' st kw σ M) : zR g d mm σ0 Q pc l (zA g x :: st) kw σ M :=
  fun la p e s m args below meth c B H locs ls hA hS hH hl => lv_astore B.1 B.2.1 hd hl hn rfl (fun ls' hl' => k la p e s m args below meth c B H locs ls' hA hS hH (lv_sub hl' ks h))
theorem zr_iinc {j q : Nat} {n x : Int} (hd : decode d.2.1 pc = .ok (.iinc j n, 3)) (hq : l[q]? = some (j, zI x)) (hn : j < d.2.2.1) (ks : List Nat) (h : lv_pick ((j, zI (x + n)) :: l.filter (fun q => !(q.1 == j) && !(q.1 + 1 == j && q.2.category == 2))) ks = l')
    (k : zR g d mm σ0 Q (pc + 3) l' st kw σ M) : zR g d mm σ0 Q pc l st kw σ M :=
  fun la p e s m args below meth c B H locs ls hA hS hH hl => lv_iinc B.1 B.2.1 hd hl hq (Int32.ofInt_add x n).symm hn rfl (fun ls' hl' => k la p e s m args below meth c B H locs ls' hA hS hH (lv_sub hl' ks h))
theorem zr_get {idx ci j a : Nat} (hd : decode d.2.1 pc = .ok (.getfield idx, 3)) (hL : zLf d.1.cls idx ci j) (hs : zh σ a = (0, ci)) (k : zR g d mm σ0 Q (pc + 3) l (zfv g (zfk ci j) (σ.2.2 a j) (M a (j : Int)) :: st) kw σ M) : zR g d mm σ0 Q pc l (zA g a :: st) kw σ M := by
  intro la p e s m args below meth c B H locs ls hA hS hH hl
  have kk := k la p e s m args below meth c B H locs ls hA hS hH hl
  obtain ⟨hx, hb, -, -, -, hown, hts, -, hK, -⟩ := B
  obtain ⟨r, hc, hj, hin, hlink⟩ := hL
  obtain ⟨r', hc', cell, q1, q2, q3, q4⟩ := zc_obj (hH.1 a) hs
  cases hc.symm.trans hc'
  obtain ⟨hSl, hfc, kC, hkC, hkind⟩ := hK.1 ci _ hc
  obtain ⟨cf, kf, fi, f, hi, hsl⟩ := hSl j hj
  refine W.getf hx hb hown (hts _ hlink) hi (u_facts hfc hkC (u_lays hts hin hj) hi).1 q1 (by rw [q3]; exact fun h => by cases h) (v := zfv g (zfk ci j) (σ.2.2 a j) (M a (j : Int))) ?_ rfl rfl hd kk
  rw [hsl]; exact q4 j hj
theorem zr_geti {idx ci j a : Nat} (hd : decode d.2.1 pc = .ok (.getfield idx, 3)) (hL : zLf d.1.cls idx ci j) (hs : zh σ a = (0, ci)) (hk : zfk ci j = 0 ∨ zfk ci j = 3) (k : zR g d mm σ0 Q (pc + 3) l (zI (M a (j : Int)) :: st) kw σ M) : zR g d mm σ0 Q pc l (zA g a :: st) kw σ M :=
  zr_get hd hL hs (by rcases hk with h | h <;> (rw [h]; exact k))
theorem zr_getl {idx ci j a : Nat} (hd : decode d.2.1 pc = .ok (.getfield idx, 3)) (hL : zLf d.1.cls idx ci j) (hs : zh σ a = (0, ci)) (hk : zfk ci j = 1) (k : zR g d mm σ0 Q (pc + 3) l (zL (M a (j : Int)) :: st) kw σ M) : zR g d mm σ0 Q pc l (zA g a :: st) kw σ M :=
  zr_get hd hL hs (by rw [hk]; exact k)
theorem zr_getr {idx ci j a b : Nat} (hd : decode d.2.1 pc = .ok (.getfield idx, 3)) (hL : zLf d.1.cls idx ci j) (hs : zh σ a = (0, ci)) (hk : zfk ci j = 2) (hb : σ.2.2 a j = b) (h0 : b ≠ 0) (k : zR g d mm σ0 Q (pc + 3) l (zA g b :: st) kw σ M) : zR g d mm σ0 Q pc l (zA g a :: st) kw σ M :=
  zr_get hd hL hs (by rw [hk, hb]; show zR g d mm σ0 Q (pc + 3) l (zN g b :: st) kw σ M; simp only [zN, h0, if_false]; exact k)
/-- a field of ints, longs or booleans is written -/
theorem zr_put {idx ci j a : Nat} {v : Value} {x : Int} {ty : FieldType} {own : String} (hd : decode d.2.1 pc = .ok (.putfield idx, 3)) (hL : zLf d.1.cls idx ci j) (hC : zLc ci) (hT : zLt ci j false own ty) (hn : narrow ty v = v) (hf : fits ty v = true) (hs : zh σ a = (0, ci)) (hv : ∀ F, zfv g (zfk ci j) F x = v) (k : zR g d mm σ0 Q (pc + 3) l st kw σ (zu M a (j : Int) x)) : zR g d mm σ0 Q pc l (v :: zA g a :: st) kw σ M := by
  intro la p e s m args below meth c B H locs ls hA hS hH hl
  have k := k la p e s m args below meth c B
  obtain ⟨hx, hb, -, -, -, hown, hts, -, hK, -⟩ := B
  obtain ⟨r, hc, hj, hin, hlink⟩ := hL
  obtain ⟨r', hc', cell, q1, q2, q3, q4⟩ := zc_obj (hH.1 a) hs
  cases hc.symm.trans hc'
  obtain ⟨r', hc', ⟨ty0, hty⟩, hnm⟩ := hC
  cases hc.symm.trans hc'
  obtain ⟨r', hc', hfin, -, hpd⟩ := hT
  cases hc.symm.trans hc'
  have hap := va_apart (own := d.1.cls) hts hin ty0 hty hnm hK hc
  obtain ⟨hSl, hfc, kC, hkC, hkind⟩ := hK.1 ci _ hc
  obtain ⟨cf, kf, fi, f, hi, hsl⟩ := hSl j hj
  have hlay := hts _ (hin _ (u_in_lay hj))
  unfold u_lay at hlay
  rw [if_neg (by rw [hfin]; decide)] at hlay
  have hst := (u_facts hfc hkC (u_lays hts hin hj) hi).1
  have h6 := u_store hfc hkC hkind hlay hi hpd hn hf
  refine W.putK hx hb (f := f) ⟨hown, hts _ hlink, ⟨_, _, _, hi⟩, hst⟩ (by rw [q2]; exact h6) q1 q3 (by rw [hsl]; exact k2_hasslot (q4 j hj)) rfl rfl hd fun H' e1 e2 e3 => ?_
  rw [hsl] at e1 ⊢
  have hz : zAg g σ0 (g.1 + a) := by rw [← hA]; exact zAg_in hs (show (0 : Nat) ≠ 9 by decide)
  refine k H' _ ls hA (hS.put e2 e3 hz) (hH.put (a := a) e2 e3 (fun b i h => zu_ne h) ?_) hl
  unfold zcell
  rw [hs]
  refine ⟨r, hc, t_OB.to (V := updV (fun k => zfv g (zfk ci k) (σ.2.2 a k) (M a (k : Int))) j v) ⟨_, e1, q2, q3, t_set q4 hap hj v⟩ (fun i _ => ?_)⟩
  simp only [updV, zu_row]
  by_cases h : i = j
  · subst h; rw [if_pos rfl, if_pos rfl]; exact (hv _).symm
  · rw [if_neg h, if_neg (by omega)]
theorem zr_puti {idx ci j a : Nat} {x : Int} {own : String} (hd : decode d.2.1 pc = .ok (.putfield idx, 3)) (hL : zLf d.1.cls idx ci j) (hC : zLc ci) (hT : zLt ci j false own .int) (hk : zfk ci j = 0) (hs : zh σ a = (0, ci)) (k : zR g d mm σ0 Q (pc + 3) l st kw σ (zu M a (j : Int) x)) : zR g d mm σ0 Q pc l (zI x :: zA g a :: st) kw σ M :=
  zr_put hd hL hC hT rfl rfl hs (fun F => by rw [hk]; rfl) k
theorem zr_putl {idx ci j a : Nat} {x : Int} {own : String} (hd : decode d.2.1 pc = .ok (.putfield idx, 3)) (hL : zLf d.1.cls idx ci j) (hC : zLc ci) (hT : zLt ci j false own .long) (hk : zfk ci j = 1) (hs : zh σ a = (0, ci)) (k : zR g d mm σ0 Q (pc + 3) l st kw σ (zu M a (j : Int) x)) : zR g d mm σ0 Q pc l (zL x :: zA g a :: st) kw σ M :=
  zr_put hd hL hC hT rfl rfl hs (fun F => by rw [hk]; rfl) k
theorem zr_putz {idx ci j a : Nat} {x : Int} {own : String} (hd : decode d.2.1 pc = .ok (.putfield idx, 3)) (hL : zLf d.1.cls idx ci j) (hC : zLc ci) (hT : zLt ci j false own .boolean) (hk : zfk ci j = 3) (hx : x = 0 ∨ x = 1) (hs : zh σ a = (0, ci)) (k : zR g d mm σ0 Q (pc + 3) l st kw σ (zu M a (j : Int) x)) : zR g d mm σ0 Q pc l (zI x :: zA g a :: st) kw σ M :=
  zr_put hd hL hC hT (by rcases hx with rfl | rfl <;> rfl) (by rcases hx with rfl | rfl <;> rfl) hs (fun F => by rw [hk]; rfl) k
end ZR2
end
section
section ZR3
variable {g : zG} {d : zD} {mm kw : Nat × Nat} {σ0 σ : zS} {Q : zP} {pc pc' : Nat} {l l' : List (Nat × Value)} {st st' : List Value} {M : zM}
theorem zr_icmp_lt {x y off : Int} {tgt : Nat} (hd : decode d.2.1 pc = .ok (.if_icmp .lt off, 3)) (ht : (pc : Int) + off = (tgt : Int)) (hx : zin x) (hy : zin y) (kt : x < y → zR g d mm σ0 Q tgt l st kw σ M) (kf : ¬ (x < y) → zR g d mm σ0 Q (pc + 3) l st kw σ M) : zR g d mm σ0 Q pc l (zI y :: zI x :: st) kw σ M :=
  fun la p e s m args below meth c B H locs ls hA hS hH hl => lv_icmp_lt B.1 B.2.1 hd ht (fun h => kt ((zi_lt hx hy).mp h) la p e s m args below meth c B H locs ls hA hS hH hl) (fun h => kf (fun h' => h ((zi_lt hx hy).mpr h')) la p e s m args below meth c B H locs ls hA hS hH hl)
theorem zr_icmp_ge {x y off : Int} {tgt : Nat} (hd : decode d.2.1 pc = .ok (.if_icmp .ge off, 3)) (ht : (pc : Int) + off = (tgt : Int)) (hx : zin x) (hy : zin y) (kt : y ≤ x → zR g d mm σ0 Q tgt l st kw σ M) (kf : ¬ (y ≤ x) → zR g d mm σ0 Q (pc + 3) l st kw σ M) : zR g d mm σ0 Q pc l (zI y :: zI x :: st) kw σ M :=
  fun la p e s m args below meth c B H locs ls hA hS hH hl => lv_icmp_ge B.1 B.2.1 hd ht (fun h => kt ((Iff.trans (by first | exact Iff.rfl | simp [ge_iff_le]) (zi_le hy hx)).mp h) la p e s m args below meth c B H locs ls hA hS hH hl) (fun h => kf (fun h' => h ((Iff.trans (by first | exact Iff.rfl | simp [ge_iff_le]) (zi_le hy hx)).mpr h')) la p e s m args below meth c B H locs ls hA hS hH hl)
theorem zr_icmp_gt {x y off : Int} {tgt : Nat} (hd : decode d.2.1 pc = .ok (.if_icmp .gt off, 3)) (ht : (pc : Int) + off = (tgt : Int)) (hx : zin x) (hy : zin y) (kt : y < x → zR g d mm σ0 Q tgt l st kw σ M) (kf : ¬ (y < x) → zR g d mm σ0 Q (pc + 3) l st kw σ M) : zR g d mm σ0 Q pc l (zI y :: zI x :: st) kw σ M :=
  fun la p e s m args below meth c B H locs ls hA hS hH hl => lv_icmp_gt B.1 B.2.1 hd ht (fun h => kt ((zi_lt hy hx).mp h) la p e s m args below meth c B H locs ls hA hS hH hl) (fun h => kf (fun h' => h ((zi_lt hy hx).mpr h')) la p e s m args below meth c B H locs ls hA hS hH hl)
theorem zr_icmp_le {x y off : Int} {tgt : Nat} (hd : decode d.2.1 pc = .ok (.if_icmp .le off, 3)) (ht : (pc : Int) + off = (tgt : Int)) (hx : zin x) (hy : zin y) (kt : x ≤ y → zR g d mm σ0 Q tgt l st kw σ M) (kf : ¬ (x ≤ y) → zR g d mm σ0 Q (pc + 3) l st kw σ M) : zR g d mm σ0 Q pc l (zI y :: zI x :: st) kw σ M :=
  fun la p e s m args below meth c B H locs ls hA hS hH hl => lv_icmp_le B.1 B.2.1 hd ht (fun h => kt ((zi_le hx hy).mp h) la p e s m args below meth c B H locs ls hA hS hH hl) (fun h => kf (fun h' => h ((zi_le hx hy).mpr h')) la p e s m args below meth c B H locs ls hA hS hH hl)
theorem zr_icmp_eq {x y off : Int} {tgt : Nat} (hd : decode d.2.1 pc = .ok (.if_icmp .eq off, 3)) (ht : (pc : Int) + off = (tgt : Int)) (hx : zin x) (hy : zin y) (kt : x = y → zR g d mm σ0 Q tgt l st kw σ M) (kf : ¬ (x = y) → zR g d mm σ0 Q (pc + 3) l st kw σ M) : zR g d mm σ0 Q pc l (zI y :: zI x :: st) kw σ M :=
  fun la p e s m args below meth c B H locs ls hA hS hH hl => lv_icmp_eq B.1 B.2.1 hd ht (fun h => kt ((zi_eq hx hy).mp h) la p e s m args below meth c B H locs ls hA hS hH hl) (fun h => kf (fun h' => h ((zi_eq hx hy).mpr h')) la p e s m args below meth c B H locs ls hA hS hH hl)
theorem zr_icmp_ne {x y off : Int} {tgt : Nat} (hd : decode d.2.1 pc = .ok (.if_icmp .ne off, 3)) (ht : (pc : Int) + off = (tgt : Int)) (hx : zin x) (hy : zin y) (kt : x ≠ y → zR g d mm σ0 Q tgt l st kw σ M) (kf : x = y → zR g d mm σ0 Q (pc + 3) l st kw σ M) : zR g d mm σ0 Q pc l (zI y :: zI x :: st) kw σ M :=
  fun la p e s m args below meth c B H locs ls hA hS hH hl => lv_icmp_ne B.1 B.2.1 hd ht (fun h => kt ((not_congr (zi_eq hx hy)).mp h) la p e s m args below meth c B H locs ls hA hS hH hl) (fun h => kf ((zi_eq hx hy).mp h) la p e s m args below meth c B H locs ls hA hS hH hl)
theorem zr_if_lt {x off : Int} {tgt : Nat} (hd : decode d.2.1 pc = .ok (.ifCond .lt off, 3)) (ht : (pc : Int) + off = (tgt : Int)) (hx : zin x) (kt : x < 0 → zR g d mm σ0 Q tgt l st kw σ M) (kf : ¬ (x < 0) → zR g d mm σ0 Q (pc + 3) l st kw σ M) : zR g d mm σ0 Q pc l (zI x :: st) kw σ M :=
  fun la p e s m args below meth c B H locs ls hA hS hH hl => lv_if_lt B.1 B.2.1 hd ht (fun h => kt ((zi_lt hx zin0).mp h) la p e s m args below meth c B H locs ls hA hS hH hl) (fun h => kf (fun h' => h ((zi_lt hx zin0).mpr h')) la p e s m args below meth c B H locs ls hA hS hH hl)
theorem zr_if_ge {x off : Int} {tgt : Nat} (hd : decode d.2.1 pc = .ok (.ifCond .ge off, 3)) (ht : (pc : Int) + off = (tgt : Int)) (hx : zin x) (kt : 0 ≤ x → zR g d mm σ0 Q tgt l st kw σ M) (kf : ¬ (0 ≤ x) → zR g d mm σ0 Q (pc + 3) l st kw σ M) : zR g d mm σ0 Q pc l (zI x :: st) kw σ M :=
  fun la p e s m args below meth c B H locs ls hA hS hH hl => lv_if_ge B.1 B.2.1 hd ht (fun h => kt ((Iff.trans (by first | exact Iff.rfl | simp [ge_iff_le]) (zi_le zin0 hx)).mp h) la p e s m args below meth c B H locs ls hA hS hH hl) (fun h => kf (fun h' => h ((Iff.trans (by first | exact Iff.rfl | simp [ge_iff_le]) (zi_le zin0 hx)).mpr h')) la p e s m args below meth c B H locs ls hA hS hH hl)
theorem zr_if_gt {x off : Int} {tgt : Nat} (hd : decode d.2.1 pc = .ok (.ifCond .gt off, 3)) (ht : (pc : Int) + off = (tgt : Int)) (hx : zin x) (kt : 0 < x → zR g d mm σ0 Q tgt l st kw σ M) (kf : ¬ (0 < x) → zR g d mm σ0 Q (pc + 3) l st kw σ M) : zR g d mm σ0 Q pc l (zI x :: st) kw σ M :=
  fun la p e s m args below meth c B H locs ls hA hS hH hl => lv_if_gt B.1 B.2.1 hd ht (fun h => kt ((zi_lt zin0 hx).mp h) la p e s m args below meth c B H locs ls hA hS hH hl) (fun h => kf (fun h' => h ((zi_lt zin0 hx).mpr h')) la p e s m args below meth c B H locs ls hA hS hH hl)
theorem zr_if_le {x off : Int} {tgt : Nat} (hd : decode d.2.1 pc = .ok (.ifCond .le off, 3)) (ht : (pc : Int) + off = (tgt : Int)) (hx : zin x) (kt : x ≤ 0 → zR g d mm σ0 Q tgt l st kw σ M) (kf : ¬ (x ≤ 0) → zR g d mm σ0 Q (pc + 3) l st kw σ M) : zR g d mm σ0 Q pc l (zI x :: st) kw σ M :=
  fun la p e s m args below meth c B H locs ls hA hS hH hl => lv_if_le B.1 B.2.1 hd ht (fun h => kt ((zi_le hx zin0).mp h) la p e s m args below meth c B H locs ls hA hS hH hl) (fun h => kf (fun h' => h ((zi_le hx zin0).mpr h')) la p e s m args below meth c B H locs ls hA hS hH hl)
theorem zr_if_eq {x off : Int} {tgt : Nat} (hd : decode d.2.1 pc = .ok (.ifCond .eq off, 3)) (ht : (pc : Int) + off = (tgt : Int)) (hx : zin x) (kt : x = 0 → zR g d mm σ0 Q tgt l st kw σ M) (kf : ¬ (x = 0) → zR g d mm σ0 Q (pc + 3) l st kw σ M) : zR g d mm σ0 Q pc l (zI x :: st) kw σ M :=
  fun la p e s m args below meth c B H locs ls hA hS hH hl => lv_if_eq B.1 B.2.1 hd ht (fun h => kt ((zi_eq hx zin0).mp h) la p e s m args below meth c B H locs ls hA hS hH hl) (fun h => kf (fun h' => h ((zi_eq hx zin0).mpr h')) la p e s m args below meth c B H locs ls hA hS hH hl)
theorem zr_if_ne {x off : Int} {tgt : Nat} (hd : decode d.2.1 pc = .ok (.ifCond .ne off, 3)) (ht : (pc : Int) + off = (tgt : Int)) (hx : zin x) (kt : x ≠ 0 → zR g d mm σ0 Q tgt l st kw σ M) (kf : x = 0 → zR g d mm σ0 Q (pc + 3) l st kw σ M) : zR g d mm σ0 Q pc l (zI x :: st) kw σ M :=
  fun la p e s m args below meth c B H locs ls hA hS hH hl => lv_if_ne B.1 B.2.1 hd ht (fun h => kt ((not_congr (zi_eq hx zin0)).mp h) la p e s m args below meth c B H locs ls hA hS hH hl) (fun h => kf ((zi_eq hx zin0).mp h) la p e s m args below meth c B H locs ls hA hS hH hl)
/-- arrays: a read, a write -/
theorem zr_iald {a n : Nat} {i : Int} (hd : decode d.2.1 pc = .ok (.iaload, 1)) (hs : zh σ a = (1, n)) (hn : n ≤ 100000) (hi : 0 ≤ i ∧ i < n) (k : zR g d mm σ0 Q (pc + 1) l (zI (M a i) :: st) kw σ M) : zR g d mm σ0 Q pc l (zI i :: zA g a :: st) kw σ M := by
  intro la p e s m args below meth c B H locs ls hA hS hH hl
  have kk := k la p e s m args below meth c B H locs ls hA hS hH hl
  have hc := zc_arr (hH.1 a) hs (by decide) (by decide)
  have hin := zi_in hi.1 hi.2 hn
  have he : (Int32.ofInt i).toNatClampNeg = i.toNat := zi_nn ⟨by omega, by omega⟩ hi.1
  refine W.iald (v := zI (M a i)) B.1 B.2.1 hc ((B.2.2.2.2.2.2.2.2.1.2 0 _ rfl).1 n _) (fun q => by cases q) (by rw [arrV_size]; exact hin) (by rw [he, arrV_read _ _ (by omega), Int.toNat_of_nonneg hi.1]; rfl) rfl rfl hd kk
theorem zr_zald {a n : Nat} {i : Int} (hd : decode d.2.1 pc = .ok (.baload, 1)) (hs : zh σ a = (2, n)) (hn : n ≤ 100000) (hi : 0 ≤ i ∧ i < n) (k : zR g d mm σ0 Q (pc + 1) l (zI (M a i) :: st) kw σ M) : zR g d mm σ0 Q pc l (zI i :: zA g a :: st) kw σ M := by
  intro la p e s m args below meth c B H locs ls hA hS hH hl
  have kk := k la p e s m args below meth c B H locs ls hA hS hH hl
  have hc := zc_arr (hH.1 a) hs (by decide) (by decide)
  have hin := zi_in hi.1 hi.2 hn
  have he : (Int32.ofInt i).toNatClampNeg = i.toNat := zi_nn ⟨by omega, by omega⟩ hi.1
  refine W.zald (v := zI (M a i)) B.1 B.2.1 hc ((B.2.2.2.2.2.2.2.2.1.2 1 _ rfl).1 n _) (fun q => by cases q) (by rw [arrV_size]; exact hin) (by rw [he, arrV_read _ _ (by omega), Int.toNat_of_nonneg hi.1]; rfl) rfl rfl hd kk
theorem zr_lald {a n : Nat} {i : Int} (hd : decode d.2.1 pc = .ok (.laload, 1)) (hs : zh σ a = (3, n)) (hn : n ≤ 100000) (hi : 0 ≤ i ∧ i < n) (k : zR g d mm σ0 Q (pc + 1) l (zL (M a i) :: st) kw σ M) : zR g d mm σ0 Q pc l (zI i :: zA g a :: st) kw σ M := by
  intro la p e s m args below meth c B H locs ls hA hS hH hl
  have kk := k la p e s m args below meth c B H locs ls hA hS hH hl
  have hc := zc_arr (hH.1 a) hs (by decide) (by decide)
  have hin := zi_in hi.1 hi.2 hn
  have he : (Int32.ofInt i).toNatClampNeg = i.toNat := zi_nn ⟨by omega, by omega⟩ hi.1
  refine W.lald (v := zL (M a i)) B.1 B.2.1 hc ((B.2.2.2.2.2.2.2.2.1.2 2 _ rfl).1 n _) (fun q => by cases q) (by rw [arrV_size]; exact hin) (by rw [he, arrV_read _ _ (by omega), Int.toNat_of_nonneg hi.1]; rfl) rfl rfl hd kk
theorem zr_aald {a n b : Nat} {i : Int} (hd : decode d.2.1 pc = .ok (.aaload, 1)) (hs : zh σ a = (4, n)) (hn : n ≤ 100000) (hi : 0 ≤ i ∧ i < n) (hb : M a i = (b : Int)) (h0 : b ≠ 0) (k : zR g d mm σ0 Q (pc + 1) l (zA g b :: st) kw σ M) : zR g d mm σ0 Q pc l (zI i :: zA g a :: st) kw σ M := by
  intro la p e s m args below meth c B H locs ls hA hS hH hl
  have kk := k la p e s m args below meth c B H locs ls hA hS hH hl
  have hc := zc_arr (hH.1 a) hs (by decide) (by decide)
  have hin := zi_in hi.1 hi.2 hn
  have he : (Int32.ofInt i).toNatClampNeg = i.toNat := zi_nn ⟨by omega, by omega⟩ hi.1
  refine W.aald (v := zA g b) (ty := .object "SandMarch$Sand") B.1 B.2.1 hc ((B.2.2.2.2.2.2.2.2.1.2 3 _ rfl).1 n _) rfl (fun q => by cases q) (by rw [arrV_size]; exact hin) (by rw [he, arrV_read _ _ (by omega), Int.toNat_of_nonneg hi.1]; show some (zN g (M a i).toNat) = _; rw [hb]; simp [zN, zA, h0]) rfl rfl hd kk
theorem zr_iast {a n : Nat} {i x : Int} (hd : decode d.2.1 pc = .ok (.iastore, 1)) (hs : zh σ a = (1, n)) (hn : n ≤ 100000) (hi : 0 ≤ i ∧ i < n) (k : zR g d mm σ0 Q (pc + 1) l st kw σ (zu M a i x)) : zR g d mm σ0 Q pc l (zI x :: zI i :: zA g a :: st) kw σ M := by
  intro la p e s m args below meth c B H locs ls hA hS hH hl
  have k := k la p e s m args below meth c B
  have hc := zc_arr (hH.1 a) hs (by decide) (by decide)
  have hin := zi_in hi.1 hi.2 hn
  have he : (Int32.ofInt i).toNatClampNeg = i.toNat := zi_nn ⟨by omega, by omega⟩ hi.1
  have hz : zAg g σ0 (g.1 + a) := by rw [← hA]; exact zAg_in hs (show (1 : Nat) ≠ 9 by decide)
  refine W.iast B.1 B.2.1 hc ((B.2.2.2.2.2.2.2.2.1.2 0 _ rfl).1 n _) (fun q => by cases q) (by rw [arrV_size]; exact hin) rfl rfl hd fun H1 e z oq => ?_
  refine k H1 _ ls hA (hS.put z oq hz) (hH.put (a := a) z oq (fun b j h => zu_ne h) (zc_ist hi.1 (Or.inl rfl) hs ?_)) hl
  rw [e, arrV_store, he]; rfl
theorem zr_zast {a n : Nat} {i x : Int} (hd : decode d.2.1 pc = .ok (.bastore, 1)) (hs : zh σ a = (2, n)) (hn : n ≤ 100000) (hi : 0 ≤ i ∧ i < n) (hx : x = 0 ∨ x = 1) (k : zR g d mm σ0 Q (pc + 1) l st kw σ (zu M a i x)) : zR g d mm σ0 Q pc l (zI x :: zI i :: zA g a :: st) kw σ M := by
  intro la p e s m args below meth c B H locs ls hA hS hH hl
  have k := k la p e s m args below meth c B
  have hc := zc_arr (hH.1 a) hs (by decide) (by decide)
  have hin := zi_in hi.1 hi.2 hn
  have he : (Int32.ofInt i).toNatClampNeg = i.toNat := zi_nn ⟨by omega, by omega⟩ hi.1
  have hz : zAg g σ0 (g.1 + a) := by rw [← hA]; exact zAg_in hs (show (2 : Nat) ≠ 9 by decide)
  refine W.zast B.1 B.2.1 hc ((B.2.2.2.2.2.2.2.2.1.2 1 _ rfl).1 n _) (fun q => by cases q) (by rw [arrV_size]; exact hin) rfl rfl hd fun H1 e z oq => ?_
  refine k H1 _ ls hA (hS.put z oq hz) (hH.put (a := a) z oq (fun b j h => zu_ne h) (zc_ist hi.1 (Or.inr rfl) hs ?_)) hl
  rw [e, arrV_store, he]
  rcases hx with rfl | rfl <;> rfl
theorem zr_last {a n : Nat} {i x : Int} (hd : decode d.2.1 pc = .ok (.lastore, 1)) (hs : zh σ a = (3, n)) (hn : n ≤ 100000) (hi : 0 ≤ i ∧ i < n) (k : zR g d mm σ0 Q (pc + 1) l st kw σ (zu M a i x)) : zR g d mm σ0 Q pc l (zL x :: zI i :: zA g a :: st) kw σ M := by
  intro la p e s m args below meth c B H locs ls hA hS hH hl
  have k := k la p e s m args below meth c B
  have hc := zc_arr (hH.1 a) hs (by decide) (by decide)
  have hin := zi_in hi.1 hi.2 hn
  have he : (Int32.ofInt i).toNatClampNeg = i.toNat := zi_nn ⟨by omega, by omega⟩ hi.1
  have hz : zAg g σ0 (g.1 + a) := by rw [← hA]; exact zAg_in hs (show (3 : Nat) ≠ 9 by decide)
  refine W.last B.1 B.2.1 hc ((B.2.2.2.2.2.2.2.2.1.2 2 _ rfl).1 n _) (fun q => by cases q) (by rw [arrV_size]; exact hin) rfl rfl hd fun H1 e z oq => ?_
  refine k H1 _ ls hA (hS.put z oq hz) (hH.put (a := a) z oq (fun b j h => zu_ne h) (zc_lst hi.1 hs ?_)) hl
  rw [e, arrV_store, he]; rfl
theorem zr_alen {a n kd : Nat} (hd : decode d.2.1 pc = .ok (.arraylength, 1)) (hs : zh σ a = (kd, n)) (hk : kd = 1 ∨ kd = 2 ∨ kd = 3 ∨ kd = 4) (k : zR g d mm σ0 Q (pc + 1) l (zI n :: st) kw σ M) : zR g d mm σ0 Q pc l (zA g a :: st) kw σ M := by
  intro la p e s m args below meth c B H locs ls hA hS hH hl
  have kk := k la p e s m args below meth c B H locs ls hA hS hH hl
  have hc := zc_arr (hH.1 a) hs (by omega) (by omega)
  have hK := B.2.2.2.2.2.2.2.2.1.2
  have e : ∀ z : Nat → Value, (arrV (g.2.2.1 kd) n z).slots.size.toInt32 = Int32.ofInt n := fun z => by rw [arrV_size]; rfl
  rcases hk with rfl | rfl | rfl | rfl
  · exact W.alen B.1 B.2.1 hc ((hK 0 _ rfl).1 n _) (e _) rfl rfl hd kk
  · exact W.alen B.1 B.2.1 hc ((hK 1 _ rfl).1 n _) (e _) rfl rfl hd kk
  · exact W.alen B.1 B.2.1 hc ((hK 2 _ rfl).1 n _) (e _) rfl rfl hd kk
  · exact W.alen B.1 B.2.1 hc ((hK 3 _ rfl).1 n _) (e _) rfl rfl hd kk
/-- the ends -/
theorem zr_ireturn {x : Int} (hd : decode d.2.1 pc = .ok (.ireturn, 1)) (hr : d.2.2.2.1 = some .int) (hk : kw = mm) (h : Q (some (zI x)) σ M) : zR g d mm σ0 Q pc l [zI x] kw σ M := by
  intro la p e s m args below meth c B H locs ls hA hS hH hl
  subst hk
  exact W.iret B.1 B.2.1 (B.2.2.2.1.trans hr) (fun t ht hW => ⟨⟨_, σ, M, rfl, h, by rw [ht]; exact hH, hA⟩, hS.F ht⟩) hS.2.2 hd B.2.2.2.2.1
theorem zr_zreturn {x : Int} (hd : decode d.2.1 pc = .ok (.ireturn, 1)) (hr : d.2.2.2.1 = some .boolean) (hx : x = 0 ∨ x = 1) (hk : kw = mm) (h : Q (some (zI x)) σ M) : zR g d mm σ0 Q pc l [zI x] kw σ M := by
  intro la p e s m args below meth c B H locs ls hA hS hH hl
  subst hk
  exact W.zret B.1 B.2.1 (B.2.2.2.1.trans hr) (by rcases hx with rfl | rfl <;> rfl) (fun t ht hW => ⟨⟨_, σ, M, rfl, h, by rw [ht]; exact hH, hA⟩, hS.F ht⟩) hS.2.2 hd B.2.2.2.2.1
theorem zr_lreturn {x : Int} (hd : decode d.2.1 pc = .ok (.lreturn, 1)) (hr : d.2.2.2.1 = some .long) (hk : kw = mm) (h : Q (some (zL x)) σ M) : zR g d mm σ0 Q pc l [zL x] kw σ M := by
  intro la p e s m args below meth c B H locs ls hA hS hH hl
  subst hk
  exact W.lret B.1 B.2.1 (B.2.2.2.1.trans hr) (fun t ht hW => ⟨⟨_, σ, M, rfl, h, by rw [ht]; exact hH, hA⟩, hS.F ht⟩) hS.2.2 hd B.2.2.2.2.1
theorem zr_return (hd : decode d.2.1 pc = .ok (.return_, 1)) (hr : d.2.2.2.1 = none) (hk : kw = mm) (h : Q none σ M) : zR g d mm σ0 Q pc l [] kw σ M := by
  intro la p e s m args below meth c B H locs ls hA hS hH hl
  subst hk
  exact W.vret B.1 B.2.1 (B.2.2.2.1.trans hr) (fun t ht hW => ⟨⟨_, σ, M, rfl, h, by rw [ht]; exact hH, hA⟩, hS.F ht⟩) hS.2.2 hd B.2.2.2.2.1
/-- the entry -/
theorem zC_of {as : List Value} (hy : plainName d.1.cls = true) (hle : (lg_sl as).length ≤ d.2.2.1) (h : zR g d mm σ Q 0 (lv_args 0 as) [] (0, 0) σ M) : zC g d mm as σ M Q := by
  intro la
  refine Met.ofW (cc := d.2.1) (maxL := d.2.2.1) (ret := d.2.2.2.1) hy rfl ?_
  intro p e s m args below meth c s₁ B hml hv
  obtain ⟨rfl, hH, hK, hX, hz⟩ := hv
  have hts : ∀ w ∈ zw d, w.before as.toArray s = true := atoms_spec (ws := zw d) B.pre
  have hB : zB g d p s m as.toArray meth c := ⟨B.exec, B.bytes, hml, B.returns, B.notSynchronized, findClass_of_methodNamed B.named, fun w hw => hts w (List.mem_cons_of_mem _ hw), (name_of_methodNamed B.named B.method).1, hK, hX, hz⟩
  rw [lg_entry_eq]
  exact h la p e s m as.toArray below meth c hB s.heap [] _ rfl va_S.rf hH (lv_entry as hle)
end ZR3
end
section
theorem zgood : zt.all goodWord = true := List.all_eq_true.mpr fun w h => (List.mem_filter.mp h).2
theorem zgoodIn {d : zD} (h : Cond.code d.1 d.2.1 d.2.2.1 d.2.2.2.1 ∈ zt) : GoodIn zt (zw d) := fun w hw => by
  have hm : w ∈ zt := (List.mem_cons.mp hw).elim (fun e => e ▸ h) id
  exact ⟨hm, good_of_word (List.all_eq_true.mp zgood w hm)⟩
theorem zgoodOf {w : Cond} (h : w ∈ zt) : (w.onTables && w.keeps) = true ∨ ∃ ty, w = .arrayClass ty := good_of_word (List.all_eq_true.mp zgood w h)
theorem zX.same {g : zG} {u U : State} (hv : U.vm = u.vm) (hh : U.heap = u.heap) (h : zX g u) : zX g U := by
  obtain ⟨h1, h2, h3, h4, h5, h6, h7, h8, h9, h10, h11⟩ := h
  have ha : u.vm.Alike U.vm := by rw [hv]; exact Vm.Alike.refl _
  unfold zX
  rw [hh]
  exact ⟨h1.moved ha, h2.moved ha, h3.moved ha, h4.moved ha, h5.moved ha, h6.moved ha, h7.same hv, h8.moved ha, h9.moved ha, fun w hw => (h10 w hw).same rfl hv.symm, fun w hw => (h11 w hw).same rfl hv.symm⟩
theorem zX.to {g : zG} {u U : State} (hW : u.WarmedH U.vm) (hq : ∀ a : Nat, a < u.heap.size → ¬ g.1 < a → U.heap[a]? = u.heap[a]?) (h : zX g u) : zX g U := by
  obtain ⟨h1, h2, h3, h4, h5, h6, h7, h8, h9, h10, h11⟩ := h
  have ha : u.vm.Alike U.vm := hW.alike
  exact ⟨(h1.moved ha).kept hq, (h2.moved ha).kept hq, (h3.moved ha).kept hq, (h4.moved ha).kept hq, (h5.moved ha).kept hq, (h6.moved ha).kept hq, h7.warm hW, (h8.moved ha).kept hq, h9.moved ha, fun w hw => (h10 w hw).warmM hW, fun w hw => (h11 w hw).warmF hW⟩
/-- the callee: its links and its room (n parameters) -/
def zLb (d d' : zD) (n : Nat) : Prop := Cond.initialized d'.1.cls ∈ zt ∧ Cond.code d'.1 d'.2.1 d'.2.2.1 d'.2.2.2.1 ∈ zt ∧ (d'.1.cls ≠ "java/lang/invoke/MethodHandle" ∧ d'.1.cls ≠ "java/lang/invoke/VarHandle" ∧ (parseMethodDescriptor d'.1.desc).map (fun d => d.parameters.length) = some n) ∧ d'.2.2.2.2.1 + 1 ≤ d.2.2.2.2.1 ∧ 8 + (d'.2.2.1 + 11) + d'.2.2.2.2.2 ≤ d.2.2.2.2.2
def zLv (d d' : zD) (idx n : Nat) : Prop := zLb d d' n ∧ Cond.methodLink d.1.cls idx d'.1 ∈ zt ∧ Cond.instanceMethod d'.1 ∈ zt ∧ Cond.selects d'.1.cls d'.1 d'.1 ∈ zt
def zLs (d d' : zD) (idx n : Nat) : Prop := zLb d d' n ∧ Cond.methodLink d.1.cls idx d'.1 ∈ zt ∧ Cond.static d'.1 ∈ zt
def zLi (d d' : zD) (idx n : Nat) : Prop := zLb d d' n ∧ Cond.methodLink d.1.cls idx d'.1 ∈ zt ∧ Cond.instanceMethod d'.1 ∈ zt ∧ d'.1.name = "<init>" ∧ d'.2.2.2.1 = none
section ZC
variable {g : zG} {d d' : zD} {mm mm' kw : Nat × Nat} {σ0 σ : zS} {Q Q' : zP} {pc : Nat} {l : List (Nat × Value)} {st : List Value} {M : zM} {idx a ci n : Nat} {As rest : List Value}
theorem zblind {as : List Value} : FrameBlind (va_Pc as (zWd g σ M)) := by
  intro a U fr mk h
  obtain ⟨h1, h2, h3, h4, h5⟩ := h
  exact ⟨h1, h2, va_K.moved (u := U) (U := U.calling fr mk a) (Vm.Alike.refl U.vm) h3, zX.same (u := U) (U := U.calling fr mk a) rfl rfl h4, h5⟩
theorem zpre {p : Program} {s U : State} {m : MethodId} {args : Array Value} {meth : Method} {c : Code} {H : Heap} {locs : List Loc} (B : zB g d p s m args meth c) (hS : va_S (zAg g σ0) s.heap H locs) (hH : zH g σ M H) (hU : U.heap = H) (hW : s.WarmedH U.vm) : zWd g σ M U := by
  obtain ⟨-, -, -, -, -, -, -, -, hK, hX, hz⟩ := B
  refine ⟨by rw [hU]; exact hH, va_K.moved hW.alike hK, hX.to hW (fun a h1 h2 => ?_), by rw [hU]; exact Nat.lt_of_lt_of_le hz hS.1⟩
  rw [hU]; exact hS.2.1 a h1 (fun h => h2 h.1)
/-- behind a call -/
theorem zback {p : Program} {la : Launch} {e : Env} {s : State} {m : MethodId} {args : Array Value} {below : List Frame} {meth : Method} {c : Code} {H : Heap} {locs : List Loc} {ls : Array Slot} {as : Array Value} (B : zB g d p s m args meth c) (hA : zAg g σ = zAg g σ0) (hS : va_S (zAg g σ0) s.heap H locs) (hl : lv_has ls d.2.2.1 l)
    (hr : va_Run p la e (zrm d mm) s m args below meth c H locs kw.1 kw.2 mm'.1 mm'.2 (F0 m pc ls st) rest (zQ g σ Q' as) (zAg g σ))
    (k : ∀ v σ' M', Q' v σ' M' → zR g d mm σ0 Q (pc + 3) l (v.toList ++ rest) (kw.1 + mm'.1, kw.2 + mm'.2) σ' M') : W p la e (zrm d mm) s m args below meth c H locs kw.1 kw.2 (MQ below (zQ g σ0 Q) args s mm.1 mm.2 (zAg g σ0)) (F0 m pc ls st) := by
  intro T hT X
  obtain ⟨v, st₀, t, T', L, h0, X', hL, e1, e2, ⟨⟨v', σ', M', hv, hq, hH', hAg⟩, hF⟩, goes⟩ := hr T hT X
  cases hv
  have hS' : va_S (zAg g σ0) s.heap T'.heap (locs ++ L) := by
    refine ⟨Nat.le_trans hS.1 (by rw [e1, ← h0]; exact hF.1), fun q h1 h2 => ?_, fun q hq => ?_⟩
    · rw [e1, hF.2 q (by rw [h0]; exact Nat.lt_of_lt_of_le h1 hS.1) (by rw [hA]; exact h2), h0]
      exact hS.2.1 q h1 h2
    · rcases List.mem_append.mp hq with h | h
      · exact hS.2.2 q h
      · rw [← hA]; exact hL q h
  obtain ⟨t2, a1, b1⟩ := k v σ' M' hq la p e s m args below meth c B T'.heap (locs ++ L) ls (hAg.trans hA) hS' (by rw [e1]; exact hH') hl T' rfl X'
  exact ⟨t2, goes t2 a1, b1⟩
theorem zr_callV (hd : decode d.2.1 pc = .ok (.invokevirtual idx, 3)) (hL : zLv d d' idx n) (hs : zh σ a = (0, ci)) (hci : (zcls[ci]?).map (fun r => r.1) = some d'.1.cls) (hst : st = As.reverse ++ zA g a :: rest) (hn : As.length = n) (hw : (rest.map fun v => v.category).sum ≤ 8) (hm : kw.1 + mm'.1 ≤ mm.1 ∧ kw.2 + mm'.2 ≤ mm.2)
    (hc : zC g d' mm' (zA g a :: As) σ M Q') (k : ∀ v σ' M', Q' v σ' M' → zR g d mm σ0 Q (pc + 3) l (v.toList ++ rest) (kw.1 + mm'.1, kw.2 + mm'.2) σ' M') : zR g d mm σ0 Q pc l st kw σ M := by
  intro la p e s m args below meth c B H locs ls hA hS hH hl
  have B' := B
  obtain ⟨hx, hb, hml, -, -, hown, hts, -, hK, -⟩ := B'
  obtain ⟨⟨w1, w2, hdd, hf1, hf2⟩, w3, w4, w5⟩ := hL
  obtain ⟨r, hr, cell, q1, q2, q3, -⟩ := zc_obj (hH.1 a) hs
  have hG : GoodIn zt (wsV d.1.cls idx d'.1.cls d'.1 (zw d')) := fun w hw => by
    rcases List.mem_append.mp hw with h | h
    · simp only [List.mem_cons, List.not_mem_nil, or_false] at h
      rcases h with rfl | rfl | rfl | rfl
      · exact ⟨w3, zgoodOf w3⟩
      · exact ⟨w4, zgoodOf w4⟩
      · exact ⟨w5, zgoodOf w5⟩
      · exact ⟨w1, zgoodOf w1⟩
    · exact zgoodIn w2 w h
  rw [hr] at hci
  refine zback (mm' := mm') (as := (Value.ref (g.1 + a) :: As).toArray) B hA hS hl (va_runV (As := As) (rest := rest) (C := d'.1.cls) ⟨hx, hb, hml, hown, hts⟩ (hc la) (cwV n hts hG rfl rfl rfl ⟨rfl, hdd⟩ ⟨hf1, hf2⟩) ⟨zblind, ⟨cell, q1, by rw [q3]; rfl, ?_⟩, fun U hU hW => ⟨rfl, zpre B hS hH hU hW⟩⟩ rfl hn hl.1 hst (lv_room hw) hd hm) k
  rw [q2, ← Option.some.inj hci]; exact (hK.1 ci r hr).2.1
theorem zr_callS (hd : decode d.2.1 pc = .ok (.invokestatic idx, 3)) (hL : zLs d d' idx n) (hst : st = As.reverse ++ rest) (hn : As.length = n) (hw : (rest.map fun v => v.category).sum ≤ 8) (hm : kw.1 + mm'.1 ≤ mm.1 ∧ kw.2 + mm'.2 ≤ mm.2)
    (hc : zC g d' mm' As σ M Q') (k : ∀ v σ' M', Q' v σ' M' → zR g d mm σ0 Q (pc + 3) l (v.toList ++ rest) (kw.1 + mm'.1, kw.2 + mm'.2) σ' M') : zR g d mm σ0 Q pc l st kw σ M := by
  intro la p e s m args below meth c B H locs ls hA hS hH hl
  have B' := B
  obtain ⟨hx, hb, hml, -, -, hown, hts, -, hK, -⟩ := B'
  obtain ⟨⟨w1, w2, hdd, hf1, hf2⟩, w3, w4⟩ := hL
  have hG : GoodIn zt (va_wsS d.1.cls idx d'.1 (zw d')) := fun w hw => by
    rcases List.mem_append.mp hw with h | h
    · simp only [List.mem_cons, List.not_mem_nil, or_false] at h
      rcases h with rfl | rfl | rfl
      · exact ⟨w3, zgoodOf w3⟩
      · exact ⟨w4, zgoodOf w4⟩
      · exact ⟨w1, zgoodOf w1⟩
    · exact zgoodIn w2 w h
  exact zback (mm' := mm') (as := As.toArray) B hA hS hl (va_runS (As := As) (rest := rest) ⟨hx, hb, hml, hown, hts⟩ (hc la) (va_cwS n hts hG rfl rfl rfl hdd ⟨hf1, hf2⟩) ⟨zblind, fun U hU hW => ⟨rfl, zpre B hS hH hU hW⟩⟩ rfl hn hl.1 hst (lv_room hw) hd hm) k
theorem zr_callI (hd : decode d.2.1 pc = .ok (.invokespecial idx, 3)) (hL : zLi d d' idx n) (hst : st = As.reverse ++ zA g a :: rest) (hn : As.length = n) (hw : (rest.map fun v => v.category).sum ≤ 8) (hm : kw.1 + mm'.1 ≤ mm.1 ∧ kw.2 + mm'.2 ≤ mm.2)
    (hc : zC g d' mm' (zA g a :: As) σ M Q') (k : ∀ v σ' M', Q' v σ' M' → zR g d mm σ0 Q (pc + 3) l (v.toList ++ rest) (kw.1 + mm'.1, kw.2 + mm'.2) σ' M') : zR g d mm σ0 Q pc l st kw σ M := by
  intro la p e s m args below meth c B H locs ls hA hS hH hl
  have B' := B
  obtain ⟨hx, hb, hml, -, -, hown, hts, -, hK, -⟩ := B'
  obtain ⟨⟨w1, w2, hdd, hf1, hf2⟩, w3, w4, w5, w6⟩ := hL
  have hc := hc la
  have hG := zgoodIn w2
  exact zback (mm' := mm') (as := (Value.ref (g.1 + a) :: As).toArray) B hA hS hl (va_runI (As := As) (rest := rest) ⟨hx, hb, hml, hown, hts⟩ hc (cwI n hts hG (by unfold zw; rw [w6]) rfl rfl (hts _ w1) (hts _ w3) (hts _ w4) w5 hdd ⟨hf1, hf2⟩) ⟨zblind, fun U hU hW => ⟨rfl, zpre B hS hH hU hW⟩⟩ rfl hn hl.1 hst (lv_room hw) hd hm) k
end ZC
end
section
/-! ===== lN n to 2^64: shifts, and, or, masks, one bit ===== -/
theorem wb_tb (n : Nat) : (lN n).toBitVec = BitVec.ofNat 64 n := rfl
theorem wb_inj {a b : Int64} (h : a.toBitVec = b.toBitVec) : a = b := Int64.toBitVec_inj.mp h
theorem wb_tn {n : Nat} (h : n < 2 ^ 64) : (lN n).toBitVec.toNat = n := by rw [wb_tb, BitVec.toNat_ofNat, Nat.mod_eq_of_lt h]
theorem wb_of (x : Int64) : ∃ n, n < 2 ^ 64 ∧ x = lN n := ⟨x.toBitVec.toNat, x.toBitVec.isLt, wb_inj (by rw [wb_tb]; simp)⟩
theorem wb_of32 (x : Int32) : ∃ n, n < 2 ^ 32 ∧ x = nI n := ⟨x.toBitVec.toNat, x.toBitVec.isLt, Int32.toBitVec_inj.mp (by show _ = BitVec.ofNat 32 _; simp)⟩
theorem wb_c : ∀ k, k < 64 → ((nI k).toInt64 &&& 63) = lN k := by decide +kernel
theorem wb_cu : ∀ k, k < 64 → ((nI k).toInt64.toUInt64 &&& Int64.toUInt64 63) = UInt64.ofNat k := by decide +kernel
theorem wb_sm : ∀ k, k < 64 → (BitVec.ofNat 64 k).smod 64 = BitVec.ofNat 64 k := by decide +kernel
theorem wb_pw {a b : Nat} (h : a ≤ b) : 2 ^ b = 2 ^ a * 2 ^ (b - a) := by rw [← Nat.pow_add]; congr 1; omega
theorem wb_lt2 {a b : Nat} (h : a < b) : 2 ^ a < 2 ^ b := Nat.pow_lt_pow_right (by decide) h
theorem wb_mod (n : Nat) : lN n = lN (n % 2 ^ 64) := wb_inj (by rw [wb_tb, wb_tb]; apply BitVec.eq_of_toNat_eq; rw [BitVec.toNat_ofNat, BitVec.toNat_ofNat, Nat.mod_mod])
theorem wb_shr {n k : Nat} (hn : n < 2 ^ 64) (hk : k < 64) : ((lN n).toUInt64 >>> ((nI k).toInt64.toUInt64 &&& Int64.toUInt64 63)).toInt64 = lN (n / 2 ^ k) := by
  rw [wb_cu k hk]
  apply wb_inj
  apply BitVec.eq_of_toNat_eq
  show ((lN n).toUInt64 >>> UInt64.ofNat k).toNat = (BitVec.ofNat 64 _).toNat
  have h1 : (UInt64.ofNat k).toNat = k := by
    show (BitVec.ofNat 64 k).toNat = k
    rw [BitVec.toNat_ofNat, Nat.mod_eq_of_lt (by omega)]
  have h2 : (lN n).toUInt64.toNat = n := wb_tn hn
  rw [UInt64.toNat_shiftRight, h1, h2, Nat.mod_eq_of_lt hk, Nat.shiftRight_eq_div_pow, BitVec.toNat_ofNat, Nat.mod_eq_of_lt (Nat.lt_of_le_of_lt (Nat.div_le_self _ _) hn)]
theorem wb_shl (n : Nat) {k : Nat} (hk : k < 64) : lN n <<< ((nI k).toInt64 &&& 63) = lN (n * 2 ^ k) := by
  rw [wb_c k hk]
  apply wb_inj
  rw [Int64.toBitVec_shiftLeft, wb_tb, wb_tb, wb_tb, wb_sm k hk]
  apply BitVec.eq_of_toNat_eq
  rw [BitVec.shiftLeft_eq', BitVec.toNat_shiftLeft, BitVec.toNat_ofNat, BitVec.toNat_ofNat, BitVec.toNat_ofNat, Nat.mod_eq_of_lt (show k < 2 ^ 64 by omega), Nat.shiftLeft_eq, Nat.mul_mod, Nat.mod_mod, ← Nat.mul_mod]
theorem wb_and {a b : Nat} (ha : a < 2 ^ 64) (hb : b < 2 ^ 64) : lN a &&& lN b = lN (a &&& b) := by
  apply wb_inj
  rw [Int64.toBitVec_and, wb_tb, wb_tb, wb_tb]
  apply BitVec.eq_of_toNat_eq
  rw [BitVec.toNat_and, BitVec.toNat_ofNat, BitVec.toNat_ofNat, BitVec.toNat_ofNat, Nat.mod_eq_of_lt ha, Nat.mod_eq_of_lt hb, Nat.mod_eq_of_lt (Nat.and_lt_two_pow _ hb)]
theorem wb_or {a b : Nat} (ha : a < 2 ^ 64) (hb : b < 2 ^ 64) : lN a ||| lN b = lN (a ||| b) := by
  apply wb_inj
  rw [Int64.toBitVec_or, wb_tb, wb_tb, wb_tb]
  apply BitVec.eq_of_toNat_eq
  rw [BitVec.toNat_or, BitVec.toNat_ofNat, BitVec.toNat_ofNat, BitVec.toNat_ofNat, Nat.mod_eq_of_lt ha, Nat.mod_eq_of_lt hb, Nat.mod_eq_of_lt (Nat.or_lt_two_pow ha hb)]
theorem wb_mask {n k : Nat} (hn : n < 2 ^ 64) (hk : k < 64) : lN n &&& lN (2 ^ k - 1) = lN (n % 2 ^ k) := by
  rw [wb_and hn (by have := wb_lt2 hk; omega), Nat.and_two_pow_sub_one_eq_mod]
theorem wb_a1 {n : Nat} (hn : n < 2 ^ 64) : lN n &&& 1 = lN (n % 2) := wb_mask (k := 1) hn (by decide)
theorem wb_bit {n k : Nat} (hn : n < 2 ^ 64) (hk : k < 64) : ((lN n).toUInt64 >>> ((nI k).toInt64.toUInt64 &&& Int64.toUInt64 63)).toInt64 &&& 1 = lN (n / 2 ^ k % 2) := by
  rw [wb_shr hn hk, wb_a1 (Nat.lt_of_le_of_lt (Nat.div_le_self _ _) hn)]
/-! ===== lN to 2^62 under >> and >>> ===== -/
theorem pf_lI {a : Nat} (h : a < 2 ^ 63) : (lN a).toInt = (a : Int) := lg_ofNat_toInt h
theorem pf_shr {a d : Nat} {D : Int64} (hD : (D.toBitVec.smod 64).toNat = d) (h : a < 2 ^ 62) : lN a >>> D = lN (a / 2 ^ d) := by
  have hd : a / 2 ^ d ≤ a := Nat.div_le_self _ _
  apply Int64.toInt_inj.mp
  have e : (lN a >>> D).toInt = (lN a).toInt >>> d := by
    rw [← hD]
    exact BitVec.toInt_sshiftRight ..
  rw [e, Int.shiftRight_eq_div_pow, pf_lI (by omega), pf_lI (by omega)]
  rfl
theorem znn {x : Int} (h : 0 ≤ x) : ∃ n : Nat, x = (n : Int) := ⟨x.toNat, (Int.toNat_of_nonneg h).symm⟩
theorem zi_rem {x y : Int} (hx : 0 ≤ x ∧ x ≤ 2147483647) (hy : 0 < y ∧ y ≤ 2147483647) : Int32.ofInt x - Int32.ofInt x / Int32.ofInt y * Int32.ofInt y = Int32.ofInt (x % y) := by
  obtain ⟨a, rfl⟩ := znn hx.1
  obtain ⟨b, rfl⟩ := znn (Int.le_of_lt hy.1)
  exact pk_rem (by omega) (by omega) (by omega)
theorem zi_div {x y : Int} (hx : 0 ≤ x ∧ x ≤ 2147483647) (hy : 0 < y ∧ y ≤ 2147483647) : Int32.ofInt x / Int32.ofInt y = Int32.ofInt (x / y) := by
  obtain ⟨a, rfl⟩ := znn hx.1
  obtain ⟨b, rfl⟩ := znn (Int.le_of_lt hy.1)
  exact pk_div (by omega) (by omega) (by omega)
theorem zi_and {x : Int} {m : Int} (hm : m = 1 ∨ m = 3 ∨ m = 63 ∨ m = 255) : Int32.ofInt x &&& Int32.ofInt m = Int32.ofInt (x % (m + 1)) := by
  have key : ∀ k : Nat, k ≤ 8 → (Int32.ofInt m).toBitVec.toNat = 2 ^ k - 1 → m + 1 = (2 ^ k : Nat) → Int32.ofInt x &&& Int32.ofInt m = Int32.ofInt (x % (m + 1)) := by
    intro k hk h1 h2
    rw [pk_and (Int32.ofInt x) k h1, h2]
    apply Int32.toBitVec_inj.mp
    show BitVec.ofNat 32 _ = BitVec.ofInt 32 _
    apply BitVec.eq_of_toNat_eq
    have e : (Int32.ofInt x).toBitVec.toNat = (x % 4294967296).toNat := BitVec.toNat_ofInt ..
    rw [BitVec.toNat_ofNat, BitVec.toNat_ofInt, e]
    have hk' : k = 0 ∨ k = 1 ∨ k = 2 ∨ k = 3 ∨ k = 4 ∨ k = 5 ∨ k = 6 ∨ k = 7 ∨ k = 8 := by omega
    rcases hk' with rfl | rfl | rfl | rfl | rfl | rfl | rfl | rfl | rfl <;> simp <;> omega
  rcases hm with rfl | rfl | rfl | rfl
  · exact key 1 (by decide) (by decide) (by decide)
  · exact key 2 (by decide) (by decide) (by decide)
  · exact key 6 (by decide) (by decide) (by decide)
  · exact key 8 (by decide) (by decide) (by decide)
theorem zi_xor2 {x : Int} (hx : 0 ≤ x ∧ x ≤ 3) : Int32.ofInt x ^^^ Int32.ofInt 2 = Int32.ofInt (if x < 2 then x + 2 else x - 2) := by
  have : x = 0 ∨ x = 1 ∨ x = 2 ∨ x = 3 := by omega
  rcases this with rfl | rfl | rfl | rfl <;> decide
theorem zi_sm : ∀ k, k < 32 → ((nI k &&& 31).toBitVec.smod 32).toNat = k := by decide +kernel
theorem zi_shr {x k : Int} (hx : zin x) (hk : 0 ≤ k ∧ k ≤ 31) : Int32.ofInt x >>> (Int32.ofInt k &&& 31) = Int32.ofInt (x / (2 ^ k.toNat : Nat)) := by
  obtain ⟨n, rfl⟩ := znn hk.1
  apply Int32.toInt_inj.mp
  rw [show Int32.ofInt (n : Int) = nI n from rfl, pk_shr _ _ n (zi_sm n (by omega)), zi_to hx, Int.shiftRight_eq_div_pow]
  have h2 : (1 : Nat) ≤ 2 ^ n := Nat.one_le_two_pow
  have hz : zin (x / ((2 ^ n : Nat) : Int)) := by
    have hp : (0 : Int) < ((2 ^ n : Nat) : Int) := by omega
    constructor
    · rcases Int.lt_or_le x 0 with h | h
      · have := Int.le_ediv_of_mul_le (a := -2147483648) (b := x) hp (by have := hx.1; have : (-2147483648 : Int) * ((2 ^ n : Nat) : Int) ≤ -2147483648 * 1 := by apply Int.mul_le_mul_of_nonpos_left <;> omega
                                                                         omega)
        omega
      · have := Int.ediv_nonneg h (Int.le_of_lt hp); omega
    · rcases Int.lt_or_le x 0 with h | h
      · have := Int.ediv_neg_of_neg_of_pos h hp; omega
      · have := Int.ediv_le_self ((2 ^ n : Nat) : Int) h; have := hx.2; omega
  rw [zi_to (by simpa using hz)]
  simp
theorem zi_shl1 {k : Int} (hk : 0 ≤ k ∧ k ≤ 30) : Int32.ofInt 1 <<< (Int32.ofInt k &&& 31) = Int32.ofInt ((2 ^ k.toNat : Nat) : Int) := by
  obtain ⟨n, rfl⟩ := znn hk.1
  have h := pk_shlN (n := 1) (nI n &&& 31) n (zi_sm n (by omega)) (by rw [Nat.one_mul]; exact Nat.pow_lt_pow_right (by decide) (by omega))
  rw [Nat.one_mul] at h
  exact h
theorem zi_or {x y : Int} (hx : 0 ≤ x ∧ x ≤ 2147483647) (hy : 0 ≤ y ∧ y ≤ 2147483647) : Int32.ofInt x ||| Int32.ofInt y = Int32.ofInt ((x.toNat ||| y.toNat : Nat) : Int) := by
  obtain ⟨a, rfl⟩ := znn hx.1
  obtain ⟨b, rfl⟩ := znn hy.1
  apply Int32.toBitVec_inj.mp
  show BitVec.ofNat 32 a ||| BitVec.ofNat 32 b = BitVec.ofNat 32 (a ||| b)
  simp [BitVec.ofNat_or]
/-! longs -/
def zln (x : Int) : Prop := -9223372036854775808 ≤ x ∧ x ≤ 9223372036854775807
theorem zl_to {x : Int} (h : zln x) : (Int64.ofInt x).toInt = x := Int64.toInt_ofInt_of_le (by have := h.1; omega) (by have := h.2; omega)
theorem zl_rem {x y : Int} (hx : 0 ≤ x ∧ x ≤ 9223372036854775807) (hy : 0 < y ∧ y ≤ 9223372036854775807) : Int64.ofInt x - Int64.ofInt x / Int64.ofInt y * Int64.ofInt y = Int64.ofInt (x % y) := by
  obtain ⟨a, rfl⟩ := znn hx.1
  obtain ⟨b, rfl⟩ := znn (Int.le_of_lt hy.1)
  exact pk_lRem (by omega) (by omega) (by omega)
theorem zl_div {x y : Int} (hx : 0 ≤ x ∧ x ≤ 9223372036854775807) (hy : 0 < y ∧ y ≤ 9223372036854775807) : Int64.ofInt x / Int64.ofInt y = Int64.ofInt (x / y) := by
  obtain ⟨a, rfl⟩ := znn hx.1
  obtain ⟨b, rfl⟩ := znn (Int.le_of_lt hy.1)
  exact pk_lDiv (by omega) (by omega) (by omega)
theorem zl_and {x y : Int} (hx : 0 ≤ x ∧ x ≤ 9223372036854775807) (hy : 0 ≤ y ∧ y ≤ 9223372036854775807) : Int64.ofInt x &&& Int64.ofInt y = Int64.ofInt ((x.toNat &&& y.toNat : Nat) : Int) := by
  obtain ⟨a, rfl⟩ := znn hx.1
  obtain ⟨b, rfl⟩ := znn hy.1
  exact wb_and (by omega) (by omega)
theorem zl_or {x y : Int} (hx : 0 ≤ x ∧ x ≤ 9223372036854775807) (hy : 0 ≤ y ∧ y ≤ 9223372036854775807) : Int64.ofInt x ||| Int64.ofInt y = Int64.ofInt ((x.toNat ||| y.toNat : Nat) : Int) := by
  obtain ⟨a, rfl⟩ := znn hx.1
  obtain ⟨b, rfl⟩ := znn hy.1
  exact wb_or (by omega) (by omega)
theorem zl_shl {x k : Int} (hx : 0 ≤ x) (hk : 0 ≤ k ∧ k ≤ 63) : Int64.ofInt x <<< ((Int32.ofInt k).toInt64 &&& 63) = Int64.ofInt (x * (2 ^ k.toNat : Nat)) := by
  obtain ⟨a, rfl⟩ := znn hx
  obtain ⟨n, rfl⟩ := znn hk.1
  exact wb_shl a (by omega)
theorem zl_sm : ∀ k, k < 64 → ((lN k).toBitVec.smod 64).toNat = k := by decide +kernel
theorem zl_shr {x k : Int} (hx : 0 ≤ x ∧ x < 4611686018427387904) (hk : 0 ≤ k ∧ k ≤ 63) : Int64.ofInt x >>> ((Int32.ofInt k).toInt64 &&& 63) = Int64.ofInt (x / (2 ^ k.toNat : Nat)) := by
  obtain ⟨a, rfl⟩ := znn hx.1
  obtain ⟨n, rfl⟩ := znn hk.1
  rw [show (Int32.ofInt (n : Int)).toInt64 &&& 63 = lN n from wb_c n (by omega)]
  exact pf_shr (zl_sm n (by omega)) (by omega)
def zcmp (x y : Int) : Int := if y < x then 1 else if x = y then 0 else -1
theorem zl_cmp {x y : Int} (hx : zln x) (hy : zln y) : lg_cmp (Int64.ofInt x) (Int64.ofInt y) = Int32.ofInt (zcmp x y) := by
  unfold lg_cmp zcmp
  simp only [gt_iff_lt, Int64.lt_iff_toInt_lt, ← Int64.toInt_inj, zl_to hx, zl_to hy]
  split
  · rfl
  · split <;> rfl
theorem zi_i2l {x : Int} (hx : zin x) : (Int32.ofInt x).toInt64 = Int64.ofInt x := by
  apply Int64.toInt_inj.mp
  rw [zl_to ⟨by have := hx.1; omega, by have := hx.2; omega⟩]
  exact (Int32.toInt_toInt64 _).trans (zi_to hx)
section ZR4
variable {g : zG} {d : zD} {mm kw : Nat × Nat} {σ0 σ : zS} {Q : zP} {pc pc' : Nat} {l l' : List (Nat × Value)} {st st' : List Value} {M : zM}
theorem zne {x : Int} (h : 0 < x ∧ x ≤ 2147483647) : ¬ Int32.ofInt x = 0 := fun e => by
  have := (zi_eq ⟨by omega, by omega⟩ zin0).mp e; omega
theorem znl {x : Int} (h : 0 < x ∧ x ≤ 9223372036854775807) : ¬ Int64.ofInt x = 0 := fun e => by
  have h2 := congrArg Int64.toInt e
  rw [zl_to ⟨by omega, by omega⟩] at h2
  have : (0 : Int64).toInt = 0 := rfl
  omega
theorem zr_irem {x y : Int} (hd : decode d.2.1 pc = .ok (.irem, 1)) (hx : 0 ≤ x ∧ x ≤ 2147483647) (hy : 0 < y ∧ y ≤ 2147483647) (k : zR g d mm σ0 Q (pc + 1) l (zI (x % y) :: st) kw σ M) : zR g d mm σ0 Q pc l (zI y :: zI x :: st) kw σ M :=
  zr_st (fun B hl k => lv_irem B.1 B.2.1 hd (zne hy) (by rw [zi_rem hx hy]; exact k)) k
theorem zr_idiv {x y : Int} (hd : decode d.2.1 pc = .ok (.idiv, 1)) (hx : 0 ≤ x ∧ x ≤ 2147483647) (hy : 0 < y ∧ y ≤ 2147483647) (k : zR g d mm σ0 Q (pc + 1) l (zI (x / y) :: st) kw σ M) : zR g d mm σ0 Q pc l (zI y :: zI x :: st) kw σ M :=
  zr_st (fun B hl k => lv_idiv B.1 B.2.1 hd (zne hy) (by rw [zi_div hx hy]; exact k)) k
theorem zr_iand {x m : Int} (hd : decode d.2.1 pc = .ok (.iand, 1)) (hm : m = 1 ∨ m = 3 ∨ m = 63 ∨ m = 255) (k : zR g d mm σ0 Q (pc + 1) l (zI (x % (m + 1)) :: st) kw σ M) : zR g d mm σ0 Q pc l (zI m :: zI x :: st) kw σ M :=
  zr_st (fun B hl k => lv_iand B.1 B.2.1 hd (by rw [zi_and hm]; exact k)) k
theorem zr_ixor {x : Int} (hd : decode d.2.1 pc = .ok (.ixor, 1)) (hx : 0 ≤ x ∧ x ≤ 3) (k : zR g d mm σ0 Q (pc + 1) l (zI (if x < 2 then x + 2 else x - 2) :: st) kw σ M) : zR g d mm σ0 Q pc l (zI 2 :: zI x :: st) kw σ M :=
  zr_st (fun B hl k => lv_ixor B.1 B.2.1 hd (by rw [zi_xor2 hx]; exact k)) k
theorem zr_ishr {x y : Int} (hd : decode d.2.1 pc = .ok (.ishr, 1)) (hx : zin x) (hy : 0 ≤ y ∧ y ≤ 31) (k : zR g d mm σ0 Q (pc + 1) l (zI (x / (2 ^ y.toNat : Nat)) :: st) kw σ M) : zR g d mm σ0 Q pc l (zI y :: zI x :: st) kw σ M :=
  zr_st (fun B hl k => lv_ishr B.1 B.2.1 hd (by rw [zi_shr hx hy]; exact k)) k
theorem zr_ishl {y : Int} (hd : decode d.2.1 pc = .ok (.ishl, 1)) (hy : 0 ≤ y ∧ y ≤ 30) (k : zR g d mm σ0 Q (pc + 1) l (zI ((2 ^ y.toNat : Nat) : Int) :: st) kw σ M) : zR g d mm σ0 Q pc l (zI y :: zI 1 :: st) kw σ M :=
  zr_st (fun B hl k => lv_ishl B.1 B.2.1 hd (by rw [zi_shl1 hy]; exact k)) k
theorem zr_ior {x y : Int} (hd : decode d.2.1 pc = .ok (.ior, 1)) (hx : 0 ≤ x ∧ x ≤ 2147483647) (hy : 0 ≤ y ∧ y ≤ 2147483647) (k : zR g d mm σ0 Q (pc + 1) l (zI ((x.toNat ||| y.toNat : Nat) : Int) :: st) kw σ M) : zR g d mm σ0 Q pc l (zI y :: zI x :: st) kw σ M :=
  zr_st (fun B hl k => lv_ior B.1 B.2.1 hd (by rw [zi_or hx hy]; exact k)) k
theorem zr_ladd {x y : Int} (hd : decode d.2.1 pc = .ok (.ladd, 1)) (k : zR g d mm σ0 Q (pc + 1) l (zL (x + y) :: st) kw σ M) : zR g d mm σ0 Q pc l (zL y :: zL x :: st) kw σ M :=
  zr_st (fun B hl k => lv_ladd B.1 B.2.1 hd (by rw [← Int64.ofInt_add]; exact k)) k
theorem zr_lsub {x y : Int} (hd : decode d.2.1 pc = .ok (.lsub, 1)) (k : zR g d mm σ0 Q (pc + 1) l (zL (x - y) :: st) kw σ M) : zR g d mm σ0 Q pc l (zL y :: zL x :: st) kw σ M :=
  zr_st (fun B hl k => lv_lsub B.1 B.2.1 hd (by rw [← Int64.ofInt_sub]; exact k)) k
theorem zr_lmul {x y : Int} (hd : decode d.2.1 pc = .ok (.lmul, 1)) (k : zR g d mm σ0 Q (pc + 1) l (zL (x * y) :: st) kw σ M) : zR g d mm σ0 Q pc l (zL y :: zL x :: st) kw σ M :=
  zr_st (fun B hl k => lv_lmul B.1 B.2.1 hd (by rw [← Int64.ofInt_mul]; exact k)) k
theorem zr_ldiv {x y : Int} (hd : decode d.2.1 pc = .ok (.ldiv, 1)) (hx : 0 ≤ x ∧ x ≤ 9223372036854775807) (hy : 0 < y ∧ y ≤ 9223372036854775807) (k : zR g d mm σ0 Q (pc + 1) l (zL (x / y) :: st) kw σ M) : zR g d mm σ0 Q pc l (zL y :: zL x :: st) kw σ M :=
  zr_st (fun B hl k => lv_ldiv B.1 B.2.1 hd (znl hy) (by rw [zl_div hx hy]; exact k)) k
theorem zr_lrem {x y : Int} (hd : decode d.2.1 pc = .ok (.lrem, 1)) (hx : 0 ≤ x ∧ x ≤ 9223372036854775807) (hy : 0 < y ∧ y ≤ 9223372036854775807) (k : zR g d mm σ0 Q (pc + 1) l (zL (x % y) :: st) kw σ M) : zR g d mm σ0 Q pc l (zL y :: zL x :: st) kw σ M :=
  zr_st (fun B hl k => lv_lrem B.1 B.2.1 hd (znl hy) (by rw [zl_rem hx hy]; exact k)) k
theorem zr_land {x y : Int} (hd : decode d.2.1 pc = .ok (.land, 1)) (hx : 0 ≤ x ∧ x ≤ 9223372036854775807) (hy : 0 ≤ y ∧ y ≤ 9223372036854775807) (k : zR g d mm σ0 Q (pc + 1) l (zL ((x.toNat &&& y.toNat : Nat) : Int) :: st) kw σ M) : zR g d mm σ0 Q pc l (zL y :: zL x :: st) kw σ M :=
  zr_st (fun B hl k => lv_land B.1 B.2.1 hd (by rw [zl_and hx hy]; exact k)) k
theorem zr_lor {x y : Int} (hd : decode d.2.1 pc = .ok (.lor, 1)) (hx : 0 ≤ x ∧ x ≤ 9223372036854775807) (hy : 0 ≤ y ∧ y ≤ 9223372036854775807) (k : zR g d mm σ0 Q (pc + 1) l (zL ((x.toNat ||| y.toNat : Nat) : Int) :: st) kw σ M) : zR g d mm σ0 Q pc l (zL y :: zL x :: st) kw σ M :=
  zr_st (fun B hl k => lv_lor B.1 B.2.1 hd (by rw [zl_or hx hy]; exact k)) k
theorem zr_lshl {x y : Int} (hd : decode d.2.1 pc = .ok (.lshl, 1)) (hx : 0 ≤ x) (hy : 0 ≤ y ∧ y ≤ 63) (k : zR g d mm σ0 Q (pc + 1) l (zL (x * (2 ^ y.toNat : Nat)) :: st) kw σ M) : zR g d mm σ0 Q pc l (zI y :: zL x :: st) kw σ M :=
  zr_st (fun B hl k => lv_lshl B.1 B.2.1 hd (zl_shl hx hy) k) k
theorem zr_lshr {x y : Int} (hd : decode d.2.1 pc = .ok (.lshr, 1)) (hx : 0 ≤ x ∧ x < 4611686018427387904) (hy : 0 ≤ y ∧ y ≤ 63) (k : zR g d mm σ0 Q (pc + 1) l (zL (x / (2 ^ y.toNat : Nat)) :: st) kw σ M) : zR g d mm σ0 Q pc l (zI y :: zL x :: st) kw σ M :=
  zr_st (fun B hl k => lv_lshr B.1 B.2.1 hd (zl_shr hx hy) k) k
theorem zr_lcmp {x y : Int} (hd : decode d.2.1 pc = .ok (.lcmp, 1)) (hx : zln x) (hy : zln y) (k : zR g d mm σ0 Q (pc + 1) l (zI (zcmp x y) :: st) kw σ M) : zR g d mm σ0 Q pc l (zL y :: zL x :: st) kw σ M :=
  zr_st (fun B hl k => W.lcmp B.1 B.2.1 hd (by rw [zl_cmp hx hy]; exact k)) k
theorem zr_i2l {x : Int} (hd : decode d.2.1 pc = .ok (.i2l, 1)) (hx : zin x) (k : zR g d mm σ0 Q (pc + 1) l (zL x :: st) kw σ M) : zR g d mm σ0 Q pc l (zI x :: st) kw σ M :=
  zr_st (fun B hl k => lv_i2l B.1 B.2.1 hd (zi_i2l hx) k) k
theorem zr_lconst {n : Fin 2} {x : Int} (hd : decode d.2.1 pc = .ok (.lconst n, 1)) (hx : Int64.ofNat (n : Nat) = Int64.ofInt x) (k : zR g d mm σ0 Q (pc + 1) l (zL x :: st) kw σ M) : zR g d mm σ0 Q pc l st kw σ M :=
  zr_st (fun B hl k => lv_lconst B.1 B.2.1 hd hx k) k
theorem zr_ldc {idx : Nat} {x : Int} (hd : decode d.2.1 pc = .ok (.ldc idx, 2)) (hc : Cond.constant d.1.cls idx (Int32.ofInt x) ∈ zt) (k : zR g d mm σ0 Q (pc + 2) l (zI x :: st) kw σ M) : zR g d mm σ0 Q pc l st kw σ M :=
  zr_st (fun B hl k => lv_ldc B.1 B.2.1 B.2.2.2.2.2.1 (B.2.2.2.2.2.2.1 _ hc) hd k) k
theorem zr_ldcw {idx : Nat} {x : Int} (hd : decode d.2.1 pc = .ok (.ldc_w idx, 3)) (hc : Cond.constant d.1.cls idx (Int32.ofInt x) ∈ zt) (k : zR g d mm σ0 Q (pc + 3) l (zI x :: st) kw σ M) : zR g d mm σ0 Q pc l st kw σ M :=
  zr_st (fun B hl k => lv_ldcw B.1 B.2.1 B.2.2.2.2.2.1 (B.2.2.2.2.2.2.1 _ hc) hd k) k
theorem zr_ldc2 {idx : Nat} {x : Int} (hd : decode d.2.1 pc = .ok (.ldc2_w idx, 3)) (hc : Cond.constantLong d.1.cls idx (Int64.ofInt x) ∈ zt) (k : zR g d mm σ0 Q (pc + 3) l (zL x :: st) kw σ M) : zR g d mm σ0 Q pc l st kw σ M :=
  zr_st (fun B hl k => lv_ldc2 B.1 B.2.1 B.2.2.2.2.2.1 (B.2.2.2.2.2.2.1 _ hc) hd k) k
theorem zr_dup {v : Value} (hd : decode d.2.1 pc = .ok (.dup, 1)) (hv : v.category = 1) (k : zR g d mm σ0 Q (pc + 1) l (v :: v :: st) kw σ M) : zR g d mm σ0 Q pc l (v :: st) kw σ M :=
  zr_st (fun B hl k => lv_dup B.1 B.2.1 hd hv k) k
theorem zr_pop {v : Value} (hd : decode d.2.1 pc = .ok (.pop, 1)) (hv : v.category = 1) (k : zR g d mm σ0 Q (pc + 1) l st kw σ M) : zR g d mm σ0 Q pc l (v :: st) kw σ M :=
  zr_st (fun B hl k => lv_pop B.1 B.2.1 hd hv k) k
theorem zr_dup2 {v w : Value} (hd : decode d.2.1 pc = .ok (.dup2, 1)) (hv : v.category = 1) (hw : w.category = 1) (k : zR g d mm σ0 Q (pc + 1) l (v :: w :: v :: w :: st) kw σ M) : zR g d mm σ0 Q pc l (v :: w :: st) kw σ M :=
  zr_st (fun B hl k => lv_dup2_11 B.1 B.2.1 hd hv hw k) k
theorem zr_lstore_n {j : Fin 4} {x : Int} (hd : decode d.2.1 pc = .ok (.lstore_n j, 1)) (hn : (j : Nat) + 1 < d.2.2.1) (ks : List Nat) (h : lv_pick (((j : Nat), zL x) :: l.filter (fun q => !(q.1 == (j : Nat)) && (!(q.1 == (j : Nat) + 1) && !(q.1 + 1 == (j : Nat) && q.2.category == 2)))) ks = l')
    (k : zR g d mm σ0 Q (pc + 1) l' st kw σ M) : zR g d mm σ0 Q pc l (zL x :: st) kw σ M :=
  fun la p e s m args below meth c B H locs ls hA hS hH hl => lv_lstore_n B.1 B.2.1 hd rfl hl hn rfl (fun ls' hl' => k la p e s m args below meth c B H locs ls' hA hS hH (lv_sub hl' ks h))
theorem zr_lstore {j : Nat} {x : Int} (hd : decode d.2.1 pc = .ok (.lstore j, 2)) (hn : j + 1 < d.2.2.1) (ks : List Nat) (h : lv_pick ((j, zL x) :: l.filter (fun q => !(q.1 == j) && (!(q.1 == j + 1) && !(q.1 + 1 == j && q.2.category == 2)))) ks = l')
    (k : zR g d mm σ0 Q (pc + 2) l' st kw σ M) : zR g d mm σ0 Q pc l (zL x :: st) kw σ M :=
  fun la p e s m args below meth c B H locs ls hA hS hH hl => lv_lstore B.1 B.2.1 hd hl hn rfl (fun ls' hl' => k la p e s m args below meth c B H locs ls' hA hS hH (lv_sub hl' ks h))
/-- switches -/
theorem zr_tin {dflt lo hi x off : Int} {offs : Array Int} {len tgt : Nat} (hd : decode d.2.1 pc = .ok (.tableswitch dflt lo hi offs, len)) (hx : zin x) (h1 : ¬ x < lo) (h2 : ¬ hi < x) (ho : offs[(x - lo).toNat]? = some off) (ht : (pc : Int) + off = (tgt : Int)) (k : zR g d mm σ0 Q tgt l st kw σ M) : zR g d mm σ0 Q pc l (zI x :: st) kw σ M :=
  zr_st (fun B hl k => lv_tableIn B.1 B.2.1 hd (by rw [zi_to hx]; exact h1) (by rw [zi_to hx]; exact h2) (by rw [zi_to hx]; exact ho) ht k) k
theorem zr_tout {dflt lo hi x : Int} {offs : Array Int} {len tgt : Nat} (hd : decode d.2.1 pc = .ok (.tableswitch dflt lo hi offs, len)) (hx : zin x) (h : x < lo ∨ hi < x) (ht : (pc : Int) + dflt = (tgt : Int)) (k : zR g d mm σ0 Q tgt l st kw σ M) : zR g d mm σ0 Q pc l (zI x :: st) kw σ M :=
  zr_st (fun B hl k => lv_tableOut B.1 B.2.1 hd (by rw [zi_to hx]; exact h) ht k) k
theorem zr_look {dflt x off : Int} {ps : Array (Int × Int)} {len tgt : Nat} (hd : decode d.2.1 pc = .ok (.lookupswitch dflt ps, len)) (hp : (ps.toList.zip (ps.toList.drop 1)).all (fun (a, next) => a.1 < next.1) = true) (hx : zin x) (ho : Op.lookupswitch.offset ps.toList dflt x = off) (ht : (pc : Int) + off = (tgt : Int)) (k : zR g d mm σ0 Q tgt l st kw σ M) : zR g d mm σ0 Q pc l (zI x :: st) kw σ M :=
  zr_st (fun B hl k => lv_lookup B.1 B.2.1 hd hp (by rw [zi_to hx]; exact ho) ht k) k
/-- the greater, the lesser, without a sign -/
def zLm (d : zD) (idx : Nat) (y : MethodName) (b : ByteArray) (n : Nat) : Prop := Cond.methodLink d.1.cls idx y ∈ zt ∧ Cond.static y ∈ zt ∧ Cond.initialized "java/lang/Math" ∈ zt ∧ Cond.code y b n (some .int) ∈ zt ∧ 1 ≤ d.2.2.2.2.1 ∧ 21 ≤ d.2.2.2.2.2
theorem zr_max {idx : Nat} {x y : Int} (hd : decode d.2.1 pc = .ok (.invokestatic idx, 3)) (hL : zLm d idx Lib.Math.max.name Lib.Math.max.code 2) (hx : zin x) (hy : zin y) (hw : (st.map fun v => v.category).sum ≤ 8) (hk : kw.1 ≤ mm.1 ∧ kw.2 ≤ mm.2) (k : zR g d mm σ0 Q (pc + 3) l (zI (max x y) :: st) kw σ M) : zR g d mm σ0 Q pc l (zI y :: zI x :: st) kw σ M := by
  intro la p e s m args below meth c B H locs ls hA hS hH hl
  have kk := k la p e s m args below meth c B H locs ls hA hS hH hl
  obtain ⟨w1, w2, w3, w4, w5, w6⟩ := hL
  have hts := B.2.2.2.2.2.2.1
  refine va_mmax B.1 B.2.1 (B.2.2.1.trans hl.1.symm) B.2.2.2.2.2.1 (hts _ w1) (hts _ w2) (hts _ w3) (hts _ w4) w5 (by show _ ≤ d.2.2.2.2.2; omega) hk.1 hk.2 hd ?_
  have e : (if Int32.ofInt x < Int32.ofInt y then Int32.ofInt y else Int32.ofInt x) = Int32.ofInt (max x y) := by
    by_cases h : x < y
    · rw [if_pos ((zi_lt hx hy).mpr h), Int.max_eq_right (Int.le_of_lt h)]
    · rw [if_neg (fun q => h ((zi_lt hx hy).mp q)), Int.max_eq_left (by omega)]
  rw [e]; exact kk
theorem zr_min {idx : Nat} {x y : Int} (hd : decode d.2.1 pc = .ok (.invokestatic idx, 3)) (hL : zLm d idx Lib.Math.min.name Lib.Math.min.code 2) (hx : zin x) (hy : zin y) (hw : (st.map fun v => v.category).sum ≤ 8) (hk : kw.1 ≤ mm.1 ∧ kw.2 ≤ mm.2) (k : zR g d mm σ0 Q (pc + 3) l (zI (min x y) :: st) kw σ M) : zR g d mm σ0 Q pc l (zI y :: zI x :: st) kw σ M := by
  intro la p e s m args below meth c B H locs ls hA hS hH hl
  have kk := k la p e s m args below meth c B H locs ls hA hS hH hl
  obtain ⟨w1, w2, w3, w4, w5, w6⟩ := hL
  have hts := B.2.2.2.2.2.2.1
  refine va_mmin B.1 B.2.1 (B.2.2.1.trans hl.1.symm) B.2.2.2.2.2.1 (hts _ w1) (hts _ w2) (hts _ w3) (hts _ w4) w5 (by show _ ≤ d.2.2.2.2.2; omega) hk.1 hk.2 hd ?_
  have e : (if Int32.ofInt y < Int32.ofInt x then Int32.ofInt y else Int32.ofInt x) = Int32.ofInt (min x y) := by
    by_cases h : y < x
    · rw [if_pos ((zi_lt hy hx).mpr h), Int.min_eq_right (Int.le_of_lt h)]
    · rw [if_neg (fun q => h ((zi_lt hy hx).mp q)), Int.min_eq_left (by omega)]
  rw [e]; exact kk
theorem zr_abs {idx : Nat} {x : Int} (hd : decode d.2.1 pc = .ok (.invokestatic idx, 3)) (hL : zLm d idx Lib.Math.abs.name Lib.Math.abs.code 1) (hx : zin x) (hw : (st.map fun v => v.category).sum ≤ 8) (hk : kw.1 ≤ mm.1 ∧ kw.2 ≤ mm.2) (k : zR g d mm σ0 Q (pc + 3) l (zI (if 0 ≤ x then x else 0 - x) :: st) kw σ M) : zR g d mm σ0 Q pc l (zI x :: st) kw σ M := by
  intro la p e s m args below meth c B H locs ls hA hS hH hl
  have kk := k la p e s m args below meth c B H locs ls hA hS hH hl
  obtain ⟨w1, w2, w3, w4, w5, w6⟩ := hL
  have hts := B.2.2.2.2.2.2.1
  refine va_mabs B.1 B.2.1 (B.2.2.1.trans hl.1.symm) B.2.2.2.2.2.1 (hts _ w1) (hts _ w2) (hts _ w3) (hts _ w4) w5 (by show _ ≤ d.2.2.2.2.2; omega) hk.1 hk.2 hd ?_
  have e : (if 0 ≤ Int32.ofInt x then Int32.ofInt x else 0 - Int32.ofInt x) = Int32.ofInt (if 0 ≤ x then x else 0 - x) := by
    have h0 : (0 : Int32) = Int32.ofInt 0 := rfl
    rw [h0]
    by_cases h : 0 ≤ x
    · rw [if_pos ((zi_le zin0 hx).mpr h), if_pos h]
    · rw [if_neg (fun q => h ((zi_le zin0 hx).mp q)), if_neg h, ← Int32.ofInt_sub]
  rw [e]; exact kk
/-- static tables -/
def zTb (g : zG) (i : Nat) : Value := .ref (g.2.2.2 i)
theorem zS_A {s : State} {H : Heap} {locs : List Loc} (hS : va_S (zAg g σ0) s.heap H locs) : ∀ q : Nat, q < s.heap.size → ¬ g.1 < q → H[q]? = s.heap[q]? := fun q h1 h2 => hS.2.1 q h1 (fun h => h2 h.1)
theorem zr_gets {idx i : Nat} {nm : String} (hd : decode d.2.1 pc = .ok (.getstatic idx, 3)) (hi : (i = 0 ∧ nm = "RULE_LEAST") ∨ (i = 1 ∧ nm = "RULE_MOST")) (hL : Cond.fieldLink d.1.cls idx "SandMarch" nm "[I" ∈ zt ∨ (d.1.cls, idx, nm) ∈ znf) (k : zR g d mm σ0 Q (pc + 3) l (zTb g i :: st) kw σ M) : zR g d mm σ0 Q pc l st kw σ M := by
  intro la p e s m args below meth c B H locs ls hA hS hH hl
  have kk := k la p e s m args below meth c B H locs ls hA hS hH hl
  obtain ⟨hx, hb, -, -, -, hown, hts, -, -, hX, -⟩ := B
  have hZ : va_Z "SandMarch" nm "[I" (zTb g i) (zAg g σ0) s s.heap := by
    rcases hi with ⟨rfl, rfl⟩ | ⟨rfl, rfl⟩
    · exact hX.1.narrow (fun q h => h.1)
    · exact hX.2.2.1.narrow (fun q h => h.1)
  rcases hL with h | h
  · exact va_gets hx hb hZ hS hown (hts _ h) (fun _ h => h) hd kk
  · exact va_getsN hx hb hZ hS hown ((hX.2.2.2.2.2.2.2.2.2.2 _ h).use rfl) (fun _ h => h) hd kk
def zTv (i : Nat) (j : Nat) : Int := if i = 0 then [1, 1, 0, 0].getD j 0 else [6, 9, 16, 16].getD j 0
theorem zr_tald {i : Nat} {x : Int} (hd : decode d.2.1 pc = .ok (.iaload, 1)) (hi : i = 0 ∨ i = 1) (hx : 0 ≤ x ∧ x < 4) (k : zR g d mm σ0 Q (pc + 1) l (zI (zTv i x.toNat) :: st) kw σ M) : zR g d mm σ0 Q pc l (zI x :: zTb g i :: st) kw σ M := by
  intro la p e s m args below meth c B H locs ls hA hS hH hl
  have kk := k la p e s m args below meth c B H locs ls hA hS hH hl
  obtain ⟨hxx, hb, -, -, -, hown, hts, -, -, hX, -⟩ := B
  have hin := zi_in (n := 4) hx.1 hx.2 (by decide)
  have he : (Int32.ofInt x).toNatClampNeg = x.toNat := zi_nn ⟨by omega, by omega⟩ hx.1
  rcases hi with rfl | rfl
  · exact va_ti hxx hb (hX.2.1.narrow (fun q h => h.1)) hS hin (v := zI (zTv 0 x.toNat)) (by rw [he]; rfl) hd kk
  · exact va_ti hxx hb (hX.2.2.2.1.narrow (fun q h => h.1)) hS hin (v := zI (zTv 1 x.toNat)) (by rw [he]; rfl) hd kk
end ZR4
end
section
def zrw (M : zM) (b : Nat) (f : Int → Int) : zM := fun c j => if c = b then f j else M c j
theorem zrw_ne {M : zM} {b c : Nat} {f : Int → Int} (h : c ≠ b) (j : Int) : zrw M b f c j = M c j := by simp [zrw, h]
theorem zrw_at (M : zM) (b : Nat) (f : Int → Int) (j : Int) : zrw M b f b j = f j := by simp [zrw]
def zcpy (f h : Int → Int) (sp dp n : Int) : Int → Int := fun k => if dp ≤ k ∧ k < dp + n then f (sp + (k - dp)) else h k
def zLy (d : zD) (idx : Nat) : Prop := Cond.methodLink d.1.cls idx arraycopyName ∈ zt ∧ Cond.native arraycopyName ∈ zt ∧ Cond.static arraycopyName ∈ zt ∧ Cond.initialized "java/lang/System" ∈ zt ∧ 1 ≤ d.2.2.2.2.1 ∧ 8 + (nativeFrameWords "java/lang/System" "arraycopy" 5 + 11) ≤ d.2.2.2.2.2
theorem znlt {z : Int} (hz : zin z) (h0 : 0 ≤ z) : ¬ Int32.ofInt z < 0 := fun h => by
  have h' : Int32.ofInt z < Int32.ofInt 0 := h
  rw [zi_lt hz zin0] at h'; omega
section ZR5
variable {g : zG} {d d' : zD} {mm mm' kw : Nat × Nat} {σ0 σ : zS} {Q Q' : zP} {pc pc' : Nat} {l l' : List (Nat × Value)} {st st' : List Value} {M : zM}
theorem zr_copy {idx a b n0 n1 : Nat} {sp dp n : Int} (hd : decode d.2.1 pc = .ok (.invokestatic idx, 3)) (hL : zLy d idx) (ha : zh σ a = (1, n0)) (hb : zh σ b = (1, n1)) (h1 : 0 ≤ sp) (h2 : 0 ≤ dp) (h3 : 0 ≤ n) (h4 : sp + n ≤ n0) (h5 : dp + n ≤ n1) (hn : n0 ≤ 100000 ∧ n1 ≤ 100000) (hw : (st.map fun v => v.category).sum ≤ 8)
    (k : zR g d mm σ0 Q (pc + 3) l st kw σ (zrw M b (zcpy (M a) (M b) sp dp n))) : zR g d mm σ0 Q pc l (zI n :: zI dp :: zA g b :: zI sp :: zA g a :: st) kw σ M := by
  intro la p e s m args below meth c B H locs ls hA hS hH hl
  have k := k la p e s m args below meth c B
  obtain ⟨w1, w2, w3, w4, w5, w6⟩ := hL
  have hts := B.2.2.2.2.2.2.1
  have hK := B.2.2.2.2.2.2.2.2.1
  have z1 : zin sp := ⟨by omega, by omega⟩
  have z2 : zin dp := ⟨by omega, by omega⟩
  have z3 : zin n := ⟨by omega, by omega⟩
  have c1 := zi_nn z1 h1
  have c2 := zi_nn z2 h2
  have c3 := zi_nn z3 h3
  intro T hT X
  have hc0 : H[g.1 + a]? = some (vp_cell (g.2.2.1 1) (n0, .inl (fun j => Int32.ofInt (M a (j : Int))))) := zc_arr (hH.1 a) ha (by decide) (by decide)
  have hc1 : H[g.1 + b]? = some (vp_cell (g.2.2.1 1) (n1, .inl (fun j => Int32.ofInt (M b (j : Int))))) := zc_arr (hH.1 b) hb (by decide) (by decide)
  obtain ⟨-, k0, hk0, cm0, hkk0⟩ := (hK.2 0 _ rfl).1 n0 (fun j => .int (Int32.ofInt (M a (j : Int))))
  obtain ⟨-, k1, hk1, cm1, hkk1⟩ := (hK.2 0 _ rfl).1 n1 (fun j => .int (Int32.ofInt (M b (j : Int))))
  obtain ⟨vm', X', step⟩ := X.arraycopy B.1 B.2.2.2.2.2.1 (hts _ w1) (hts _ w2) (hts _ w3) (hts _ w4) (src := g.1 + a) (dst := g.1 + b) (cs := vp_cell (g.2.2.1 1) (n0, .inl (fun j => Int32.ofInt (M a (j : Int))))) (cd := vp_cell (g.2.2.1 1) (n1, .inl (fun j => Int32.ofInt (M b (j : Int))))) (srcPos := Int32.ofInt sp) (destPos := Int32.ofInt dp) (n := Int32.ofInt n) (by rw [hT]; exact hc0) (by rw [hT]; exact hc1)
    (fun _ h => by cases h) (fun _ h => by cases h) (fun h => by cases h) (fun h => by cases h) hk0 hk1 hkk0 hkk1 (by simp [refKind]) (znlt z1 h1) (znlt z2 h2) (znlt z3 h3)
    (by rw [zi_to z1, zi_to z3]; show ¬ _ > ((arrV _ n0 _).slots.size : Int); rw [arrV_size]; omega)
    (by rw [zi_to z2, zi_to z3]; show ¬ _ > ((arrV _ n1 _).slots.size : Int); rw [arrV_size]; omega)
    (fun vm₁ _ i hi => by
      have e : (vp_cell (g.2.2.1 1) (n0, .inl (fun j => Int32.ofInt (M a (j : Int))))).slots.getD ((Int32.ofInt sp).toNatClampNeg + i) .null = .int (Int32.ofInt (M a (((Int32.ofInt sp).toNatClampNeg + i : Nat) : Int))) := by
        show (arrV (g.2.2.1 1) n0 (fun j => .int (Int32.ofInt (M a (j : Int))))).slots.getD _ _ = _
        rw [Array.getD_eq_getD_getElem?, arrV_read _ _ (by omega)]
        rfl
      refine ⟨?_, ?_⟩
      · rw [e]; rfl
      · rw [e]; exact trivial)
    (g := F0 m pc ls (.int (Int32.ofInt n) :: .int (Int32.ofInt dp) :: .ref (g.1 + b) :: .int (Int32.ofInt sp) :: .ref (g.1 + a) :: st)) rfl (by show ls.size = _; rw [hl.1, B.2.2.1]) (rest := st) rfl (by rw [B.2.1]; exact hd) w5 (by show 2 * 0 + _ + _ ≤ d.2.2.2.2.2; omega)
  have e1 : copied (vp_cell (g.2.2.1 1) (n0, .inl (fun j => Int32.ofInt (M a (j : Int))))) (vp_cell (g.2.2.1 1) (n1, .inl (fun j => Int32.ofInt (M b (j : Int))))) (Int32.ofInt sp) (Int32.ofInt dp) (Int32.ofInt n) = vp_cell (g.2.2.1 1) (n1, .inl (va_cpy (fun j => Int32.ofInt (M a (j : Int))) (fun j => Int32.ofInt (M b (j : Int))) (Int32.ofInt sp).toNatClampNeg (Int32.ofInt dp).toNatClampNeg (Int32.ofInt n).toNatClampNeg)) := va_copied (fun z => .int z) (g.2.2.1 1) (g.2.2.1 1) (fun j => Int32.ofInt (M a (j : Int))) (fun j => Int32.ofInt (M b (j : Int))) (show (Int32.ofInt sp).toNatClampNeg + (Int32.ofInt n).toNatClampNeg ≤ n0 by omega)
  rw [e1, c1, c2, c3] at X' step
  have hlt : g.1 + b < H.size := (Array.getElem?_eq_some_iff.mp hc1).1
  have hz : zAg g σ0 (g.1 + b) := by rw [← hA]; exact zAg_in hb (show (1 : Nat) ≠ 9 by decide)
  have ee : vp_cell (g.2.2.1 1) (n1, .inl (va_cpy (fun j => Int32.ofInt (M a (j : Int))) (fun j => Int32.ofInt (M b (j : Int))) sp.toNat dp.toNat n.toNat)) = arrV (g.2.2.1 1) n1 (fun j => zev g 1 (zrw M b (zcpy (M a) (M b) sp dp n) b (j : Int))) := by
    rw [vp_cell_i]
    congr 1
    funext j
    rw [zrw_at]
    simp only [va_cpy, zcpy]
    by_cases hj : dp.toNat ≤ j ∧ j < dp.toNat + n.toNat
    · rw [if_pos hj, if_pos (by omega)]
      show Value.int (Int32.ofInt (M a ((sp.toNat + (j - dp.toNat) : Nat) : Int))) = zI (M a (sp + ((j : Int) - dp)))
      rw [show ((sp.toNat + (j - dp.toNat) : Nat) : Int) = sp + ((j : Int) - dp) by omega]; rfl
    · rw [if_neg hj, if_neg (by omega)]; rfl
  rw [ee] at X' step
  have oq : ∀ q : Nat, q ≠ g.1 + b → (H.setIfInBounds (g.1 + b) (arrV (g.2.2.1 1) n1 (fun j => zev g 1 (zrw M b (zcpy (M a) (M b) sp dp n) b (j : Int)))))[q]? = H[q]? := fun q hq => by simp [Array.getElem?_setIfInBounds, Ne.symm hq]
  have hsz : (H.setIfInBounds (g.1 + b) (arrV (g.2.2.1 1) n1 (fun j => zev g 1 (zrw M b (zcpy (M a) (M b) sp dp n) b (j : Int))))).size = H.size := by simp
  have hheap : ((T.setVm vm').setCell (g.1 + b) (arrV (g.2.2.1 1) n1 (fun j => zev g 1 (zrw M b (zcpy (M a) (M b) sp dp n) b (j : Int))))).heap = H.setIfInBounds (g.1 + b) (arrV (g.2.2.1 1) n1 (fun j => zev g 1 (zrw M b (zcpy (M a) (M b) sp dp n) b (j : Int)))) := by rw [← hT]; rfl
  obtain ⟨t, a1, b1⟩ := k _ _ ls hA ⟨by rw [hsz]; exact hS.1, fun q g1 g2 => by
      rw [oq q (fun e => g2 (by rw [e]; exact hz))]
      exact hS.2.1 q g1 g2, fun q hq => by
      rcases List.mem_append.mp hq with h | h
      · exact hS.2.2 q h
      · obtain ⟨z, -, hz'⟩ := List.mem_map.mp h
        rw [← hz']
        exact hz⟩ (hH.put (a := b) hsz oq (fun c j h => zrw_ne h j) (by unfold zcell; rw [hb]; simp only [show (1 : Nat) ≠ 0 by decide, show (1 : Nat) ≠ 9 by decide, if_false]; simp [Array.getElem?_setIfInBounds, hlt])) hl _ hheap X'
  exact ⟨t, step t a1, b1⟩
theorem zr_aast {a n v ci : Nat} {i : Int} (hd : decode d.2.1 pc = .ok (.aastore, 1)) (hs : zh σ a = (4, n)) (hn : n ≤ 100000) (hi : 0 ≤ i ∧ i < n) (hv : zh σ v = (0, 5)) (k : zR g d mm σ0 Q (pc + 1) l st kw σ (zu M a i v)) : zR g d mm σ0 Q pc l (zA g v :: zI i :: zA g a :: st) kw σ M := by
  intro la p e s m args below meth c B H locs ls hA hS hH hl
  have k := k la p e s m args below meth c B
  have hc := zc_arr (hH.1 a) hs (by decide) (by decide)
  have hin := zi_in hi.1 hi.2 hn
  have he : (Int32.ofInt i).toNatClampNeg = i.toNat := zi_nn ⟨by omega, by omega⟩ hi.1
  have hz : zAg g σ0 (g.1 + a) := by rw [← hA]; exact zAg_in hs (show (4 : Nat) ≠ 9 by decide)
  have hK := B.2.2.2.2.2.2.2.2.1
  obtain ⟨r', hr', cellV, g1, g2, g3, -⟩ := zc_obj (hH.1 v) hv
  have hcls := (hK.1 5 _ hr').2
  cases hr'
  obtain ⟨kA, comp, k1, k2, k3, -⟩ := (hK.2 3 _ rfl).2
  have hcomp : comp = g.2.1.1 5 := Option.some.inj (k3.symm.trans hcls.1)
  subst hcomp
  obtain ⟨kC, hkC, -⟩ := hcls.2
  have hv0 : v ≠ 0 := by have := (zh_le hv (show (0 : Nat) ≠ 9 by decide)).1; omega
  refine W.aast B.1 B.2.1 hc (fun q h => by cases h) (fun h => by cases h) k1 k2 rfl hkC ⟨fun q => hin (Or.inl q), by rw [arrV_size]; exact Nat.not_le.mp fun q => hin (Or.inr q)⟩ g1 (fun q h => by rw [g3] at h; cases h) (by rw [g2]; exact hkC) (by rw [g2]; exact va_assign hcls) rfl rfl hd fun H1 e z oq => ?_
  refine k H1 _ ls hA (hS.put z oq hz) (hH.put (a := a) z oq (fun b j h => zu_ne h) (zc_ast hi.1 hv0 hs ?_)) hl
  rw [e, arrV_store, he]; rfl
/-! making: an open signature -/
def zsn (σ : zS) (q : Nat × Nat) : zS := (σ.1, σ.2.1 ++ [q], fun a k => if a = σ.2.1.length + 1 then 0 else σ.2.2 a k)
def zsf (σ : zS) (a j b : Nat) : zS := (σ.1, σ.2.1, fun a' j' => if a' = a ∧ j' = j then b else σ.2.2 a' j')
theorem zsn_old {σ : zS} {q : Nat × Nat} {a : Nat} (h : a ≤ σ.2.1.length) : zh (zsn σ q) a = zh σ a := by
  cases a with
  | zero => rfl
  | succ k => show (σ.2.1 ++ [q]).getD k (9, 0) = σ.2.1.getD k (9, 0); simp [List.getD_eq_getElem?_getD, List.getElem?_append_left (show k < σ.2.1.length by omega)]
theorem zsn_new {σ : zS} {q : Nat × Nat} : zh (zsn σ q) (σ.2.1.length + 1) = q := by
  show (σ.2.1 ++ [q]).getD σ.2.1.length (9, 0) = q; simp [List.getD_eq_getElem?_getD]
theorem zsn_big {σ : zS} {q : Nat × Nat} {a : Nat} (h : σ.2.1.length + 1 < a) : zh (zsn σ q) a = (9, 0) := by
  cases a with
  | zero => rfl
  | succ k => show (σ.2.1 ++ [q]).getD k (9, 0) = _; simp [List.getD_eq_getElem?_getD, List.getElem?_eq_none (show (σ.2.1 ++ [q]).length ≤ k by simp; omega)]
theorem zsn_H {g : zG} {σ : zS} {M : zM} {H H1 : Heap} {q : Nat × Nat} (h : zH g σ M H) (ho : σ.1 = true) (hz : H1.size = g.1 + σ.2.1.length + 1 + 1) (hq : ∀ a : Nat, a < g.1 + σ.2.1.length + 1 → H1[a]? = H[a]?) (hn : zcell g (zsn σ q) (zrw M (σ.2.1.length + 1) (fun _ => 0)) (σ.2.1.length + 1) H1) : zH g (zsn σ q) (zrw M (σ.2.1.length + 1) (fun _ => 0)) H1 := by
  refine ⟨fun a => ?_, fun _ => by rw [hz]; show _ = g.1 + (σ.2.1 ++ [q]).length + 1; simp; omega⟩
  rcases Nat.lt_trichotomy a (σ.2.1.length + 1) with ha | ha | ha
  · have hc := zc_kept (M' := zrw M (σ.2.1.length + 1) (fun _ => 0)) (h.1 a) (hq _ (by omega)) (fun j => zrw_ne (by omega) j)
    unfold zcell at hc ⊢
    rw [zsn_old (by omega)]
    simp only [zsn, show ¬ a = σ.2.1.length + 1 by omega, if_false]
    exact hc
  · subst ha; exact hn
  · unfold zcell; rw [zsn_big ha]; simp
theorem zsn_A {g : zG} {σ σ0 : zS} {q : Nat × Nat} (ho : σ.1 = true) (hA : zAg g σ = zAg g σ0) : zAg g (zsn σ q) = zAg g σ0 := by
  rw [← hA]; funext a; simp [zAg, zsn, ho]
theorem zS_new {g : zG} {σ0 : zS} {s : State} {H H1 : Heap} {locs : List Loc} (hS : va_S (zAg g σ0) s.heap H locs) (hz : H.size ≤ H1.size) (hq : ∀ a : Nat, a < H.size → H1[a]? = H[a]?) : va_S (zAg g σ0) s.heap H1 locs :=
  ⟨Nat.le_trans hS.1 hz, fun q h1 h2 => (hq q (Nat.lt_of_lt_of_le h1 hS.1)).trans (hS.2.1 q h1 h2), hS.2.2⟩
def zLn (d : zD) (idx ci n : Nat) : Prop := ∃ r : vw_C, zcls[ci]? = some r ∧ r.2.2 = n ∧ (∀ w ∈ u_ws r.1 r.2.1 r.2.2, w ∈ zt) ∧ (∃ ty0 : Nat → FieldType, (∀ k, k < r.2.2 → parseFieldDescriptor (r.2.1 k).2.2.1 = some (ty0 k)) ∧ ∀ (g : zG) (k : Nat), k < r.2.2 → defaultValue (ty0 k) = zfv g (zfk ci k) 0 0) ∧ Cond.classLink d.1.cls idx r.1 ∈ zt ∧ Cond.instantiable r.1 r.2.2 ∈ zt ∧ Cond.initialized r.1 ∈ zt
theorem zr_new {idx ci n : Nat} (hd : decode d.2.1 pc = .ok (.new idx, 3)) (hL : zLn d idx ci n) (ho : σ.1 = true) (hk : kw.1 + 1 ≤ mm.1 ∧ kw.2 + n ≤ mm.2)
    (k : zR g d mm σ0 Q (pc + 3) l (zA g (σ.2.1.length + 1) :: st) (kw.1 + 1, kw.2 + n) (zsn σ (0, ci)) (zrw M (σ.2.1.length + 1) (fun _ => 0))) : zR g d mm σ0 Q pc l st kw σ M := by
  intro la p e s m args below meth c B H locs ls hA hS hH hl
  have k := k la p e s m args below meth c B
  obtain ⟨r, hc, rfl, hin, ⟨ty0, hty, hdf⟩, w1, w2, w3⟩ := hL
  have hts := B.2.2.2.2.2.2.1
  have hKn := B.2.2.2.2.2.2.2.2.1.1 ci _ hc
  have hz := hH.2 ho
  refine W.newcK B.1 B.2.1 B.2.2.2.2.2.1 (hts _ w1) (hts _ w2) (hts _ w3) rfl hd hk.1 hk.2 hKn.2.1 rfl fun H1 kC hkC e1 z1 o1 => ?_
  rw [hz] at e1 z1 o1
  have hb := u_born ty0 hts hin hKn hkC e1 hty
  have e : Value.ref H.size = zA g (σ.2.1.length + 1) := by rw [hz]; rfl
  rw [e]
  refine k H1 locs ls (zsn_A ho hA) (zS_new hS (by omega) (by rw [hz]; exact o1)) (zsn_H hH ho z1 o1 ?_) hl
  unfold zcell
  rw [zsn_new]
  refine ⟨r, hc, t_OB.to hb (fun k hk => ?_)⟩
  rw [hdf g k hk, zrw_at]
  simp [zsn]
theorem zr_newa {at_ : ArrayType} {kd : Nat} {n : Int} (hd : decode d.2.1 pc = .ok (.newarray at_, 2)) (hkd : (at_ = .int ∧ kd = 1) ∨ (at_ = .boolean ∧ kd = 2) ∨ (at_ = .long ∧ kd = 3)) (hw : Cond.arrayClass (newarray.typeOf at_) ∈ zt) (ho : σ.1 = true) (hn : 0 ≤ n ∧ n ≤ 100000) (hk : kw.1 + 1 ≤ mm.1 ∧ kw.2 + n.toNat ≤ mm.2)
    (k : zR g d mm σ0 Q (pc + 2) l (zA g (σ.2.1.length + 1) :: st) (kw.1 + 1, kw.2 + n.toNat) (zsn σ (kd, n.toNat)) (zrw M (σ.2.1.length + 1) (fun _ => 0))) : zR g d mm σ0 Q pc l (zI n :: st) kw σ M := by
  intro la p e s m args below meth c B H locs ls hA hS hH hl
  have k := k la p e s m args below meth c B
  have hts := B.2.2.2.2.2.2.1
  have hK := B.2.2.2.2.2.2.2.2.1
  have hz := hH.2 ho
  have zn : zin n := ⟨by omega, by omega⟩
  refine va_newaK B.1 B.2.1 (hts _ hw) rfl hd rfl (N := n.toNat) (znlt zn hn.1) (zi_nn zn hn.1) (by rcases hkd with ⟨rfl, -⟩ | ⟨rfl, -⟩ | ⟨rfl, -⟩ <;> simp [componentBytes, newarray.typeOf] <;> omega) hk.1 hk.2 hz fun H1 cA e1 z1 o1 hAr hNm => ?_
  have hcA : cA = g.2.2.1 kd := by
    rcases hkd with ⟨rfl, rfl⟩ | ⟨rfl, rfl⟩ | ⟨rfl, rfl⟩
    · exact Option.some.inj (hNm.symm.trans (hK.2 0 _ rfl).2)
    · exact Option.some.inj (hNm.symm.trans (hK.2 1 _ rfl).2)
    · exact Option.some.inj (hNm.symm.trans (hK.2 2 _ rfl).2)
  refine k H1 locs ls (zsn_A ho hA) (zS_new hS (by omega) (by rw [hz]; exact o1)) (zsn_H hH ho z1 o1 ?_) hl
  subst hcA
  unfold zcell
  rw [zsn_new]
  rcases hkd with ⟨rfl, rfl⟩ | ⟨rfl, rfl⟩ | ⟨rfl, rfl⟩ <;> (simp only [show (1 : Nat) ≠ 0 by decide, show (1 : Nat) ≠ 9 by decide, show (2 : Nat) ≠ 0 by decide, show (2 : Nat) ≠ 9 by decide, show (3 : Nat) ≠ 0 by decide, show (3 : Nat) ≠ 9 by decide, if_false]; rw [show g.1 + (σ.2.1.length + 1) = g.1 + σ.2.1.length + 1 by omega, e1]; congr 2; funext j; rw [zrw_at]; rfl)
theorem zr_anew {idx : Nat} {n : Int} (hd : decode d.2.1 pc = .ok (.anewarray idx, 3)) (hw : Cond.classLink d.1.cls idx "SandMarch$Sand" ∈ zt) (ho : σ.1 = true) (hn : 0 ≤ n ∧ n ≤ 100000) (hk : kw.1 + 1 ≤ mm.1 ∧ kw.2 + n.toNat ≤ mm.2)
    (k : zR g d mm σ0 Q (pc + 3) l (zA g (σ.2.1.length + 1) :: st) (kw.1 + 1, kw.2 + n.toNat) (zsn σ (4, n.toNat)) (zrw M (σ.2.1.length + 1) (fun _ => 0))) : zR g d mm σ0 Q pc l (zI n :: st) kw σ M := by
  intro la p e s m args below meth c B H locs ls hA hS hH hl
  have k := k la p e s m args below meth c B
  have hts := B.2.2.2.2.2.2.1
  have hK := B.2.2.2.2.2.2.2.2.1
  have hX := B.2.2.2.2.2.2.2.2.2.1
  have hz := hH.2 ho
  have zn : zin n := ⟨by omega, by omega⟩
  have hc := zi_nn zn hn.1
  refine W.anew B.1 B.2.1 B.2.2.2.2.2.1 (hts _ hw) (hX.2.2.2.2.2.2.2.2.1.use) rfl hd rfl (znlt zn hn.1) (by rw [hc]; omega) hk.1 (by rw [hc]; exact hk.2) fun cA kA comp h1 h2 h3 h4 => ?_
  obtain ⟨kA', comp', -, -, -, k4⟩ := (hK.2 3 _ rfl).2
  have hcA : cA = g.2.2.1 4 := Option.some.inj (h1.symm.trans k4)
  rw [hc, hz]
  have o1 : ∀ q : Nat, q < g.1 + σ.2.1.length + 1 → (H.push { cls := cA, slots := Array.replicate n.toNat Value.null, vm := .none })[q]? = H[q]? := fun q hq => by rw [Array.getElem?_push, if_neg (by omega)]
  refine k _ locs ls (zsn_A ho hA) (zS_new hS (by simp) (by rw [hz]; exact o1)) (zsn_H hH ho (by simp [hz]) o1 ?_) hl
  unfold zcell
  rw [zsn_new]
  simp only [show (4 : Nat) ≠ 0 by decide, show (4 : Nat) ≠ 9 by decide, if_false]
  rw [show g.1 + (σ.2.1.length + 1) = H.size by omega, Array.getElem?_push, if_pos rfl, hcA, arrV_new]
  congr 2
  funext j
  rw [zrw_at]; rfl
/-- a final reference of an object under way -/
theorem zr_putr {idx ci j a b : Nat} {ty : FieldType} (hd : decode d.2.1 pc = .ok (.putfield idx, 3)) (hL : zLf d.1.cls idx ci j) (hC : zLc ci) (hT : zLt ci j true d.1.cls ty) (hi : d.1.name = "<init>") (hn : narrow ty (zA g b) = zA g b) (hf : fits ty (zA g b) = true) (hk : zfk ci j = 2) (hs : zh σ a = (0, ci)) (h0 : b ≠ 0) (k : zR g d mm σ0 Q (pc + 3) l st kw (zsf σ a j b) M) : zR g d mm σ0 Q pc l (zA g b :: zA g a :: st) kw σ M := by
  intro la p e s m args below meth c B H locs ls hA hS hH hl
  have k := k la p e s m args below meth c B
  obtain ⟨hx, hb, -, -, -, hown, hts, hnm, hK, -⟩ := B
  obtain ⟨r, hc, hj, hin, hlink⟩ := hL
  obtain ⟨r', hc', cell, q1, q2, q3, q4⟩ := zc_obj (hH.1 a) hs
  cases hc.symm.trans hc'
  obtain ⟨r', hc', ⟨ty0, hty⟩, hnn⟩ := hC
  cases hc.symm.trans hc'
  obtain ⟨r', hc', hfin, hdecl, hpd⟩ := hT
  cases hc.symm.trans hc'
  have hap := va_apart (own := d.1.cls) hts hin ty0 hty hnn hK hc
  obtain ⟨hSl, hfc, kC, hkC, hkind⟩ := hK.1 ci _ hc
  obtain ⟨cf, kf, fi, f, hi', hsl⟩ := hSl j hj
  have hlay := hts _ (hin _ (u_in_lay hj))
  unfold u_lay at hlay
  rw [if_pos hfin] at hlay
  have hst := (u_facts hfc hkC (u_lays hts hin hj) hi').1
  have hcf : m.cls = cf := by
    obtain ⟨_, _, c', _, _, _, -, -, hf', -, -, -, hown2, -⟩ := Cond.laysFinal_spec hlay
    have e1 : c' = cf := by have := hi'.symm.trans hf'; simp at this; exact this.1.symm
    rw [hdecl] at hown2
    rw [← e1]; exact Option.some.inj (hown.symm.trans hown2)
  have h6 := u_fits hfc hkC hkind (Or.inr hlay) hi' hpd hn hf
  refine W.putFinK hx hb hown (hts _ hlink) hi' hst hcf (hnm.trans hi) (by rw [q2]; exact h6) q1 q3 (by rw [hsl]; exact k2_hasslot (q4 j hj)) rfl rfl hd fun H' e1 e2 e3 => ?_
  rw [hsl] at e1 ⊢
  have hz : zAg g σ0 (g.1 + a) := by rw [← hA]; exact zAg_in hs (show (0 : Nat) ≠ 9 by decide)
  refine k H' _ ls hA (hS.put e2 e3 hz) ⟨fun a' => ?_, fun ho => e2.trans (hH.2 ho)⟩ hl
  by_cases ha : a' = a
  · subst ha
    unfold zcell
    rw [show zh (zsf σ a' j b) a' = (0, ci) from hs]
    refine ⟨r, hc, t_OB.to (V := updV (fun k => zfv g (zfk ci k) (σ.2.2 a' k) (M a' (k : Int))) j (zA g b)) ⟨_, e1, q2, q3, t_set q4 hap hj _⟩ (fun i _ => ?_)⟩
    simp only [updV, zsf, true_and]
    split
    · rename_i h; subst h; rw [hk]; show zA g b = zN g b; simp [zN, zA, h0]
    · rfl
  · have hc' := zc_kept (M' := M) (hH.1 a') (e3 (g.1 + a') (fun h => ha (Nat.add_left_cancel h))) (fun _ => rfl)
    unfold zcell at hc' ⊢
    rw [show zh (zsf σ a j b) a' = zh σ a' from rfl]
    simp only [zsf, ha, false_and, if_false]
    exact hc'
theorem zr_oinit {idx a : Nat} (hd : decode d.2.1 pc = .ok (.invokespecial idx, 3)) (hL : Cond.methodLink d.1.cls idx objectInit ∈ zt ∧ Cond.instanceMethod objectInit ∈ zt ∧ Cond.code objectInit ⟨#[0xb1]⟩ 1 none ∈ zt ∧ 1 ≤ d.2.2.2.2.1 ∧ 20 ≤ d.2.2.2.2.2) (hw : (st.map fun v => v.category).sum ≤ 8) (k : zR g d mm σ0 Q (pc + 3) l st kw σ M) : zR g d mm σ0 Q pc l (zA g a :: st) kw σ M := by
  intro la p e s m args below meth c B H locs ls hA hS hH hl
  have kk := k la p e s m args below meth c B H locs ls hA hS hH hl
  have hts := B.2.2.2.2.2.2.1
  exact W.objInit B.1 B.2.1 B.2.2.2.2.2.1 (hts _ hL.1) (hts _ hL.2.1) (hts _ hL.2.2.1) rfl (by show ls.size = _; rw [hl.1, B.2.2.1]) rfl hd hL.2.2.2.1 (by show 2 * 0 + _ + 12 ≤ d.2.2.2.2.2; have := hL.2.2.2.2; omega) kk
theorem zr_callIN {idx a n : Nat} {As rest : List Value} (hd : decode d.2.1 pc = .ok (.invokespecial idx, 3)) (hL : zLb d d' n) (hN : (d.1.cls, idx, d'.1) ∈ znm) (hI : Cond.instanceMethod d'.1 ∈ zt ∧ d'.1.name = "<init>" ∧ d'.2.2.2.1 = none) (hst : st = As.reverse ++ zA g a :: rest) (hn : As.length = n) (hw : (rest.map fun v => v.category).sum ≤ 8) (hm : kw.1 + mm'.1 ≤ mm.1 ∧ kw.2 + mm'.2 ≤ mm.2)
    (hc : zC g d' mm' (zA g a :: As) σ M Q') (k : ∀ v σ' M', Q' v σ' M' → zR g d mm σ0 Q (pc + 3) l (v.toList ++ rest) (kw.1 + mm'.1, kw.2 + mm'.2) σ' M') : zR g d mm σ0 Q pc l st kw σ M := by
  intro la p e s m args below meth c B H locs ls hA hS hH hl
  have B' := B
  obtain ⟨hx, hb, hml, -, -, hown, hts, -, hK, hX, -⟩ := B'
  obtain ⟨w1, w2, hdd, hf1, hf2⟩ := hL
  exact zback (mm' := mm') (as := (Value.ref (g.1 + a) :: As).toArray) B hA hS hl (va_runIN (As := As) (rest := rest) ⟨hx, hb, hml, hown, hts⟩ (hc la) ⟨va_cnB n hts (zgoodIn w2) (by unfold zw; rw [hI.2.2]) rfl rfl (hX.2.2.2.2.2.2.2.2.2.1 _ hN) (hts _ w1) hdd ⟨hf1, hf2⟩, hI.2.1, hts _ hI.1⟩ ⟨zblind, fun U hU hW => ⟨rfl, zpre B hS hH hU hW⟩⟩ rfl hn hl.1 hst (lv_room hw) hd hm) k
end ZR5
end
