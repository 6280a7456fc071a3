theorem dX10_piles_0 : decode cX10_piles 0 = .ok (.aload_n 3, 1) := by decide +kernel
theorem dX10_piles_1 : decode cX10_piles 1 = .ok (.iload_n 1, 1) := by decide +kernel
theorem dX10_piles_2 : decode cX10_piles 2 = .ok (.iload_n 2, 1) := by decide +kernel
theorem dX10_piles_3 : decode cX10_piles 3 = .ok (.iastore, 1) := by decide +kernel
theorem dX10_piles_4 : decode cX10_piles 4 = .ok (.aload_n 0, 1) := by decide +kernel
theorem dX10_piles_5 : decode cX10_piles 5 = .ok (.getfield 60, 3) := by decide +kernel
theorem dX10_piles_8 : decode cX10_piles 8 = .ok (.aload_n 0, 1) := by decide +kernel
theorem dX10_piles_9 : decode cX10_piles 9 = .ok (.getfield 387, 3) := by decide +kernel
theorem dX10_piles_12 : decode cX10_piles 12 = .ok (.iload_n 1, 1) := by decide +kernel
theorem dX10_piles_13 : decode cX10_piles 13 = .ok (.iastore, 1) := by decide +kernel
theorem dX10_piles_14 : decode cX10_piles 14 = .ok (.aload_n 0, 1) := by decide +kernel
theorem dX10_piles_15 : decode cX10_piles 15 = .ok (.dup, 1) := by decide +kernel
theorem dX10_piles_16 : decode cX10_piles 16 = .ok (.getfield 387, 3) := by decide +kernel
theorem dX10_piles_19 : decode cX10_piles 19 = .ok (.iconst 1, 1) := by decide +kernel
theorem dX10_piles_20 : decode cX10_piles 20 = .ok (.iadd, 1) := by decide +kernel
theorem dX10_piles_21 : decode cX10_piles 21 = .ok (.putfield 387, 3) := by decide +kernel
theorem dX10_piles_24 : decode cX10_piles 24 = .ok (.return_, 1) := by decide +kernel
set_option maxRecDepth 100000 in
theorem SX10_piles_0 {g : zG} {o : Bool} {h3 n3 : Nat} (hh3 : zh (z2 o) h3 = (1, n3)) (hz3 : h3 ≠ 0) (hn3 : n3 ≤ 100000) {M : zM} {q : zM → Prop} {x1 x2 : Int} (W : (0 ≤ x1 ∧ x1 < n3) ∧ (0 ≤ ((zu M h3 x1 x2) 1 33) ∧ ((zu M h3 x1 x2) 1 33) < 96) ∧ ∀ N3 : zM, N3 = zu M h3 x1 x2 → ∀ N5 : zM, N5 = zu N3 15 (N3 1 33) x1 → q (zu N5 1 33 ((N5 1 33) + 1))) : zT g (z2 o) mX10_piles (zQv (z2 o) q) 0 [(0, zA g 1), (1, zI x1), (2, zI x2), (3, zA g h3)] [] M := by
  refine zr_aload_n 3 dX10_piles_0 rfl ?_
  refine zr_iload_n 1 dX10_piles_1 rfl ?_
  refine zr_iload_n 2 dX10_piles_2 rfl ?_
  obtain ⟨c1, W⟩ := W
  refine zr_iast dX10_piles_3 hh3 hn3 c1 ?_
  refine zr_aload_n 0 dX10_piles_4 rfl ?_
  refine zr_getr (b := 15) dX10_piles_5 fX10_60 rfl rfl rfl (by decide) ?_
  refine zr_aload_n 0 dX10_piles_8 rfl ?_
  refine zt_geti 33 rfl dX10_piles_9 fX10_387 rfl (by decide) ?_
  refine zr_iload_n 1 dX10_piles_12 rfl ?_
  obtain ⟨c2, W⟩ := W
  obtain ⟨N3, e4⟩ : ∃ N : zM, N = zu M h3 x1 x2 := ⟨_, rfl⟩
  rw [← e4]
  rw [← e4] at c2
  have W := W N3 e4
  refine zr_iast dX10_piles_13 rfl (by decide) c2 ?_
  refine zr_aload_n 0 dX10_piles_14 rfl ?_
  refine zr_dup dX10_piles_15 rfl ?_
  refine zt_geti 33 rfl dX10_piles_16 fX10_387 rfl (by decide) ?_
  refine zr_iconst dX10_piles_19 ?_
  refine zr_iadd dX10_piles_20 ?_
  obtain ⟨N5, e6⟩ : ∃ N : zM, N = zu N3 15 (N3 1 33) x1 := ⟨_, rfl⟩
  rw [← e6]
  have W := W N5 e6
  refine zt_puti 33 rfl dX10_piles_21 fX10_387 lcX10 ltX10_33 rfl rfl ?_
  exact zt_ret dX10_piles_24 rfl W
theorem dX10_laysDunes_0 : decode cX10_laysDunes 0 = .ok (.iconst 0, 1) := by decide +kernel
theorem dX10_laysDunes_1 : decode cX10_laysDunes 1 = .ok (.istore 5, 2) := by decide +kernel
theorem dX10_laysDunes_3 : decode cX10_laysDunes 3 = .ok (.iload 5, 2) := by decide +kernel
theorem dX10_laysDunes_5 : decode cX10_laysDunes 5 = .ok (.aload_n 0, 1) := by decide +kernel
theorem dX10_laysDunes_6 : decode cX10_laysDunes 6 = .ok (.invokevirtual 226, 3) := by decide +kernel
theorem dX10_laysDunes_9 : decode cX10_laysDunes 9 = .ok (.if_icmp .ge 15, 3) := by decide +kernel
theorem dX10_laysDunes_12 : decode cX10_laysDunes 12 = .ok (.aload 4, 2) := by decide +kernel
theorem dX10_laysDunes_14 : decode cX10_laysDunes 14 = .ok (.iload 5, 2) := by decide +kernel
theorem dX10_laysDunes_16 : decode cX10_laysDunes 16 = .ok (.iconst (-1), 1) := by decide +kernel
theorem dX10_laysDunes_17 : decode cX10_laysDunes 17 = .ok (.iastore, 1) := by decide +kernel
theorem dX10_laysDunes_18 : decode cX10_laysDunes 18 = .ok (.iinc 5 1, 3) := by decide +kernel
theorem dX10_laysDunes_21 : decode cX10_laysDunes 21 = .ok (.goto (-18), 3) := by decide +kernel
theorem dX10_laysDunes_24 : decode cX10_laysDunes 24 = .ok (.iconst 0, 1) := by decide +kernel
theorem dX10_laysDunes_25 : decode cX10_laysDunes 25 = .ok (.istore 5, 2) := by decide +kernel
theorem dX10_laysDunes_27 : decode cX10_laysDunes 27 = .ok (.iconst 0, 1) := by decide +kernel
theorem dX10_laysDunes_28 : decode cX10_laysDunes 28 = .ok (.istore 6, 2) := by decide +kernel
theorem dX10_laysDunes_30 : decode cX10_laysDunes 30 = .ok (.iload 6, 2) := by decide +kernel
theorem dX10_laysDunes_32 : decode cX10_laysDunes 32 = .ok (.aload_n 0, 1) := by decide +kernel
theorem dX10_laysDunes_33 : decode cX10_laysDunes 33 = .ok (.invokevirtual 226, 3) := by decide +kernel
theorem dX10_laysDunes_36 : decode cX10_laysDunes 36 = .ok (.if_icmp .ge 127, 3) := by decide +kernel
theorem dX10_laysDunes_39 : decode cX10_laysDunes 39 = .ok (.aload_n 1, 1) := by decide +kernel
theorem dX10_laysDunes_40 : decode cX10_laysDunes 40 = .ok (.iload_n 2, 1) := by decide +kernel
theorem dX10_laysDunes_41 : decode cX10_laysDunes 41 = .ok (.iload 6, 2) := by decide +kernel
theorem dX10_laysDunes_43 : decode cX10_laysDunes 43 = .ok (.iadd, 1) := by decide +kernel
theorem dX10_laysDunes_44 : decode cX10_laysDunes 44 = .ok (.iaload, 1) := by decide +kernel
theorem dX10_laysDunes_45 : decode cX10_laysDunes 45 = .ok (.iload_n 3, 1) := by decide +kernel
theorem dX10_laysDunes_46 : decode cX10_laysDunes 46 = .ok (.if_icmp .lt 111, 3) := by decide +kernel
theorem dX10_laysDunes_49 : decode cX10_laysDunes 49 = .ok (.aload 4, 2) := by decide +kernel
theorem dX10_laysDunes_51 : decode cX10_laysDunes 51 = .ok (.iload 6, 2) := by decide +kernel
theorem dX10_laysDunes_53 : decode cX10_laysDunes 53 = .ok (.iaload, 1) := by decide +kernel
theorem dX10_laysDunes_54 : decode cX10_laysDunes 54 = .ok (.iconst (-1), 1) := by decide +kernel
theorem dX10_laysDunes_55 : decode cX10_laysDunes 55 = .ok (.if_icmp .eq 6, 3) := by decide +kernel
theorem dX10_laysDunes_58 : decode cX10_laysDunes 58 = .ok (.goto 99, 3) := by decide +kernel
theorem dX10_laysDunes_61 : decode cX10_laysDunes 61 = .ok (.aload_n 0, 1) := by decide +kernel
theorem dX10_laysDunes_62 : decode cX10_laysDunes 62 = .ok (.iconst 0, 1) := by decide +kernel
theorem dX10_laysDunes_63 : decode cX10_laysDunes 63 = .ok (.putfield 387, 3) := by decide +kernel
theorem dX10_laysDunes_66 : decode cX10_laysDunes 66 = .ok (.aload_n 0, 1) := by decide +kernel
theorem dX10_laysDunes_67 : decode cX10_laysDunes 67 = .ok (.iload 6, 2) := by decide +kernel
theorem dX10_laysDunes_69 : decode cX10_laysDunes 69 = .ok (.iload 5, 2) := by decide +kernel
theorem dX10_laysDunes_71 : decode cX10_laysDunes 71 = .ok (.aload 4, 2) := by decide +kernel
theorem dX10_laysDunes_73 : decode cX10_laysDunes 73 = .ok (.invokevirtual 390, 3) := by decide +kernel
theorem dX10_laysDunes_76 : decode cX10_laysDunes 76 = .ok (.iconst 0, 1) := by decide +kernel
theorem dX10_laysDunes_77 : decode cX10_laysDunes 77 = .ok (.istore 7, 2) := by decide +kernel
theorem dX10_laysDunes_79 : decode cX10_laysDunes 79 = .ok (.iload 7, 2) := by decide +kernel
theorem dX10_laysDunes_81 : decode cX10_laysDunes 81 = .ok (.aload_n 0, 1) := by decide +kernel
theorem dX10_laysDunes_82 : decode cX10_laysDunes 82 = .ok (.getfield 387, 3) := by decide +kernel
theorem dX10_laysDunes_85 : decode cX10_laysDunes 85 = .ok (.if_icmp .ge 69, 3) := by decide +kernel
theorem dX10_laysDunes_88 : decode cX10_laysDunes 88 = .ok (.iconst 0, 1) := by decide +kernel
theorem dX10_laysDunes_89 : decode cX10_laysDunes 89 = .ok (.istore 8, 2) := by decide +kernel
theorem dX10_laysDunes_91 : decode cX10_laysDunes 91 = .ok (.iload 8, 2) := by decide +kernel
theorem dX10_laysDunes_93 : decode cX10_laysDunes 93 = .ok (.iconst 4, 1) := by decide +kernel
theorem dX10_laysDunes_94 : decode cX10_laysDunes 94 = .ok (.if_icmp .ge 54, 3) := by decide +kernel
theorem dX10_laysDunes_97 : decode cX10_laysDunes 97 = .ok (.aload_n 0, 1) := by decide +kernel
theorem dX10_laysDunes_98 : decode cX10_laysDunes 98 = .ok (.aload_n 0, 1) := by decide +kernel
theorem dX10_laysDunes_99 : decode cX10_laysDunes 99 = .ok (.getfield 60, 3) := by decide +kernel
theorem dX10_laysDunes_102 : decode cX10_laysDunes 102 = .ok (.iload 7, 2) := by decide +kernel
theorem dX10_laysDunes_104 : decode cX10_laysDunes 104 = .ok (.iaload, 1) := by decide +kernel
theorem dX10_laysDunes_105 : decode cX10_laysDunes 105 = .ok (.iload 8, 2) := by decide +kernel
theorem dX10_laysDunes_107 : decode cX10_laysDunes 107 = .ok (.iconst 1, 1) := by decide +kernel
theorem dX10_laysDunes_108 : decode cX10_laysDunes 108 = .ok (.invokevirtual 282, 3) := by decide +kernel
theorem dX10_laysDunes_111 : decode cX10_laysDunes 111 = .ok (.istore 9, 2) := by decide +kernel
theorem dX10_laysDunes_113 : decode cX10_laysDunes 113 = .ok (.aload_n 1, 1) := by decide +kernel
theorem dX10_laysDunes_114 : decode cX10_laysDunes 114 = .ok (.iload_n 2, 1) := by decide +kernel
theorem dX10_laysDunes_115 : decode cX10_laysDunes 115 = .ok (.iload 9, 2) := by decide +kernel
theorem dX10_laysDunes_117 : decode cX10_laysDunes 117 = .ok (.iadd, 1) := by decide +kernel
theorem dX10_laysDunes_118 : decode cX10_laysDunes 118 = .ok (.iaload, 1) := by decide +kernel
theorem dX10_laysDunes_119 : decode cX10_laysDunes 119 = .ok (.iload_n 3, 1) := by decide +kernel
theorem dX10_laysDunes_120 : decode cX10_laysDunes 120 = .ok (.if_icmp .lt 22, 3) := by decide +kernel
theorem dX10_laysDunes_123 : decode cX10_laysDunes 123 = .ok (.aload 4, 2) := by decide +kernel
theorem dX10_laysDunes_125 : decode cX10_laysDunes 125 = .ok (.iload 9, 2) := by decide +kernel
theorem dX10_laysDunes_127 : decode cX10_laysDunes 127 = .ok (.iaload, 1) := by decide +kernel
theorem dX10_laysDunes_128 : decode cX10_laysDunes 128 = .ok (.iconst (-1), 1) := by decide +kernel
theorem dX10_laysDunes_129 : decode cX10_laysDunes 129 = .ok (.if_icmp .ne 13, 3) := by decide +kernel
theorem dX10_laysDunes_132 : decode cX10_laysDunes 132 = .ok (.aload_n 0, 1) := by decide +kernel
theorem dX10_laysDunes_133 : decode cX10_laysDunes 133 = .ok (.iload 9, 2) := by decide +kernel
theorem dX10_laysDunes_135 : decode cX10_laysDunes 135 = .ok (.iload 5, 2) := by decide +kernel
theorem dX10_laysDunes_137 : decode cX10_laysDunes 137 = .ok (.aload 4, 2) := by decide +kernel
theorem dX10_laysDunes_139 : decode cX10_laysDunes 139 = .ok (.invokevirtual 390, 3) := by decide +kernel
theorem dX10_laysDunes_142 : decode cX10_laysDunes 142 = .ok (.iinc 8 1, 3) := by decide +kernel
theorem dX10_laysDunes_145 : decode cX10_laysDunes 145 = .ok (.goto (-54), 3) := by decide +kernel
theorem dX10_laysDunes_148 : decode cX10_laysDunes 148 = .ok (.iinc 7 1, 3) := by decide +kernel
theorem dX10_laysDunes_151 : decode cX10_laysDunes 151 = .ok (.goto (-72), 3) := by decide +kernel
theorem dX10_laysDunes_154 : decode cX10_laysDunes 154 = .ok (.iinc 5 1, 3) := by decide +kernel
theorem dX10_laysDunes_157 : decode cX10_laysDunes 157 = .ok (.iinc 6 1, 3) := by decide +kernel
theorem dX10_laysDunes_160 : decode cX10_laysDunes 160 = .ok (.goto (-130), 3) := by decide +kernel
theorem dX10_laysDunes_163 : decode cX10_laysDunes 163 = .ok (.iload 5, 2) := by decide +kernel
theorem dX10_laysDunes_165 : decode cX10_laysDunes 165 = .ok (.ireturn, 1) := by decide +kernel
set_option maxRecDepth 100000 in
theorem SX10_laysDunes_0 {g : zG} {o : Bool} {h1 n1 : Nat} (hh1 : zh (z2 o) h1 = (1, n1)) (hz1 : h1 ≠ 0) (hn1 : n1 ≤ 100000) {h4 n4 : Nat} (hh4 : zh (z2 o) h4 = (1, n4)) (hz4 : h4 ≠ 0) (hn4 : n4 ≤ 100000) {M : zM} {q : Int → zM → Prop} {x2 x3 : Int} (W : zT g (z2 o) mX10_laysDunes (zQi (z2 o) q) 3 [(0, zA g 1), (1, zA g h1), (2, zI x2), (3, zI x3), (4, zA g h4), (5, zI 0)] [] M) : zT g (z2 o) mX10_laysDunes (zQi (z2 o) q) 0 [(0, zA g 1), (1, zA g h1), (2, zI x2), (3, zI x3), (4, zA g h4)] [] M := by
  refine zr_iconst dX10_laysDunes_0 ?_
  refine zr_istore (l' := [(0, zA g 1), (1, zA g h1), (2, zI x2), (3, zI x3), (4, zA g h4), (5, zI 0)]) dX10_laysDunes_1 (by decide) [1, 2, 3, 4, 5, 0] rfl ?_
  exact W
set_option maxRecDepth 100000 in
theorem SX10_laysDunes_3 {g : zG} {o : Bool} {h1 n1 : Nat} (hh1 : zh (z2 o) h1 = (1, n1)) (hz1 : h1 ≠ 0) (hn1 : n1 ≤ 100000) {h4 n4 : Nat} (hh4 : zh (z2 o) h4 = (1, n4)) (hz4 : h4 ≠ 0) (hn4 : n4 ≤ 100000) {C R : Int} {M : zM} {q : Int → zM → Prop} {x2 x3 x5 : Int} (W : (zRf M C R) ∧ (-2147483648 ≤ x5 ∧ x5 ≤ 2147483647) ∧ (-2147483648 ≤ (C * R) ∧ (C * R) ≤ 2147483647) ∧ (((C * R) ≤ x5) → zT g (z2 o) mX10_laysDunes (zQi (z2 o) q) 30 [(0, zA g 1), (1, zA g h1), (2, zI x2), (3, zI x3), (4, zA g h4), (5, zI 0), (6, zI 0)] [] M) ∧ ((¬ ((C * R) ≤ x5)) → (0 ≤ x5 ∧ x5 < n4) ∧ zT g (z2 o) mX10_laysDunes (zQi (z2 o) q) 3 [(0, zA g 1), (1, zA g h1), (2, zI x2), (3, zI x3), (4, zA g h4), (5, zI (x5 + 1))] [] (zu M h4 x5 (-1)))) : zT g (z2 o) mX10_laysDunes (zQi (z2 o) q) 3 [(0, zA g 1), (1, zA g h1), (2, zI x2), (3, zI x3), (4, zA g h4), (5, zI x5)] [] M := by
  refine zr_iload 5 dX10_laysDunes_3 rfl ?_
  refine zr_aload_n 0 dX10_laysDunes_5 rfl ?_
  obtain ⟨c1, W⟩ := W
  refine zt_callVi (As := []) (rest := [zI x5]) dX10_laysDunes_6 kX10_laysDunes_226 rfl rfl rfl rfl (Nat.le_of_ble_eq_true rfl) (c_cells c1) (fun r2 N4 h3 => ?_)
  rw [h3.1, h3.2]
  obtain ⟨c5, W⟩ := W
  obtain ⟨c6, W⟩ := W
  refine zr_icmp_ge (tgt := 24) dX10_laysDunes_9 (by decide) c5 c6 (fun h => ?_) (fun h => ?_)
  · have W := W.1 h
    refine zr_iconst dX10_laysDunes_24 ?_
    refine zr_istore (l' := [(0, zA g 1), (1, zA g h1), (2, zI x2), (3, zI x3), (4, zA g h4), (5, zI 0)]) dX10_laysDunes_25 (by decide) [1, 2, 3, 4, 5, 0] rfl ?_
    refine zr_iconst dX10_laysDunes_27 ?_
    refine zr_istore (l' := [(0, zA g 1), (1, zA g h1), (2, zI x2), (3, zI x3), (4, zA g h4), (5, zI 0), (6, zI 0)]) dX10_laysDunes_28 (by decide) [1, 2, 3, 4, 5, 6, 0] rfl ?_
    exact W
  · have W := W.2 h
    refine zr_aload 4 dX10_laysDunes_12 rfl ?_
    refine zr_iload 5 dX10_laysDunes_14 rfl ?_
    refine zr_iconst dX10_laysDunes_16 ?_
    obtain ⟨c7, W⟩ := W
    refine zr_iast dX10_laysDunes_17 hh4 hn4 c7 ?_
    refine zr_iinc (q := 5) (l' := [(0, zA g 1), (1, zA g h1), (2, zI x2), (3, zI x3), (4, zA g h4), (5, zI (x5 + 1))]) dX10_laysDunes_18 rfl (by decide) [1, 2, 3, 4, 5, 0] rfl ?_
    refine zr_goto (tgt := 3) dX10_laysDunes_21 (by decide) ?_
    exact W
set_option maxRecDepth 100000 in
theorem SX10_laysDunes_30 {g : zG} {o : Bool} {h1 n1 : Nat} (hh1 : zh (z2 o) h1 = (1, n1)) (hz1 : h1 ≠ 0) (hn1 : n1 ≤ 100000) {h4 n4 : Nat} (hh4 : zh (z2 o) h4 = (1, n4)) (hz4 : h4 ≠ 0) (hn4 : n4 ≤ 100000) {C R : Int} {M : zM} {q : Int → zM → Prop} {x2 x3 x5 x6 : Int} (W : (zRf M C R) ∧ (-2147483648 ≤ x6 ∧ x6 ≤ 2147483647) ∧ (-2147483648 ≤ (C * R) ∧ (C * R) ≤ 2147483647) ∧ (((C * R) ≤ x6) → q x5 M) ∧ ((¬ ((C * R) ≤ x6)) → (0 ≤ (x2 + x6) ∧ (x2 + x6) < n1) ∧ (-2147483648 ≤ (M h1 (x2 + x6)) ∧ (M h1 (x2 + x6)) ≤ 2147483647) ∧ (-2147483648 ≤ x3 ∧ x3 ≤ 2147483647) ∧ (((M h1 (x2 + x6)) < x3) → zT g (z2 o) mX10_laysDunes (zQi (z2 o) q) 30 [(0, zA g 1), (1, zA g h1), (2, zI x2), (3, zI x3), (4, zA g h4), (5, zI x5), (6, zI (x6 + 1))] [] M) ∧ ((¬ ((M h1 (x2 + x6)) < x3)) → (0 ≤ x6 ∧ x6 < n4) ∧ (-2147483648 ≤ (M h4 x6) ∧ (M h4 x6) ≤ 2147483647) ∧ (((M h4 x6) = (-1)) → ∃ q12 : zM → Prop, zKv g (z2 o) mX10_piles [zA g 1, zI x6, zI x5, zA g h4] (zu M 1 33 0) q12 ∧ ∀ M14 : zM, q12 M14 → zT g (z2 o) mX10_laysDunes (zQi (z2 o) q) 79 [(0, zA g 1), (1, zA g h1), (2, zI x2), (3, zI x3), (4, zA g h4), (5, zI x5), (6, zI x6), (7, zI 0)] [] M14) ∧ ((¬ ((M h4 x6) = (-1))) → zT g (z2 o) mX10_laysDunes (zQi (z2 o) q) 30 [(0, zA g 1), (1, zA g h1), (2, zI x2), (3, zI x3), (4, zA g h4), (5, zI x5), (6, zI (x6 + 1))] [] M)))) : zT g (z2 o) mX10_laysDunes (zQi (z2 o) q) 30 [(0, zA g 1), (1, zA g h1), (2, zI x2), (3, zI x3), (4, zA g h4), (5, zI x5), (6, zI x6)] [] M := by
  refine zr_iload 6 dX10_laysDunes_30 rfl ?_
  refine zr_aload_n 0 dX10_laysDunes_32 rfl ?_
  obtain ⟨c1, W⟩ := W
  refine zt_callVi (As := []) (rest := [zI x6]) dX10_laysDunes_33 kX10_laysDunes_226 rfl rfl rfl rfl (Nat.le_of_ble_eq_true rfl) (c_cells c1) (fun r2 N4 h3 => ?_)
  rw [h3.1, h3.2]
  obtain ⟨c5, W⟩ := W
  obtain ⟨c6, W⟩ := W
  refine zr_icmp_ge (tgt := 163) dX10_laysDunes_36 (by decide) c5 c6 (fun h => ?_) (fun h => ?_)
  · have W := W.1 h
    refine zr_iload 5 dX10_laysDunes_163 rfl ?_
    exact zt_iret dX10_laysDunes_165 rfl W
  · have W := W.2 h
    refine zr_aload_n 1 dX10_laysDunes_39 rfl ?_
    refine zr_iload_n 2 dX10_laysDunes_40 rfl ?_
    refine zr_iload 6 dX10_laysDunes_41 rfl ?_
    refine zr_iadd dX10_laysDunes_43 ?_
    obtain ⟨c7, W⟩ := W
    refine zr_iald dX10_laysDunes_44 hh1 hn1 c7 ?_
    refine zr_iload_n 3 dX10_laysDunes_45 rfl ?_
    obtain ⟨c8, W⟩ := W
    obtain ⟨c9, W⟩ := W
    refine zr_icmp_lt (tgt := 157) dX10_laysDunes_46 (by decide) c8 c9 (fun h => ?_) (fun h => ?_)
    · have W := W.1 h
      refine zr_iinc (q := 6) (l' := [(0, zA g 1), (1, zA g h1), (2, zI x2), (3, zI x3), (4, zA g h4), (5, zI x5), (6, zI (x6 + 1))]) dX10_laysDunes_157 rfl (by decide) [1, 2, 3, 4, 5, 6, 0] rfl ?_
      refine zr_goto (tgt := 30) dX10_laysDunes_160 (by decide) ?_
      exact W
    · have W := W.2 h
      refine zr_aload 4 dX10_laysDunes_49 rfl ?_
      refine zr_iload 6 dX10_laysDunes_51 rfl ?_
      obtain ⟨c10, W⟩ := W
      refine zr_iald dX10_laysDunes_53 hh4 hn4 c10 ?_
      refine zr_iconst dX10_laysDunes_54 ?_
      obtain ⟨c11, W⟩ := W
      refine zr_icmp_eq (tgt := 61) dX10_laysDunes_55 (by decide) c11 ⟨by decide, by decide⟩ (fun h => ?_) (fun h => ?_)
      · have W := W.1 h
        refine zr_aload_n 0 dX10_laysDunes_61 rfl ?_
        refine zr_iconst dX10_laysDunes_62 ?_
        refine zt_puti 33 rfl dX10_laysDunes_63 fX10_387 lcX10 ltX10_33 rfl rfl ?_
        refine zr_aload_n 0 dX10_laysDunes_66 rfl ?_
        refine zr_iload 6 dX10_laysDunes_67 rfl ?_
        refine zr_iload 5 dX10_laysDunes_69 rfl ?_
        refine zr_aload 4 dX10_laysDunes_71 rfl ?_
        obtain ⟨q12, k16, W⟩ := W
        refine zt_callVv (As := [zI x6, zI x5, zA g h4]) (rest := []) dX10_laysDunes_73 kX10_laysDunes_390 rfl rfl rfl rfl (Nat.le_of_ble_eq_true rfl) k16 (fun M14 h15 => ?_)
        have W := W M14 h15
        refine zr_iconst dX10_laysDunes_76 ?_
        refine zr_istore (l' := [(0, zA g 1), (1, zA g h1), (2, zI x2), (3, zI x3), (4, zA g h4), (5, zI x5), (6, zI x6), (7, zI 0)]) dX10_laysDunes_77 (by decide) [1, 2, 3, 4, 5, 6, 7, 0] rfl ?_
        exact W
      · have W := W.2 h
        refine zr_goto (tgt := 157) dX10_laysDunes_58 (by decide) ?_
        refine zr_iinc (q := 6) (l' := [(0, zA g 1), (1, zA g h1), (2, zI x2), (3, zI x3), (4, zA g h4), (5, zI x5), (6, zI (x6 + 1))]) dX10_laysDunes_157 rfl (by decide) [1, 2, 3, 4, 5, 6, 0] rfl ?_
        refine zr_goto (tgt := 30) dX10_laysDunes_160 (by decide) ?_
        exact W
set_option maxRecDepth 100000 in
theorem SX10_laysDunes_79 {g : zG} {o : Bool} {h1 n1 : Nat} (hh1 : zh (z2 o) h1 = (1, n1)) (hz1 : h1 ≠ 0) (hn1 : n1 ≤ 100000) {h4 n4 : Nat} (hh4 : zh (z2 o) h4 = (1, n4)) (hz4 : h4 ≠ 0) (hn4 : n4 ≤ 100000) {M : zM} {q : Int → zM → Prop} {x2 x3 x5 x6 x7 : Int} (W : (-2147483648 ≤ x7 ∧ x7 ≤ 2147483647) ∧ (-2147483648 ≤ (M 1 33) ∧ (M 1 33) ≤ 2147483647) ∧ (((M 1 33) ≤ x7) → zT g (z2 o) mX10_laysDunes (zQi (z2 o) q) 30 [(0, zA g 1), (1, zA g h1), (2, zI x2), (3, zI x3), (4, zA g h4), (5, zI (x5 + 1)), (6, zI (x6 + 1))] [] M) ∧ ((¬ ((M 1 33) ≤ x7)) → zT g (z2 o) mX10_laysDunes (zQi (z2 o) q) 91 [(0, zA g 1), (1, zA g h1), (2, zI x2), (3, zI x3), (4, zA g h4), (5, zI x5), (6, zI x6), (7, zI x7), (8, zI 0)] [] M)) : zT g (z2 o) mX10_laysDunes (zQi (z2 o) q) 79 [(0, zA g 1), (1, zA g h1), (2, zI x2), (3, zI x3), (4, zA g h4), (5, zI x5), (6, zI x6), (7, zI x7)] [] M := by
  refine zr_iload 7 dX10_laysDunes_79 rfl ?_
  refine zr_aload_n 0 dX10_laysDunes_81 rfl ?_
  refine zt_geti 33 rfl dX10_laysDunes_82 fX10_387 rfl (by decide) ?_
  obtain ⟨c1, W⟩ := W
  obtain ⟨c2, W⟩ := W
  refine zr_icmp_ge (tgt := 154) dX10_laysDunes_85 (by decide) c1 c2 (fun h => ?_) (fun h => ?_)
  · have W := W.1 h
    refine zr_iinc (q := 5) (l' := [(0, zA g 1), (1, zA g h1), (2, zI x2), (3, zI x3), (4, zA g h4), (5, zI (x5 + 1)), (6, zI x6)]) dX10_laysDunes_154 rfl (by decide) [1, 2, 3, 4, 5, 0, 6] rfl ?_
    refine zr_iinc (q := 6) (l' := [(0, zA g 1), (1, zA g h1), (2, zI x2), (3, zI x3), (4, zA g h4), (5, zI (x5 + 1)), (6, zI (x6 + 1))]) dX10_laysDunes_157 rfl (by decide) [1, 2, 3, 4, 5, 6, 0] rfl ?_
    refine zr_goto (tgt := 30) dX10_laysDunes_160 (by decide) ?_
    exact W
  · have W := W.2 h
    refine zr_iconst dX10_laysDunes_88 ?_
    refine zr_istore (l' := [(0, zA g 1), (1, zA g h1), (2, zI x2), (3, zI x3), (4, zA g h4), (5, zI x5), (6, zI x6), (7, zI x7), (8, zI 0)]) dX10_laysDunes_89 (by decide) [1, 2, 3, 4, 5, 6, 7, 8, 0] rfl ?_
    exact W
set_option maxRecDepth 100000 in
theorem SX10_laysDunes_91 {g : zG} {o : Bool} {h1 n1 : Nat} (hh1 : zh (z2 o) h1 = (1, n1)) (hz1 : h1 ≠ 0) (hn1 : n1 ≤ 100000) {h4 n4 : Nat} (hh4 : zh (z2 o) h4 = (1, n4)) (hz4 : h4 ≠ 0) (hn4 : n4 ≤ 100000) {C R : Int} {M : zM} {q : Int → zM → Prop} {x2 x3 x5 x6 x7 x8 : Int} (W : (-2147483648 ≤ x8 ∧ x8 ≤ 2147483647) ∧ ((4 ≤ x8) → zT g (z2 o) mX10_laysDunes (zQi (z2 o) q) 79 [(0, zA g 1), (1, zA g h1), (2, zI x2), (3, zI x3), (4, zA g h4), (5, zI x5), (6, zI x6), (7, zI (x7 + 1))] [] M) ∧ ((¬ (4 ≤ x8)) → (0 ≤ x7 ∧ x7 < 96) ∧ (zRf M C R) ∧ (0 ≤ (M 15 x7) ∧ (M 15 x7) < C * R) ∧ (0 ≤ x8 ∧ x8 ≤ 3) ∧ (0 ≤ (x2 + (alg C R (M 15 x7) x8 1)) ∧ (x2 + (alg C R (M 15 x7) x8 1)) < n1) ∧ (-2147483648 ≤ (M h1 (x2 + (alg C R (M 15 x7) x8 1))) ∧ (M h1 (x2 + (alg C R (M 15 x7) x8 1))) ≤ 2147483647) ∧ (-2147483648 ≤ x3 ∧ x3 ≤ 2147483647) ∧ (((M h1 (x2 + (alg C R (M 15 x7) x8 1))) < x3) → zT g (z2 o) mX10_laysDunes (zQi (z2 o) q) 91 [(0, zA g 1), (1, zA g h1), (2, zI x2), (3, zI x3), (4, zA g h4), (5, zI x5), (6, zI x6), (7, zI x7), (8, zI (x8 + 1))] [] M) ∧ ((¬ ((M h1 (x2 + (alg C R (M 15 x7) x8 1))) < x3)) → (0 ≤ (alg C R (M 15 x7) x8 1) ∧ (alg C R (M 15 x7) x8 1) < n4) ∧ (-2147483648 ≤ (M h4 (alg C R (M 15 x7) x8 1)) ∧ (M h4 (alg C R (M 15 x7) x8 1)) ≤ 2147483647) ∧ (((M h4 (alg C R (M 15 x7) x8 1)) ≠ (-1)) → zT g (z2 o) mX10_laysDunes (zQi (z2 o) q) 91 [(0, zA g 1), (1, zA g h1), (2, zI x2), (3, zI x3), (4, zA g h4), (5, zI x5), (6, zI x6), (7, zI x7), (8, zI (x8 + 1))] [] M) ∧ (((M h4 (alg C R (M 15 x7) x8 1)) = (-1)) → ∃ q14 : zM → Prop, zKv g (z2 o) mX10_piles [zA g 1, zI (alg C R (M 15 x7) x8 1), zI x5, zA g h4] M q14 ∧ ∀ M16 : zM, q14 M16 → zT g (z2 o) mX10_laysDunes (zQi (z2 o) q) 91 [(0, zA g 1), (1, zA g h1), (2, zI x2), (3, zI x3), (4, zA g h4), (5, zI x5), (6, zI x6), (7, zI x7), (8, zI (x8 + 1))] [] M16)))) : zT g (z2 o) mX10_laysDunes (zQi (z2 o) q) 91 [(0, zA g 1), (1, zA g h1), (2, zI x2), (3, zI x3), (4, zA g h4), (5, zI x5), (6, zI x6), (7, zI x7), (8, zI x8)] [] M := by
  refine zr_iload 8 dX10_laysDunes_91 rfl ?_
  refine zr_iconst dX10_laysDunes_93 ?_
  obtain ⟨c1, W⟩ := W
  refine zr_icmp_ge (tgt := 148) dX10_laysDunes_94 (by decide) c1 ⟨by decide, by decide⟩ (fun h => ?_) (fun h => ?_)
  · have W := W.1 h
    refine zr_iinc (q := 7) (l' := [(0, zA g 1), (1, zA g h1), (2, zI x2), (3, zI x3), (4, zA g h4), (5, zI x5), (6, zI x6), (7, zI (x7 + 1))]) dX10_laysDunes_148 rfl (by decide) [1, 2, 3, 4, 5, 6, 7, 0] rfl ?_
    refine zr_goto (tgt := 79) dX10_laysDunes_151 (by decide) ?_
    exact W
  · have W := W.2 h
    refine zr_aload_n 0 dX10_laysDunes_97 rfl ?_
    refine zr_aload_n 0 dX10_laysDunes_98 rfl ?_
    refine zr_getr (b := 15) dX10_laysDunes_99 fX10_60 rfl rfl rfl (by decide) ?_
    refine zr_iload 7 dX10_laysDunes_102 rfl ?_
    obtain ⟨c2, W⟩ := W
    refine zr_iald dX10_laysDunes_104 rfl (by decide) c2 ?_
    refine zr_iload 8 dX10_laysDunes_105 rfl ?_
    refine zr_iconst dX10_laysDunes_107 ?_
    obtain ⟨c3, W⟩ := W
    obtain ⟨c4, W⟩ := W
    obtain ⟨c5, W⟩ := W
    refine zt_callVi (As := [zI (M 15 x7), zI x8, zI 1]) (rest := []) dX10_laysDunes_108 kX10_laysDunes_282 rfl rfl rfl rfl (Nat.le_of_ble_eq_true rfl) (c_along c3 c4 c5 (by decide)) (fun r6 N8 h7 => ?_)
    rw [h7.1, h7.2]
    refine zr_istore (l' := [(0, zA g 1), (1, zA g h1), (2, zI x2), (3, zI x3), (4, zA g h4), (5, zI x5), (6, zI x6), (7, zI x7), (8, zI x8), (9, zI (alg C R (M 15 x7) x8 1))]) dX10_laysDunes_111 (by decide) [1, 2, 3, 4, 5, 6, 7, 8, 9, 0] rfl ?_
    refine zr_aload_n 1 dX10_laysDunes_113 rfl ?_
    refine zr_iload_n 2 dX10_laysDunes_114 rfl ?_
    refine zr_iload 9 dX10_laysDunes_115 rfl ?_
    refine zr_iadd dX10_laysDunes_117 ?_
    obtain ⟨c9, W⟩ := W
    refine zr_iald dX10_laysDunes_118 hh1 hn1 c9 ?_
    refine zr_iload_n 3 dX10_laysDunes_119 rfl ?_
    obtain ⟨c10, W⟩ := W
    obtain ⟨c11, W⟩ := W
    refine zr_icmp_lt (tgt := 142) dX10_laysDunes_120 (by decide) c10 c11 (fun h => ?_) (fun h => ?_)
    · have W := W.1 h
      refine zr_iinc (q := 8) (l' := [(0, zA g 1), (1, zA g h1), (2, zI x2), (3, zI x3), (4, zA g h4), (5, zI x5), (6, zI x6), (7, zI x7), (8, zI (x8 + 1))]) dX10_laysDunes_142 rfl (by decide) [1, 2, 3, 4, 5, 6, 7, 8, 0] rfl ?_
      refine zr_goto (tgt := 91) dX10_laysDunes_145 (by decide) ?_
      exact W
    · have W := W.2 h
      refine zr_aload 4 dX10_laysDunes_123 rfl ?_
      refine zr_iload 9 dX10_laysDunes_125 rfl ?_
      obtain ⟨c12, W⟩ := W
      refine zr_iald dX10_laysDunes_127 hh4 hn4 c12 ?_
      refine zr_iconst dX10_laysDunes_128 ?_
      obtain ⟨c13, W⟩ := W
      refine zr_icmp_ne (tgt := 142) dX10_laysDunes_129 (by decide) c13 ⟨by decide, by decide⟩ (fun h => ?_) (fun h => ?_)
      · have W := W.1 h
        refine zr_iinc (q := 8) (l' := [(0, zA g 1), (1, zA g h1), (2, zI x2), (3, zI x3), (4, zA g h4), (5, zI x5), (6, zI x6), (7, zI x7), (8, zI (x8 + 1))]) dX10_laysDunes_142 rfl (by decide) [1, 2, 3, 4, 5, 6, 7, 8, 0] rfl ?_
        refine zr_goto (tgt := 91) dX10_laysDunes_145 (by decide) ?_
        exact W
      · have W := W.2 h
        refine zr_aload_n 0 dX10_laysDunes_132 rfl ?_
        refine zr_iload 9 dX10_laysDunes_133 rfl ?_
        refine zr_iload 5 dX10_laysDunes_135 rfl ?_
        refine zr_aload 4 dX10_laysDunes_137 rfl ?_
        obtain ⟨q14, k18, W⟩ := W
        refine zt_callVv (As := [zI (alg C R (M 15 x7) x8 1), zI x5, zA g h4]) (rest := []) dX10_laysDunes_139 kX10_laysDunes_390 rfl rfl rfl rfl (Nat.le_of_ble_eq_true rfl) k18 (fun M16 h17 => ?_)
        have W := W M16 h17
        refine zr_iinc (q := 8) (l' := [(0, zA g 1), (1, zA g h1), (2, zI x2), (3, zI x3), (4, zA g h4), (5, zI x5), (6, zI x6), (7, zI x7), (8, zI (x8 + 1))]) dX10_laysDunes_142 rfl (by decide) [1, 2, 3, 4, 5, 6, 7, 8, 0] rfl ?_
        refine zr_goto (tgt := 91) dX10_laysDunes_145 (by decide) ?_
        exact W
theorem dX10_sidled_0 : decode cX10_sidled 0 = .ok (.aload_n 0, 1) := by decide +kernel
theorem dX10_sidled_1 : decode cX10_sidled 1 = .ok (.aload_n 0, 1) := by decide +kernel
theorem dX10_sidled_2 : decode cX10_sidled 2 = .ok (.iload_n 1, 1) := by decide +kernel
theorem dX10_sidled_3 : decode cX10_sidled 3 = .ok (.iconst 0, 1) := by decide +kernel
theorem dX10_sidled_4 : decode cX10_sidled 4 = .ok (.iload_n 2, 1) := by decide +kernel
theorem dX10_sidled_5 : decode cX10_sidled 5 = .ok (.invokevirtual 282, 3) := by decide +kernel
theorem dX10_sidled_8 : decode cX10_sidled 8 = .ok (.iconst 1, 1) := by decide +kernel
theorem dX10_sidled_9 : decode cX10_sidled 9 = .ok (.iload_n 3, 1) := by decide +kernel
theorem dX10_sidled_10 : decode cX10_sidled 10 = .ok (.invokevirtual 282, 3) := by decide +kernel
theorem dX10_sidled_13 : decode cX10_sidled 13 = .ok (.ireturn, 1) := by decide +kernel
set_option maxRecDepth 100000 in
theorem SX10_sidled_0 {g : zG} {o : Bool} {C R : Int} {M : zM} {q : Int → zM → Prop} {x1 x2 x3 : Int} (W : (zRf M C R) ∧ (0 ≤ x1 ∧ x1 < C * R) ∧ (0 ≤ x2 ∧ x2 ≤ 10000) ∧ (0 ≤ (alg C R x1 0 x2) ∧ (alg C R x1 0 x2) < C * R) ∧ (0 ≤ x3 ∧ x3 ≤ 10000) ∧ q (alg C R (alg C R x1 0 x2) 1 x3) M) : zT g (z2 o) mX10_sidled (zQi (z2 o) q) 0 [(0, zA g 1), (1, zI x1), (2, zI x2), (3, zI x3)] [] M := by
  refine zr_aload_n 0 dX10_sidled_0 rfl ?_
  refine zr_aload_n 0 dX10_sidled_1 rfl ?_
  refine zr_iload_n 1 dX10_sidled_2 rfl ?_
  refine zr_iconst dX10_sidled_3 ?_
  refine zr_iload_n 2 dX10_sidled_4 rfl ?_
  obtain ⟨c1, W⟩ := W
  obtain ⟨c2, W⟩ := W
  obtain ⟨c3, W⟩ := W
  refine zt_callVi (As := [zI x1, zI 0, zI x2]) (rest := [zA g 1]) dX10_sidled_5 kX10_sidled_282 rfl rfl rfl rfl (Nat.le_of_ble_eq_true rfl) (c_along c1 c2 (by decide) c3) (fun r4 N6 h5 => ?_)
  rw [h5.1, h5.2]
  refine zr_iconst dX10_sidled_8 ?_
  refine zr_iload_n 3 dX10_sidled_9 rfl ?_
  obtain ⟨c7, W⟩ := W
  obtain ⟨c8, W⟩ := W
  refine zt_callVi (As := [zI (alg C R x1 0 x2), zI 1, zI x3]) (rest := []) dX10_sidled_10 kX10_sidled_282 rfl rfl rfl rfl (Nat.le_of_ble_eq_true rfl) (c_along c1 c7 (by decide) c8) (fun r9 N11 h10 => ?_)
  rw [h10.1, h10.2]
  exact zt_iret dX10_sidled_13 rfl W
def rlR (M : zM) (h4 : Nat) (C R : Int) (s : Fl) : Prop := M 1 33 = s.2.length ∧ (∀ i : Nat, i < s.2.length → M 15 (i : Int) = s.2.getD i 0) ∧ ∀ c : Int, 0 ≤ c → c < C * R → M h4 c = s.1 c
def rlF (M M' : zM) (h4 : Nat) : Prop := (∀ a : Nat, a ≠ 1 → a ≠ 15 → a ≠ h4 → M' a = M a) ∧ ∀ i : Int, i ≠ 33 → M' 1 i = M 1 i
section RL
variable {g : zG} {o : Bool} {M M' M'' : zM} {C R c m x x2 x3 : Int} {h1 n1 h4 : Nat} {P : Int → Prop} {s : Fl}
theorem rlF.rf : rlF M M h4 := ⟨fun _ _ _ _ => rfl, fun _ _ => rfl⟩
theorem rlF.trans (h : rlF M M' h4) (h' : rlF M' M'' h4) : rlF M M'' h4 := ⟨fun a p q r => (h'.1 a p q r).trans (h.1 a p q r), fun i p => (h'.2 i p).trans (h.2 i p)⟩
theorem rlF.L (hh : h4 = 13 ∨ h4 = 14) (hL : zRf M C R) (h : rlF M M' h4) : zRf M' C R := hL.of (h.1 3 (by omega) (by omega) (by omega)) (h.1 4 (by omega) (by omega) (by omega)) (h.1 5 (by omega) (by omega) (by omega))
theorem sh4 (hh : h4 = 13 ∨ h4 = 14) : zh (z2 o) h4 = (1, 96) := by rcases hh with rfl | rfl <;> rfl
theorem c_piles (hh : h4 = 13 ∨ h4 = 14) (hG : Geo C R) (hc : 0 ≤ c ∧ c < C * R) (hp : P c) (h1 : s.1 c = -1) (hR : rlR M h4 C R s) (hW : Wf C R s) : zKv g (z2 o) mX10_piles [zA g 1, zI c, zI m, zA g h4] M (fun M' => rlR M' h4 C R (rchP P m s c) ∧ rlF M M' h4) := by
  have hn := geo_n hG
  obtain ⟨r1, r2, r3⟩ := hR
  have hl := hW.lt hG hc h1
  refine zkv_of rfl (Nat.le_of_ble_eq_true rfl) (SX10_piles_0 (sh4 hh) (by omega) (by decide) ⟨by omega, by rw [zu_other (by omega)]; omega, fun N3 e3 N5 e5 => ?_⟩)
  have n3 : N3 1 33 = M 1 33 := by rw [e3, zu_other (by omega)]
  have n5 : N5 1 = M 1 := by rw [e5, zu_other (by decide), e3, zu_other (by omega)]
  rw [rchP_t hp h1]
  refine ⟨⟨?_, fun i hi => ?_, fun d a1 a2 => ?_⟩, fun a a1 a2 a3 => by rw [zu_other a1, e5, zu_other a2, e3, zu_other a3], fun i hi => by rw [zu_row, if_neg hi, n5]⟩
  · rw [zu_at, n5, r1]; simp
  · simp only [List.length_append, List.length_cons, List.length_nil] at hi
    rw [zu_other (by decide), e5, zu_row, n3, r1]
    by_cases e : i < s.2.length
    · rw [if_neg (by omega), e3, zu_other (by omega), r2 i e]; exact (gd_1 e c).symm
    · rw [if_pos (by omega), show i = s.2.length by omega]; exact (gd_2 s.2 c).symm
  · rw [zu_other (by omega), e5, zu_other (by omega), e3, zu_row]
    show _ = up s.1 c m d
    unfold up
    rw [r3 d a1 a2]
theorem c_laysDunes (h : zRf M C R) (hh1 : zh (z2 o) h1 = (1, n1)) (hn1 : n1 ≤ 100000) (hne : h1 ≠ 0 ∧ h1 ≠ 1 ∧ h1 ≠ 13 ∧ h1 ≠ 14 ∧ h1 ≠ 15) (hh : h4 = 13 ∨ h4 = 14) (hlv : -2147483648 ≤ x3 ∧ x3 ≤ 2147483647) (hP : ∀ d : Int, 0 ≤ d → d < C * R → ((x3 ≤ M h1 (x2 + d) ↔ P d) ∧ -2147483648 ≤ M h1 (x2 + d) ∧ M h1 (x2 + d) ≤ 2147483647) ∧ 0 ≤ x2 + d ∧ x2 + d < n1) :
    zKi g (z2 o) mX10_laysDunes [zA g 1, zA g h1, zI x2, zI x3, zA g h4] M (fun r M' => r = (joi P (T4 C R) 4 (C * R).toNat).2 ∧ (∀ c : Int, 0 ≤ c → c < C * R → M' h4 c = (joi P (T4 C R) 4 (C * R).toNat).1 c) ∧ rlF M M' h4) := by
  have hG := h.1
  have hn := geo_n hG
  obtain ⟨n, hnn⟩ := znn (show 0 ≤ C * R by omega)
  have en : (C * R).toNat = n := by omega
  rw [en]
  have z4 := sh4 (o := o) hh
  have h4n : h4 ≠ 0 := by omega
  refine zki_of rfl (Nat.le_of_ble_eq_true rfl) (SX10_laysDunes_0 hh1 hne.1 hn1 z4 h4n (by decide) ?_)
  have main : ∀ (j k : Nat) (M1 : zM), k + j = n → (∀ c : Int, 0 ≤ c → c < C * R → M1 h4 c = (joi P (T4 C R) 4 k).1 c) → rlF M M1 h4 → zT g (z2 o) mX10_laysDunes (zQi (z2 o) (fun r M' => r = (joi P (T4 C R) 4 n).2 ∧ (∀ c : Int, 0 ≤ c → c < C * R → M' h4 c = (joi P (T4 C R) 4 n).1 c) ∧ rlF M M' h4)) 30 [(0, zA g 1), (1, zA g h1), (2, zI x2), (3, zI x3), (4, zA g h4), (5, zI (joi P (T4 C R) 4 k).2), (6, zI k)] [] M1 := by
    intro j
    induction j with
    | zero =>
      intro k M1 hk hJ hF
      rw [show k = n by omega] at hJ ⊢
      exact SX10_laysDunes_30 (C := C) (R := R) hh1 hne.1 hn1 z4 h4n (by decide) ⟨hF.L hh h, by omega, by omega, fun _ => ⟨rfl, hJ, hF⟩, fun h => by omega⟩
    | succ j ih =>
      intro k M1 hk hJ hF
      have hL1 := hF.L hh h
      have eh : M1 h1 = M h1 := hF.1 h1 hne.2.1 hne.2.2.2.2 (by omega)
      have hp := hP k (by omega) (by omega)
      obtain ⟨w1, w2, w3⟩ := joi_wf (P := P) (K := 4) hG (fun d hd j => T4_in hG hd j) k (by omega)
      have hr : -1 ≤ (joi P (T4 C R) 4 k).1 k ∧ (joi P (T4 C R) 4 k).1 k ≤ 96 := w1.2.2 k (by omega) (by omega)
      have el := hJ k (by omega) (by omega)
      refine SX10_laysDunes_30 (C := C) (R := R) hh1 hne.1 hn1 z4 h4n (by decide) ⟨hL1, by omega, by omega, fun h => by omega, fun _ => ⟨hp.2, by rw [eh]; exact hp.1.2, hlv, fun h5 => ?_, fun h5 => ⟨by omega, by omega, fun h6 => ?_, fun h6 => ?_⟩⟩⟩
      · have hf : joi P (T4 C R) 4 (k + 1) = joi P (T4 C R) 4 k := joi_f (fun q => by have := hp.1.1.mpr q.1; rw [eh] at h5; omega)
        have := ih (k + 1) M1 (by omega) (by rw [hf]; exact hJ) hF
        rw [hf] at this; exact this
      · have hpk : P k := hp.1.1.mp (by rw [eh] at h5; omega)
        obtain ⟨mm, hmm⟩ : ∃ v, v = (joi P (T4 C R) 4 k).2 := ⟨_, rfl⟩
        have ht := joi_t (T := T4 C R) (K := 4) ⟨hpk, el.symm.trans h6⟩
        have nx := ih (k + 1)
        rw [ht, ← hmm] at nx
        rw [← hmm]
        rw [← hmm] at w2 w3
        have hR0 : rlR (zu M1 1 33 0) h4 C R ((joi P (T4 C R) 4 k).1, []) := ⟨by rw [zu_at]; rfl, fun i hi => by simp at hi, fun c a1 a2 => by rw [zu_other (by omega)]; exact hJ c a1 a2⟩
        have hF0 : rlF M (zu M1 1 33 0) h4 := hF.trans ⟨fun a a1 _ _ => zu_other a1, fun i hi => by rw [zu_row, if_neg hi]⟩
        have wf1 : Wf C R (rchP P mm ((joi P (T4 C R) 4 k).1, []) k) := w1.rc (by omega) (by omega)
        refine ⟨_, c_piles (P := P) hh hG (by omega) hpk (el.symm.trans h6) hR0 w1, fun M14 hq => ?_⟩
        suffices hs : ∀ (f i : Nat) (s : Fl) (M2 : zM), i + f = 97 → Wf C R s → rlR M2 h4 C R s → rlF M M2 h4 → flo P mm (T4 C R) 4 97 0 (rchP P mm ((joi P (T4 C R) 4 k).1, []) k) = flo P mm (T4 C R) 4 f i s → zT g (z2 o) mX10_laysDunes (zQi (z2 o) (fun r M' => r = (joi P (T4 C R) 4 n).2 ∧ (∀ c : Int, 0 ≤ c → c < C * R → M' h4 c = (joi P (T4 C R) 4 n).1 c) ∧ rlF M M' h4)) 79 [(0, zA g 1), (1, zA g h1), (2, zI x2), (3, zI x3), (4, zA g h4), (5, zI mm), (6, zI k), (7, zI i)] [] M2 from hs 97 0 _ M14 rfl wf1 hq.1 (hF0.trans hq.2) rfl
        intro f
        induction f with
        | zero =>
          intro i s M2 hi hW2 hR2 hF2 he
          have := hW2.len hG
          have e := hR2.1
          refine SX10_laysDunes_79 hh1 hne.1 hn1 z4 h4n (by decide) ⟨by omega, by omega, fun _ => ?_, fun h => by omega⟩
          refine nx M2 (by omega) (fun c a1 a2 => ?_) hF2
          rw [he]; exact hR2.2.2 c a1 a2
        | succ f ihf =>
          intro i s M2 hi hW2 hR2 hF2 he
          have hl := hW2.len hG
          have e := hR2.1
          by_cases hlt : i < s.2.length
          · have ef : flo P mm (T4 C R) 4 (f + 1) i s = flo P mm (T4 C R) 4 f (i + 1) (rchs P mm (T4 C R) (s.2.getD i 0) 4 s) := by show (if _ then _ else _) = _; rw [if_pos hlt]
            rw [ef] at he
            have hc0 := hW2.2.1 i hlt
            refine SX10_laysDunes_79 hh1 hne.1 hn1 z4 h4n (by decide) ⟨by omega, by omega, fun h => by omega, fun _ => ?_⟩
            suffices hs2 : ∀ (j' w : Nat) (M3 : zM), w + j' = 4 → rlR M3 h4 C R (rchs P mm (T4 C R) (s.2.getD i 0) w s) → rlF M M3 h4 → zT g (z2 o) mX10_laysDunes (zQi (z2 o) (fun r M' => r = (joi P (T4 C R) 4 n).2 ∧ (∀ c : Int, 0 ≤ c → c < C * R → M' h4 c = (joi P (T4 C R) 4 n).1 c) ∧ rlF M M' h4)) 91 [(0, zA g 1), (1, zA g h1), (2, zI x2), (3, zI x3), (4, zA g h4), (5, zI mm), (6, zI k), (7, zI i), (8, zI w)] [] M3 from hs2 4 0 M2 rfl hR2 hF2
            intro j'
            induction j' with
            | zero =>
              intro w M3 hw hR3 hF3
              rw [show w = 4 by omega] at hR3 ⊢
              exact SX10_laysDunes_91 (C := C) (R := R) hh1 hne.1 hn1 z4 h4n (by decide) ⟨by omega, fun _ => ihf (i + 1) _ M3 (by omega) (hW2.rcs (fun j => T4_in hG hc0 j) (by omega) 4) hR3 hF3 he, fun h => by omega⟩
            | succ j' ih2 =>
              intro w M3 hw hR3 hF3
              have hL3 := hF3.L hh h
              have wf3 : Wf C R (rchs P mm (T4 C R) (s.2.getD i 0) w s) := hW2.rcs (fun j => T4_in hG hc0 j) (by omega) w
              have gt := rchs_get (P := P) (m := mm) (T := T4 C R) (d := s.2.getD i 0) hlt w
              have eq : M3 15 i = s.2.getD i 0 := (hR3.2.1 i gt.1).trans gt.2
              have a1 := alg_in (w := (w : Int)) (k := 1) hG hc0
              have eh3 : M3 h1 = M h1 := hF3.1 h1 hne.2.1 hne.2.2.2.2 (by omega)
              have hp1 := hP _ a1.1 a1.2
              have el3 := hR3.2.2 _ a1.1 a1.2
              have hr3 := wf3.2.2 _ a1.1 a1.2
              have nxt := ih2 (w + 1)
              refine SX10_laysDunes_91 (C := C) (R := R) hh1 hne.1 hn1 z4 h4n (by decide) ⟨by omega, fun h => by omega, fun _ => ⟨by omega, hL3, by rw [eq]; exact hc0, by omega, ?_⟩⟩
              rw [eq, eh3]
              refine ⟨hp1.2, hp1.1.2, hlv, fun h7 => ?_, fun h7 => ⟨by omega, by omega, fun h8 => ?_, fun h8 => ?_⟩⟩
              · refine nxt M3 (by omega) ?_ hF3
                show rlR M3 h4 C R (rchP P mm _ (T4 C R (s.2.getD i 0) w))
                rw [rchP_f (fun q => by have := hp1.1.1.mpr q.1; omega)]; exact hR3
              · refine nxt M3 (by omega) ?_ hF3
                show rlR M3 h4 C R (rchP P mm _ (T4 C R (s.2.getD i 0) w))
                rw [show rchP P mm (rchs P mm (T4 C R) (s.2.getD i 0) w s) (T4 C R (s.2.getD i 0) w) = rchs P mm (T4 C R) (s.2.getD i 0) w s from rchP_f (fun q => h8 (el3.trans q.2))]; exact hR3
              · refine ⟨_, c_piles (P := P) (m := mm) hh hG a1 (hp1.1.1.mp (by omega)) (el3.symm.trans h8) hR3 wf3, fun M16 hq => nxt M16 (by omega) hq.1 (hF3.trans hq.2)⟩
          · have ef : flo P mm (T4 C R) 4 (f + 1) i s = s := by show (if _ then _ else _) = _; rw [if_neg hlt]
            rw [ef] at he
            refine SX10_laysDunes_79 hh1 hne.1 hn1 z4 h4n (by decide) ⟨by omega, by omega, fun _ => ?_, fun h => by omega⟩
            refine nx M2 (by omega) (fun c a1 a2 => ?_) hF2
            rw [he]; exact hR2.2.2 c a1 a2
      · have hf : joi P (T4 C R) 4 (k + 1) = joi P (T4 C R) 4 k := joi_f (fun q => h6 (el.trans q.2))
        have := ih (k + 1) M1 (by omega) (by rw [hf]; exact hJ) hF
        rw [hf] at this; exact this
  suffices hs : ∀ (j k : Nat) (M1 : zM), k + j = n → (∀ c : Int, 0 ≤ c → c < k → M1 h4 c = -1) → rlF M M1 h4 → zT g (z2 o) mX10_laysDunes (zQi (z2 o) (fun r M' => r = (joi P (T4 C R) 4 n).2 ∧ (∀ c : Int, 0 ≤ c → c < C * R → M' h4 c = (joi P (T4 C R) 4 n).1 c) ∧ rlF M M' h4)) 3 [(0, zA g 1), (1, zA g h1), (2, zI x2), (3, zI x3), (4, zA g h4), (5, zI k)] [] M1 from hs n 0 M (by omega) (fun c a1 a2 => by omega) rlF.rf
  intro j
  induction j with
  | zero =>
    intro k M1 hk hi hF
    exact SX10_laysDunes_3 (C := C) (R := R) hh1 hne.1 hn1 z4 h4n (by decide) ⟨hF.L hh h, by omega, by omega, fun _ => main n 0 M1 (by omega) (fun c a1 a2 => hi c a1 (by omega)) hF, fun h => by omega⟩
  | succ j ih =>
    intro k M1 hk hi hF
    refine SX10_laysDunes_3 (C := C) (R := R) hh1 hne.1 hn1 z4 h4n (by decide) ⟨hF.L hh h, by omega, by omega, fun h => by omega, fun _ => ⟨by omega, ih (k + 1) _ (by omega) (fun c a1 a2 => ?_) (hF.trans ⟨fun a _ _ a3 => zu_other a3, fun i _ => by rw [zu_other (by omega)]⟩)⟩⟩
    rw [zu_row]
    by_cases e : c = k
    · rw [if_pos e]
    · rw [if_neg e]; exact hi c a1 (by omega)
theorem c_sidled {e : Int} (h : zRf M C R) (hc : 0 ≤ c ∧ c < C * R) (hx : 0 ≤ x ∧ x ≤ 10000) (he : 0 ≤ e ∧ e ≤ 10000) : zKi g (z2 o) mX10_sidled [zA g 1, zI c, zI x, zI e] M (fun r M' => r = alg C R (alg C R c 0 x) 1 e ∧ M' = M) :=
  zki_of rfl (Nat.le_of_ble_eq_true rfl) (SX10_sidled_0 ⟨h, hc, hx, alg_in h.1 hc, he, rfl, rfl⟩)
end RL
