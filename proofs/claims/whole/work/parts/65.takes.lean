theorem dX10_takesOver_0 : decode cX10_takesOver 0 = .ok (.aload_n 0, 1) := by decide +kernel
theorem dX10_takesOver_1 : decode cX10_takesOver 1 = .ok (.getfield 20, 3) := by decide +kernel
theorem dX10_takesOver_4 : decode cX10_takesOver 4 = .ok (.invokestatic 222, 3) := by decide +kernel
theorem dX10_takesOver_7 : decode cX10_takesOver 7 = .ok (.aload_n 0, 1) := by decide +kernel
theorem dX10_takesOver_8 : decode cX10_takesOver 8 = .ok (.getfield 23, 3) := by decide +kernel
theorem dX10_takesOver_11 : decode cX10_takesOver 11 = .ok (.invokestatic 222, 3) := by decide +kernel
theorem dX10_takesOver_14 : decode cX10_takesOver 14 = .ok (.aload_n 0, 1) := by decide +kernel
theorem dX10_takesOver_15 : decode cX10_takesOver 15 = .ok (.getfield 26, 3) := by decide +kernel
theorem dX10_takesOver_18 : decode cX10_takesOver 18 = .ok (.invokestatic 222, 3) := by decide +kernel
theorem dX10_takesOver_21 : decode cX10_takesOver 21 = .ok (.aload_n 0, 1) := by decide +kernel
theorem dX10_takesOver_22 : decode cX10_takesOver 22 = .ok (.getfield 29, 3) := by decide +kernel
theorem dX10_takesOver_25 : decode cX10_takesOver 25 = .ok (.invokestatic 222, 3) := by decide +kernel
theorem dX10_takesOver_28 : decode cX10_takesOver 28 = .ok (.aload_n 0, 1) := by decide +kernel
theorem dX10_takesOver_29 : decode cX10_takesOver 29 = .ok (.getfield 32, 3) := by decide +kernel
theorem dX10_takesOver_32 : decode cX10_takesOver 32 = .ok (.invokestatic 222, 3) := by decide +kernel
theorem dX10_takesOver_35 : decode cX10_takesOver 35 = .ok (.iconst 0, 1) := by decide +kernel
theorem dX10_takesOver_36 : decode cX10_takesOver 36 = .ok (.istore_n 1, 1) := by decide +kernel
theorem dX10_takesOver_37 : decode cX10_takesOver 37 = .ok (.iload_n 1, 1) := by decide +kernel
theorem dX10_takesOver_38 : decode cX10_takesOver 38 = .ok (.sipush 198, 3) := by decide +kernel
theorem dX10_takesOver_41 : decode cX10_takesOver 41 = .ok (.if_icmp .ge 16, 3) := by decide +kernel
theorem dX10_takesOver_44 : decode cX10_takesOver 44 = .ok (.aload_n 0, 1) := by decide +kernel
theorem dX10_takesOver_45 : decode cX10_takesOver 45 = .ok (.getfield 45, 3) := by decide +kernel
theorem dX10_takesOver_48 : decode cX10_takesOver 48 = .ok (.iload_n 1, 1) := by decide +kernel
theorem dX10_takesOver_49 : decode cX10_takesOver 49 = .ok (.iconst 0, 1) := by decide +kernel
theorem dX10_takesOver_50 : decode cX10_takesOver 50 = .ok (.iastore, 1) := by decide +kernel
theorem dX10_takesOver_51 : decode cX10_takesOver 51 = .ok (.iinc 1 1, 3) := by decide +kernel
theorem dX10_takesOver_54 : decode cX10_takesOver 54 = .ok (.goto (-17), 3) := by decide +kernel
theorem dX10_takesOver_57 : decode cX10_takesOver 57 = .ok (.iconst 0, 1) := by decide +kernel
theorem dX10_takesOver_58 : decode cX10_takesOver 58 = .ok (.istore_n 1, 1) := by decide +kernel
theorem dX10_takesOver_59 : decode cX10_takesOver 59 = .ok (.iload_n 1, 1) := by decide +kernel
theorem dX10_takesOver_60 : decode cX10_takesOver 60 = .ok (.aload_n 0, 1) := by decide +kernel
theorem dX10_takesOver_61 : decode cX10_takesOver 61 = .ok (.invokevirtual 226, 3) := by decide +kernel
theorem dX10_takesOver_64 : decode cX10_takesOver 64 = .ok (.if_icmp .ge 28, 3) := by decide +kernel
theorem dX10_takesOver_67 : decode cX10_takesOver 67 = .ok (.aload_n 0, 1) := by decide +kernel
theorem dX10_takesOver_68 : decode cX10_takesOver 68 = .ok (.getfield 45, 3) := by decide +kernel
theorem dX10_takesOver_71 : decode cX10_takesOver 71 = .ok (.iload_n 1, 1) := by decide +kernel
theorem dX10_takesOver_72 : decode cX10_takesOver 72 = .ok (.aload_n 0, 1) := by decide +kernel
theorem dX10_takesOver_73 : decode cX10_takesOver 73 = .ok (.getfield 20, 3) := by decide +kernel
theorem dX10_takesOver_76 : decode cX10_takesOver 76 = .ok (.iconst 2, 1) := by decide +kernel
theorem dX10_takesOver_77 : decode cX10_takesOver 77 = .ok (.iaload, 1) := by decide +kernel
theorem dX10_takesOver_78 : decode cX10_takesOver 78 = .ok (.aload_n 0, 1) := by decide +kernel
theorem dX10_takesOver_79 : decode cX10_takesOver 79 = .ok (.getfield 29, 3) := by decide +kernel
theorem dX10_takesOver_82 : decode cX10_takesOver 82 = .ok (.iload_n 1, 1) := by decide +kernel
theorem dX10_takesOver_83 : decode cX10_takesOver 83 = .ok (.iaload, 1) := by decide +kernel
theorem dX10_takesOver_84 : decode cX10_takesOver 84 = .ok (.iadd, 1) := by decide +kernel
theorem dX10_takesOver_85 : decode cX10_takesOver 85 = .ok (.iastore, 1) := by decide +kernel
theorem dX10_takesOver_86 : decode cX10_takesOver 86 = .ok (.iinc 1 1, 3) := by decide +kernel
theorem dX10_takesOver_89 : decode cX10_takesOver 89 = .ok (.goto (-30), 3) := by decide +kernel
theorem dX10_takesOver_92 : decode cX10_takesOver 92 = .ok (.aload_n 0, 1) := by decide +kernel
theorem dX10_takesOver_93 : decode cX10_takesOver 93 = .ok (.invokevirtual 229, 3) := by decide +kernel
theorem dX10_takesOver_96 : decode cX10_takesOver 96 = .ok (.iconst 0, 1) := by decide +kernel
theorem dX10_takesOver_97 : decode cX10_takesOver 97 = .ok (.istore_n 1, 1) := by decide +kernel
theorem dX10_takesOver_98 : decode cX10_takesOver 98 = .ok (.iload_n 1, 1) := by decide +kernel
theorem dX10_takesOver_99 : decode cX10_takesOver 99 = .ok (.bipush 96, 2) := by decide +kernel
theorem dX10_takesOver_101 : decode cX10_takesOver 101 = .ok (.if_icmp .ge 21, 3) := by decide +kernel
theorem dX10_takesOver_104 : decode cX10_takesOver 104 = .ok (.aload_n 0, 1) := by decide +kernel
theorem dX10_takesOver_105 : decode cX10_takesOver 105 = .ok (.getfield 35, 3) := by decide +kernel
theorem dX10_takesOver_108 : decode cX10_takesOver 108 = .ok (.iload_n 1, 1) := by decide +kernel
theorem dX10_takesOver_109 : decode cX10_takesOver 109 = .ok (.aload_n 0, 1) := by decide +kernel
theorem dX10_takesOver_110 : decode cX10_takesOver 110 = .ok (.getfield 45, 3) := by decide +kernel
theorem dX10_takesOver_113 : decode cX10_takesOver 113 = .ok (.iload_n 1, 1) := by decide +kernel
theorem dX10_takesOver_114 : decode cX10_takesOver 114 = .ok (.iaload, 1) := by decide +kernel
theorem dX10_takesOver_115 : decode cX10_takesOver 115 = .ok (.iastore, 1) := by decide +kernel
theorem dX10_takesOver_116 : decode cX10_takesOver 116 = .ok (.iinc 1 1, 3) := by decide +kernel
theorem dX10_takesOver_119 : decode cX10_takesOver 119 = .ok (.goto (-21), 3) := by decide +kernel
theorem dX10_takesOver_122 : decode cX10_takesOver 122 = .ok (.aload_n 0, 1) := by decide +kernel
theorem dX10_takesOver_123 : decode cX10_takesOver 123 = .ok (.aload_n 0, 1) := by decide +kernel
theorem dX10_takesOver_124 : decode cX10_takesOver 124 = .ok (.getfield 20, 3) := by decide +kernel
theorem dX10_takesOver_127 : decode cX10_takesOver 127 = .ok (.bipush 8, 2) := by decide +kernel
theorem dX10_takesOver_129 : decode cX10_takesOver 129 = .ok (.iaload, 1) := by decide +kernel
theorem dX10_takesOver_130 : decode cX10_takesOver 130 = .ok (.invokevirtual 232, 3) := by decide +kernel
theorem dX10_takesOver_133 : decode cX10_takesOver 133 = .ok (.iconst 0, 1) := by decide +kernel
theorem dX10_takesOver_134 : decode cX10_takesOver 134 = .ok (.istore_n 1, 1) := by decide +kernel
theorem dX10_takesOver_135 : decode cX10_takesOver 135 = .ok (.iload_n 1, 1) := by decide +kernel
theorem dX10_takesOver_136 : decode cX10_takesOver 136 = .ok (.sipush 198, 3) := by decide +kernel
theorem dX10_takesOver_139 : decode cX10_takesOver 139 = .ok (.if_icmp .ge 21, 3) := by decide +kernel
theorem dX10_takesOver_142 : decode cX10_takesOver 142 = .ok (.aload_n 0, 1) := by decide +kernel
theorem dX10_takesOver_143 : decode cX10_takesOver 143 = .ok (.getfield 42, 3) := by decide +kernel
theorem dX10_takesOver_146 : decode cX10_takesOver 146 = .ok (.iload_n 1, 1) := by decide +kernel
theorem dX10_takesOver_147 : decode cX10_takesOver 147 = .ok (.aload_n 0, 1) := by decide +kernel
theorem dX10_takesOver_148 : decode cX10_takesOver 148 = .ok (.getfield 45, 3) := by decide +kernel
theorem dX10_takesOver_151 : decode cX10_takesOver 151 = .ok (.iload_n 1, 1) := by decide +kernel
theorem dX10_takesOver_152 : decode cX10_takesOver 152 = .ok (.iaload, 1) := by decide +kernel
theorem dX10_takesOver_153 : decode cX10_takesOver 153 = .ok (.iastore, 1) := by decide +kernel
theorem dX10_takesOver_154 : decode cX10_takesOver 154 = .ok (.iinc 1 1, 3) := by decide +kernel
theorem dX10_takesOver_157 : decode cX10_takesOver 157 = .ok (.goto (-22), 3) := by decide +kernel
theorem dX10_takesOver_160 : decode cX10_takesOver 160 = .ok (.aload_n 0, 1) := by decide +kernel
theorem dX10_takesOver_161 : decode cX10_takesOver 161 = .ok (.iconst 0, 1) := by decide +kernel
theorem dX10_takesOver_162 : decode cX10_takesOver 162 = .ok (.putfield 235, 3) := by decide +kernel
theorem dX10_takesOver_165 : decode cX10_takesOver 165 = .ok (.aload_n 0, 1) := by decide +kernel
theorem dX10_takesOver_166 : decode cX10_takesOver 166 = .ok (.iconst 0, 1) := by decide +kernel
theorem dX10_takesOver_167 : decode cX10_takesOver 167 = .ok (.putfield 238, 3) := by decide +kernel
theorem dX10_takesOver_170 : decode cX10_takesOver 170 = .ok (.aload_n 0, 1) := by decide +kernel
theorem dX10_takesOver_171 : decode cX10_takesOver 171 = .ok (.iconst 0, 1) := by decide +kernel
theorem dX10_takesOver_172 : decode cX10_takesOver 172 = .ok (.putfield 241, 3) := by decide +kernel
theorem dX10_takesOver_175 : decode cX10_takesOver 175 = .ok (.iconst 0, 1) := by decide +kernel
theorem dX10_takesOver_176 : decode cX10_takesOver 176 = .ok (.istore_n 1, 1) := by decide +kernel
theorem dX10_takesOver_177 : decode cX10_takesOver 177 = .ok (.iload_n 1, 1) := by decide +kernel
theorem dX10_takesOver_178 : decode cX10_takesOver 178 = .ok (.iconst 3, 1) := by decide +kernel
theorem dX10_takesOver_179 : decode cX10_takesOver 179 = .ok (.if_icmp .ge 16, 3) := by decide +kernel
theorem dX10_takesOver_182 : decode cX10_takesOver 182 = .ok (.aload_n 0, 1) := by decide +kernel
theorem dX10_takesOver_183 : decode cX10_takesOver 183 = .ok (.getfield 66, 3) := by decide +kernel
theorem dX10_takesOver_186 : decode cX10_takesOver 186 = .ok (.iload_n 1, 1) := by decide +kernel
theorem dX10_takesOver_187 : decode cX10_takesOver 187 = .ok (.iconst 0, 1) := by decide +kernel
theorem dX10_takesOver_188 : decode cX10_takesOver 188 = .ok (.bastore, 1) := by decide +kernel
theorem dX10_takesOver_189 : decode cX10_takesOver 189 = .ok (.iinc 1 1, 3) := by decide +kernel
theorem dX10_takesOver_192 : decode cX10_takesOver 192 = .ok (.goto (-15), 3) := by decide +kernel
theorem dX10_takesOver_195 : decode cX10_takesOver 195 = .ok (.return_, 1) := by decide +kernel
set_option maxRecDepth 100000 in
theorem SX10_takesOver_0 {g : zG} {o : Bool} {M : zM} {q : zM → Prop} (W : ∃ q1 : zM → Prop, zKv g (z2 o) mX10_takesHalf [zA g 3] M q1 ∧ ∀ M3 : zM, q1 M3 → ∃ q6 : zM → Prop, zKv g (z2 o) mX10_takesHalf [zA g 4] M3 q6 ∧ ∀ M8 : zM, q6 M8 → ∃ q11 : zM → Prop, zKv g (z2 o) mX10_takesHalf [zA g 5] M8 q11 ∧ ∀ M13 : zM, q11 M13 → ∃ q16 : zM → Prop, zKv g (z2 o) mX10_takesHalf [zA g 6] M13 q16 ∧ ∀ M18 : zM, q16 M18 → ∃ q21 : zM → Prop, zKv g (z2 o) mX10_takesHalf [zA g 7] M18 q21 ∧ ∀ M23 : zM, q21 M23 → zT g (z2 o) mX10_takesOver (zQv (z2 o) q) 37 [(0, zA g 1), (1, zI 0)] [] M23) : zT g (z2 o) mX10_takesOver (zQv (z2 o) q) 0 [(0, zA g 1)] [] M := by
  refine zr_aload_n 0 dX10_takesOver_0 rfl ?_
  refine zr_getr (b := 3) dX10_takesOver_1 fX10_20 rfl rfl rfl (by decide) ?_
  obtain ⟨q1, k5, W⟩ := W
  refine zt_callSv (As := [zA g 3]) (rest := []) dX10_takesOver_4 kX10_takesOver_222 rfl rfl (Nat.le_of_ble_eq_true rfl) k5 (fun M3 h4 => ?_)
  have W := W M3 h4
  refine zr_aload_n 0 dX10_takesOver_7 rfl ?_
  refine zr_getr (b := 4) dX10_takesOver_8 fX10_23 rfl rfl rfl (by decide) ?_
  obtain ⟨q6, k10, W⟩ := W
  refine zt_callSv (As := [zA g 4]) (rest := []) dX10_takesOver_11 kX10_takesOver_222 rfl rfl (Nat.le_of_ble_eq_true rfl) k10 (fun M8 h9 => ?_)
  have W := W M8 h9
  refine zr_aload_n 0 dX10_takesOver_14 rfl ?_
  refine zr_getr (b := 5) dX10_takesOver_15 fX10_26 rfl rfl rfl (by decide) ?_
  obtain ⟨q11, k15, W⟩ := W
  refine zt_callSv (As := [zA g 5]) (rest := []) dX10_takesOver_18 kX10_takesOver_222 rfl rfl (Nat.le_of_ble_eq_true rfl) k15 (fun M13 h14 => ?_)
  have W := W M13 h14
  refine zr_aload_n 0 dX10_takesOver_21 rfl ?_
  refine zr_getr (b := 6) dX10_takesOver_22 fX10_29 rfl rfl rfl (by decide) ?_
  obtain ⟨q16, k20, W⟩ := W
  refine zt_callSv (As := [zA g 6]) (rest := []) dX10_takesOver_25 kX10_takesOver_222 rfl rfl (Nat.le_of_ble_eq_true rfl) k20 (fun M18 h19 => ?_)
  have W := W M18 h19
  refine zr_aload_n 0 dX10_takesOver_28 rfl ?_
  refine zr_getr (b := 7) dX10_takesOver_29 fX10_32 rfl rfl rfl (by decide) ?_
  obtain ⟨q21, k25, W⟩ := W
  refine zt_callSv (As := [zA g 7]) (rest := []) dX10_takesOver_32 kX10_takesOver_222 rfl rfl (Nat.le_of_ble_eq_true rfl) k25 (fun M23 h24 => ?_)
  have W := W M23 h24
  refine zr_iconst dX10_takesOver_35 ?_
  refine zr_istore_n (l' := [(0, zA g 1), (1, zI 0)]) dX10_takesOver_36 (by decide) [1, 0] rfl ?_
  exact W
set_option maxRecDepth 100000 in
theorem SX10_takesOver_37 {g : zG} {o : Bool} {M : zM} {q : zM → Prop} {x1 : Int} (W : (-2147483648 ≤ x1 ∧ x1 ≤ 2147483647) ∧ ((198 ≤ x1) → zT g (z2 o) mX10_takesOver (zQv (z2 o) q) 59 [(0, zA g 1), (1, zI 0)] [] M) ∧ ((¬ (198 ≤ x1)) → (0 ≤ x1 ∧ x1 < 198) ∧ zT g (z2 o) mX10_takesOver (zQv (z2 o) q) 37 [(0, zA g 1), (1, zI (x1 + 1))] [] (zu M 11 x1 0))) : zT g (z2 o) mX10_takesOver (zQv (z2 o) q) 37 [(0, zA g 1), (1, zI x1)] [] M := by
  refine zr_iload_n 1 dX10_takesOver_37 rfl ?_
  refine zr_sipush dX10_takesOver_38 (by decide) ?_
  obtain ⟨c1, W⟩ := W
  refine zr_icmp_ge (tgt := 57) dX10_takesOver_41 (by decide) c1 ⟨by decide, by decide⟩ (fun h => ?_) (fun h => ?_)
  · have W := W.1 h
    refine zr_iconst dX10_takesOver_57 ?_
    refine zr_istore_n (l' := [(0, zA g 1), (1, zI 0)]) dX10_takesOver_58 (by decide) [1, 0] rfl ?_
    exact W
  · have W := W.2 h
    refine zr_aload_n 0 dX10_takesOver_44 rfl ?_
    refine zr_getr (b := 11) dX10_takesOver_45 fX10_45 rfl rfl rfl (by decide) ?_
    refine zr_iload_n 1 dX10_takesOver_48 rfl ?_
    refine zr_iconst dX10_takesOver_49 ?_
    obtain ⟨c2, W⟩ := W
    refine zr_iast dX10_takesOver_50 rfl (by decide) c2 ?_
    refine zr_iinc (q := 1) (l' := [(0, zA g 1), (1, zI (x1 + 1))]) dX10_takesOver_51 rfl (by decide) [1, 0] rfl ?_
    refine zr_goto (tgt := 37) dX10_takesOver_54 (by decide) ?_
    exact W
set_option maxRecDepth 100000 in
theorem SX10_takesOver_59 {g : zG} {o : Bool} {C R : Int} {M : zM} {q : zM → Prop} {x1 : Int} (W : (zRf M C R) ∧ (-2147483648 ≤ x1 ∧ x1 ≤ 2147483647) ∧ (-2147483648 ≤ (C * R) ∧ (C * R) ≤ 2147483647) ∧ (((C * R) ≤ x1) → ∃ q7 : zM → Prop, zKv g (z2 o) mX10_settles [zA g 1] M q7 ∧ ∀ M9 : zM, q7 M9 → zT g (z2 o) mX10_takesOver (zQv (z2 o) q) 98 [(0, zA g 1), (1, zI 0)] [] M9) ∧ ((¬ ((C * R) ≤ x1)) → (0 ≤ x1 ∧ x1 < 192) ∧ (0 ≤ x1 ∧ x1 < 198) ∧ zT g (z2 o) mX10_takesOver (zQv (z2 o) q) 59 [(0, zA g 1), (1, zI (x1 + 1))] [] (zu M 11 x1 ((M 3 2) + (M 6 x1))))) : zT g (z2 o) mX10_takesOver (zQv (z2 o) q) 59 [(0, zA g 1), (1, zI x1)] [] M := by
  refine zr_iload_n 1 dX10_takesOver_59 rfl ?_
  refine zr_aload_n 0 dX10_takesOver_60 rfl ?_
  obtain ⟨c1, W⟩ := W
  refine zt_callVi (As := []) (rest := [zI x1]) dX10_takesOver_61 kX10_takesOver_226 rfl rfl rfl rfl (Nat.le_of_ble_eq_true rfl) (c_cells c1) (fun r2 N4 h3 => ?_)
  rw [h3.1, h3.2]
  obtain ⟨c5, W⟩ := W
  obtain ⟨c6, W⟩ := W
  refine zr_icmp_ge (tgt := 92) dX10_takesOver_64 (by decide) c5 c6 (fun h => ?_) (fun h => ?_)
  · have W := W.1 h
    refine zr_aload_n 0 dX10_takesOver_92 rfl ?_
    obtain ⟨q7, k11, W⟩ := W
    refine zt_callVv (As := []) (rest := []) dX10_takesOver_93 kX10_takesOver_229 rfl rfl rfl rfl (Nat.le_of_ble_eq_true rfl) k11 (fun M9 h10 => ?_)
    have W := W M9 h10
    refine zr_iconst dX10_takesOver_96 ?_
    refine zr_istore_n (l' := [(0, zA g 1), (1, zI 0)]) dX10_takesOver_97 (by decide) [1, 0] rfl ?_
    exact W
  · have W := W.2 h
    refine zr_aload_n 0 dX10_takesOver_67 rfl ?_
    refine zr_getr (b := 11) dX10_takesOver_68 fX10_45 rfl rfl rfl (by decide) ?_
    refine zr_iload_n 1 dX10_takesOver_71 rfl ?_
    refine zr_aload_n 0 dX10_takesOver_72 rfl ?_
    refine zr_getr (b := 3) dX10_takesOver_73 fX10_20 rfl rfl rfl (by decide) ?_
    refine zr_iconst dX10_takesOver_76 ?_
    refine zr_iald dX10_takesOver_77 rfl (by decide) ⟨by decide, by decide⟩ ?_
    refine zr_aload_n 0 dX10_takesOver_78 rfl ?_
    refine zr_getr (b := 6) dX10_takesOver_79 fX10_29 rfl rfl rfl (by decide) ?_
    refine zr_iload_n 1 dX10_takesOver_82 rfl ?_
    obtain ⟨c12, W⟩ := W
    refine zr_iald dX10_takesOver_83 rfl (by decide) c12 ?_
    refine zr_iadd dX10_takesOver_84 ?_
    obtain ⟨c13, W⟩ := W
    refine zr_iast dX10_takesOver_85 rfl (by decide) c13 ?_
    refine zr_iinc (q := 1) (l' := [(0, zA g 1), (1, zI (x1 + 1))]) dX10_takesOver_86 rfl (by decide) [1, 0] rfl ?_
    refine zr_goto (tgt := 59) dX10_takesOver_89 (by decide) ?_
    exact W
set_option maxRecDepth 100000 in
theorem SX10_takesOver_98 {g : zG} {o : Bool} {M : zM} {q : zM → Prop} {x1 : Int} (W : (-2147483648 ≤ x1 ∧ x1 ≤ 2147483647) ∧ ((96 ≤ x1) → ∃ q2 : zM → Prop, zKv g (z2 o) mX10_asTold [zA g 1, zI (M 3 8)] M q2 ∧ ∀ M4 : zM, q2 M4 → zT g (z2 o) mX10_takesOver (zQv (z2 o) q) 135 [(0, zA g 1), (1, zI 0)] [] M4) ∧ ((¬ (96 ≤ x1)) → (0 ≤ x1 ∧ x1 < 198) ∧ (0 ≤ x1 ∧ x1 < 96) ∧ zT g (z2 o) mX10_takesOver (zQv (z2 o) q) 98 [(0, zA g 1), (1, zI (x1 + 1))] [] (zu M 8 x1 (M 11 x1)))) : zT g (z2 o) mX10_takesOver (zQv (z2 o) q) 98 [(0, zA g 1), (1, zI x1)] [] M := by
  refine zr_iload_n 1 dX10_takesOver_98 rfl ?_
  refine zr_bipush dX10_takesOver_99 (by decide) ?_
  obtain ⟨c1, W⟩ := W
  refine zr_icmp_ge (tgt := 122) dX10_takesOver_101 (by decide) c1 ⟨by decide, by decide⟩ (fun h => ?_) (fun h => ?_)
  · have W := W.1 h
    refine zr_aload_n 0 dX10_takesOver_122 rfl ?_
    refine zr_aload_n 0 dX10_takesOver_123 rfl ?_
    refine zr_getr (b := 3) dX10_takesOver_124 fX10_20 rfl rfl rfl (by decide) ?_
    refine zr_bipush dX10_takesOver_127 (by decide) ?_
    refine zr_iald dX10_takesOver_129 rfl (by decide) ⟨by decide, by decide⟩ ?_
    obtain ⟨q2, k6, W⟩ := W
    refine zt_callVv (As := [zI (M 3 8)]) (rest := []) dX10_takesOver_130 kX10_takesOver_232 rfl rfl rfl rfl (Nat.le_of_ble_eq_true rfl) k6 (fun M4 h5 => ?_)
    have W := W M4 h5
    refine zr_iconst dX10_takesOver_133 ?_
    refine zr_istore_n (l' := [(0, zA g 1), (1, zI 0)]) dX10_takesOver_134 (by decide) [1, 0] rfl ?_
    exact W
  · have W := W.2 h
    refine zr_aload_n 0 dX10_takesOver_104 rfl ?_
    refine zr_getr (b := 8) dX10_takesOver_105 fX10_35 rfl rfl rfl (by decide) ?_
    refine zr_iload_n 1 dX10_takesOver_108 rfl ?_
    refine zr_aload_n 0 dX10_takesOver_109 rfl ?_
    refine zr_getr (b := 11) dX10_takesOver_110 fX10_45 rfl rfl rfl (by decide) ?_
    refine zr_iload_n 1 dX10_takesOver_113 rfl ?_
    obtain ⟨c7, W⟩ := W
    refine zr_iald dX10_takesOver_114 rfl (by decide) c7 ?_
    obtain ⟨c8, W⟩ := W
    refine zr_iast dX10_takesOver_115 rfl (by decide) c8 ?_
    refine zr_iinc (q := 1) (l' := [(0, zA g 1), (1, zI (x1 + 1))]) dX10_takesOver_116 rfl (by decide) [1, 0] rfl ?_
    refine zr_goto (tgt := 98) dX10_takesOver_119 (by decide) ?_
    exact W
set_option maxRecDepth 100000 in
theorem SX10_takesOver_135 {g : zG} {o : Bool} {M : zM} {q : zM → Prop} {x1 : Int} (W : (-2147483648 ≤ x1 ∧ x1 ≤ 2147483647) ∧ ((198 ≤ x1) → ∀ N2 : zM, N2 = zu M 1 28 0 → ∀ N4 : zM, N4 = zu N2 1 29 0 → zT g (z2 o) mX10_takesOver (zQv (z2 o) q) 177 [(0, zA g 1), (1, zI 0)] [] (zu N4 1 42 0)) ∧ ((¬ (198 ≤ x1)) → (0 ≤ x1 ∧ x1 < 198) ∧ zT g (z2 o) mX10_takesOver (zQv (z2 o) q) 135 [(0, zA g 1), (1, zI (x1 + 1))] [] (zu M 10 x1 (M 11 x1)))) : zT g (z2 o) mX10_takesOver (zQv (z2 o) q) 135 [(0, zA g 1), (1, zI x1)] [] M := by
  refine zr_iload_n 1 dX10_takesOver_135 rfl ?_
  refine zr_sipush dX10_takesOver_136 (by decide) ?_
  obtain ⟨c1, W⟩ := W
  refine zr_icmp_ge (tgt := 160) dX10_takesOver_139 (by decide) c1 ⟨by decide, by decide⟩ (fun h => ?_) (fun h => ?_)
  · have W := W.1 h
    refine zr_aload_n 0 dX10_takesOver_160 rfl ?_
    refine zr_iconst dX10_takesOver_161 ?_
    refine zt_puti 28 rfl dX10_takesOver_162 fX10_235 lcX10 ltX10_28 rfl rfl ?_
    refine zr_aload_n 0 dX10_takesOver_165 rfl ?_
    refine zr_iconst dX10_takesOver_166 ?_
    obtain ⟨N2, e3⟩ : ∃ N : zM, N = zu M 1 28 0 := ⟨_, rfl⟩
    rw [← e3]
    have W := W N2 e3
    refine zt_puti 29 rfl dX10_takesOver_167 fX10_238 lcX10 ltX10_29 rfl rfl ?_
    refine zr_aload_n 0 dX10_takesOver_170 rfl ?_
    refine zr_iconst dX10_takesOver_171 ?_
    obtain ⟨N4, e5⟩ : ∃ N : zM, N = zu N2 1 29 0 := ⟨_, rfl⟩
    rw [← e5]
    have W := W N4 e5
    refine zt_puti 42 rfl dX10_takesOver_172 fX10_241 lcX10 ltX10_42 rfl rfl ?_
    refine zr_iconst dX10_takesOver_175 ?_
    refine zr_istore_n (l' := [(0, zA g 1), (1, zI 0)]) dX10_takesOver_176 (by decide) [1, 0] rfl ?_
    exact W
  · have W := W.2 h
    refine zr_aload_n 0 dX10_takesOver_142 rfl ?_
    refine zr_getr (b := 10) dX10_takesOver_143 fX10_42 rfl rfl rfl (by decide) ?_
    refine zr_iload_n 1 dX10_takesOver_146 rfl ?_
    refine zr_aload_n 0 dX10_takesOver_147 rfl ?_
    refine zr_getr (b := 11) dX10_takesOver_148 fX10_45 rfl rfl rfl (by decide) ?_
    refine zr_iload_n 1 dX10_takesOver_151 rfl ?_
    obtain ⟨c6, W⟩ := W
    refine zr_iald dX10_takesOver_152 rfl (by decide) c6 ?_
    refine zr_iast dX10_takesOver_153 rfl (by decide) c6 ?_
    refine zr_iinc (q := 1) (l' := [(0, zA g 1), (1, zI (x1 + 1))]) dX10_takesOver_154 rfl (by decide) [1, 0] rfl ?_
    refine zr_goto (tgt := 135) dX10_takesOver_157 (by decide) ?_
    exact W
set_option maxRecDepth 100000 in
theorem SX10_takesOver_177 {g : zG} {o : Bool} {M : zM} {q : zM → Prop} {x1 : Int} (W : (-2147483648 ≤ x1 ∧ x1 ≤ 2147483647) ∧ ((3 ≤ x1) → q M) ∧ ((¬ (3 ≤ x1)) → (0 ≤ x1 ∧ x1 < 3) ∧ zT g (z2 o) mX10_takesOver (zQv (z2 o) q) 177 [(0, zA g 1), (1, zI (x1 + 1))] [] (zu M 17 x1 0))) : zT g (z2 o) mX10_takesOver (zQv (z2 o) q) 177 [(0, zA g 1), (1, zI x1)] [] M := by
  refine zr_iload_n 1 dX10_takesOver_177 rfl ?_
  refine zr_iconst dX10_takesOver_178 ?_
  obtain ⟨c1, W⟩ := W
  refine zr_icmp_ge (tgt := 195) dX10_takesOver_179 (by decide) c1 ⟨by decide, by decide⟩ (fun h => ?_) (fun h => ?_)
  · have W := W.1 h
    exact zt_ret dX10_takesOver_195 rfl W
  · have W := W.2 h
    refine zr_aload_n 0 dX10_takesOver_182 rfl ?_
    refine zr_getr (b := 17) dX10_takesOver_183 fX10_66 rfl rfl rfl (by decide) ?_
    refine zr_iload_n 1 dX10_takesOver_186 rfl ?_
    refine zr_iconst dX10_takesOver_187 ?_
    obtain ⟨c2, W⟩ := W
    refine zr_zast dX10_takesOver_188 rfl (by decide) c2 (by decide) ?_
    refine zr_iinc (q := 1) (l' := [(0, zA g 1), (1, zI (x1 + 1))]) dX10_takesOver_189 rfl (by decide) [1, 0] rfl ?_
    refine zr_goto (tgt := 177) dX10_takesOver_192 (by decide) ?_
    exact W
theorem dX10_takesHalf_0 : decode cX10_takesHalf 0 = .ok (.aload_n 0, 1) := by decide +kernel
theorem dX10_takesHalf_1 : decode cX10_takesHalf 1 = .ok (.arraylength, 1) := by decide +kernel
theorem dX10_takesHalf_2 : decode cX10_takesHalf 2 = .ok (.iconst 2, 1) := by decide +kernel
theorem dX10_takesHalf_3 : decode cX10_takesHalf 3 = .ok (.idiv, 1) := by decide +kernel
theorem dX10_takesHalf_4 : decode cX10_takesHalf 4 = .ok (.istore_n 1, 1) := by decide +kernel
theorem dX10_takesHalf_5 : decode cX10_takesHalf 5 = .ok (.iconst 0, 1) := by decide +kernel
theorem dX10_takesHalf_6 : decode cX10_takesHalf 6 = .ok (.istore_n 2, 1) := by decide +kernel
theorem dX10_takesHalf_7 : decode cX10_takesHalf 7 = .ok (.iload_n 2, 1) := by decide +kernel
theorem dX10_takesHalf_8 : decode cX10_takesHalf 8 = .ok (.iload_n 1, 1) := by decide +kernel
theorem dX10_takesHalf_9 : decode cX10_takesHalf 9 = .ok (.if_icmp .ge 17, 3) := by decide +kernel
theorem dX10_takesHalf_12 : decode cX10_takesHalf 12 = .ok (.aload_n 0, 1) := by decide +kernel
theorem dX10_takesHalf_13 : decode cX10_takesHalf 13 = .ok (.iload_n 2, 1) := by decide +kernel
theorem dX10_takesHalf_14 : decode cX10_takesHalf 14 = .ok (.aload_n 0, 1) := by decide +kernel
theorem dX10_takesHalf_15 : decode cX10_takesHalf 15 = .ok (.iload_n 1, 1) := by decide +kernel
theorem dX10_takesHalf_16 : decode cX10_takesHalf 16 = .ok (.iload_n 2, 1) := by decide +kernel
theorem dX10_takesHalf_17 : decode cX10_takesHalf 17 = .ok (.iadd, 1) := by decide +kernel
theorem dX10_takesHalf_18 : decode cX10_takesHalf 18 = .ok (.iaload, 1) := by decide +kernel
theorem dX10_takesHalf_19 : decode cX10_takesHalf 19 = .ok (.iastore, 1) := by decide +kernel
theorem dX10_takesHalf_20 : decode cX10_takesHalf 20 = .ok (.iinc 2 1, 3) := by decide +kernel
theorem dX10_takesHalf_23 : decode cX10_takesHalf 23 = .ok (.goto (-16), 3) := by decide +kernel
theorem dX10_takesHalf_26 : decode cX10_takesHalf 26 = .ok (.return_, 1) := by decide +kernel
set_option maxRecDepth 100000 in
theorem SX10_takesHalf_0 {g : zG} {o : Bool} {h0 n0 : Nat} (hh0 : zh (z2 o) h0 = (1, n0)) (hz0 : h0 ≠ 0) (hn0 : n0 ≤ 100000) {M : zM} {q : zM → Prop} (W : (0 ≤ (n0 : Int) ∧ (n0 : Int) ≤ 2147483647) ∧ zT g (z2 o) mX10_takesHalf (zQv (z2 o) q) 7 [(0, zA g h0), (1, zI ((n0 : Int) / 2)), (2, zI 0)] [] M) : zT g (z2 o) mX10_takesHalf (zQv (z2 o) q) 0 [(0, zA g h0)] [] M := by
  refine zr_aload_n 0 dX10_takesHalf_0 rfl ?_
  refine zr_alen dX10_takesHalf_1 hh0 (by decide) ?_
  refine zr_iconst dX10_takesHalf_2 ?_
  obtain ⟨c1, W⟩ := W
  refine zr_idiv dX10_takesHalf_3 c1 ⟨by decide, by decide⟩ ?_
  refine zr_istore_n (l' := [(0, zA g h0), (1, zI ((n0 : Int) / 2))]) dX10_takesHalf_4 (by decide) [1, 0] rfl ?_
  refine zr_iconst dX10_takesHalf_5 ?_
  refine zr_istore_n (l' := [(0, zA g h0), (1, zI ((n0 : Int) / 2)), (2, zI 0)]) dX10_takesHalf_6 (by decide) [1, 2, 0] rfl ?_
  exact W
set_option maxRecDepth 100000 in
theorem SX10_takesHalf_7 {g : zG} {o : Bool} {h0 n0 : Nat} (hh0 : zh (z2 o) h0 = (1, n0)) (hz0 : h0 ≠ 0) (hn0 : n0 ≤ 100000) {M : zM} {q : zM → Prop} {x1 x2 : Int} (W : (-2147483648 ≤ x2 ∧ x2 ≤ 2147483647) ∧ (-2147483648 ≤ x1 ∧ x1 ≤ 2147483647) ∧ ((x1 ≤ x2) → q M) ∧ ((¬ (x1 ≤ x2)) → (0 ≤ (x1 + x2) ∧ (x1 + x2) < n0) ∧ (0 ≤ x2 ∧ x2 < n0) ∧ zT g (z2 o) mX10_takesHalf (zQv (z2 o) q) 7 [(0, zA g h0), (1, zI x1), (2, zI (x2 + 1))] [] (zu M h0 x2 (M h0 (x1 + x2))))) : zT g (z2 o) mX10_takesHalf (zQv (z2 o) q) 7 [(0, zA g h0), (1, zI x1), (2, zI x2)] [] M := by
  refine zr_iload_n 2 dX10_takesHalf_7 rfl ?_
  refine zr_iload_n 1 dX10_takesHalf_8 rfl ?_
  obtain ⟨c1, W⟩ := W
  obtain ⟨c2, W⟩ := W
  refine zr_icmp_ge (tgt := 26) dX10_takesHalf_9 (by decide) c1 c2 (fun h => ?_) (fun h => ?_)
  · have W := W.1 h
    exact zt_ret dX10_takesHalf_26 rfl W
  · have W := W.2 h
    refine zr_aload_n 0 dX10_takesHalf_12 rfl ?_
    refine zr_iload_n 2 dX10_takesHalf_13 rfl ?_
    refine zr_aload_n 0 dX10_takesHalf_14 rfl ?_
    refine zr_iload_n 1 dX10_takesHalf_15 rfl ?_
    refine zr_iload_n 2 dX10_takesHalf_16 rfl ?_
    refine zr_iadd dX10_takesHalf_17 ?_
    obtain ⟨c3, W⟩ := W
    refine zr_iald dX10_takesHalf_18 hh0 hn0 c3 ?_
    obtain ⟨c4, W⟩ := W
    refine zr_iast dX10_takesHalf_19 hh0 hn0 c4 ?_
    refine zr_iinc (q := 2) (l' := [(0, zA g h0), (1, zI x1), (2, zI (x2 + 1))]) dX10_takesHalf_20 rfl (by decide) [1, 2, 0] rfl ?_
    refine zr_goto (tgt := 7) dX10_takesHalf_23 (by decide) ?_
    exact W
/-- the reference's draft is the class's -/
def DR (C R : Int) (M1 M2 : zM) : Prop := dOK M1 C R ∧ M2 3 10 = C ∧ M2 3 11 = R ∧ M2 3 12 = M1 8 2 ∧ M2 3 13 = M1 9 0 ∧ M2 3 14 = M1 9 1 ∧ M2 3 15 = M1 8 3 ∧ M2 3 16 = M1 9 2 ∧ M2 3 17 = M1 9 3 ∧ M2 3 18 = M1 8 4 ∧ M2 3 19 = M1 8 6 ∧ (∀ i : Int, 0 ≤ i → i < M1 8 6 → M2 4 (8 + i) = M1 12 i ∧ M2 5 (8 + i) = M1 13 i) ∧ ∀ c : Int, 0 ≤ c → c < 96 → M2 6 (96 + c) = M1 10 c ∧ M2 7 (96 + c) = M1 11 c
/-- behind takesOver -/
def tkP (C R : Int) (M1 M2 N : zM) : Prop := zRf N C R ∧ (N 3 5 = M1 8 3 ∧ N 3 9 = M1 8 6 ∧ N 3 8 = M1 8 4) ∧ (∀ i : Int, 0 ≤ i → i < M1 8 6 → N 4 i = M1 12 i ∧ N 5 i = M1 13 i) ∧ eq96 (N 8) (stz C R (M1 8 3) 1000000 (hz0 M1 C R, 0, fun _ => 0)).1 ∧ (∀ i : Int, 0 ≤ i → i < 96 → N 7 i = M1 11 i) ∧ (N 3 3 = M1 9 0 ∧ N 3 4 = M1 9 1 ∧ N 3 6 = M1 9 2 ∧ N 3 7 = M1 9 3) ∧ (∀ i : Int, 0 ≤ i → i < 198 → N 10 i = tld N (M1 8 4) i) ∧ N 1 28 = 0 ∧ N 1 29 = 0 ∧ N 1 42 = 0 ∧ (∀ b : Int, 0 ≤ b → b < 3 → N 17 b = 0) ∧ N 2 = M2 2 ∧ ∀ i : Int, i ≠ 24 → i ≠ 25 → i ≠ 28 → i ≠ 29 → i ≠ 42 → N 1 i = M2 1 i
section TK
variable {g g' : zG} {o o' : Bool} {M M' M1 M2 N N' N1 N2 A : zM} {k C R S c d m x y w s : Int} {n e : Nat} {p : Nat → Nat} {H H' : Int → Int}
theorem c_takesHalf {h m : Nat} (hh : zh (z2 o) h = (1, m + m)) (hz : h ≠ 0) (hm : m ≤ 1000) : zKv g (z2 o) mX10_takesHalf [zA g h] M (fun N => (∀ i : Int, 0 ≤ i → i < m → N h i = M h (m + i)) ∧ (∀ i : Int, m ≤ i → N h i = M h i) ∧ ∀ b : Nat, b ≠ h → N b = M b) := by
  refine zkv_of rfl (Nat.le_of_ble_eq_true rfl) (SX10_takesHalf_0 hh hz (by omega) ⟨by omega, ?_⟩)
  rw [show ((m + m : Nat) : Int) / 2 = m by omega]
  suffices hs : ∀ (j i : Nat) (P : zM), i + j = m → (∀ t : Int, 0 ≤ t → t < i → P h t = M h (m + t)) → (∀ t : Int, i ≤ t → P h t = M h t) → (∀ b : Nat, b ≠ h → P b = M b) → zT g (z2 o) mX10_takesHalf (zQv (z2 o) (fun N => (∀ i : Int, 0 ≤ i → i < m → N h i = M h (m + i)) ∧ (∀ i : Int, m ≤ i → N h i = M h i) ∧ ∀ b : Nat, b ≠ h → N b = M b)) 7 [(0, zA g h), (1, zI m), (2, zI i)] [] P from hs m 0 M (by omega) (fun t a b => by omega) (fun _ _ => rfl) (fun _ _ => rfl)
  intro j
  induction j with
  | zero =>
    intro i P hi h1 h2 h3
    exact SX10_takesHalf_7 hh hz (by omega) ⟨by omega, by omega, fun _ => ⟨fun t a b => h1 t a (by omega), fun t a => h2 t (by omega), h3⟩, fun h => by omega⟩
  | succ j ih =>
    intro i P hi h1 h2 h3
    refine SX10_takesHalf_7 hh hz (by omega) ⟨by omega, by omega, fun h => by omega, fun _ => ⟨by omega, by omega, ih (i + 1) _ (by omega) (fun t a b => ?_) (fun t a => ?_) (fun b q => by rw [zu_other q]; exact h3 b q)⟩⟩
    · rw [zu_row]
      by_cases q : t = i
      · rw [if_pos q, q]; exact h2 _ (by omega)
      · rw [if_neg q]; exact h1 t a (by omega)
    · rw [zu_row, if_neg (by omega)]; exact h2 t (by omega)
theorem c_takesOver (hD : DR C R M1 M2) (h26 : M2 1 26 = -1) : zKv g (z2 o) mX10_takesOver [zA g 1] M2 (fun N => tkP C R M1 M2 N) := by
  obtain ⟨hd, r10, r11, r12, r13, r14, r15, r16, r17, r18, r19, rw', rc⟩ := hD
  have hG := hd.1
  have hn := geo_n hG
  obtain ⟨z1', z2'⟩ := hz0_ok hd
  obtain ⟨-, d0, d1, d2, d3, d4, d6, dw, dr, dc, ds⟩ := hd
  obtain ⟨n, hnn⟩ := znn (show 0 ≤ C * R by omega)
  refine zkv_of rfl (Nat.le_of_ble_eq_true rfl) (SX10_takesOver_0 ⟨_, c_takesHalf (h := 3) (m := 10) rfl (by decide) (by decide), fun A1 q1 => ⟨_, c_takesHalf (h := 4) (m := 8) rfl (by decide) (by decide), fun A2 q2 => ⟨_, c_takesHalf (h := 5) (m := 8) rfl (by decide) (by decide), fun A3 q3 => ⟨_, c_takesHalf (h := 6) (m := 96) rfl (by decide) (by decide), fun A4 q4 => ⟨_, c_takesHalf (h := 7) (m := 96) rfl (by decide) (by decide), fun A5 q5 => ?_⟩⟩⟩⟩⟩)
  obtain ⟨u1, -, v1⟩ := q1
  obtain ⟨u2, -, v2⟩ := q2
  obtain ⟨u3, -, v3⟩ := q3
  obtain ⟨u4, -, v4⟩ := q4
  obtain ⟨u5, -, v5⟩ := q5
  have oA : ∀ b : Nat, b ≠ 3 → b ≠ 4 → b ≠ 5 → b ≠ 6 → b ≠ 7 → A5 b = M2 b := fun b p3 p4 p5 p6 p7 => by rw [v5 b p7, v4 b p6, v3 b p5, v2 b p4, v1 b p3]
  have a3 : ∀ i : Int, 0 ≤ i → i < 10 → A5 3 i = M2 3 (10 + i) := fun i a b => by rw [v5 3 (by decide), v4 3 (by decide), v3 3 (by decide), v2 3 (by decide)]; exact u1 i a b
  have a4 : ∀ i : Int, 0 ≤ i → i < 8 → A5 4 i = M2 4 (8 + i) := fun i a b => by rw [v5 4 (by decide), v4 4 (by decide), v3 4 (by decide), u2 i a b, v1 4 (by decide)]; rfl
  have a5 : ∀ i : Int, 0 ≤ i → i < 8 → A5 5 i = M2 5 (8 + i) := fun i a b => by rw [v5 5 (by decide), v4 5 (by decide), u3 i a b, v2 5 (by decide), v1 5 (by decide)]; rfl
  have a6 : ∀ i : Int, 0 ≤ i → i < 96 → A5 6 i = M1 10 i := fun i a b => by rw [v5 6 (by decide), u4 i a b, v3 6 (by decide), v2 6 (by decide), v1 6 (by decide)]; exact (rc i a b).1
  have a7 : ∀ i : Int, 0 ≤ i → i < 96 → A5 7 i = M1 11 i := fun i a b => by rw [u5 i a b, v4 7 (by decide), v3 7 (by decide), v2 7 (by decide), v1 7 (by decide)]; exact (rc i a b).2
  have t0 : A5 3 0 = C := (a3 0 (by decide) (by decide)).trans r10
  have t1 : A5 3 1 = R := (a3 1 (by decide) (by decide)).trans r11
  have t2 : A5 3 2 = M1 8 2 := (a3 2 (by decide) (by decide)).trans r12
  have t3 : A5 3 3 = M1 9 0 := (a3 3 (by decide) (by decide)).trans r13
  have t4 : A5 3 4 = M1 9 1 := (a3 4 (by decide) (by decide)).trans r14
  have t5 : A5 3 5 = M1 8 3 := (a3 5 (by decide) (by decide)).trans r15
  have t6 : A5 3 6 = M1 9 2 := (a3 6 (by decide) (by decide)).trans r16
  have t7 : A5 3 7 = M1 9 3 := (a3 7 (by decide) (by decide)).trans r17
  have t8 : A5 3 8 = M1 8 4 := (a3 8 (by decide) (by decide)).trans r18
  have t9 : A5 3 9 = M1 8 6 := (a3 9 (by decide) (by decide)).trans r19
  have aw : ∀ i : Int, 0 ≤ i → i < M1 8 6 → A5 4 i = M1 12 i ∧ A5 5 i = M1 13 i := fun i a b => by rw [a4 i a (by omega), a5 i a (by omega)]; exact rw' i a b
  have hRA : zRf A5 C R := ⟨hG, t0, t1, by rw [t5]; exact d3, by rw [t9]; exact d6, fun i a b => by rw [t9] at b; rw [(aw i a b).1, (aw i a b).2]; exact dw i a b⟩
  have fin : ∀ P : zM, (∀ b : Nat, b ≠ 1 → b ≠ 8 → b ≠ 11 → P b = A5 b) → (∀ i : Int, i ≠ 24 → i ≠ 25 → P 1 i = A5 1 i) → (eq96 (P 11) (stz C R (M1 8 3) 1000000 (hz0 M1 C R, 0, fun _ => 0)).1) → zT g (z2 o) mX10_takesOver (zQv (z2 o) (fun N => tkP C R M1 M2 N)) 98 [(0, zA g 1), (1, zI 0)] [] P := by
    intro P hP hP1 hP11
    suffices hs : ∀ (j i : Nat) (Q : zM), i + j = 96 → (∀ t : Int, 0 ≤ t → t < i → Q 8 t = P 11 t) → (∀ b : Nat, b ≠ 8 → Q b = P b) → zT g (z2 o) mX10_takesOver (zQv (z2 o) (fun N => tkP C R M1 M2 N)) 98 [(0, zA g 1), (1, zI i)] [] Q from hs 96 0 P rfl (fun t a b => by omega) (fun _ _ => rfl)
    intro j
    induction j with
    | succ j ih =>
      intro i Q hi h1 h2
      refine SX10_takesOver_98 ⟨by omega, fun h => by omega, fun _ => ⟨by omega, by omega, ih (i + 1) _ (by omega) (fun t a b => ?_) (fun b q => by rw [zu_other q]; exact h2 b q)⟩⟩
      rw [zu_row]
      by_cases q : t = i
      · rw [if_pos q, q, h2 11 (by decide)]
      · rw [if_neg q]; exact h1 t a (by omega)
    | zero =>
      intro i Q hi h1 h2
      have o3 : Q 3 = A5 3 := by rw [h2 3 (by decide), hP 3 (by decide) (by decide) (by decide)]
      refine SX10_takesOver_98 ⟨by omega, fun _ => ⟨_, c_asTold, fun T hT => ?_⟩, fun h => by omega⟩
      obtain ⟨T1, T2⟩ := hT
      rw [o3, t8] at T1
      have eT : tld T = tld Q := tld_of (T2 3 (by decide)) (T2 7 (by decide)) (T2 8 (by decide))
      suffices hs2 : ∀ (b a : Nat) (V : zM), a + b = 198 → (∀ t : Int, 0 ≤ t → t < a → V 10 t = T 11 t) → (∀ c : Nat, c ≠ 10 → V c = T c) → zT g (z2 o) mX10_takesOver (zQv (z2 o) (fun N => tkP C R M1 M2 N)) 135 [(0, zA g 1), (1, zI a)] [] V from hs2 198 0 T rfl (fun t a b => by omega) (fun _ _ => rfl)
      intro b
      induction b with
      | succ b ihb =>
        intro a V ha w1 w2
        refine SX10_takesOver_135 ⟨by omega, fun h => by omega, fun _ => ⟨by omega, ihb (a + 1) _ (by omega) (fun t x y => ?_) (fun c q => by rw [zu_other q]; exact w2 c q)⟩⟩
        rw [zu_row]
        by_cases q : t = a
        · rw [if_pos q, q, w2 11 (by decide)]
        · rw [if_neg q]; exact w1 t x (by omega)
      | zero =>
        intro a V ha w1 w2
        refine SX10_takesOver_135 ⟨by omega, fun _ X2 x2 X4 x4 => ?_, fun h => by omega⟩
        suffices hs3 : ∀ (f e : Nat) (U : zM), e + f = 3 → (∀ t : Int, 0 ≤ t → t < e → U 17 t = 0) → (∀ c : Nat, c ≠ 17 → U c = zu X4 1 42 0 c) → zT g (z2 o) mX10_takesOver (zQv (z2 o) (fun N => tkP C R M1 M2 N)) 177 [(0, zA g 1), (1, zI e)] [] U from hs3 3 0 _ rfl (fun t a b => by omega) (fun _ _ => rfl)
        intro f
        induction f with
        | succ f ihf =>
          intro e U he y1 y2
          refine SX10_takesOver_177 ⟨by omega, fun h => by omega, fun _ => ⟨by omega, ihf (e + 1) _ (by omega) (fun t a b => ?_) (fun c q => by rw [zu_other q]; exact y2 c q)⟩⟩
          rw [zu_row]
          by_cases q : t = e
          · rw [if_pos q]
          · rw [if_neg q]; exact y1 t a (by omega)
        | zero =>
          intro e U he y1 y2
          refine SX10_takesOver_177 ⟨by omega, fun _ => ?_, fun h => by omega⟩
          have oU : ∀ c : Nat, c ≠ 17 → c ≠ 1 → U c = V c := fun c p q => by rw [y2 c p, zu_other q, x4, zu_other q, x2, zu_other q]
          have oT : ∀ c : Nat, c ≠ 17 → c ≠ 1 → c ≠ 10 → c ≠ 11 → U c = Q c := fun c p q r s => by rw [oU c p q, w2 c r, T2 c s]
          have oQ : ∀ c : Nat, c ≠ 17 → c ≠ 1 → c ≠ 10 → c ≠ 11 → c ≠ 8 → U c = A5 c := fun c p q r s t => by rw [oT c p q r s, h2 c t, hP c q t s]
          have U1 : ∀ i : Int, U 1 i = if i = 42 then 0 else if i = 29 then 0 else if i = 28 then 0 else P 1 i := fun i => by
            rw [y2 1 (by decide), zu_row, x4, zu_row, x2, zu_row, w2 1 (by decide), T2 1 (by decide), h2 1 (by decide)]
          have U3 : U 3 = A5 3 := oQ 3 (by decide) (by decide) (by decide) (by decide) (by decide)
          have U4 : U 4 = A5 4 := oQ 4 (by decide) (by decide) (by decide) (by decide) (by decide)
          have U5 : U 5 = A5 5 := oQ 5 (by decide) (by decide) (by decide) (by decide) (by decide)
          have U7 : U 7 = A5 7 := oQ 7 (by decide) (by decide) (by decide) (by decide) (by decide)
          have eU : tld U = tld Q := tld_of (oT 3 (by decide) (by decide) (by decide) (by decide)) (oT 7 (by decide) (by decide) (by decide) (by decide)) (oT 8 (by decide) (by decide) (by decide) (by decide))
          refine ⟨hRA.of U3 U4 U5, by rw [U3]; exact ⟨t5, t9, t8⟩, fun i a b => by rw [U4, U5]; exact aw i a b, fun i a b => ?_, fun i a b => by rw [U7]; exact a7 i a b, by rw [U3]; exact ⟨t3, t4, t6, t7⟩, fun i a b => ?_, ?_, ?_, ?_, fun i a b => y1 i a (by omega), ?_, fun i p1 p2 p3 p4 p5 => ?_⟩
          · rw [oT 8 (by decide) (by decide) (by decide) (by decide), h1 i a (by omega)]; exact hP11 i a b
          · rw [oU 10 (by decide) (by decide), w1 i a (by omega), T1 i a b, eU]
          · rw [U1, if_neg (by decide), if_neg (by decide), if_pos rfl]
          · rw [U1, if_neg (by decide), if_pos rfl]
          · rw [U1, if_pos rfl]
          · rw [oQ 2 (by decide) (by decide) (by decide) (by decide) (by decide), oA 2 (by decide) (by decide) (by decide) (by decide) (by decide)]
          · rw [U1, if_neg p5, if_neg p4, if_neg p3, hP1 i p1 p2, oA 1 (by decide) (by decide) (by decide) (by decide) (by decide)]
  have fill : ∀ (j i : Nat) (P : zM), i + j = n → (∀ t : Int, 0 ≤ t → t < i → P 11 t = M1 8 2 + M1 10 t) → (∀ t : Int, i ≤ t → t < 198 → P 11 t = 0) → (∀ b : Nat, b ≠ 11 → P b = A5 b) → zT g (z2 o) mX10_takesOver (zQv (z2 o) (fun N => tkP C R M1 M2 N)) 59 [(0, zA g 1), (1, zI i)] [] P := by
    intro j
    induction j with
    | zero =>
      intro i P hi h1 h2 h3
      have hRP : zRf P C R := hRA.of (h3 3 (by decide)) (h3 4 (by decide)) (h3 5 (by decide))
      have p26 : P 1 26 = -1 := by rw [h3 1 (by decide), oA 1 (by decide) (by decide) (by decide) (by decide) (by decide)]; exact h26
      have hz : eq96 (P 11) (hz0 M1 C R) := fun t a b => by
        unfold hz0
        by_cases q : t < C * R
        · rw [if_pos q]; exact h1 t a (by omega)
        · rw [if_neg q]; exact h2 t (by omega) (by omega)
      have hst := c_settles (g := g) (o := o) (z := (hz0 M1 C R, P 1 24, fun _ => 0)) hRP (by omega) ⟨hz, rfl, Or.inl p26⟩ (fun t a b => by have := z1' t a b; show 0 ≤ hz0 M1 C R t ∧ hz0 M1 C R t ≤ _; omega) z2'
      refine SX10_takesOver_59 (C := C) (R := R) ⟨hRP, by omega, by omega, fun _ => ⟨_, hst, fun V hV => ?_⟩, fun h => by omega⟩
      obtain ⟨⟨s1, -, -⟩, f1, f2, f3⟩ := hV
      refine fin V (fun b p q r => by rw [f1 b p r, h3 b r]) (fun i p q => by rw [f2 i p q, h3 1 (by decide)]) (fun i a b => ?_)
      rw [s1 i a b, h3 3 (by decide), t5]
      exact stz_eq (z := (hz0 M1 C R, P 1 24, fun _ => 0)) (z' := (hz0 M1 C R, 0, fun _ => 0)) hG 1000000 eq96.rf i a b
    | succ j ih =>
      intro i P hi h1 h2 h3
      have hRP : zRf P C R := hRA.of (h3 3 (by decide)) (h3 4 (by decide)) (h3 5 (by decide))
      refine SX10_takesOver_59 (C := C) (R := R) ⟨hRP, by omega, by omega, fun h => by omega, fun _ => ⟨by omega, by omega, ih (i + 1) _ (by omega) (fun t a b => ?_) (fun t a b => by rw [zu_row, if_neg (by omega)]; exact h2 t (by omega) b) (fun b q => by rw [zu_other q]; exact h3 b q)⟩⟩
      rw [zu_row]
      by_cases q : t = i
      · rw [if_pos q, q, h3 3 (by decide), h3 6 (by decide), t2, a6 i (by omega) (by omega)]
      · rw [if_neg q]; exact h1 t a (by omega)
  suffices hs : ∀ (j i : Nat) (P : zM), i + j = 198 → (∀ t : Int, 0 ≤ t → t < i → P 11 t = 0) → (∀ b : Nat, b ≠ 11 → P b = A5 b) → zT g (z2 o) mX10_takesOver (zQv (z2 o) (fun N => tkP C R M1 M2 N)) 37 [(0, zA g 1), (1, zI i)] [] P from hs 198 0 A5 rfl (fun t a b => by omega) (fun _ _ => rfl)
  intro j
  induction j with
  | zero =>
    intro i P hi h1 h2
    exact SX10_takesOver_37 ⟨by omega, fun _ => fill n 0 P (by omega) (fun t a b => by omega) (fun t a b => h1 t (by omega) (by omega)) h2, fun h => by omega⟩
  | succ j ih =>
    intro i P hi h1 h2
    refine SX10_takesOver_37 ⟨by omega, fun h => by omega, fun _ => ⟨by omega, ih (i + 1) _ (by omega) (fun t a b => ?_) (fun b q => by rw [zu_other q]; exact h2 b q)⟩⟩
    rw [zu_row]
    by_cases q : t = i
    · rw [if_pos q]
    · rw [if_neg q]; exact h1 t a (by omega)
theorem adopt_J (hd : dOK M1 C R) (hk : 0 ≤ k ∧ k ≤ 1000) (ha : adP C R M1 N1 e) (hb : tkP C R M1 M2 N2) (hp : jHp M1 p) (he : e = p 0) (h135 : ∀ b : Nat, b < 3 → M1 135 (b : Int) = ((136 + 4 * b : Nat) : Int)) (hP : jP N1 N2) (hC : jC N1 N2) : Jt k C R N1 N2 := by
  obtain ⟨a1, a2, a3, a4, a5, a6, a7, a8, a9, a10, a11, a12, a13, a14, a15, a16, a17, a18⟩ := ha
  obtain ⟨b1, ⟨b2, b3, b4⟩, b5, b6, b7, ⟨b8, b9, b10, b11⟩, b12, b13, b14, b15, b16, b17, b18⟩ := hb
  have hG := hd.1
  have hn := geo_n hG
  obtain ⟨z1', z2'⟩ := hz0_ok hd
  obtain ⟨-, d0, d1, d2, d3, d4, d6, dw, dr, dc, ds⟩ := hd
  have sb := stz_bd (S := M1 8 3) (n := 1000000) (z := (hz0 M1 C R, 0, fun _ => 0)) hG d3.1 z1'
  have e8 : ∀ i : Int, 0 ≤ i → i < 96 → tld N2 (M1 8 4) i = N2 8 i := fun i a b => by unfold tld; rw [if_pos b]
  have e7 : ∀ i : Int, 0 ≤ i → i < 96 → tld N2 (M1 8 4) (96 + i) = N2 7 i := fun i a b => by unfold tld; rw [if_neg (by omega), if_pos (by omega), show 96 + i - 96 = i by omega]
  have rok : rOK C R 3000 0 (tld N2 (M1 8 4)) := by
    refine ⟨fun i a b => ?_, fun i a b => ?_, ?_, ?_, ?_, ?_, ?_, by show (0 : Int) ≤ 0 ∧ (0 : Int) ≤ 0; decide, fun i a b => ?_⟩
    · rw [e8 i a b, b6 i a b]; have := sb i a b; omega
    · rw [e7 i a b, b7 i a b]; exact (dc i a b).2
    · show 1 ≤ N2 3 3 ∧ N2 3 3 ≤ 6; rw [b8]; exact dr.1
    · show 1 ≤ N2 3 4 ∧ N2 3 4 ≤ 9; rw [b9]; exact dr.2.1
    · show 0 ≤ N2 3 6 ∧ N2 3 6 ≤ 16; rw [b10]; exact dr.2.2.1
    · show 0 ≤ N2 3 7 ∧ N2 3 7 ≤ 16; rw [b11]; exact dr.2.2.2
    · show 0 ≤ M1 8 4 ∧ M1 8 4 ≤ 10006; omega
    · rw [e8 i (by omega) b, b6 i (by omega) b, stz_out hG 1000000 a]; show hz0 M1 C R i = 0; unfold hz0; rw [if_neg (by omega)]
  have req : rEq N1 24 (tld N2 (M1 8 4)) := by
    refine ⟨fun i a b => ?_, fun i a b => ?_, fun i a b => ?_, a8, a9⟩
    · rw [e8 i a b, b6 i a b]; exact a5 i a b
    · rw [e7 i a b, b7 i a b]; exact a6 i a b
    · have h := a7 i a b
      have hi : i = 0 ∨ i = 1 ∨ i = 2 ∨ i = 3 := by omega
      rcases hi with rfl | rfl | rfl | rfl
      · exact h.trans b8.symm
      · exact h.trans b9.symm
      · exact h.trans b10.symm
      · exact h.trans b11.symm
  have eqn : eqr (tld N2 (M1 8 4)) (N2 10) := fun i a b => (b12 i a b).symm
  have reqn := req.of eqn
  have rokn := (rok.of hG eqn).mono (B' := 3000 + 600 * k) (T' := 600 * k) (by omega) (by omega)
  have hp1 : jHp N1 p := by unfold jHp; rw [a16]; exact hp
  refine ⟨hk, ⟨a1, b1, by rw [b2, a2], by rw [b3, a3], fun i a b => ?_⟩, ⟨reqn, rokn⟩, ⟨?_, ?_⟩, ⟨p, 0, 0, a12, b13, a13, b14, by decide, hp1, fun i h => by omega, fun i h1 h2 => by omega, ?_⟩, fun b hb => ⟨by rw [a17]; exact h135 b hb, ?_, Or.inl (b16 b (by omega) (by omega)), fun h => ?_⟩, ⟨0, a14, b15, by decide, fun i h0 h1 => by omega⟩, hP, hC⟩
  · rw [a3] at b
    rw [(a4 i a b).1, (a4 i a b).2]; exact b5 i a b
  · rw [b4]; exact req.same a10
  · rw [b4]; exact rok
  · rw [← he]; exact reqn.same a11
  · rw [a15 b (by omega) (by omega), b16 b (by omega) (by omega)]
  · rw [b16 b (by omega) (by omega)] at h; exact absurd h (by decide)
end TK
