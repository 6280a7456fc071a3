theorem dX9_lands_0 : decode cX9_lands 0 = .ok (.aload_n 0, 1) := by decide +kernel
theorem dX9_lands_1 : decode cX9_lands 1 = .ok (.getfield 28, 3) := by decide +kernel
theorem dX9_lands_4 : decode cX9_lands 4 = .ok (.iload_n 1, 1) := by decide +kernel
theorem dX9_lands_5 : decode cX9_lands 5 = .ok (.invokevirtual 148, 3) := by decide +kernel
theorem dX9_lands_8 : decode cX9_lands 8 = .ok (.ifCond .eq 36, 3) := by decide +kernel
theorem dX9_lands_11 : decode cX9_lands 11 = .ok (.aload_n 0, 1) := by decide +kernel
theorem dX9_lands_12 : decode cX9_lands 12 = .ok (.getfield 28, 3) := by decide +kernel
theorem dX9_lands_15 : decode cX9_lands 15 = .ok (.iload_n 2, 1) := by decide +kernel
theorem dX9_lands_16 : decode cX9_lands 16 = .ok (.invokevirtual 148, 3) := by decide +kernel
theorem dX9_lands_19 : decode cX9_lands 19 = .ok (.ifCond .eq 25, 3) := by decide +kernel
theorem dX9_lands_22 : decode cX9_lands 22 = .ok (.iload_n 3, 1) := by decide +kernel
theorem dX9_lands_23 : decode cX9_lands 23 = .ok (.iconst 1, 1) := by decide +kernel
theorem dX9_lands_24 : decode cX9_lands 24 = .ok (.if_icmp .lt 20, 3) := by decide +kernel
theorem dX9_lands_27 : decode cX9_lands 27 = .ok (.iload_n 3, 1) := by decide +kernel
theorem dX9_lands_28 : decode cX9_lands 28 = .ok (.bipush 12, 2) := by decide +kernel
theorem dX9_lands_30 : decode cX9_lands 30 = .ok (.if_icmp .gt 14, 3) := by decide +kernel
theorem dX9_lands_33 : decode cX9_lands 33 = .ok (.iload 4, 2) := by decide +kernel
theorem dX9_lands_35 : decode cX9_lands 35 = .ok (.ifCond .lt 9, 3) := by decide +kernel
theorem dX9_lands_38 : decode cX9_lands 38 = .ok (.iload 4, 2) := by decide +kernel
theorem dX9_lands_40 : decode cX9_lands 40 = .ok (.iconst 1, 1) := by decide +kernel
theorem dX9_lands_41 : decode cX9_lands 41 = .ok (.if_icmp .le 7, 3) := by decide +kernel
theorem dX9_lands_44 : decode cX9_lands 44 = .ok (.ldc2_w 258, 3) := by decide +kernel
theorem dX9_lands_47 : decode cX9_lands 47 = .ok (.lreturn, 1) := by decide +kernel
theorem dX9_lands_48 : decode cX9_lands 48 = .ok (.aload_n 0, 1) := by decide +kernel
theorem dX9_lands_49 : decode cX9_lands 49 = .ok (.invokevirtual 155, 3) := by decide +kernel
theorem dX9_lands_52 : decode cX9_lands 52 = .ok (.istore 5, 2) := by decide +kernel
theorem dX9_lands_54 : decode cX9_lands 54 = .ok (.aload_n 0, 1) := by decide +kernel
theorem dX9_lands_55 : decode cX9_lands 55 = .ok (.getfield 50, 3) := by decide +kernel
theorem dX9_lands_58 : decode cX9_lands 58 = .ok (.iload_n 1, 1) := by decide +kernel
theorem dX9_lands_59 : decode cX9_lands 59 = .ok (.iload 5, 2) := by decide +kernel
theorem dX9_lands_61 : decode cX9_lands 61 = .ok (.invokevirtual 243, 3) := by decide +kernel
theorem dX9_lands_64 : decode cX9_lands 64 = .ok (.ifCond .ne 7, 3) := by decide +kernel
theorem dX9_lands_67 : decode cX9_lands 67 = .ok (.ldc2_w 258, 3) := by decide +kernel
theorem dX9_lands_70 : decode cX9_lands 70 = .ok (.lreturn, 1) := by decide +kernel
theorem dX9_lands_71 : decode cX9_lands 71 = .ok (.aload_n 0, 1) := by decide +kernel
theorem dX9_lands_72 : decode cX9_lands 72 = .ok (.getfield 42, 3) := by decide +kernel
theorem dX9_lands_75 : decode cX9_lands 75 = .ok (.aload_n 0, 1) := by decide +kernel
theorem dX9_lands_76 : decode cX9_lands 76 = .ok (.getfield 39, 3) := by decide +kernel
theorem dX9_lands_79 : decode cX9_lands 79 = .ok (.invokevirtual 138, 3) := by decide +kernel
theorem dX9_lands_82 : decode cX9_lands 82 = .ok (.aload_n 0, 1) := by decide +kernel
theorem dX9_lands_83 : decode cX9_lands 83 = .ok (.getfield 54, 3) := by decide +kernel
theorem dX9_lands_86 : decode cX9_lands 86 = .ok (.iload_n 1, 1) := by decide +kernel
theorem dX9_lands_87 : decode cX9_lands 87 = .ok (.invokevirtual 197, 3) := by decide +kernel
theorem dX9_lands_90 : decode cX9_lands 90 = .ok (.iload_n 1, 1) := by decide +kernel
theorem dX9_lands_91 : decode cX9_lands 91 = .ok (.istore 6, 2) := by decide +kernel
theorem dX9_lands_93 : decode cX9_lands 93 = .ok (.lconst 0, 1) := by decide +kernel
theorem dX9_lands_94 : decode cX9_lands 94 = .ok (.lstore 7, 2) := by decide +kernel
theorem dX9_lands_96 : decode cX9_lands 96 = .ok (.lconst 1, 1) := by decide +kernel
theorem dX9_lands_97 : decode cX9_lands 97 = .ok (.lstore 9, 2) := by decide +kernel
theorem dX9_lands_99 : decode cX9_lands 99 = .ok (.lconst 1, 1) := by decide +kernel
theorem dX9_lands_100 : decode cX9_lands 100 = .ok (.lstore 11, 2) := by decide +kernel
theorem dX9_lands_102 : decode cX9_lands 102 = .ok (.iconst 1, 1) := by decide +kernel
theorem dX9_lands_103 : decode cX9_lands 103 = .ok (.istore 13, 2) := by decide +kernel
theorem dX9_lands_105 : decode cX9_lands 105 = .ok (.iload 13, 2) := by decide +kernel
theorem dX9_lands_107 : decode cX9_lands 107 = .ok (.iload_n 3, 1) := by decide +kernel
theorem dX9_lands_108 : decode cX9_lands 108 = .ok (.if_icmp .gt 96, 3) := by decide +kernel
theorem dX9_lands_111 : decode cX9_lands 111 = .ok (.aload_n 0, 1) := by decide +kernel
theorem dX9_lands_112 : decode cX9_lands 112 = .ok (.getfield 54, 3) := by decide +kernel
theorem dX9_lands_115 : decode cX9_lands 115 = .ok (.iload 6, 2) := by decide +kernel
theorem dX9_lands_117 : decode cX9_lands 117 = .ok (.iload 5, 2) := by decide +kernel
theorem dX9_lands_119 : decode cX9_lands 119 = .ok (.invokevirtual 260, 3) := by decide +kernel
theorem dX9_lands_122 : decode cX9_lands 122 = .ok (.istore 6, 2) := by decide +kernel
theorem dX9_lands_124 : decode cX9_lands 124 = .ok (.aload_n 0, 1) := by decide +kernel
theorem dX9_lands_125 : decode cX9_lands 125 = .ok (.getfield 54, 3) := by decide +kernel
theorem dX9_lands_128 : decode cX9_lands 128 = .ok (.iload 6, 2) := by decide +kernel
theorem dX9_lands_130 : decode cX9_lands 130 = .ok (.iload 5, 2) := by decide +kernel
theorem dX9_lands_132 : decode cX9_lands 132 = .ok (.invokevirtual 159, 3) := by decide +kernel
theorem dX9_lands_135 : decode cX9_lands 135 = .ok (.ifCond .eq 8, 3) := by decide +kernel
theorem dX9_lands_138 : decode cX9_lands 138 = .ok (.bipush 16, 2) := by decide +kernel
theorem dX9_lands_140 : decode cX9_lands 140 = .ok (.goto 12, 3) := by decide +kernel
theorem dX9_lands_143 : decode cX9_lands 143 = .ok (.aload_n 0, 1) := by decide +kernel
theorem dX9_lands_144 : decode cX9_lands 144 = .ok (.getfield 42, 3) := by decide +kernel
theorem dX9_lands_147 : decode cX9_lands 147 = .ok (.iload 6, 2) := by decide +kernel
theorem dX9_lands_149 : decode cX9_lands 149 = .ok (.invokevirtual 263, 3) := by decide +kernel
theorem dX9_lands_152 : decode cX9_lands 152 = .ok (.istore 14, 2) := by decide +kernel
theorem dX9_lands_154 : decode cX9_lands 154 = .ok (.lload 7, 2) := by decide +kernel
theorem dX9_lands_156 : decode cX9_lands 156 = .ok (.ldc2_w 266, 3) := by decide +kernel
theorem dX9_lands_159 : decode cX9_lands 159 = .ok (.lmul, 1) := by decide +kernel
theorem dX9_lands_160 : decode cX9_lands 160 = .ok (.iload 6, 2) := by decide +kernel
theorem dX9_lands_162 : decode cX9_lands 162 = .ok (.iload_n 2, 1) := by decide +kernel
theorem dX9_lands_163 : decode cX9_lands 163 = .ok (.if_icmp .ne 12, 3) := by decide +kernel
theorem dX9_lands_166 : decode cX9_lands 166 = .ok (.lload 11, 2) := by decide +kernel
theorem dX9_lands_168 : decode cX9_lands 168 = .ok (.iload 14, 2) := by decide +kernel
theorem dX9_lands_170 : decode cX9_lands 170 = .ok (.i2l, 1) := by decide +kernel
theorem dX9_lands_171 : decode cX9_lands 171 = .ok (.lmul, 1) := by decide +kernel
theorem dX9_lands_172 : decode cX9_lands 172 = .ok (.goto 4, 3) := by decide +kernel
theorem dX9_lands_175 : decode cX9_lands 175 = .ok (.lconst 0, 1) := by decide +kernel
theorem dX9_lands_176 : decode cX9_lands 176 = .ok (.ladd, 1) := by decide +kernel
theorem dX9_lands_177 : decode cX9_lands 177 = .ok (.lstore 7, 2) := by decide +kernel
theorem dX9_lands_179 : decode cX9_lands 179 = .ok (.lload 9, 2) := by decide +kernel
theorem dX9_lands_181 : decode cX9_lands 181 = .ok (.ldc2_w 266, 3) := by decide +kernel
theorem dX9_lands_184 : decode cX9_lands 184 = .ok (.lmul, 1) := by decide +kernel
theorem dX9_lands_185 : decode cX9_lands 185 = .ok (.lstore 9, 2) := by decide +kernel
theorem dX9_lands_187 : decode cX9_lands 187 = .ok (.lload 11, 2) := by decide +kernel
theorem dX9_lands_189 : decode cX9_lands 189 = .ok (.bipush 16, 2) := by decide +kernel
theorem dX9_lands_191 : decode cX9_lands 191 = .ok (.iload 14, 2) := by decide +kernel
theorem dX9_lands_193 : decode cX9_lands 193 = .ok (.isub, 1) := by decide +kernel
theorem dX9_lands_194 : decode cX9_lands 194 = .ok (.i2l, 1) := by decide +kernel
theorem dX9_lands_195 : decode cX9_lands 195 = .ok (.lmul, 1) := by decide +kernel
theorem dX9_lands_196 : decode cX9_lands 196 = .ok (.lstore 11, 2) := by decide +kernel
theorem dX9_lands_198 : decode cX9_lands 198 = .ok (.iinc 13 1, 3) := by decide +kernel
theorem dX9_lands_201 : decode cX9_lands 201 = .ok (.goto (-96), 3) := by decide +kernel
theorem dX9_lands_204 : decode cX9_lands 204 = .ok (.lload 7, 2) := by decide +kernel
theorem dX9_lands_206 : decode cX9_lands 206 = .ok (.lload 9, 2) := by decide +kernel
theorem dX9_lands_208 : decode cX9_lands 208 = .ok (.iload 4, 2) := by decide +kernel
theorem dX9_lands_210 : decode cX9_lands 210 = .ok (.invokestatic 268, 3) := by decide +kernel
theorem dX9_lands_213 : decode cX9_lands 213 = .ok (.lreturn, 1) := by decide +kernel
set_option maxRecDepth 100000 in
theorem SX9_lands_0 {g : zG} {o : Bool} {C R : Int} {M : zM} {q : Int → zM → Prop} {x1 x2 x3 x4 : Int} (W : (-2147483648 ≤ x1 ∧ x1 ≤ 2147483647) ∧ (zLand M C R) ∧ ((¬ (0 ≤ x1 ∧ x1 < C * R)) → q (-1) M) ∧ ((0 ≤ x1 ∧ x1 < C * R) → (-2147483648 ≤ x2 ∧ x2 ≤ 2147483647) ∧ ((¬ (0 ≤ x2 ∧ x2 < C * R)) → q (-1) M) ∧ ((0 ≤ x2 ∧ x2 < C * R) → (-2147483648 ≤ x3 ∧ x3 ≤ 2147483647) ∧ ((x3 < 1) → q (-1) M) ∧ ((¬ (x3 < 1)) → ((12 < x3) → q (-1) M) ∧ ((¬ (12 < x3)) → (-2147483648 ≤ x4 ∧ x4 ≤ 2147483647) ∧ ((x4 < 0) → q (-1) M) ∧ ((¬ (x4 < 0)) → ((x4 ≤ 1) → (sOk M 24) ∧ (0 ≤ x1 ∧ x1 < C * R) ∧ (0 ≤ (wnd M (M 24 4)) ∧ (wnd M (M 24 4)) ≤ 3) ∧ (Bd (M 25)) ∧ (0 ≤ M 27 1 ∧ M 27 1 ≤ 9) ∧ (0 ≤ M 26 x1 ∧ M 26 x1 ≤ 1) ∧ ((yld C R (M 25) (M 26) (M 27 1) x1 (wnd M (M 24 4))) → ∃ q24 : zM → Prop, zKv g (z1 o) mX5_copy [zA g 28, zA g 24] M q24 ∧ ∀ M26 : zM, q24 M26 → ∃ q29 : zM → Prop, zKv g (z1 o) mX7_lift [zA g 34, zI x1] M26 q29 ∧ ∀ M31 : zM, q29 M31 → zT g (z1 o) mX9_lands (zQl (z1 o) q) 105 [(0, zA g 1), (2, zI x2), (3, zI x3), (4, zI x4), (5, zI (wnd M (M 24 4))), (6, zI x1), (7, zL 0), (9, zL 1), (11, zL 1), (13, zI 1)] [] M31) ∧ ((¬ (yld C R (M 25) (M 26) (M 27 1) x1 (wnd M (M 24 4)))) → q (-1) M)) ∧ ((¬ (x4 ≤ 1)) → q (-1) M))))))) : zT g (z1 o) mX9_lands (zQl (z1 o) q) 0 [(0, zA g 1), (1, zI x1), (2, zI x2), (3, zI x3), (4, zI x4)] [] M := by
  refine zr_aload_n 0 dX9_lands_0 rfl ?_
  refine zr_getr (b := 14) dX9_lands_1 fX9_28 rfl rfl rfl (by decide) ?_
  refine zr_iload_n 1 dX9_lands_4 rfl ?_
  obtain ⟨c1, W⟩ := W
  obtain ⟨c2, W⟩ := W
  refine zt_callVi (As := [zI x1]) (rest := []) dX9_lands_5 kX9_lands_148 rfl rfl rfl rfl (Nat.le_of_ble_eq_true rfl) (c_has c1 c2) (fun r3 N5 h4 => ?_)
  rw [h4.1, h4.2]
  refine zt_ifeq_b (tgt := 44) dX9_lands_8 (by decide) (fun h => ?_) (fun h => ?_)
  · have W := W.1 h
    refine zr_ldc2 (x := (-1)) dX9_lands_44 (zc4 101 (by decide +kernel) rfl) ?_
    exact zt_lret dX9_lands_47 rfl W
  · have W := W.2 h
    refine zr_aload_n 0 dX9_lands_11 rfl ?_
    refine zr_getr (b := 14) dX9_lands_12 fX9_28 rfl rfl rfl (by decide) ?_
    refine zr_iload_n 2 dX9_lands_15 rfl ?_
    obtain ⟨c6, W⟩ := W
    refine zt_callVi (As := [zI x2]) (rest := []) dX9_lands_16 kX9_lands_148 rfl rfl rfl rfl (Nat.le_of_ble_eq_true rfl) (c_has c6 c2) (fun r7 N9 h8 => ?_)
    rw [h8.1, h8.2]
    refine zt_ifeq_b (tgt := 44) dX9_lands_19 (by decide) (fun h => ?_) (fun h => ?_)
    · have W := W.1 h
      refine zr_ldc2 (x := (-1)) dX9_lands_44 (zc4 101 (by decide +kernel) rfl) ?_
      exact zt_lret dX9_lands_47 rfl W
    · have W := W.2 h
      refine zr_iload_n 3 dX9_lands_22 rfl ?_
      refine zr_iconst dX9_lands_23 ?_
      obtain ⟨c10, W⟩ := W
      refine zr_icmp_lt (tgt := 44) dX9_lands_24 (by decide) c10 ⟨by decide, by decide⟩ (fun h => ?_) (fun h => ?_)
      · have W := W.1 h
        refine zr_ldc2 (x := (-1)) dX9_lands_44 (zc4 101 (by decide +kernel) rfl) ?_
        exact zt_lret dX9_lands_47 rfl W
      · have W := W.2 h
        refine zr_iload_n 3 dX9_lands_27 rfl ?_
        refine zr_bipush dX9_lands_28 (by decide) ?_
        refine zr_icmp_gt (tgt := 44) dX9_lands_30 (by decide) c10 ⟨by decide, by decide⟩ (fun h => ?_) (fun h => ?_)
        · have W := W.1 h
          refine zr_ldc2 (x := (-1)) dX9_lands_44 (zc4 101 (by decide +kernel) rfl) ?_
          exact zt_lret dX9_lands_47 rfl W
        · have W := W.2 h
          refine zr_iload 4 dX9_lands_33 rfl ?_
          obtain ⟨c11, W⟩ := W
          refine zr_if_lt (tgt := 44) dX9_lands_35 (by decide) c11 (fun h => ?_) (fun h => ?_)
          · have W := W.1 h
            refine zr_ldc2 (x := (-1)) dX9_lands_44 (zc4 101 (by decide +kernel) rfl) ?_
            exact zt_lret dX9_lands_47 rfl W
          · have W := W.2 h
            refine zr_iload 4 dX9_lands_38 rfl ?_
            refine zr_iconst dX9_lands_40 ?_
            refine zr_icmp_le (tgt := 48) dX9_lands_41 (by decide) c11 ⟨by decide, by decide⟩ (fun h => ?_) (fun h => ?_)
            · have W := W.1 h
              refine zr_aload_n 0 dX9_lands_48 rfl ?_
              obtain ⟨c12, W⟩ := W
              refine zt_callVi (As := []) (rest := []) dX9_lands_49 kX9_lands_155 rfl rfl rfl rfl (Nat.le_of_ble_eq_true rfl) (c_windNow1 c2 c12) (fun r13 N15 h14 => ?_)
              rw [h14.1, h14.2]
              refine zr_istore (l' := [(0, zA g 1), (1, zI x1), (2, zI x2), (3, zI x3), (4, zI x4), (5, zI (wnd M (M 24 4)))]) dX9_lands_52 (by decide) [1, 2, 3, 4, 5, 0] rfl ?_
              refine zr_aload_n 0 dX9_lands_54 rfl ?_
              refine zr_getr (b := 32) dX9_lands_55 fX9_50 rfl rfl rfl (by decide) ?_
              refine zr_iload_n 1 dX9_lands_58 rfl ?_
              refine zr_iload 5 dX9_lands_59 rfl ?_
              obtain ⟨c16, W⟩ := W
              obtain ⟨c17, W⟩ := W
              obtain ⟨c18, W⟩ := W
              obtain ⟨c19, W⟩ := W
              obtain ⟨c20, W⟩ := W
              refine zt_callVi (As := [zI x1, zI (wnd M (M 24 4))]) (rest := []) dX9_lands_61 kX9_lands_243 rfl rfl rfl rfl (Nat.le_of_ble_eq_true rfl) (c_yields (show zSt 32 24 by unfold zSt; decide) c2 c16 c17 c18 c19 c20) (fun r21 N23 h22 => ?_)
              rw [h22.1, h22.2]
              refine zt_ifne_b (tgt := 71) dX9_lands_64 (by decide) (fun h => ?_) (fun h => ?_)
              · have W := W.1 h
                refine zr_aload_n 0 dX9_lands_71 rfl ?_
                refine zr_getr (b := 28) dX9_lands_72 fX9_42 rfl rfl rfl (by decide) ?_
                refine zr_aload_n 0 dX9_lands_75 rfl ?_
                refine zr_getr (b := 24) dX9_lands_76 fX9_39 rfl rfl rfl (by decide) ?_
                obtain ⟨q24, k28, W⟩ := W
                refine zt_callVv (As := [zA g 24]) (rest := []) dX9_lands_79 kX9_lands_138 rfl rfl rfl rfl (Nat.le_of_ble_eq_true rfl) k28 (fun M26 h27 => ?_)
                have W := W M26 h27
                refine zr_aload_n 0 dX9_lands_82 rfl ?_
                refine zr_getr (b := 34) dX9_lands_83 fX9_54 rfl rfl rfl (by decide) ?_
                refine zr_iload_n 1 dX9_lands_86 rfl ?_
                obtain ⟨q29, k33, W⟩ := W
                refine zt_callVv (As := [zI x1]) (rest := []) dX9_lands_87 kX9_lands_197 rfl rfl rfl rfl (Nat.le_of_ble_eq_true rfl) k33 (fun M31 h32 => ?_)
                have W := W M31 h32
                refine zr_iload_n 1 dX9_lands_90 rfl ?_
                refine zr_istore (l' := [(0, zA g 1), (2, zI x2), (3, zI x3), (4, zI x4), (5, zI (wnd M (M 24 4))), (6, zI x1)]) dX9_lands_91 (by decide) [1, 3, 4, 5, 6, 0] rfl ?_
                refine zr_lconst (x := 0) dX9_lands_93 rfl ?_
                refine zr_lstore (l' := [(0, zA g 1), (2, zI x2), (3, zI x3), (4, zI x4), (5, zI (wnd M (M 24 4))), (6, zI x1), (7, zL 0)]) dX9_lands_94 (by decide) [1, 2, 3, 4, 5, 6, 0] rfl ?_
                refine zr_lconst (x := 1) dX9_lands_96 rfl ?_
                refine zr_lstore (l' := [(0, zA g 1), (2, zI x2), (3, zI x3), (4, zI x4), (5, zI (wnd M (M 24 4))), (6, zI x1), (7, zL 0), (9, zL 1)]) dX9_lands_97 (by decide) [1, 2, 3, 4, 5, 6, 7, 0] rfl ?_
                refine zr_lconst (x := 1) dX9_lands_99 rfl ?_
                refine zr_lstore (l' := [(0, zA g 1), (2, zI x2), (3, zI x3), (4, zI x4), (5, zI (wnd M (M 24 4))), (6, zI x1), (7, zL 0), (9, zL 1), (11, zL 1)]) dX9_lands_100 (by decide) [1, 2, 3, 4, 5, 6, 7, 8, 0] rfl ?_
                refine zr_iconst dX9_lands_102 ?_
                refine zr_istore (l' := [(0, zA g 1), (2, zI x2), (3, zI x3), (4, zI x4), (5, zI (wnd M (M 24 4))), (6, zI x1), (7, zL 0), (9, zL 1), (11, zL 1), (13, zI 1)]) dX9_lands_103 (by decide) [1, 2, 3, 4, 5, 6, 7, 8, 9, 0] rfl ?_
                exact W
              · have W := W.2 h
                refine zr_ldc2 (x := (-1)) dX9_lands_67 (zc4 101 (by decide +kernel) rfl) ?_
                exact zt_lret dX9_lands_70 rfl W
            · have W := W.2 h
              refine zr_ldc2 (x := (-1)) dX9_lands_44 (zc4 101 (by decide +kernel) rfl) ?_
              exact zt_lret dX9_lands_47 rfl W
set_option maxRecDepth 100000 in
theorem SX9_lands_105 {g : zG} {o : Bool} {C R : Int} {M : zM} {q : Int → zM → Prop} {x2 x3 x4 x5 x6 x7 x9 x11 x13 : Int} (W : (-2147483648 ≤ x13 ∧ x13 ≤ 2147483647) ∧ (-2147483648 ≤ x3 ∧ x3 ≤ 2147483647) ∧ ((x3 < x13) → ∃ q3 : Int → zM → Prop, zKl g (z1 o) mX9_lowestTerms [zL x7, zL x9, zI x4] M q3 ∧ ∀ (r4 : Int) (M5 : zM), q3 r4 M5 → q r4 M5) ∧ ((¬ (x3 < x13)) → (zLand M C R) ∧ (0 ≤ x6 ∧ x6 < C * R) ∧ (0 ≤ x5 ∧ x5 ≤ 3) ∧ (1 ≤ M 31 0 ∧ M 31 0 ≤ 6) ∧ ∀ N14 : zM, N14 = zu (zrw M 35 (hpx C R x5 (M 31 0).toNat x6 (M 35))) 34 3 (M 34 3 + 1) → (zLand N14 C R) ∧ (0 ≤ (alg C R x6 x5 (M 31 0)) ∧ (alg C R x6 x5 (M 31 0)) < C * R) ∧ (Bd (N14 29)) ∧ (0 ≤ N14 31 1 ∧ N14 31 1 ≤ 9) ∧ ((¬ (shd C R (N14 29) (N14 31 1) (alg C R x6 x5 (M 31 0)) x5)) → (0 ≤ (alg C R x6 x5 (M 31 0)) ∧ (alg C R x6 x5 (M 31 0)) < 96) ∧ (0 ≤ N14 29 (alg C R x6 x5 (M 31 0)) ∧ N14 29 (alg C R x6 x5 (M 31 0)) ≤ 2000000000) ∧ (-2147483648 ≤ (alg C R x6 x5 (M 31 0)) ∧ (alg C R x6 x5 (M 31 0)) ≤ 2147483647) ∧ (-2147483648 ≤ x2 ∧ x2 ≤ 2147483647) ∧ (((alg C R x6 x5 (M 31 0)) ≠ x2) → (-2147483648 ≤ (16 - (if 0 < N14 29 (alg C R x6 x5 (M 31 0)) then N14 31 2 else N14 31 3)) ∧ (16 - (if 0 < N14 29 (alg C R x6 x5 (M 31 0)) then N14 31 2 else N14 31 3)) ≤ 2147483647) ∧ zT g (z1 o) mX9_lands (zQl (z1 o) q) 105 [(0, zA g 1), (2, zI x2), (3, zI x3), (4, zI x4), (5, zI x5), (6, zI (alg C R x6 x5 (M 31 0))), (7, zL ((x7 * 16) + 0)), (9, zL (x9 * 16)), (11, zL (x11 * (16 - (if 0 < N14 29 (alg C R x6 x5 (M 31 0)) then N14 31 2 else N14 31 3)))), (13, zI (x13 + 1))] [] N14) ∧ (((alg C R x6 x5 (M 31 0)) = x2) → (-2147483648 ≤ (if 0 < N14 29 (alg C R x6 x5 (M 31 0)) then N14 31 2 else N14 31 3) ∧ (if 0 < N14 29 (alg C R x6 x5 (M 31 0)) then N14 31 2 else N14 31 3) ≤ 2147483647) ∧ (-2147483648 ≤ (16 - (if 0 < N14 29 (alg C R x6 x5 (M 31 0)) then N14 31 2 else N14 31 3)) ∧ (16 - (if 0 < N14 29 (alg C R x6 x5 (M 31 0)) then N14 31 2 else N14 31 3)) ≤ 2147483647) ∧ zT g (z1 o) mX9_lands (zQl (z1 o) q) 105 [(0, zA g 1), (2, zI x2), (3, zI x3), (4, zI x4), (5, zI x5), (6, zI (alg C R x6 x5 (M 31 0))), (7, zL ((x7 * 16) + (x11 * (if 0 < N14 29 (alg C R x6 x5 (M 31 0)) then N14 31 2 else N14 31 3)))), (9, zL (x9 * 16)), (11, zL (x11 * (16 - (if 0 < N14 29 (alg C R x6 x5 (M 31 0)) then N14 31 2 else N14 31 3)))), (13, zI (x13 + 1))] [] N14)) ∧ ((shd C R (N14 29) (N14 31 1) (alg C R x6 x5 (M 31 0)) x5) → (-2147483648 ≤ (alg C R x6 x5 (M 31 0)) ∧ (alg C R x6 x5 (M 31 0)) ≤ 2147483647) ∧ (-2147483648 ≤ x2 ∧ x2 ≤ 2147483647) ∧ (((alg C R x6 x5 (M 31 0)) ≠ x2) → zT g (z1 o) mX9_lands (zQl (z1 o) q) 105 [(0, zA g 1), (2, zI x2), (3, zI x3), (4, zI x4), (5, zI x5), (6, zI (alg C R x6 x5 (M 31 0))), (7, zL ((x7 * 16) + 0)), (9, zL (x9 * 16)), (11, zL (x11 * (16 - 16))), (13, zI (x13 + 1))] [] N14) ∧ (((alg C R x6 x5 (M 31 0)) = x2) → zT g (z1 o) mX9_lands (zQl (z1 o) q) 105 [(0, zA g 1), (2, zI x2), (3, zI x3), (4, zI x4), (5, zI x5), (6, zI (alg C R x6 x5 (M 31 0))), (7, zL ((x7 * 16) + (x11 * 16))), (9, zL (x9 * 16)), (11, zL (x11 * (16 - 16))), (13, zI (x13 + 1))] [] N14)))) : zT g (z1 o) mX9_lands (zQl (z1 o) q) 105 [(0, zA g 1), (2, zI x2), (3, zI x3), (4, zI x4), (5, zI x5), (6, zI x6), (7, zL x7), (9, zL x9), (11, zL x11), (13, zI x13)] [] M := by
  refine zr_iload 9 dX9_lands_105 rfl ?_
  refine zr_iload_n 2 dX9_lands_107 rfl ?_
  obtain ⟨c1, W⟩ := W
  obtain ⟨c2, W⟩ := W
  refine zr_icmp_gt (tgt := 204) dX9_lands_108 (by decide) c1 c2 (fun h => ?_) (fun h => ?_)
  · have W := W.1 h
    refine zr_lload 6 dX9_lands_204 rfl ?_
    refine zr_lload 7 dX9_lands_206 rfl ?_
    refine zr_iload 3 dX9_lands_208 rfl ?_
    obtain ⟨q3, k7, W⟩ := W
    refine zt_callSl (As := [zL x7, zL x9, zI x4]) (rest := []) dX9_lands_210 kX9_lands_268 rfl rfl (Nat.le_of_ble_eq_true rfl) k7 (fun r4 M5 h6 => ?_)
    have W := W r4 M5 h6
    exact zt_lret dX9_lands_213 rfl W
  · have W := W.2 h
    refine zr_aload_n 0 dX9_lands_111 rfl ?_
    refine zr_getr (b := 34) dX9_lands_112 fX9_54 rfl rfl rfl (by decide) ?_
    refine zr_iload 5 dX9_lands_115 rfl ?_
    refine zr_iload 4 dX9_lands_117 rfl ?_
    obtain ⟨c8, W⟩ := W
    obtain ⟨c9, W⟩ := W
    obtain ⟨c10, W⟩ := W
    obtain ⟨c11, W⟩ := W
    refine zt_callVi (As := [zI x6, zI x5]) (rest := []) dX9_lands_119 kX9_lands_260 rfl rfl rfl rfl (Nat.le_of_ble_eq_true rfl) (c_hop (show zSt 34 28 by unfold zSt; decide) c8 c9 c10 c11) (fun r12 N14 h13 => ?_)
    rw [h13.1]
    have W := W N14 h13.2
    refine zr_istore (l' := [(0, zA g 1), (2, zI x2), (3, zI x3), (4, zI x4), (5, zI x5), (6, zI (alg C R x6 x5 (M 31 0))), (7, zL x7), (9, zL x9), (11, zL x11), (13, zI x13)]) dX9_lands_122 (by decide) [1, 2, 3, 4, 5, 0, 6, 7, 8, 9] rfl ?_
    refine zr_aload_n 0 dX9_lands_124 rfl ?_
    refine zr_getr (b := 34) dX9_lands_125 fX9_54 rfl rfl rfl (by decide) ?_
    refine zr_iload 5 dX9_lands_128 rfl ?_
    refine zr_iload 4 dX9_lands_130 rfl ?_
    obtain ⟨c15, W⟩ := W
    obtain ⟨c16, W⟩ := W
    obtain ⟨c17, W⟩ := W
    obtain ⟨c18, W⟩ := W
    refine zt_callVi (As := [zI (alg C R x6 x5 (M 31 0)), zI x5]) (rest := []) dX9_lands_132 kX9_lands_159 rfl rfl rfl rfl (Nat.le_of_ble_eq_true rfl) (c_shaded (show zSt 34 28 by unfold zSt; decide) c15 c16 c10 c17 c18) (fun r19 N21 h20 => ?_)
    rw [h20.1, h20.2]
    refine zt_ifeq_b (tgt := 143) dX9_lands_135 (by decide) (fun h => ?_) (fun h => ?_)
    · have W := W.1 h
      refine zr_aload_n 0 dX9_lands_143 rfl ?_
      refine zr_getr (b := 28) dX9_lands_144 fX9_42 rfl rfl rfl (by decide) ?_
      refine zr_iload 5 dX9_lands_147 rfl ?_
      obtain ⟨c22, W⟩ := W
      obtain ⟨c23, W⟩ := W
      refine zt_callVi (As := [zI (alg C R x6 x5 (M 31 0))]) (rest := []) dX9_lands_149 kX9_lands_263 rfl rfl rfl rfl (Nat.le_of_ble_eq_true rfl) (c_stick (show zSd 28 by unfold zSd; decide) c22 c23) (fun r24 N26 h25 => ?_)
      rw [h25.1, h25.2]
      refine zr_istore (l' := [(0, zA g 1), (2, zI x2), (3, zI x3), (4, zI x4), (5, zI x5), (6, zI (alg C R x6 x5 (M 31 0))), (7, zL x7), (9, zL x9), (11, zL x11), (13, zI x13), (14, zI (if 0 < N14 29 (alg C R x6 x5 (M 31 0)) then N14 31 2 else N14 31 3))]) dX9_lands_152 (by decide) [1, 2, 3, 4, 5, 6, 7, 8, 9, 10, 0] rfl ?_
      refine zr_lload 6 dX9_lands_154 rfl ?_
      refine zr_ldc2 (x := 16) dX9_lands_156 (zc4 104 (by decide +kernel) rfl) ?_
      refine zr_lmul dX9_lands_159 ?_
      refine zr_iload 5 dX9_lands_160 rfl ?_
      refine zr_iload_n 1 dX9_lands_162 rfl ?_
      obtain ⟨c27, W⟩ := W
      obtain ⟨c28, W⟩ := W
      refine zr_icmp_ne (tgt := 175) dX9_lands_163 (by decide) c27 c28 (fun h => ?_) (fun h => ?_)
      · have W := W.1 h
        refine zr_lconst (x := 0) dX9_lands_175 rfl ?_
        refine zr_ladd dX9_lands_176 ?_
        refine zr_lstore (l' := [(0, zA g 1), (2, zI x2), (3, zI x3), (4, zI x4), (5, zI x5), (6, zI (alg C R x6 x5 (M 31 0))), (7, zL ((x7 * 16) + 0)), (9, zL x9), (11, zL x11), (13, zI x13), (14, zI (if 0 < N14 29 (alg C R x6 x5 (M 31 0)) then N14 31 2 else N14 31 3))]) dX9_lands_177 (by decide) [1, 2, 3, 4, 5, 6, 0, 7, 8, 9, 10] rfl ?_
        refine zr_lload 7 dX9_lands_179 rfl ?_
        refine zr_ldc2 (x := 16) dX9_lands_181 (zc4 104 (by decide +kernel) rfl) ?_
        refine zr_lmul dX9_lands_184 ?_
        refine zr_lstore (l' := [(0, zA g 1), (2, zI x2), (3, zI x3), (4, zI x4), (5, zI x5), (6, zI (alg C R x6 x5 (M 31 0))), (7, zL ((x7 * 16) + 0)), (9, zL (x9 * 16)), (11, zL x11), (13, zI x13), (14, zI (if 0 < N14 29 (alg C R x6 x5 (M 31 0)) then N14 31 2 else N14 31 3))]) dX9_lands_185 (by decide) [1, 2, 3, 4, 5, 6, 7, 0, 8, 9, 10] rfl ?_
        refine zr_lload 8 dX9_lands_187 rfl ?_
        refine zr_bipush dX9_lands_189 (by decide) ?_
        refine zr_iload 10 dX9_lands_191 rfl ?_
        refine zr_isub dX9_lands_193 ?_
        obtain ⟨c29, W⟩ := W
        refine zr_i2l dX9_lands_194 c29 ?_
        refine zr_lmul dX9_lands_195 ?_
        refine zr_lstore (l' := [(0, zA g 1), (2, zI x2), (3, zI x3), (4, zI x4), (5, zI x5), (6, zI (alg C R x6 x5 (M 31 0))), (7, zL ((x7 * 16) + 0)), (9, zL (x9 * 16)), (11, zL (x11 * (16 - (if 0 < N14 29 (alg C R x6 x5 (M 31 0)) then N14 31 2 else N14 31 3)))), (13, zI x13)]) dX9_lands_196 (by decide) [1, 2, 3, 4, 5, 6, 7, 8, 0, 9] rfl ?_
        refine zr_iinc (q := 9) (l' := [(0, zA g 1), (2, zI x2), (3, zI x3), (4, zI x4), (5, zI x5), (6, zI (alg C R x6 x5 (M 31 0))), (7, zL ((x7 * 16) + 0)), (9, zL (x9 * 16)), (11, zL (x11 * (16 - (if 0 < N14 29 (alg C R x6 x5 (M 31 0)) then N14 31 2 else N14 31 3)))), (13, zI (x13 + 1))]) dX9_lands_198 rfl (by decide) [1, 2, 3, 4, 5, 6, 7, 8, 9, 0] rfl ?_
        refine zr_goto (tgt := 105) dX9_lands_201 (by decide) ?_
        exact W
      · have W := W.2 h
        refine zr_lload 8 dX9_lands_166 rfl ?_
        refine zr_iload 10 dX9_lands_168 rfl ?_
        obtain ⟨c30, W⟩ := W
        refine zr_i2l dX9_lands_170 c30 ?_
        refine zr_lmul dX9_lands_171 ?_
        refine zr_goto (tgt := 176) dX9_lands_172 (by decide) ?_
        refine zr_ladd dX9_lands_176 ?_
        refine zr_lstore (l' := [(0, zA g 1), (2, zI x2), (3, zI x3), (4, zI x4), (5, zI x5), (6, zI (alg C R x6 x5 (M 31 0))), (7, zL ((x7 * 16) + (x11 * (if 0 < N14 29 (alg C R x6 x5 (M 31 0)) then N14 31 2 else N14 31 3)))), (9, zL x9), (11, zL x11), (13, zI x13), (14, zI (if 0 < N14 29 (alg C R x6 x5 (M 31 0)) then N14 31 2 else N14 31 3))]) dX9_lands_177 (by decide) [1, 2, 3, 4, 5, 6, 0, 7, 8, 9, 10] rfl ?_
        refine zr_lload 7 dX9_lands_179 rfl ?_
        refine zr_ldc2 (x := 16) dX9_lands_181 (zc4 104 (by decide +kernel) rfl) ?_
        refine zr_lmul dX9_lands_184 ?_
        refine zr_lstore (l' := [(0, zA g 1), (2, zI x2), (3, zI x3), (4, zI x4), (5, zI x5), (6, zI (alg C R x6 x5 (M 31 0))), (7, zL ((x7 * 16) + (x11 * (if 0 < N14 29 (alg C R x6 x5 (M 31 0)) then N14 31 2 else N14 31 3)))), (9, zL (x9 * 16)), (11, zL x11), (13, zI x13), (14, zI (if 0 < N14 29 (alg C R x6 x5 (M 31 0)) then N14 31 2 else N14 31 3))]) dX9_lands_185 (by decide) [1, 2, 3, 4, 5, 6, 7, 0, 8, 9, 10] rfl ?_
        refine zr_lload 8 dX9_lands_187 rfl ?_
        refine zr_bipush dX9_lands_189 (by decide) ?_
        refine zr_iload 10 dX9_lands_191 rfl ?_
        refine zr_isub dX9_lands_193 ?_
        obtain ⟨c31, W⟩ := W
        refine zr_i2l dX9_lands_194 c31 ?_
        refine zr_lmul dX9_lands_195 ?_
        refine zr_lstore (l' := [(0, zA g 1), (2, zI x2), (3, zI x3), (4, zI x4), (5, zI x5), (6, zI (alg C R x6 x5 (M 31 0))), (7, zL ((x7 * 16) + (x11 * (if 0 < N14 29 (alg C R x6 x5 (M 31 0)) then N14 31 2 else N14 31 3)))), (9, zL (x9 * 16)), (11, zL (x11 * (16 - (if 0 < N14 29 (alg C R x6 x5 (M 31 0)) then N14 31 2 else N14 31 3)))), (13, zI x13)]) dX9_lands_196 (by decide) [1, 2, 3, 4, 5, 6, 7, 8, 0, 9] rfl ?_
        refine zr_iinc (q := 9) (l' := [(0, zA g 1), (2, zI x2), (3, zI x3), (4, zI x4), (5, zI x5), (6, zI (alg C R x6 x5 (M 31 0))), (7, zL ((x7 * 16) + (x11 * (if 0 < N14 29 (alg C R x6 x5 (M 31 0)) then N14 31 2 else N14 31 3)))), (9, zL (x9 * 16)), (11, zL (x11 * (16 - (if 0 < N14 29 (alg C R x6 x5 (M 31 0)) then N14 31 2 else N14 31 3)))), (13, zI (x13 + 1))]) dX9_lands_198 rfl (by decide) [1, 2, 3, 4, 5, 6, 7, 8, 9, 0] rfl ?_
        refine zr_goto (tgt := 105) dX9_lands_201 (by decide) ?_
        exact W
    · have W := W.2 h
      refine zr_bipush dX9_lands_138 (by decide) ?_
      refine zr_goto (tgt := 152) dX9_lands_140 (by decide) ?_
      refine zr_istore (l' := [(0, zA g 1), (2, zI x2), (3, zI x3), (4, zI x4), (5, zI x5), (6, zI (alg C R x6 x5 (M 31 0))), (7, zL x7), (9, zL x9), (11, zL x11), (13, zI x13), (14, zI 16)]) dX9_lands_152 (by decide) [1, 2, 3, 4, 5, 6, 7, 8, 9, 10, 0] rfl ?_
      refine zr_lload 6 dX9_lands_154 rfl ?_
      refine zr_ldc2 (x := 16) dX9_lands_156 (zc4 104 (by decide +kernel) rfl) ?_
      refine zr_lmul dX9_lands_159 ?_
      refine zr_iload 5 dX9_lands_160 rfl ?_
      refine zr_iload_n 1 dX9_lands_162 rfl ?_
      obtain ⟨c32, W⟩ := W
      obtain ⟨c33, W⟩ := W
      refine zr_icmp_ne (tgt := 175) dX9_lands_163 (by decide) c32 c33 (fun h => ?_) (fun h => ?_)
      · have W := W.1 h
        refine zr_lconst (x := 0) dX9_lands_175 rfl ?_
        refine zr_ladd dX9_lands_176 ?_
        refine zr_lstore (l' := [(0, zA g 1), (2, zI x2), (3, zI x3), (4, zI x4), (5, zI x5), (6, zI (alg C R x6 x5 (M 31 0))), (7, zL ((x7 * 16) + 0)), (9, zL x9), (11, zL x11), (13, zI x13), (14, zI 16)]) dX9_lands_177 (by decide) [1, 2, 3, 4, 5, 6, 0, 7, 8, 9, 10] rfl ?_
        refine zr_lload 7 dX9_lands_179 rfl ?_
        refine zr_ldc2 (x := 16) dX9_lands_181 (zc4 104 (by decide +kernel) rfl) ?_
        refine zr_lmul dX9_lands_184 ?_
        refine zr_lstore (l' := [(0, zA g 1), (2, zI x2), (3, zI x3), (4, zI x4), (5, zI x5), (6, zI (alg C R x6 x5 (M 31 0))), (7, zL ((x7 * 16) + 0)), (9, zL (x9 * 16)), (11, zL x11), (13, zI x13), (14, zI 16)]) dX9_lands_185 (by decide) [1, 2, 3, 4, 5, 6, 7, 0, 8, 9, 10] rfl ?_
        refine zr_lload 8 dX9_lands_187 rfl ?_
        refine zr_bipush dX9_lands_189 (by decide) ?_
        refine zr_iload 10 dX9_lands_191 rfl ?_
        refine zr_isub dX9_lands_193 ?_
        refine zr_i2l dX9_lands_194 (show zin (16 - 16) from ⟨by decide, by decide⟩) ?_
        refine zr_lmul dX9_lands_195 ?_
        refine zr_lstore (l' := [(0, zA g 1), (2, zI x2), (3, zI x3), (4, zI x4), (5, zI x5), (6, zI (alg C R x6 x5 (M 31 0))), (7, zL ((x7 * 16) + 0)), (9, zL (x9 * 16)), (11, zL (x11 * (16 - 16))), (13, zI x13)]) dX9_lands_196 (by decide) [1, 2, 3, 4, 5, 6, 7, 8, 0, 9] rfl ?_
        refine zr_iinc (q := 9) (l' := [(0, zA g 1), (2, zI x2), (3, zI x3), (4, zI x4), (5, zI x5), (6, zI (alg C R x6 x5 (M 31 0))), (7, zL ((x7 * 16) + 0)), (9, zL (x9 * 16)), (11, zL (x11 * (16 - 16))), (13, zI (x13 + 1))]) dX9_lands_198 rfl (by decide) [1, 2, 3, 4, 5, 6, 7, 8, 9, 0] rfl ?_
        refine zr_goto (tgt := 105) dX9_lands_201 (by decide) ?_
        exact W
      · have W := W.2 h
        refine zr_lload 8 dX9_lands_166 rfl ?_
        refine zr_iload 10 dX9_lands_168 rfl ?_
        refine zr_i2l dX9_lands_170 ⟨by decide, by decide⟩ ?_
        refine zr_lmul dX9_lands_171 ?_
        refine zr_goto (tgt := 176) dX9_lands_172 (by decide) ?_
        refine zr_ladd dX9_lands_176 ?_
        refine zr_lstore (l' := [(0, zA g 1), (2, zI x2), (3, zI x3), (4, zI x4), (5, zI x5), (6, zI (alg C R x6 x5 (M 31 0))), (7, zL ((x7 * 16) + (x11 * 16))), (9, zL x9), (11, zL x11), (13, zI x13), (14, zI 16)]) dX9_lands_177 (by decide) [1, 2, 3, 4, 5, 6, 0, 7, 8, 9, 10] rfl ?_
        refine zr_lload 7 dX9_lands_179 rfl ?_
        refine zr_ldc2 (x := 16) dX9_lands_181 (zc4 104 (by decide +kernel) rfl) ?_
        refine zr_lmul dX9_lands_184 ?_
        refine zr_lstore (l' := [(0, zA g 1), (2, zI x2), (3, zI x3), (4, zI x4), (5, zI x5), (6, zI (alg C R x6 x5 (M 31 0))), (7, zL ((x7 * 16) + (x11 * 16))), (9, zL (x9 * 16)), (11, zL x11), (13, zI x13), (14, zI 16)]) dX9_lands_185 (by decide) [1, 2, 3, 4, 5, 6, 7, 0, 8, 9, 10] rfl ?_
        refine zr_lload 8 dX9_lands_187 rfl ?_
        refine zr_bipush dX9_lands_189 (by decide) ?_
        refine zr_iload 10 dX9_lands_191 rfl ?_
        refine zr_isub dX9_lands_193 ?_
        refine zr_i2l dX9_lands_194 (show zin (16 - 16) from ⟨by decide, by decide⟩) ?_
        refine zr_lmul dX9_lands_195 ?_
        refine zr_lstore (l' := [(0, zA g 1), (2, zI x2), (3, zI x3), (4, zI x4), (5, zI x5), (6, zI (alg C R x6 x5 (M 31 0))), (7, zL ((x7 * 16) + (x11 * 16))), (9, zL (x9 * 16)), (11, zL (x11 * (16 - 16))), (13, zI x13)]) dX9_lands_196 (by decide) [1, 2, 3, 4, 5, 6, 7, 8, 0, 9] rfl ?_
        refine zr_iinc (q := 9) (l' := [(0, zA g 1), (2, zI x2), (3, zI x3), (4, zI x4), (5, zI x5), (6, zI (alg C R x6 x5 (M 31 0))), (7, zL ((x7 * 16) + (x11 * 16))), (9, zL (x9 * 16)), (11, zL (x11 * (16 - 16))), (13, zI (x13 + 1))]) dX9_lands_198 rfl (by decide) [1, 2, 3, 4, 5, 6, 7, 8, 9, 0] rfl ?_
        refine zr_goto (tgt := 105) dX9_lands_201 (by decide) ?_
        exact W
theorem dX10_lands_0 : decode cX10_lands 0 = .ok (.aload_n 0, 1) := by decide +kernel
theorem dX10_lands_1 : decode cX10_lands 1 = .ok (.iload_n 1, 1) := by decide +kernel
theorem dX10_lands_2 : decode cX10_lands 2 = .ok (.invokevirtual 336, 3) := by decide +kernel
theorem dX10_lands_5 : decode cX10_lands 5 = .ok (.ifCond .eq 31, 3) := by decide +kernel
theorem dX10_lands_8 : decode cX10_lands 8 = .ok (.aload_n 0, 1) := by decide +kernel
theorem dX10_lands_9 : decode cX10_lands 9 = .ok (.iload_n 2, 1) := by decide +kernel
theorem dX10_lands_10 : decode cX10_lands 10 = .ok (.invokevirtual 336, 3) := by decide +kernel
theorem dX10_lands_13 : decode cX10_lands 13 = .ok (.ifCond .eq 23, 3) := by decide +kernel
theorem dX10_lands_16 : decode cX10_lands 16 = .ok (.iload_n 3, 1) := by decide +kernel
theorem dX10_lands_17 : decode cX10_lands 17 = .ok (.iconst 1, 1) := by decide +kernel
theorem dX10_lands_18 : decode cX10_lands 18 = .ok (.bipush 12, 2) := by decide +kernel
theorem dX10_lands_20 : decode cX10_lands 20 = .ok (.invokestatic 106, 3) := by decide +kernel
theorem dX10_lands_23 : decode cX10_lands 23 = .ok (.ifCond .eq 13, 3) := by decide +kernel
theorem dX10_lands_26 : decode cX10_lands 26 = .ok (.iload 4, 2) := by decide +kernel
theorem dX10_lands_28 : decode cX10_lands 28 = .ok (.iconst 0, 1) := by decide +kernel
theorem dX10_lands_29 : decode cX10_lands 29 = .ok (.iconst 1, 1) := by decide +kernel
theorem dX10_lands_30 : decode cX10_lands 30 = .ok (.invokestatic 106, 3) := by decide +kernel
theorem dX10_lands_33 : decode cX10_lands 33 = .ok (.ifCond .ne 7, 3) := by decide +kernel
theorem dX10_lands_36 : decode cX10_lands 36 = .ok (.ldc2_w 379, 3) := by decide +kernel
theorem dX10_lands_39 : decode cX10_lands 39 = .ok (.lreturn, 1) := by decide +kernel
theorem dX10_lands_40 : decode cX10_lands 40 = .ok (.aload_n 0, 1) := by decide +kernel
theorem dX10_lands_41 : decode cX10_lands 41 = .ok (.invokevirtual 327, 3) := by decide +kernel
theorem dX10_lands_44 : decode cX10_lands 44 = .ok (.aload_n 0, 1) := by decide +kernel
theorem dX10_lands_45 : decode cX10_lands 45 = .ok (.iload_n 1, 1) := by decide +kernel
theorem dX10_lands_46 : decode cX10_lands 46 = .ok (.invokevirtual 303, 3) := by decide +kernel
theorem dX10_lands_49 : decode cX10_lands 49 = .ok (.ifCond .ne 7, 3) := by decide +kernel
theorem dX10_lands_52 : decode cX10_lands 52 = .ok (.ldc2_w 379, 3) := by decide +kernel
theorem dX10_lands_55 : decode cX10_lands 55 = .ok (.lreturn, 1) := by decide +kernel
theorem dX10_lands_56 : decode cX10_lands 56 = .ok (.aload_n 0, 1) := by decide +kernel
theorem dX10_lands_57 : decode cX10_lands 57 = .ok (.getfield 45, 3) := by decide +kernel
theorem dX10_lands_60 : decode cX10_lands 60 = .ok (.iload_n 1, 1) := by decide +kernel
theorem dX10_lands_61 : decode cX10_lands 61 = .ok (.dup2, 1) := by decide +kernel
theorem dX10_lands_62 : decode cX10_lands 62 = .ok (.iaload, 1) := by decide +kernel
theorem dX10_lands_63 : decode cX10_lands 63 = .ok (.iconst 1, 1) := by decide +kernel
theorem dX10_lands_64 : decode cX10_lands 64 = .ok (.isub, 1) := by decide +kernel
theorem dX10_lands_65 : decode cX10_lands 65 = .ok (.iastore, 1) := by decide +kernel
theorem dX10_lands_66 : decode cX10_lands 66 = .ok (.aload_n 0, 1) := by decide +kernel
theorem dX10_lands_67 : decode cX10_lands 67 = .ok (.iload_n 1, 1) := by decide +kernel
theorem dX10_lands_68 : decode cX10_lands 68 = .ok (.invokevirtual 306, 3) := by decide +kernel
theorem dX10_lands_71 : decode cX10_lands 71 = .ok (.aload_n 0, 1) := by decide +kernel
theorem dX10_lands_72 : decode cX10_lands 72 = .ok (.invokevirtual 273, 3) := by decide +kernel
theorem dX10_lands_75 : decode cX10_lands 75 = .ok (.istore 5, 2) := by decide +kernel
theorem dX10_lands_77 : decode cX10_lands 77 = .ok (.iload_n 1, 1) := by decide +kernel
theorem dX10_lands_78 : decode cX10_lands 78 = .ok (.istore 6, 2) := by decide +kernel
theorem dX10_lands_80 : decode cX10_lands 80 = .ok (.lconst 1, 1) := by decide +kernel
theorem dX10_lands_81 : decode cX10_lands 81 = .ok (.lstore 7, 2) := by decide +kernel
theorem dX10_lands_83 : decode cX10_lands 83 = .ok (.lconst 0, 1) := by decide +kernel
theorem dX10_lands_84 : decode cX10_lands 84 = .ok (.lstore 9, 2) := by decide +kernel
theorem dX10_lands_86 : decode cX10_lands 86 = .ok (.lconst 1, 1) := by decide +kernel
theorem dX10_lands_87 : decode cX10_lands 87 = .ok (.lstore 11, 2) := by decide +kernel
theorem dX10_lands_89 : decode cX10_lands 89 = .ok (.iconst 0, 1) := by decide +kernel
theorem dX10_lands_90 : decode cX10_lands 90 = .ok (.istore 13, 2) := by decide +kernel
theorem dX10_lands_92 : decode cX10_lands 92 = .ok (.iload 13, 2) := by decide +kernel
theorem dX10_lands_94 : decode cX10_lands 94 = .ok (.iload_n 3, 1) := by decide +kernel
theorem dX10_lands_95 : decode cX10_lands 95 = .ok (.if_icmp .ge 116, 3) := by decide +kernel
theorem dX10_lands_98 : decode cX10_lands 98 = .ok (.aload_n 0, 1) := by decide +kernel
theorem dX10_lands_99 : decode cX10_lands 99 = .ok (.iload 6, 2) := by decide +kernel
theorem dX10_lands_101 : decode cX10_lands 101 = .ok (.iload 5, 2) := by decide +kernel
theorem dX10_lands_103 : decode cX10_lands 103 = .ok (.aload_n 0, 1) := by decide +kernel
theorem dX10_lands_104 : decode cX10_lands 104 = .ok (.getfield 45, 3) := by decide +kernel
theorem dX10_lands_107 : decode cX10_lands 107 = .ok (.sipush 192, 3) := by decide +kernel
theorem dX10_lands_110 : decode cX10_lands 110 = .ok (.iaload, 1) := by decide +kernel
theorem dX10_lands_111 : decode cX10_lands 111 = .ok (.invokevirtual 282, 3) := by decide +kernel
theorem dX10_lands_114 : decode cX10_lands 114 = .ok (.istore 6, 2) := by decide +kernel
theorem dX10_lands_116 : decode cX10_lands 116 = .ok (.aload_n 0, 1) := by decide +kernel
theorem dX10_lands_117 : decode cX10_lands 117 = .ok (.iload 6, 2) := by decide +kernel
theorem dX10_lands_119 : decode cX10_lands 119 = .ok (.invokevirtual 286, 3) := by decide +kernel
theorem dX10_lands_122 : decode cX10_lands 122 = .ok (.ifCond .eq 8, 3) := by decide +kernel
theorem dX10_lands_125 : decode cX10_lands 125 = .ok (.bipush 16, 2) := by decide +kernel
theorem dX10_lands_127 : decode cX10_lands 127 = .ok (.goto 32, 3) := by decide +kernel
theorem dX10_lands_130 : decode cX10_lands 130 = .ok (.aload_n 0, 1) := by decide +kernel
theorem dX10_lands_131 : decode cX10_lands 131 = .ok (.getfield 45, 3) := by decide +kernel
theorem dX10_lands_134 : decode cX10_lands 134 = .ok (.iload 6, 2) := by decide +kernel
theorem dX10_lands_136 : decode cX10_lands 136 = .ok (.iaload, 1) := by decide +kernel
theorem dX10_lands_137 : decode cX10_lands 137 = .ok (.ifCond .le 14, 3) := by decide +kernel
theorem dX10_lands_140 : decode cX10_lands 140 = .ok (.aload_n 0, 1) := by decide +kernel
theorem dX10_lands_141 : decode cX10_lands 141 = .ok (.getfield 45, 3) := by decide +kernel
theorem dX10_lands_144 : decode cX10_lands 144 = .ok (.sipush 194, 3) := by decide +kernel
theorem dX10_lands_147 : decode cX10_lands 147 = .ok (.iaload, 1) := by decide +kernel
theorem dX10_lands_148 : decode cX10_lands 148 = .ok (.goto 11, 3) := by decide +kernel
theorem dX10_lands_151 : decode cX10_lands 151 = .ok (.aload_n 0, 1) := by decide +kernel
theorem dX10_lands_152 : decode cX10_lands 152 = .ok (.getfield 45, 3) := by decide +kernel
theorem dX10_lands_155 : decode cX10_lands 155 = .ok (.sipush 195, 3) := by decide +kernel
theorem dX10_lands_158 : decode cX10_lands 158 = .ok (.iaload, 1) := by decide +kernel
theorem dX10_lands_159 : decode cX10_lands 159 = .ok (.istore 14, 2) := by decide +kernel
theorem dX10_lands_161 : decode cX10_lands 161 = .ok (.lload 9, 2) := by decide +kernel
theorem dX10_lands_163 : decode cX10_lands 163 = .ok (.ldc2_w 381, 3) := by decide +kernel
theorem dX10_lands_166 : decode cX10_lands 166 = .ok (.lmul, 1) := by decide +kernel
theorem dX10_lands_167 : decode cX10_lands 167 = .ok (.iload 6, 2) := by decide +kernel
theorem dX10_lands_169 : decode cX10_lands 169 = .ok (.iload_n 2, 1) := by decide +kernel
theorem dX10_lands_170 : decode cX10_lands 170 = .ok (.if_icmp .ne 12, 3) := by decide +kernel
theorem dX10_lands_173 : decode cX10_lands 173 = .ok (.lload 7, 2) := by decide +kernel
theorem dX10_lands_175 : decode cX10_lands 175 = .ok (.iload 14, 2) := by decide +kernel
theorem dX10_lands_177 : decode cX10_lands 177 = .ok (.i2l, 1) := by decide +kernel
theorem dX10_lands_178 : decode cX10_lands 178 = .ok (.lmul, 1) := by decide +kernel
theorem dX10_lands_179 : decode cX10_lands 179 = .ok (.goto 4, 3) := by decide +kernel
theorem dX10_lands_182 : decode cX10_lands 182 = .ok (.lconst 0, 1) := by decide +kernel
theorem dX10_lands_183 : decode cX10_lands 183 = .ok (.ladd, 1) := by decide +kernel
theorem dX10_lands_184 : decode cX10_lands 184 = .ok (.lstore 9, 2) := by decide +kernel
theorem dX10_lands_186 : decode cX10_lands 186 = .ok (.lload 7, 2) := by decide +kernel
theorem dX10_lands_188 : decode cX10_lands 188 = .ok (.bipush 16, 2) := by decide +kernel
theorem dX10_lands_190 : decode cX10_lands 190 = .ok (.iload 14, 2) := by decide +kernel
theorem dX10_lands_192 : decode cX10_lands 192 = .ok (.isub, 1) := by decide +kernel
theorem dX10_lands_193 : decode cX10_lands 193 = .ok (.i2l, 1) := by decide +kernel
theorem dX10_lands_194 : decode cX10_lands 194 = .ok (.lmul, 1) := by decide +kernel
theorem dX10_lands_195 : decode cX10_lands 195 = .ok (.lstore 7, 2) := by decide +kernel
theorem dX10_lands_197 : decode cX10_lands 197 = .ok (.lload 11, 2) := by decide +kernel
theorem dX10_lands_199 : decode cX10_lands 199 = .ok (.ldc2_w 381, 3) := by decide +kernel
theorem dX10_lands_202 : decode cX10_lands 202 = .ok (.lmul, 1) := by decide +kernel
theorem dX10_lands_203 : decode cX10_lands 203 = .ok (.lstore 11, 2) := by decide +kernel
theorem dX10_lands_205 : decode cX10_lands 205 = .ok (.iinc 13 1, 3) := by decide +kernel
theorem dX10_lands_208 : decode cX10_lands 208 = .ok (.goto (-116), 3) := by decide +kernel
theorem dX10_lands_211 : decode cX10_lands 211 = .ok (.iload 4, 2) := by decide +kernel
theorem dX10_lands_213 : decode cX10_lands 213 = .ok (.ifCond .ne 8, 3) := by decide +kernel
theorem dX10_lands_216 : decode cX10_lands 216 = .ok (.lload 9, 2) := by decide +kernel
theorem dX10_lands_218 : decode cX10_lands 218 = .ok (.goto 5, 3) := by decide +kernel
theorem dX10_lands_221 : decode cX10_lands 221 = .ok (.lload 11, 2) := by decide +kernel
theorem dX10_lands_223 : decode cX10_lands 223 = .ok (.lload 11, 2) := by decide +kernel
theorem dX10_lands_225 : decode cX10_lands 225 = .ok (.lload 9, 2) := by decide +kernel
theorem dX10_lands_227 : decode cX10_lands 227 = .ok (.invokestatic 383, 3) := by decide +kernel
theorem dX10_lands_230 : decode cX10_lands 230 = .ok (.ldiv, 1) := by decide +kernel
theorem dX10_lands_231 : decode cX10_lands 231 = .ok (.lreturn, 1) := by decide +kernel
set_option maxRecDepth 100000 in
theorem SX10_lands_0 {g : zG} {o : Bool} {C R : Int} {M : zM} {q : Int → zM → Prop} {x1 x2 x3 x4 : Int} (W : (zRf M C R) ∧ (-2147483648 ≤ x1 ∧ x1 ≤ 2147483647) ∧ ((¬ (0 ≤ x1 ∧ x1 < C * R)) → q (-1) M) ∧ ((0 ≤ x1 ∧ x1 < C * R) → (-2147483648 ≤ x2 ∧ x2 ≤ 2147483647) ∧ ((¬ (0 ≤ x2 ∧ x2 < C * R)) → q (-1) M) ∧ ((0 ≤ x2 ∧ x2 < C * R) → (-2147483648 ≤ x3 ∧ x3 ≤ 2147483647) ∧ ((¬ (1 ≤ x3 ∧ x3 ≤ 12)) → q (-1) M) ∧ ((1 ≤ x3 ∧ x3 ≤ 12) → (-2147483648 ≤ x4 ∧ x4 ≤ 2147483647) ∧ ((0 ≤ x4 ∧ x4 ≤ 1) → ∃ q18 : zM → Prop, zKv g (z2 o) mX10_goesOn [zA g 1] M q18 ∧ ∀ M20 : zM, q18 M20 → (zRf M20 C R) ∧ (0 ≤ x1 ∧ x1 < C * R) ∧ (0 ≤ M20 11 197 ∧ M20 11 197 ≤ 2147483647) ∧ (Bd (M20 11)) ∧ (0 ≤ M20 11 193 ∧ M20 11 193 ≤ 9) ∧ (0 ≤ M20 11 (96 + x1) ∧ M20 11 (96 + x1) ≤ 1) ∧ ((yld C R (M20 11) (fun i => M20 11 (96 + i)) (M20 11 193) x1 (wnr M20 (M20 11 197))) → (0 ≤ x1 ∧ x1 < 198) ∧ ∃ q33 : zM → Prop, zKv g (z2 o) mX10_fills [zA g 1, zI x1] (zu M20 11 x1 ((M20 11 x1) - 1)) q33 ∧ ∀ M35 : zM, q33 M35 → (zRf M35 C R) ∧ (0 ≤ M35 11 197 ∧ M35 11 197 ≤ 2147483647) ∧ zT g (z2 o) mX10_lands (zQl (z2 o) q) 92 [(0, zA g 1), (2, zI x2), (3, zI x3), (4, zI x4), (5, zI (wnr M35 (M35 11 197))), (6, zI x1), (7, zL 1), (9, zL 0), (11, zL 1), (13, zI 0)] [] M35) ∧ ((¬ (yld C R (M20 11) (fun i => M20 11 (96 + i)) (M20 11 193) x1 (wnr M20 (M20 11 197)))) → q (-1) M20)) ∧ ((¬ (0 ≤ x4 ∧ x4 ≤ 1)) → q (-1) M))))) : zT g (z2 o) mX10_lands (zQl (z2 o) q) 0 [(0, zA g 1), (1, zI x1), (2, zI x2), (3, zI x3), (4, zI x4)] [] M := by
  refine zr_aload_n 0 dX10_lands_0 rfl ?_
  refine zr_iload_n 1 dX10_lands_1 rfl ?_
  obtain ⟨c1, W⟩ := W
  obtain ⟨c2, W⟩ := W
  refine zt_callVi (As := [zI x1]) (rest := []) dX10_lands_2 kX10_lands_336 rfl rfl rfl rfl (Nat.le_of_ble_eq_true rfl) (c_isCell c1 c2) (fun r3 N5 h4 => ?_)
  rw [h4.1, h4.2]
  refine zt_ifeq_b (tgt := 36) dX10_lands_5 (by decide) (fun h => ?_) (fun h => ?_)
  · have W := W.1 h
    refine zr_ldc2 (x := (-1)) dX10_lands_36 (zc7 82 (by decide +kernel) rfl) ?_
    exact zt_lret dX10_lands_39 rfl W
  · have W := W.2 h
    refine zr_aload_n 0 dX10_lands_8 rfl ?_
    refine zr_iload_n 2 dX10_lands_9 rfl ?_
    obtain ⟨c6, W⟩ := W
    refine zt_callVi (As := [zI x2]) (rest := []) dX10_lands_10 kX10_lands_336 rfl rfl rfl rfl (Nat.le_of_ble_eq_true rfl) (c_isCell c1 c6) (fun r7 N9 h8 => ?_)
    rw [h8.1, h8.2]
    refine zt_ifeq_b (tgt := 36) dX10_lands_13 (by decide) (fun h => ?_) (fun h => ?_)
    · have W := W.1 h
      refine zr_ldc2 (x := (-1)) dX10_lands_36 (zc7 82 (by decide +kernel) rfl) ?_
      exact zt_lret dX10_lands_39 rfl W
    · have W := W.2 h
      refine zr_iload_n 3 dX10_lands_16 rfl ?_
      refine zr_iconst dX10_lands_17 ?_
      refine zr_bipush dX10_lands_18 (by decide) ?_
      obtain ⟨c10, W⟩ := W
      refine zt_callSi (As := [zI x3, zI 1, zI 12]) (rest := []) dX10_lands_20 kX10_lands_106 rfl rfl (Nat.le_of_ble_eq_true rfl) (c_isIn c10 ⟨by decide, by decide⟩ ⟨by decide, by decide⟩) (fun r11 N13 h12 => ?_)
      rw [h12.1, h12.2]
      refine zt_ifeq_b (tgt := 36) dX10_lands_23 (by decide) (fun h => ?_) (fun h => ?_)
      · have W := W.1 h
        refine zr_ldc2 (x := (-1)) dX10_lands_36 (zc7 82 (by decide +kernel) rfl) ?_
        exact zt_lret dX10_lands_39 rfl W
      · have W := W.2 h
        refine zr_iload 4 dX10_lands_26 rfl ?_
        refine zr_iconst dX10_lands_28 ?_
        refine zr_iconst dX10_lands_29 ?_
        obtain ⟨c14, W⟩ := W
        refine zt_callSi (As := [zI x4, zI 0, zI 1]) (rest := []) dX10_lands_30 kX10_lands_106 rfl rfl (Nat.le_of_ble_eq_true rfl) (c_isIn c14 ⟨by decide, by decide⟩ ⟨by decide, by decide⟩) (fun r15 N17 h16 => ?_)
        rw [h16.1, h16.2]
        refine zt_ifne_b (tgt := 40) dX10_lands_33 (by decide) (fun h => ?_) (fun h => ?_)
        · have W := W.1 h
          refine zr_aload_n 0 dX10_lands_40 rfl ?_
          obtain ⟨q18, k22, W⟩ := W
          refine zt_callVv (As := []) (rest := []) dX10_lands_41 kX10_lands_327 rfl rfl rfl rfl (Nat.le_of_ble_eq_true rfl) k22 (fun M20 h21 => ?_)
          have W := W M20 h21
          refine zr_aload_n 0 dX10_lands_44 rfl ?_
          refine zr_iload_n 1 dX10_lands_45 rfl ?_
          obtain ⟨c23, W⟩ := W
          obtain ⟨c24, W⟩ := W
          obtain ⟨c25, W⟩ := W
          obtain ⟨c26, W⟩ := W
          obtain ⟨c27, W⟩ := W
          obtain ⟨c28, W⟩ := W
          refine zt_callVi (As := [zI x1]) (rest := []) dX10_lands_46 kX10_lands_303 rfl rfl rfl rfl (Nat.le_of_ble_eq_true rfl) (c_gives c23 c24 c25 c26 c27 c28) (fun r29 N31 h30 => ?_)
          rw [h30.1, h30.2]
          refine zt_ifne_b (tgt := 56) dX10_lands_49 (by decide) (fun h => ?_) (fun h => ?_)
          · have W := W.1 h
            refine zr_aload_n 0 dX10_lands_56 rfl ?_
            refine zr_getr (b := 11) dX10_lands_57 fX10_45 rfl rfl rfl (by decide) ?_
            refine zr_iload_n 1 dX10_lands_60 rfl ?_
            refine zr_dup2 dX10_lands_61 rfl rfl ?_
            obtain ⟨c32, W⟩ := W
            refine zr_iald dX10_lands_62 rfl (by decide) c32 ?_
            refine zr_iconst dX10_lands_63 ?_
            refine zr_isub dX10_lands_64 ?_
            refine zr_iast dX10_lands_65 rfl (by decide) c32 ?_
            refine zr_aload_n 0 dX10_lands_66 rfl ?_
            refine zr_iload_n 1 dX10_lands_67 rfl ?_
            obtain ⟨q33, k37, W⟩ := W
            refine zt_callVv (As := [zI x1]) (rest := []) dX10_lands_68 kX10_lands_306 rfl rfl rfl rfl (Nat.le_of_ble_eq_true rfl) k37 (fun M35 h36 => ?_)
            have W := W M35 h36
            refine zr_aload_n 0 dX10_lands_71 rfl ?_
            obtain ⟨c38, W⟩ := W
            obtain ⟨c39, W⟩ := W
            refine zt_callVi (As := []) (rest := []) dX10_lands_72 kX10_lands_273 rfl rfl rfl rfl (Nat.le_of_ble_eq_true rfl) (c_windNow c38 c39) (fun r40 N42 h41 => ?_)
            rw [h41.1, h41.2]
            refine zr_istore (l' := [(0, zA g 1), (1, zI x1), (2, zI x2), (3, zI x3), (4, zI x4), (5, zI (wnr M35 (M35 11 197)))]) dX10_lands_75 (by decide) [1, 2, 3, 4, 5, 0] rfl ?_
            refine zr_iload_n 1 dX10_lands_77 rfl ?_
            refine zr_istore (l' := [(0, zA g 1), (2, zI x2), (3, zI x3), (4, zI x4), (5, zI (wnr M35 (M35 11 197))), (6, zI x1)]) dX10_lands_78 (by decide) [1, 3, 4, 5, 6, 0] rfl ?_
            refine zr_lconst (x := 1) dX10_lands_80 rfl ?_
            refine zr_lstore (l' := [(0, zA g 1), (2, zI x2), (3, zI x3), (4, zI x4), (5, zI (wnr M35 (M35 11 197))), (6, zI x1), (7, zL 1)]) dX10_lands_81 (by decide) [1, 2, 3, 4, 5, 6, 0] rfl ?_
            refine zr_lconst (x := 0) dX10_lands_83 rfl ?_
            refine zr_lstore (l' := [(0, zA g 1), (2, zI x2), (3, zI x3), (4, zI x4), (5, zI (wnr M35 (M35 11 197))), (6, zI x1), (7, zL 1), (9, zL 0)]) dX10_lands_84 (by decide) [1, 2, 3, 4, 5, 6, 7, 0] rfl ?_
            refine zr_lconst (x := 1) dX10_lands_86 rfl ?_
            refine zr_lstore (l' := [(0, zA g 1), (2, zI x2), (3, zI x3), (4, zI x4), (5, zI (wnr M35 (M35 11 197))), (6, zI x1), (7, zL 1), (9, zL 0), (11, zL 1)]) dX10_lands_87 (by decide) [1, 2, 3, 4, 5, 6, 7, 8, 0] rfl ?_
            refine zr_iconst dX10_lands_89 ?_
            refine zr_istore (l' := [(0, zA g 1), (2, zI x2), (3, zI x3), (4, zI x4), (5, zI (wnr M35 (M35 11 197))), (6, zI x1), (7, zL 1), (9, zL 0), (11, zL 1), (13, zI 0)]) dX10_lands_90 (by decide) [1, 2, 3, 4, 5, 6, 7, 8, 9, 0] rfl ?_
            exact W
          · have W := W.2 h
            refine zr_ldc2 (x := (-1)) dX10_lands_52 (zc7 82 (by decide +kernel) rfl) ?_
            exact zt_lret dX10_lands_55 rfl W
        · have W := W.2 h
          refine zr_ldc2 (x := (-1)) dX10_lands_36 (zc7 82 (by decide +kernel) rfl) ?_
          exact zt_lret dX10_lands_39 rfl W
set_option maxRecDepth 100000 in
theorem SX10_lands_92 {g : zG} {o : Bool} {C R : Int} {M : zM} {q : Int → zM → Prop} {x2 x3 x4 x5 x6 x7 x9 x11 x13 : Int} (W : (-2147483648 ≤ x13 ∧ x13 ≤ 2147483647) ∧ (-2147483648 ≤ x3 ∧ x3 ≤ 2147483647) ∧ ((x3 ≤ x13) → (-2147483648 ≤ x4 ∧ x4 ≤ 2147483647) ∧ ((x4 ≠ 0) → ∃ q4 : Int → zM → Prop, zKl g (z2 o) mX10_common [zL x11, zL x9] M q4 ∧ ∀ (r5 : Int) (M6 : zM), q4 r5 M6 → (0 ≤ x11 ∧ x11 ≤ 9223372036854775807) ∧ (0 < r5 ∧ r5 ≤ 9223372036854775807) ∧ q (x11 / r5) M6) ∧ ((x4 = 0) → ∃ q11 : Int → zM → Prop, zKl g (z2 o) mX10_common [zL x11, zL x9] M q11 ∧ ∀ (r12 : Int) (M13 : zM), q11 r12 M13 → (0 ≤ x9 ∧ x9 ≤ 9223372036854775807) ∧ (0 < r12 ∧ r12 ≤ 9223372036854775807) ∧ q (x9 / r12) M13)) ∧ ((¬ (x3 ≤ x13)) → (zRf M C R) ∧ (0 ≤ x6 ∧ x6 < C * R) ∧ (0 ≤ x5 ∧ x5 ≤ 3) ∧ (0 ≤ (M 11 192) ∧ (M 11 192) ≤ 10000) ∧ (0 ≤ (alg C R x6 x5 (M 11 192)) ∧ (alg C R x6 x5 (M 11 192)) < C * R) ∧ (0 ≤ M 11 197 ∧ M 11 197 ≤ 2147483647) ∧ (Bd (M 11)) ∧ (0 ≤ M 11 193 ∧ M 11 193 ≤ 9) ∧ ((¬ (shd C R (M 11) (M 11 193) (alg C R x6 x5 (M 11 192)) (wnr M (M 11 197)))) → (0 ≤ (alg C R x6 x5 (M 11 192)) ∧ (alg C R x6 x5 (M 11 192)) < 198) ∧ (-2147483648 ≤ (M 11 (alg C R x6 x5 (M 11 192))) ∧ (M 11 (alg C R x6 x5 (M 11 192))) ≤ 2147483647) ∧ (((M 11 (alg C R x6 x5 (M 11 192))) ≤ 0) → (-2147483648 ≤ (alg C R x6 x5 (M 11 192)) ∧ (alg C R x6 x5 (M 11 192)) ≤ 2147483647) ∧ (-2147483648 ≤ x2 ∧ x2 ≤ 2147483647) ∧ (((alg C R x6 x5 (M 11 192)) ≠ x2) → (-2147483648 ≤ (16 - (M 11 195)) ∧ (16 - (M 11 195)) ≤ 2147483647) ∧ zT g (z2 o) mX10_lands (zQl (z2 o) q) 92 [(0, zA g 1), (2, zI x2), (3, zI x3), (4, zI x4), (5, zI x5), (6, zI (alg C R x6 x5 (M 11 192))), (7, zL (x7 * (16 - (M 11 195)))), (9, zL ((x9 * 16) + 0)), (11, zL (x11 * 16)), (13, zI (x13 + 1))] [] M) ∧ (((alg C R x6 x5 (M 11 192)) = x2) → (-2147483648 ≤ (M 11 195) ∧ (M 11 195) ≤ 2147483647) ∧ (-2147483648 ≤ (16 - (M 11 195)) ∧ (16 - (M 11 195)) ≤ 2147483647) ∧ zT g (z2 o) mX10_lands (zQl (z2 o) q) 92 [(0, zA g 1), (2, zI x2), (3, zI x3), (4, zI x4), (5, zI x5), (6, zI (alg C R x6 x5 (M 11 192))), (7, zL (x7 * (16 - (M 11 195)))), (9, zL ((x9 * 16) + (x7 * (M 11 195)))), (11, zL (x11 * 16)), (13, zI (x13 + 1))] [] M)) ∧ ((¬ ((M 11 (alg C R x6 x5 (M 11 192))) ≤ 0)) → (-2147483648 ≤ (alg C R x6 x5 (M 11 192)) ∧ (alg C R x6 x5 (M 11 192)) ≤ 2147483647) ∧ (-2147483648 ≤ x2 ∧ x2 ≤ 2147483647) ∧ (((alg C R x6 x5 (M 11 192)) ≠ x2) → (-2147483648 ≤ (16 - (M 11 194)) ∧ (16 - (M 11 194)) ≤ 2147483647) ∧ zT g (z2 o) mX10_lands (zQl (z2 o) q) 92 [(0, zA g 1), (2, zI x2), (3, zI x3), (4, zI x4), (5, zI x5), (6, zI (alg C R x6 x5 (M 11 192))), (7, zL (x7 * (16 - (M 11 194)))), (9, zL ((x9 * 16) + 0)), (11, zL (x11 * 16)), (13, zI (x13 + 1))] [] M) ∧ (((alg C R x6 x5 (M 11 192)) = x2) → (-2147483648 ≤ (M 11 194) ∧ (M 11 194) ≤ 2147483647) ∧ (-2147483648 ≤ (16 - (M 11 194)) ∧ (16 - (M 11 194)) ≤ 2147483647) ∧ zT g (z2 o) mX10_lands (zQl (z2 o) q) 92 [(0, zA g 1), (2, zI x2), (3, zI x3), (4, zI x4), (5, zI x5), (6, zI (alg C R x6 x5 (M 11 192))), (7, zL (x7 * (16 - (M 11 194)))), (9, zL ((x9 * 16) + (x7 * (M 11 194)))), (11, zL (x11 * 16)), (13, zI (x13 + 1))] [] M))) ∧ ((shd C R (M 11) (M 11 193) (alg C R x6 x5 (M 11 192)) (wnr M (M 11 197))) → (-2147483648 ≤ (alg C R x6 x5 (M 11 192)) ∧ (alg C R x6 x5 (M 11 192)) ≤ 2147483647) ∧ (-2147483648 ≤ x2 ∧ x2 ≤ 2147483647) ∧ (((alg C R x6 x5 (M 11 192)) ≠ x2) → zT g (z2 o) mX10_lands (zQl (z2 o) q) 92 [(0, zA g 1), (2, zI x2), (3, zI x3), (4, zI x4), (5, zI x5), (6, zI (alg C R x6 x5 (M 11 192))), (7, zL (x7 * (16 - 16))), (9, zL ((x9 * 16) + 0)), (11, zL (x11 * 16)), (13, zI (x13 + 1))] [] M) ∧ (((alg C R x6 x5 (M 11 192)) = x2) → zT g (z2 o) mX10_lands (zQl (z2 o) q) 92 [(0, zA g 1), (2, zI x2), (3, zI x3), (4, zI x4), (5, zI x5), (6, zI (alg C R x6 x5 (M 11 192))), (7, zL (x7 * (16 - 16))), (9, zL ((x9 * 16) + (x7 * 16))), (11, zL (x11 * 16)), (13, zI (x13 + 1))] [] M)))) : zT g (z2 o) mX10_lands (zQl (z2 o) q) 92 [(0, zA g 1), (2, zI x2), (3, zI x3), (4, zI x4), (5, zI x5), (6, zI x6), (7, zL x7), (9, zL x9), (11, zL x11), (13, zI x13)] [] M := by
  refine zr_iload 9 dX10_lands_92 rfl ?_
  refine zr_iload_n 2 dX10_lands_94 rfl ?_
  obtain ⟨c1, W⟩ := W
  obtain ⟨c2, W⟩ := W
  refine zr_icmp_ge (tgt := 211) dX10_lands_95 (by decide) c1 c2 (fun h => ?_) (fun h => ?_)
  · have W := W.1 h
    refine zr_iload 3 dX10_lands_211 rfl ?_
    obtain ⟨c3, W⟩ := W
    refine zr_if_ne (tgt := 221) dX10_lands_213 (by decide) c3 (fun h => ?_) (fun h => ?_)
    · have W := W.1 h
      refine zr_lload 8 dX10_lands_221 rfl ?_
      refine zr_lload 8 dX10_lands_223 rfl ?_
      refine zr_lload 7 dX10_lands_225 rfl ?_
      obtain ⟨q4, k8, W⟩ := W
      refine zt_callSl (As := [zL x11, zL x9]) (rest := [zL x11]) dX10_lands_227 kX10_lands_383 rfl rfl (Nat.le_of_ble_eq_true rfl) k8 (fun r5 M6 h7 => ?_)
      have W := W r5 M6 h7
      obtain ⟨c9, W⟩ := W
      obtain ⟨c10, W⟩ := W
      refine zr_ldiv dX10_lands_230 c9 c10 ?_
      exact zt_lret dX10_lands_231 rfl W
    · have W := W.2 h
      refine zr_lload 7 dX10_lands_216 rfl ?_
      refine zr_goto (tgt := 223) dX10_lands_218 (by decide) ?_
      refine zr_lload 8 dX10_lands_223 rfl ?_
      refine zr_lload 7 dX10_lands_225 rfl ?_
      obtain ⟨q11, k15, W⟩ := W
      refine zt_callSl (As := [zL x11, zL x9]) (rest := [zL x9]) dX10_lands_227 kX10_lands_383 rfl rfl (Nat.le_of_ble_eq_true rfl) k15 (fun r12 M13 h14 => ?_)
      have W := W r12 M13 h14
      obtain ⟨c16, W⟩ := W
      obtain ⟨c17, W⟩ := W
      refine zr_ldiv dX10_lands_230 c16 c17 ?_
      exact zt_lret dX10_lands_231 rfl W
  · have W := W.2 h
    refine zr_aload_n 0 dX10_lands_98 rfl ?_
    refine zr_iload 5 dX10_lands_99 rfl ?_
    refine zr_iload 4 dX10_lands_101 rfl ?_
    refine zr_aload_n 0 dX10_lands_103 rfl ?_
    refine zr_getr (b := 11) dX10_lands_104 fX10_45 rfl rfl rfl (by decide) ?_
    refine zr_sipush dX10_lands_107 (by decide) ?_
    refine zr_iald dX10_lands_110 rfl (by decide) ⟨by decide, by decide⟩ ?_
    obtain ⟨c18, W⟩ := W
    obtain ⟨c19, W⟩ := W
    obtain ⟨c20, W⟩ := W
    obtain ⟨c21, W⟩ := W
    refine zt_callVi (As := [zI x6, zI x5, zI (M 11 192)]) (rest := []) dX10_lands_111 kX10_lands_282 rfl rfl rfl rfl (Nat.le_of_ble_eq_true rfl) (c_along c18 c19 c20 c21) (fun r22 N24 h23 => ?_)
    rw [h23.1, h23.2]
    refine zr_istore (l' := [(0, zA g 1), (2, zI x2), (3, zI x3), (4, zI x4), (5, zI x5), (6, zI (alg C R x6 x5 (M 11 192))), (7, zL x7), (9, zL x9), (11, zL x11), (13, zI x13)]) dX10_lands_114 (by decide) [1, 2, 3, 4, 5, 0, 6, 7, 8, 9] rfl ?_
    refine zr_aload_n 0 dX10_lands_116 rfl ?_
    refine zr_iload 5 dX10_lands_117 rfl ?_
    obtain ⟨c25, W⟩ := W
    obtain ⟨c26, W⟩ := W
    obtain ⟨c27, W⟩ := W
    obtain ⟨c28, W⟩ := W
    refine zt_callVi (As := [zI (alg C R x6 x5 (M 11 192))]) (rest := []) dX10_lands_119 kX10_lands_286 rfl rfl rfl rfl (Nat.le_of_ble_eq_true rfl) (c_isShadow c18 c25 c26 c27 c28) (fun r29 N31 h30 => ?_)
    rw [h30.1, h30.2]
    refine zt_ifeq_b (tgt := 130) dX10_lands_122 (by decide) (fun h => ?_) (fun h => ?_)
    · have W := W.1 h
      refine zr_aload_n 0 dX10_lands_130 rfl ?_
      refine zr_getr (b := 11) dX10_lands_131 fX10_45 rfl rfl rfl (by decide) ?_
      refine zr_iload 5 dX10_lands_134 rfl ?_
      obtain ⟨c32, W⟩ := W
      refine zr_iald dX10_lands_136 rfl (by decide) c32 ?_
      obtain ⟨c33, W⟩ := W
      refine zr_if_le (tgt := 151) dX10_lands_137 (by decide) c33 (fun h => ?_) (fun h => ?_)
      · have W := W.1 h
        refine zr_aload_n 0 dX10_lands_151 rfl ?_
        refine zr_getr (b := 11) dX10_lands_152 fX10_45 rfl rfl rfl (by decide) ?_
        refine zr_sipush dX10_lands_155 (by decide) ?_
        refine zr_iald dX10_lands_158 rfl (by decide) ⟨by decide, by decide⟩ ?_
        refine zr_istore (l' := [(0, zA g 1), (2, zI x2), (3, zI x3), (4, zI x4), (5, zI x5), (6, zI (alg C R x6 x5 (M 11 192))), (7, zL x7), (9, zL x9), (11, zL x11), (13, zI x13), (14, zI (M 11 195))]) dX10_lands_159 (by decide) [1, 2, 3, 4, 5, 6, 7, 8, 9, 10, 0] rfl ?_
        refine zr_lload 7 dX10_lands_161 rfl ?_
        refine zr_ldc2 (x := 16) dX10_lands_163 (zc7 83 (by decide +kernel) rfl) ?_
        refine zr_lmul dX10_lands_166 ?_
        refine zr_iload 5 dX10_lands_167 rfl ?_
        refine zr_iload_n 1 dX10_lands_169 rfl ?_
        obtain ⟨c34, W⟩ := W
        obtain ⟨c35, W⟩ := W
        refine zr_icmp_ne (tgt := 182) dX10_lands_170 (by decide) c34 c35 (fun h => ?_) (fun h => ?_)
        · have W := W.1 h
          refine zr_lconst (x := 0) dX10_lands_182 rfl ?_
          refine zr_ladd dX10_lands_183 ?_
          refine zr_lstore (l' := [(0, zA g 1), (2, zI x2), (3, zI x3), (4, zI x4), (5, zI x5), (6, zI (alg C R x6 x5 (M 11 192))), (7, zL x7), (9, zL ((x9 * 16) + 0)), (11, zL x11), (13, zI x13), (14, zI (M 11 195))]) dX10_lands_184 (by decide) [1, 2, 3, 4, 5, 6, 7, 0, 8, 9, 10] rfl ?_
          refine zr_lload 6 dX10_lands_186 rfl ?_
          refine zr_bipush dX10_lands_188 (by decide) ?_
          refine zr_iload 10 dX10_lands_190 rfl ?_
          refine zr_isub dX10_lands_192 ?_
          obtain ⟨c36, W⟩ := W
          refine zr_i2l dX10_lands_193 c36 ?_
          refine zr_lmul dX10_lands_194 ?_
          refine zr_lstore (l' := [(0, zA g 1), (2, zI x2), (3, zI x3), (4, zI x4), (5, zI x5), (6, zI (alg C R x6 x5 (M 11 192))), (7, zL (x7 * (16 - (M 11 195)))), (9, zL ((x9 * 16) + 0)), (11, zL x11), (13, zI x13)]) dX10_lands_195 (by decide) [1, 2, 3, 4, 5, 6, 0, 7, 8, 9] rfl ?_
          refine zr_lload 8 dX10_lands_197 rfl ?_
          refine zr_ldc2 (x := 16) dX10_lands_199 (zc7 83 (by decide +kernel) rfl) ?_
          refine zr_lmul dX10_lands_202 ?_
          refine zr_lstore (l' := [(0, zA g 1), (2, zI x2), (3, zI x3), (4, zI x4), (5, zI x5), (6, zI (alg C R x6 x5 (M 11 192))), (7, zL (x7 * (16 - (M 11 195)))), (9, zL ((x9 * 16) + 0)), (11, zL (x11 * 16)), (13, zI x13)]) dX10_lands_203 (by decide) [1, 2, 3, 4, 5, 6, 7, 8, 0, 9] rfl ?_
          refine zr_iinc (q := 9) (l' := [(0, zA g 1), (2, zI x2), (3, zI x3), (4, zI x4), (5, zI x5), (6, zI (alg C R x6 x5 (M 11 192))), (7, zL (x7 * (16 - (M 11 195)))), (9, zL ((x9 * 16) + 0)), (11, zL (x11 * 16)), (13, zI (x13 + 1))]) dX10_lands_205 rfl (by decide) [1, 2, 3, 4, 5, 6, 7, 8, 9, 0] rfl ?_
          refine zr_goto (tgt := 92) dX10_lands_208 (by decide) ?_
          exact W
        · have W := W.2 h
          refine zr_lload 6 dX10_lands_173 rfl ?_
          refine zr_iload 10 dX10_lands_175 rfl ?_
          obtain ⟨c37, W⟩ := W
          refine zr_i2l dX10_lands_177 c37 ?_
          refine zr_lmul dX10_lands_178 ?_
          refine zr_goto (tgt := 183) dX10_lands_179 (by decide) ?_
          refine zr_ladd dX10_lands_183 ?_
          refine zr_lstore (l' := [(0, zA g 1), (2, zI x2), (3, zI x3), (4, zI x4), (5, zI x5), (6, zI (alg C R x6 x5 (M 11 192))), (7, zL x7), (9, zL ((x9 * 16) + (x7 * (M 11 195)))), (11, zL x11), (13, zI x13), (14, zI (M 11 195))]) dX10_lands_184 (by decide) [1, 2, 3, 4, 5, 6, 7, 0, 8, 9, 10] rfl ?_
          refine zr_lload 6 dX10_lands_186 rfl ?_
          refine zr_bipush dX10_lands_188 (by decide) ?_
          refine zr_iload 10 dX10_lands_190 rfl ?_
          refine zr_isub dX10_lands_192 ?_
          obtain ⟨c38, W⟩ := W
          refine zr_i2l dX10_lands_193 c38 ?_
          refine zr_lmul dX10_lands_194 ?_
          refine zr_lstore (l' := [(0, zA g 1), (2, zI x2), (3, zI x3), (4, zI x4), (5, zI x5), (6, zI (alg C R x6 x5 (M 11 192))), (7, zL (x7 * (16 - (M 11 195)))), (9, zL ((x9 * 16) + (x7 * (M 11 195)))), (11, zL x11), (13, zI x13)]) dX10_lands_195 (by decide) [1, 2, 3, 4, 5, 6, 0, 7, 8, 9] rfl ?_
          refine zr_lload 8 dX10_lands_197 rfl ?_
          refine zr_ldc2 (x := 16) dX10_lands_199 (zc7 83 (by decide +kernel) rfl) ?_
          refine zr_lmul dX10_lands_202 ?_
          refine zr_lstore (l' := [(0, zA g 1), (2, zI x2), (3, zI x3), (4, zI x4), (5, zI x5), (6, zI (alg C R x6 x5 (M 11 192))), (7, zL (x7 * (16 - (M 11 195)))), (9, zL ((x9 * 16) + (x7 * (M 11 195)))), (11, zL (x11 * 16)), (13, zI x13)]) dX10_lands_203 (by decide) [1, 2, 3, 4, 5, 6, 7, 8, 0, 9] rfl ?_
          refine zr_iinc (q := 9) (l' := [(0, zA g 1), (2, zI x2), (3, zI x3), (4, zI x4), (5, zI x5), (6, zI (alg C R x6 x5 (M 11 192))), (7, zL (x7 * (16 - (M 11 195)))), (9, zL ((x9 * 16) + (x7 * (M 11 195)))), (11, zL (x11 * 16)), (13, zI (x13 + 1))]) dX10_lands_205 rfl (by decide) [1, 2, 3, 4, 5, 6, 7, 8, 9, 0] rfl ?_
          refine zr_goto (tgt := 92) dX10_lands_208 (by decide) ?_
          exact W
      · have W := W.2 h
        refine zr_aload_n 0 dX10_lands_140 rfl ?_
        refine zr_getr (b := 11) dX10_lands_141 fX10_45 rfl rfl rfl (by decide) ?_
        refine zr_sipush dX10_lands_144 (by decide) ?_
        refine zr_iald dX10_lands_147 rfl (by decide) ⟨by decide, by decide⟩ ?_
        refine zr_goto (tgt := 159) dX10_lands_148 (by decide) ?_
        refine zr_istore (l' := [(0, zA g 1), (2, zI x2), (3, zI x3), (4, zI x4), (5, zI x5), (6, zI (alg C R x6 x5 (M 11 192))), (7, zL x7), (9, zL x9), (11, zL x11), (13, zI x13), (14, zI (M 11 194))]) dX10_lands_159 (by decide) [1, 2, 3, 4, 5, 6, 7, 8, 9, 10, 0] rfl ?_
        refine zr_lload 7 dX10_lands_161 rfl ?_
        refine zr_ldc2 (x := 16) dX10_lands_163 (zc7 83 (by decide +kernel) rfl) ?_
        refine zr_lmul dX10_lands_166 ?_
        refine zr_iload 5 dX10_lands_167 rfl ?_
        refine zr_iload_n 1 dX10_lands_169 rfl ?_
        obtain ⟨c39, W⟩ := W
        obtain ⟨c40, W⟩ := W
        refine zr_icmp_ne (tgt := 182) dX10_lands_170 (by decide) c39 c40 (fun h => ?_) (fun h => ?_)
        · have W := W.1 h
          refine zr_lconst (x := 0) dX10_lands_182 rfl ?_
          refine zr_ladd dX10_lands_183 ?_
          refine zr_lstore (l' := [(0, zA g 1), (2, zI x2), (3, zI x3), (4, zI x4), (5, zI x5), (6, zI (alg C R x6 x5 (M 11 192))), (7, zL x7), (9, zL ((x9 * 16) + 0)), (11, zL x11), (13, zI x13), (14, zI (M 11 194))]) dX10_lands_184 (by decide) [1, 2, 3, 4, 5, 6, 7, 0, 8, 9, 10] rfl ?_
          refine zr_lload 6 dX10_lands_186 rfl ?_
          refine zr_bipush dX10_lands_188 (by decide) ?_
          refine zr_iload 10 dX10_lands_190 rfl ?_
          refine zr_isub dX10_lands_192 ?_
          obtain ⟨c41, W⟩ := W
          refine zr_i2l dX10_lands_193 c41 ?_
          refine zr_lmul dX10_lands_194 ?_
          refine zr_lstore (l' := [(0, zA g 1), (2, zI x2), (3, zI x3), (4, zI x4), (5, zI x5), (6, zI (alg C R x6 x5 (M 11 192))), (7, zL (x7 * (16 - (M 11 194)))), (9, zL ((x9 * 16) + 0)), (11, zL x11), (13, zI x13)]) dX10_lands_195 (by decide) [1, 2, 3, 4, 5, 6, 0, 7, 8, 9] rfl ?_
          refine zr_lload 8 dX10_lands_197 rfl ?_
          refine zr_ldc2 (x := 16) dX10_lands_199 (zc7 83 (by decide +kernel) rfl) ?_
          refine zr_lmul dX10_lands_202 ?_
          refine zr_lstore (l' := [(0, zA g 1), (2, zI x2), (3, zI x3), (4, zI x4), (5, zI x5), (6, zI (alg C R x6 x5 (M 11 192))), (7, zL (x7 * (16 - (M 11 194)))), (9, zL ((x9 * 16) + 0)), (11, zL (x11 * 16)), (13, zI x13)]) dX10_lands_203 (by decide) [1, 2, 3, 4, 5, 6, 7, 8, 0, 9] rfl ?_
          refine zr_iinc (q := 9) (l' := [(0, zA g 1), (2, zI x2), (3, zI x3), (4, zI x4), (5, zI x5), (6, zI (alg C R x6 x5 (M 11 192))), (7, zL (x7 * (16 - (M 11 194)))), (9, zL ((x9 * 16) + 0)), (11, zL (x11 * 16)), (13, zI (x13 + 1))]) dX10_lands_205 rfl (by decide) [1, 2, 3, 4, 5, 6, 7, 8, 9, 0] rfl ?_
          refine zr_goto (tgt := 92) dX10_lands_208 (by decide) ?_
          exact W
        · have W := W.2 h
          refine zr_lload 6 dX10_lands_173 rfl ?_
          refine zr_iload 10 dX10_lands_175 rfl ?_
          obtain ⟨c42, W⟩ := W
          refine zr_i2l dX10_lands_177 c42 ?_
          refine zr_lmul dX10_lands_178 ?_
          refine zr_goto (tgt := 183) dX10_lands_179 (by decide) ?_
          refine zr_ladd dX10_lands_183 ?_
          refine zr_lstore (l' := [(0, zA g 1), (2, zI x2), (3, zI x3), (4, zI x4), (5, zI x5), (6, zI (alg C R x6 x5 (M 11 192))), (7, zL x7), (9, zL ((x9 * 16) + (x7 * (M 11 194)))), (11, zL x11), (13, zI x13), (14, zI (M 11 194))]) dX10_lands_184 (by decide) [1, 2, 3, 4, 5, 6, 7, 0, 8, 9, 10] rfl ?_
          refine zr_lload 6 dX10_lands_186 rfl ?_
          refine zr_bipush dX10_lands_188 (by decide) ?_
          refine zr_iload 10 dX10_lands_190 rfl ?_
          refine zr_isub dX10_lands_192 ?_
          obtain ⟨c43, W⟩ := W
          refine zr_i2l dX10_lands_193 c43 ?_
          refine zr_lmul dX10_lands_194 ?_
          refine zr_lstore (l' := [(0, zA g 1), (2, zI x2), (3, zI x3), (4, zI x4), (5, zI x5), (6, zI (alg C R x6 x5 (M 11 192))), (7, zL (x7 * (16 - (M 11 194)))), (9, zL ((x9 * 16) + (x7 * (M 11 194)))), (11, zL x11), (13, zI x13)]) dX10_lands_195 (by decide) [1, 2, 3, 4, 5, 6, 0, 7, 8, 9] rfl ?_
          refine zr_lload 8 dX10_lands_197 rfl ?_
          refine zr_ldc2 (x := 16) dX10_lands_199 (zc7 83 (by decide +kernel) rfl) ?_
          refine zr_lmul dX10_lands_202 ?_
          refine zr_lstore (l' := [(0, zA g 1), (2, zI x2), (3, zI x3), (4, zI x4), (5, zI x5), (6, zI (alg C R x6 x5 (M 11 192))), (7, zL (x7 * (16 - (M 11 194)))), (9, zL ((x9 * 16) + (x7 * (M 11 194)))), (11, zL (x11 * 16)), (13, zI x13)]) dX10_lands_203 (by decide) [1, 2, 3, 4, 5, 6, 7, 8, 0, 9] rfl ?_
          refine zr_iinc (q := 9) (l' := [(0, zA g 1), (2, zI x2), (3, zI x3), (4, zI x4), (5, zI x5), (6, zI (alg C R x6 x5 (M 11 192))), (7, zL (x7 * (16 - (M 11 194)))), (9, zL ((x9 * 16) + (x7 * (M 11 194)))), (11, zL (x11 * 16)), (13, zI (x13 + 1))]) dX10_lands_205 rfl (by decide) [1, 2, 3, 4, 5, 6, 7, 8, 9, 0] rfl ?_
          refine zr_goto (tgt := 92) dX10_lands_208 (by decide) ?_
          exact W
    · have W := W.2 h
      refine zr_bipush dX10_lands_125 (by decide) ?_
      refine zr_goto (tgt := 159) dX10_lands_127 (by decide) ?_
      refine zr_istore (l' := [(0, zA g 1), (2, zI x2), (3, zI x3), (4, zI x4), (5, zI x5), (6, zI (alg C R x6 x5 (M 11 192))), (7, zL x7), (9, zL x9), (11, zL x11), (13, zI x13), (14, zI 16)]) dX10_lands_159 (by decide) [1, 2, 3, 4, 5, 6, 7, 8, 9, 10, 0] rfl ?_
      refine zr_lload 7 dX10_lands_161 rfl ?_
      refine zr_ldc2 (x := 16) dX10_lands_163 (zc7 83 (by decide +kernel) rfl) ?_
      refine zr_lmul dX10_lands_166 ?_
      refine zr_iload 5 dX10_lands_167 rfl ?_
      refine zr_iload_n 1 dX10_lands_169 rfl ?_
      obtain ⟨c44, W⟩ := W
      obtain ⟨c45, W⟩ := W
      refine zr_icmp_ne (tgt := 182) dX10_lands_170 (by decide) c44 c45 (fun h => ?_) (fun h => ?_)
      · have W := W.1 h
        refine zr_lconst (x := 0) dX10_lands_182 rfl ?_
        refine zr_ladd dX10_lands_183 ?_
        refine zr_lstore (l' := [(0, zA g 1), (2, zI x2), (3, zI x3), (4, zI x4), (5, zI x5), (6, zI (alg C R x6 x5 (M 11 192))), (7, zL x7), (9, zL ((x9 * 16) + 0)), (11, zL x11), (13, zI x13), (14, zI 16)]) dX10_lands_184 (by decide) [1, 2, 3, 4, 5, 6, 7, 0, 8, 9, 10] rfl ?_
        refine zr_lload 6 dX10_lands_186 rfl ?_
        refine zr_bipush dX10_lands_188 (by decide) ?_
        refine zr_iload 10 dX10_lands_190 rfl ?_
        refine zr_isub dX10_lands_192 ?_
        refine zr_i2l dX10_lands_193 (show zin (16 - 16) from ⟨by decide, by decide⟩) ?_
        refine zr_lmul dX10_lands_194 ?_
        refine zr_lstore (l' := [(0, zA g 1), (2, zI x2), (3, zI x3), (4, zI x4), (5, zI x5), (6, zI (alg C R x6 x5 (M 11 192))), (7, zL (x7 * (16 - 16))), (9, zL ((x9 * 16) + 0)), (11, zL x11), (13, zI x13)]) dX10_lands_195 (by decide) [1, 2, 3, 4, 5, 6, 0, 7, 8, 9] rfl ?_
        refine zr_lload 8 dX10_lands_197 rfl ?_
        refine zr_ldc2 (x := 16) dX10_lands_199 (zc7 83 (by decide +kernel) rfl) ?_
        refine zr_lmul dX10_lands_202 ?_
        refine zr_lstore (l' := [(0, zA g 1), (2, zI x2), (3, zI x3), (4, zI x4), (5, zI x5), (6, zI (alg C R x6 x5 (M 11 192))), (7, zL (x7 * (16 - 16))), (9, zL ((x9 * 16) + 0)), (11, zL (x11 * 16)), (13, zI x13)]) dX10_lands_203 (by decide) [1, 2, 3, 4, 5, 6, 7, 8, 0, 9] rfl ?_
        refine zr_iinc (q := 9) (l' := [(0, zA g 1), (2, zI x2), (3, zI x3), (4, zI x4), (5, zI x5), (6, zI (alg C R x6 x5 (M 11 192))), (7, zL (x7 * (16 - 16))), (9, zL ((x9 * 16) + 0)), (11, zL (x11 * 16)), (13, zI (x13 + 1))]) dX10_lands_205 rfl (by decide) [1, 2, 3, 4, 5, 6, 7, 8, 9, 0] rfl ?_
        refine zr_goto (tgt := 92) dX10_lands_208 (by decide) ?_
        exact W
      · have W := W.2 h
        refine zr_lload 6 dX10_lands_173 rfl ?_
        refine zr_iload 10 dX10_lands_175 rfl ?_
        refine zr_i2l dX10_lands_177 ⟨by decide, by decide⟩ ?_
        refine zr_lmul dX10_lands_178 ?_
        refine zr_goto (tgt := 183) dX10_lands_179 (by decide) ?_
        refine zr_ladd dX10_lands_183 ?_
        refine zr_lstore (l' := [(0, zA g 1), (2, zI x2), (3, zI x3), (4, zI x4), (5, zI x5), (6, zI (alg C R x6 x5 (M 11 192))), (7, zL x7), (9, zL ((x9 * 16) + (x7 * 16))), (11, zL x11), (13, zI x13), (14, zI 16)]) dX10_lands_184 (by decide) [1, 2, 3, 4, 5, 6, 7, 0, 8, 9, 10] rfl ?_
        refine zr_lload 6 dX10_lands_186 rfl ?_
        refine zr_bipush dX10_lands_188 (by decide) ?_
        refine zr_iload 10 dX10_lands_190 rfl ?_
        refine zr_isub dX10_lands_192 ?_
        refine zr_i2l dX10_lands_193 (show zin (16 - 16) from ⟨by decide, by decide⟩) ?_
        refine zr_lmul dX10_lands_194 ?_
        refine zr_lstore (l' := [(0, zA g 1), (2, zI x2), (3, zI x3), (4, zI x4), (5, zI x5), (6, zI (alg C R x6 x5 (M 11 192))), (7, zL (x7 * (16 - 16))), (9, zL ((x9 * 16) + (x7 * 16))), (11, zL x11), (13, zI x13)]) dX10_lands_195 (by decide) [1, 2, 3, 4, 5, 6, 0, 7, 8, 9] rfl ?_
        refine zr_lload 8 dX10_lands_197 rfl ?_
        refine zr_ldc2 (x := 16) dX10_lands_199 (zc7 83 (by decide +kernel) rfl) ?_
        refine zr_lmul dX10_lands_202 ?_
        refine zr_lstore (l' := [(0, zA g 1), (2, zI x2), (3, zI x3), (4, zI x4), (5, zI x5), (6, zI (alg C R x6 x5 (M 11 192))), (7, zL (x7 * (16 - 16))), (9, zL ((x9 * 16) + (x7 * 16))), (11, zL (x11 * 16)), (13, zI x13)]) dX10_lands_203 (by decide) [1, 2, 3, 4, 5, 6, 7, 8, 0, 9] rfl ?_
        refine zr_iinc (q := 9) (l' := [(0, zA g 1), (2, zI x2), (3, zI x3), (4, zI x4), (5, zI x5), (6, zI (alg C R x6 x5 (M 11 192))), (7, zL (x7 * (16 - 16))), (9, zL ((x9 * 16) + (x7 * 16))), (11, zL (x11 * 16)), (13, zI (x13 + 1))]) dX10_lands_205 rfl (by decide) [1, 2, 3, 4, 5, 6, 7, 8, 9, 0] rfl ?_
        refine zr_goto (tgt := 92) dX10_lands_208 (by decide) ?_
        exact W
/-! chances of where a slab comes down -/
noncomputable def stkA (C R : Int) (H : Int → Int) (sh st bt c w : Int) : Int := if zb (shd C R H sh c w) = 1 then 16 else if 0 < H c then st else bt
noncomputable def lnS (C R : Int) (H : Int → Int) (hp sh st bt w to c0 : Int) : Nat → Int × Int × Int
  | 0 => (c0, 0, 1)
  | k + 1 => (alg C R (lnS C R H hp sh st bt w to c0 k).1 w hp, (lnS C R H hp sh st bt w to c0 k).2.1 * 16 + (if alg C R (lnS C R H hp sh st bt w to c0 k).1 w hp = to then (lnS C R H hp sh st bt w to c0 k).2.2 * stkA C R H sh st bt (alg C R (lnS C R H hp sh st bt w to c0 k).1 w hp) w else 0), (lnS C R H hp sh st bt w to c0 k).2.2 * (16 - stkA C R H sh st bt (alg C R (lnS C R H hp sh st bt w to c0 k).1 w hp) w))
def zEl (g g' : zG) (o o' : Bool) (d d' : zD) (as : List Value) (k : Int) (M1 M2 : zM) : Prop := ∃ q q' : Int → zM → Prop, zKl g (z1 o) d (zA g 1 :: as) M1 q ∧ zKl g' (z2 o') d' (zA g' 1 :: as) M2 q' ∧ ∀ (r : Int) (N1 : zM) (r' : Int) (N2 : zM), q r N1 → q' r' N2 → r = r' ∧ ∃ C R, Jt (k + 1) C R N1 N2
/-- lowest terms of a part of a power of two -/
def lwt (x4 : Int) (m u : Nat) : Int := if x4 = 0 then ((u / Nat.gcd (2 ^ m) u : Nat) : Int) else ((2 ^ m / Nat.gcd (2 ^ m) u : Nat) : Int)
theorem lwt_odd {x4 : Int} {m u : Nat} (h : u % 2 = 1) : lwt x4 m u = if x4 = 0 then (u : Int) else ((2 ^ m : Nat) : Int) := by
  have h2 : Nat.gcd 2 u = 1 := by rw [Nat.gcd_rec, h, Nat.gcd_one_left]
  have h3 : Nat.gcd (2 ^ m) u = 1 := Nat.Coprime.pow_left m h2
  unfold lwt
  rw [h3, Nat.div_one, Nat.div_one]
theorem lwt_even {x4 : Int} {m u : Nat} (h : u % 2 = 0) : lwt x4 (m + 1) u = lwt x4 m (u / 2) := by
  have e : u = 2 * (u / 2) := by omega
  obtain ⟨v, hv⟩ : ∃ v, v = u / 2 := ⟨_, rfl⟩
  rw [← hv] at e ⊢
  unfold lwt
  rw [e, Nat.pow_succ, Nat.mul_comm (2 ^ m) 2, Nat.gcd_mul_left, Nat.mul_div_mul_left _ _ (by decide), Nat.mul_div_mul_left _ _ (by decide)]
theorem lwt_0 {x4 : Int} {u : Nat} : lwt x4 0 u = if x4 = 0 then (u : Int) else 1 := by
  unfold lwt
  rw [Nat.pow_zero, Nat.gcd_one_left, Nat.div_one, Nat.div_one]; rfl
section LD
variable {g g' : zG} {o o' : Bool} {M M' M1 M2 N N' N1 N2 A : zM} {k C R c d m x y w to hp sh st bt x1 x2 x3 x4 t : Int} {n s : Nat} {H H' : Int → Int}
theorem c_lowest (hx4 : -2147483648 ≤ x4 ∧ x4 ≤ 2147483647) {m u : Nat} (hm : m ≤ 60) (hu : u < 4611686018427387904) : zKl g (z1 o) mX9_lowestTerms [zL u, zL ((2 ^ m : Nat) : Int), zI x4] M (fun r N => r = lwt x4 m u ∧ N = M) := by
  refine zkl_of rfl (Nat.le_of_ble_eq_true rfl) (SX9_lowestTerms_0 ?_)
  suffices hs : ∀ (m i u : Nat), i + m ≤ 61 → u < 4611686018427387904 → zT g (z1 o) mX9_lowestTerms (zQl (z1 o) (fun r N => r = lwt x4 m u ∧ N = M)) 9 [(4, zI x4), (5, zL u), (7, zL ((2 ^ m : Nat) : Int)), (9, zI i)] [] M from hs m 0 u (by omega) hu
  intro m
  induction m with
  | zero =>
    intro i u hi hu
    refine SX9_lowestTerms_9 ⟨by omega, fun h => by omega, fun _ => ⟨by decide, fun _ => ⟨hx4, fun z => ⟨?_, rfl⟩, fun z => ⟨?_, rfl⟩⟩, fun h => absurd (by decide) h⟩⟩
    · rw [lwt_0, if_neg z]; rfl
    · rw [lwt_0, if_pos z]
  | succ m ih =>
    intro i u hi hu
    have hp0 : 0 < 2 ^ m := Nat.two_pow_pos m
    have hp1 : 2 ^ (m + 1) ≤ 2 ^ 61 := Nat.pow_le_pow_right (by decide) (by omega)
    have hp2 : 2 ^ (m + 1) = 2 * 2 ^ m := by rw [Nat.pow_succ, Nat.mul_comm]
    obtain ⟨p, hp⟩ : ∃ p, p = 2 ^ m := ⟨_, rfl⟩
    obtain ⟨p', hp'⟩ : ∃ p', p' = 2 ^ (m + 1) := ⟨_, rfl⟩
    have nx := fun z => ih (i + 1) (u / 2) (by omega) z
    have ot : u % 2 = 1 → lwt x4 (m + 1) u = if x4 = 0 then (u : Int) else (p' : Int) := fun z => by rw [hp']; exact lwt_odd z
    rw [← hp] at hp0 hp2 nx
    rw [← hp'] at hp1 hp2 ⊢
    refine SX9_lowestTerms_9 ⟨by omega, fun h => by omega, fun _ => ⟨by omega, fun h => by omega, fun _ => ⟨by omega, ?_⟩⟩⟩
    rw [show Int.toNat (u : Int) = u by omega, show Int.toNat 1 = 1 from rfl, Nat.and_one_is_mod]
    refine ⟨by omega, fun z => ⟨hx4, fun w => ⟨?_, rfl⟩, fun w => ⟨?_, rfl⟩⟩, fun z => ⟨by omega, ?_⟩⟩
    · rw [ot (by omega), if_neg w]
    · rw [ot (by omega), if_pos w]
    · rw [lwt_even (by omega), show (u : Int) / 2 = ((u / 2 : Nat) : Int) by omega, show (p' : Int) / 2 = (p : Int) by omega]
      exact nx (by omega)
theorem c_common {a b : Nat} (ha : a ≤ 9223372036854775807) (hb : b ≤ 9223372036854775807) : zKl g (z2 o) mX10_common [zL a, zL b] M (fun r N => r = (Nat.gcd a b : Nat) ∧ N = M) := by
  refine zkl_of rfl (Nat.le_of_ble_eq_true rfl) (SX10_common_0 ?_)
  suffices hs : ∀ (f a b : Nat), b ≤ f → a ≤ 9223372036854775807 → b ≤ 9223372036854775807 → zT g (z2 o) mX10_common (zQl (z2 o) (fun r N => r = (Nat.gcd a b : Nat) ∧ N = M)) 6 [(4, zL a), (6, zL b)] [] M from hs b a b (Nat.le_refl b) ha hb
  intro f
  induction f with
  | zero =>
    intro a b hf ha hb
    have b0 : b = 0 := by omega
    subst b0
    exact SX10_common_6 ⟨by decide, fun _ => ⟨by rw [Nat.gcd_zero_right], rfl⟩, fun h => absurd rfl h⟩
  | succ f ih =>
    intro a b hf ha hb
    refine SX10_common_6 ⟨by omega, fun z => ?_, fun z => ⟨by omega, by omega, ?_⟩⟩
    · have b0 : b = 0 := by omega
      subst b0
      exact ⟨by rw [Nat.gcd_zero_right], rfl⟩
    · have hl : a % b < b := Nat.mod_lt _ (by omega)
      rw [show Nat.gcd a b = Nat.gcd b (a % b) by rw [Nat.gcd_comm a b, Nat.gcd_rec, Nat.gcd_comm], show (a : Int) % (b : Int) = ((a % b : Nat) : Int) from rfl]
      exact ih b (a % b) (by omega) hb (by omega)
theorem stk_in (h1 : 0 ≤ st ∧ st ≤ 16) (h2 : 0 ≤ bt ∧ bt ≤ 16) : 0 ≤ stkA C R H sh st bt c w ∧ stkA C R H sh st bt c w ≤ 16 := by
  unfold stkA; split <;> (try split) <;> omega
theorem stk_eq (hG : Geo C R) (hc : 0 ≤ c ∧ c < C * R) (h : eq96 H H') : stkA C R H sh st bt c w = stkA C R H' sh st bt c w := by
  have hn := geo_n hG
  unfold stkA
  rw [zb_congr (shd_eq hG hc h), h c hc.1 (by omega)]
theorem lnS_in (hG : Geo C R) (hc : 0 ≤ c ∧ c < C * R) (h1 : 0 ≤ st ∧ st ≤ 16) (h2 : 0 ≤ bt ∧ bt ≤ 16) (n : Nat) : (0 ≤ (lnS C R H hp sh st bt w to c n).1 ∧ (lnS C R H hp sh st bt w to c n).1 < C * R) ∧ 0 ≤ (lnS C R H hp sh st bt w to c n).2.1 ∧ 0 ≤ (lnS C R H hp sh st bt w to c n).2.2 ∧ (lnS C R H hp sh st bt w to c n).2.1 + (lnS C R H hp sh st bt w to c n).2.2 ≤ ((2 ^ (4 * n) : Nat) : Int) := by
  induction n with
  | zero => exact ⟨hc, Int.le_refl _, by show (0 : Int) ≤ 1; decide, by show (0 : Int) + 1 ≤ 1; decide⟩
  | succ n ih =>
    obtain ⟨i1, i2, i3, i4⟩ := ih
    have s := stk_in (C := C) (R := R) (H := H) (sh := sh) (c := alg C R (lnS C R H hp sh st bt w to c n).1 w hp) (w := w) h1 h2
    have e2 : (lnS C R H hp sh st bt w to c (n + 1)).2.1 = (lnS C R H hp sh st bt w to c n).2.1 * 16 + (if alg C R (lnS C R H hp sh st bt w to c n).1 w hp = to then (lnS C R H hp sh st bt w to c n).2.2 * stkA C R H sh st bt (alg C R (lnS C R H hp sh st bt w to c n).1 w hp) w else 0) := rfl
    have e3 : (lnS C R H hp sh st bt w to c (n + 1)).2.2 = (lnS C R H hp sh st bt w to c n).2.2 * (16 - stkA C R H sh st bt (alg C R (lnS C R H hp sh st bt w to c n).1 w hp) w) := rfl
    have p1 := Int.mul_nonneg i3 s.1
    have p2 := Int.mul_nonneg i3 (show 0 ≤ 16 - stkA C R H sh st bt (alg C R (lnS C R H hp sh st bt w to c n).1 w hp) w by omega)
    have p3 := Int.mul_sub (lnS C R H hp sh st bt w to c n).2.2 16 (stkA C R H sh st bt (alg C R (lnS C R H hp sh st bt w to c n).1 w hp) w)
    have p4 : 2 ^ (4 * (n + 1)) = 2 ^ (4 * n) * 16 := by rw [show 4 * (n + 1) = 4 * n + 4 by omega, Nat.pow_add]
    refine ⟨alg_in hG i1, ?_, ?_, ?_⟩
    · rw [e2]; split <;> omega
    · rw [e3]; exact p2
    · rw [e2, e3, p4]
      obtain ⟨q, hq⟩ : ∃ q : Nat, q = 2 ^ (4 * n) := ⟨_, rfl⟩
      rw [← hq] at i4 ⊢
      split <;> omega
theorem lnS_t {k : Nat} (h : (lnS C R H hp sh st bt w to c (k + 1)).1 = to) : (lnS C R H hp sh st bt w to c (k + 1)).2.1 = (lnS C R H hp sh st bt w to c k).2.1 * 16 + (lnS C R H hp sh st bt w to c k).2.2 * stkA C R H sh st bt (lnS C R H hp sh st bt w to c (k + 1)).1 w := by
  have h' : alg C R (lnS C R H hp sh st bt w to c k).1 w hp = to := h
  show (lnS C R H hp sh st bt w to c k).2.1 * 16 + (if alg C R (lnS C R H hp sh st bt w to c k).1 w hp = to then (lnS C R H hp sh st bt w to c k).2.2 * stkA C R H sh st bt (alg C R (lnS C R H hp sh st bt w to c k).1 w hp) w else 0) = _
  rw [if_pos h']; rfl
theorem lnS_f {k : Nat} (h : (lnS C R H hp sh st bt w to c (k + 1)).1 ≠ to) : (lnS C R H hp sh st bt w to c (k + 1)).2.1 = (lnS C R H hp sh st bt w to c k).2.1 * 16 + 0 := by
  have h' : alg C R (lnS C R H hp sh st bt w to c k).1 w hp ≠ to := h
  show (lnS C R H hp sh st bt w to c k).2.1 * 16 + (if alg C R (lnS C R H hp sh st bt w to c k).1 w hp = to then (lnS C R H hp sh st bt w to c k).2.2 * stkA C R H sh st bt (alg C R (lnS C R H hp sh st bt w to c k).1 w hp) w else 0) = _
  rw [if_neg h']
theorem p_lands (hJ : Jt k C R M1 M2) (hk : k < 1000) (h1 : -2147483648 ≤ x1 ∧ x1 ≤ 2147483647) (h2 : -2147483648 ≤ x2 ∧ x2 ≤ 2147483647) (h3 : -2147483648 ≤ x3 ∧ x3 ≤ 2147483647) (h4 : -2147483648 ≤ x4 ∧ x4 ≤ 2147483647) : zEl g g' o o' mX9_lands mX10_lands [zI x1, zI x2, zI x3, zI x4] k M1 M2 := by
  obtain ⟨hL, hR⟩ := hJ.lr
  have hG := hL.1
  have hgn := geo_n hG
  have hk0 := hJ.1
  suffices hm : ∃ A : Int, zKl g (z1 o) mX9_lands [zA g 1, zI x1, zI x2, zI x3, zI x4] M1 (fun r N => r = A ∧ fr1 M1 N) ∧ zKl g' (z2 o') mX10_lands [zA g' 1, zI x1, zI x2, zI x3, zI x4] M2 (fun r N => r = A ∧ fr2 M2 N) by
    obtain ⟨A, a1, a2⟩ := hm
    exact ⟨_, _, a1, a2, fun r N1 r' N2 q q' => ⟨q.1.trans q'.1.symm, C, R, hJ.step hk q.2 q'.2⟩⟩
  have hso := hJ.sok
  have hok := hJ.ok
  have wd := wnd_in (t := M1 24 4) hL hso.2.2.2.2.2.2.2.1
  have b25 : BdB 1000000 (M1 25) := hso.1
  have w2 : wnr M2 (M2 10 197) = wnd M1 (M1 24 4) := by rw [hJ.wq, hJ.es.2]
  have r0 : M1 27 0 = M2 10 192 := hJ.er 0 (by decide) (by decide)
  have r1 : M1 27 1 = M2 10 193 := hJ.er 1 (by decide) (by decide)
  have r2 : M1 27 2 = M2 10 194 := hJ.er 2 (by decide) (by decide)
  have r3 : M1 27 3 = M2 10 195 := hJ.er 3 (by decide) (by decide)
  obtain ⟨u1, u2, u3, u4, u5, u6, u7, u8, u9⟩ := hok
  have hy : ∀ N : zM, eqr (M2 10) (N 11) → (∀ b : Nat, b ≠ 1 → b ≠ 11 → N b = M2 b) → 0 ≤ x1 ∧ x1 < C * R → (yld C R (N 11) (fun i => N 11 (96 + i)) (N 11 193) x1 (wnr N (N 11 197)) ↔ yld C R (M1 25) (M1 26) (M1 27 1) x1 (wnd M1 (M1 24 4))) := fun N e hb hc => by
    rw [wnr_of (hb 3 (by decide) (by decide)) (hb 4 (by decide) (by decide)) (hb 5 (by decide) (by decide)), ← e 197 (by decide) (by decide), ← e 193 (by decide) (by decide), w2, ← r1]
    exact yld_eq hG hc (fun i a b => by rw [← e i a (by omega)]; exact (hJ.eh i a b).symm) (fun i a b => by show N 11 (96 + i) = _; rw [← e _ (by omega) (by omega)]; exact (hJ.eg i a b).symm)
  by_cases hg : (0 ≤ x1 ∧ x1 < C * R) ∧ (0 ≤ x2 ∧ x2 < C * R) ∧ (1 ≤ x3 ∧ x3 ≤ 12) ∧ (0 ≤ x4 ∧ x4 ≤ 1) ∧ yld C R (M1 25) (M1 26) (M1 27 1) x1 (wnd M1 (M1 24 4))
  · obtain ⟨hx1, hx2, hx3, hx4, hyl⟩ := hg
    obtain ⟨n, hn⟩ := znn (show 0 ≤ x3 by omega)
    subst hn
    have g1 := hso.2.1 x1 hx1.1 (by omega)
    obtain ⟨H, hH⟩ : ∃ H : Int → Int, H = (flz C R (M1 14 3) 96 (up (M1 25) x1 (M1 25 x1 - 1), 0, fun _ => 0) x1).1 := ⟨_, rfl⟩
    have hpos : 0 < M1 25 x1 := hyl.1
    have hU : BdB 1000000 (up (M1 25) x1 (M1 25 x1 - 1)) := up_bd b25 (by have := b25 x1 hx1.1 (by omega); omega)
    have hS := hL.2.2.2.2.1
    have hHb : BdB 1000000 H := by rw [hH]; exact flz_bd hG hS.1 96 _ x1 hx1 hU
    have s1 : 0 ≤ M1 27 2 ∧ M1 27 2 ≤ 16 := hso.2.2.2.2.1
    have s2 : 0 ≤ M1 27 3 ∧ M1 27 3 ≤ 16 := hso.2.2.2.2.2.1
    have s3 : 1 ≤ M1 27 0 ∧ M1 27 0 ≤ 6 := hso.2.2.1
    have s4 : 1 ≤ M1 27 1 ∧ M1 27 1 ≤ 9 := hso.2.2.2.1
    obtain ⟨F, hF⟩ : ∃ F : Nat → Int × Int × Int, F = fun i => lnS C R H (M1 27 0) (M1 27 1) (M1 27 2) (M1 27 3) (wnd M1 (M1 24 4)) x2 x1 i := ⟨_, rfl⟩
    have Fi : ∀ i : Nat, (0 ≤ (F i).1 ∧ (F i).1 < C * R) ∧ 0 ≤ (F i).2.1 ∧ 0 ≤ (F i).2.2 ∧ (F i).2.1 + (F i).2.2 ≤ ((2 ^ (4 * i) : Nat) : Int) := fun i => by rw [hF]; exact lnS_in hG hx1 s1 s2 i
    have F1 : ∀ i : Nat, (F (i + 1)).1 = alg C R (F i).1 (wnd M1 (M1 24 4)) (M1 27 0) := fun i => by rw [hF]; rfl
    have F2t : ∀ i : Nat, (F (i + 1)).1 = x2 → (F (i + 1)).2.1 = (F i).2.1 * 16 + (F i).2.2 * stkA C R H (M1 27 1) (M1 27 2) (M1 27 3) (F (i + 1)).1 (wnd M1 (M1 24 4)) := fun i h => by
      rw [hF] at h ⊢
      exact lnS_t h
    have F2f : ∀ i : Nat, (F (i + 1)).1 ≠ x2 → (F (i + 1)).2.1 = (F i).2.1 * 16 + 0 := fun i h => by
      rw [hF] at h ⊢
      exact lnS_f h
    have F3 : ∀ i : Nat, (F (i + 1)).2.2 = (F i).2.2 * (16 - stkA C R H (M1 27 1) (M1 27 2) (M1 27 3) (F (i + 1)).1 (wnd M1 (M1 24 4))) := fun i => by rw [hF]; rfl
    have F0 : F 0 = (x1, 0, 1) := by rw [hF]; rfl
    have p16 : ∀ i : Nat, ((2 ^ (4 * (i + 1)) : Nat) : Int) = ((2 ^ (4 * i) : Nat) : Int) * 16 := fun i => by
      rw [show 4 * (i + 1) = 4 * i + 4 by omega, Nat.pow_add]; rfl
    have pb : ∀ i : Nat, i ≤ 12 → ((2 ^ (4 * i) : Nat) : Int) ≤ 281474976710656 ∧ 0 < ((2 ^ (4 * i) : Nat) : Int) := fun i hi => by
      have h1 : 2 ^ (4 * i) ≤ 2 ^ 48 := Nat.pow_le_pow_right (by decide) (by omega)
      have h2 : 0 < 2 ^ (4 * i) := Nat.two_pow_pos _
      obtain ⟨q, hq⟩ : ∃ q : Nat, q = 2 ^ (4 * i) := ⟨_, rfl⟩
      rw [← hq] at h1 h2 ⊢
      have h1 : q ≤ 281474976710656 := h1
      omega
    have Fn := Fi n
    have pn := pb n (by omega)
    obtain ⟨u, hu⟩ := znn Fn.2.1
    refine ⟨lwt x4 (4 * n) u, ?_, ?_⟩
    · refine zkl_of rfl (Nat.le_of_ble_eq_true rfl) (SX9_lands_0 (C := C) (R := R) ⟨h1, hL, fun h => absurd hx1 h, fun _ => ⟨h2, fun h => absurd hx2 h, fun _ => ⟨h3, fun h => by omega, fun _ => ⟨fun h => by omega, fun _ => ⟨h4, fun h => by omega, fun _ => ⟨fun _ => ⟨hso, hx1, wd, fun i a b => by have := b25 i a b; omega, by omega, g1, fun _ => ⟨_, c_copyX (show zSd 28 by unfold zSd; decide) (show zSd 24 by unfold zSd; decide) (by decide), fun M26 hq => ?_⟩, fun h => absurd hyl h⟩, fun h => by omega⟩⟩⟩⟩⟩⟩)
      obtain ⟨c1, c2, c3, c4, c5⟩ := hq
      have c1 : M26 29 = zcpy (M1 25) (M1 29) 0 0 96 := c1
      have c3 : M26 31 = zcpy (M1 27) (M1 31) 0 0 4 := c3
      have f26 : ∀ b : Nat, b ∉ [28, 29, 30, 31, 34, 35] → M26 b = M1 b := fun b hb => c5 b (fun e => hb (by rw [e]; decide)) (fun e => hb (by rw [e]; decide)) (fun e => hb (by rw [e]; decide)) (fun e => hb (by rw [e]; decide))
      have fr26 : fr1 M1 M26 := frl.fr1 (l := [28, 29, 30, 31, 34, 35]) f26 rfl
      have e29 : eq96 (M26 29) (M1 25) := fun i a b => by rw [c1, zcpy_eq a b]
      have u26 : eq96 (up (M26 29) x1 (M26 29 x1 - 1)) (up (M1 25) x1 (M1 25 x1 - 1)) := up_eq e29 (by rw [e29 x1 hx1.1 (by omega)])
      have h34 : zSt 34 28 := by unfold zSt; decide
      refine ⟨_, c_lift h34 (fr26.Ld hL) hx1 (fun i a b => by have h9 := hU i a b; rw [← u26 i a b] at h9; exact ⟨h9.1, Int.le_trans h9.2 (by decide)⟩), fun M31 hq => ?_⟩
      have fe := flz_eq (S := M1 14 3) (z := (up (M26 29) x1 (M26 29 x1 - 1), M26 34 4, M26 35)) (z' := (up (M1 25) x1 (M1 25 x1 - 1), 0, fun _ => 0)) hG 96 hx1 u26
      have e31 : eq96 (M31 29) H := fun i a b => by
        rw [hq, show zput M26 34 28 (flz C R (M26 14 3) 96 (up (M26 (28 + 1)) x1 (M26 (28 + 1) x1 - 1), M26 34 4, M26 (34 + 1)) x1) 29 = (flz C R (M26 14 3) 96 (up (M26 (28 + 1)) x1 (M26 (28 + 1) x1 - 1), M26 34 4, M26 (34 + 1)) x1).1 from zput_h h34, fr26.1 14 rfl, hH]
        exact fe i a b
      have f31 : fr1 M1 M31 := fr26.trans (frl.fr1 (l := [29, 34, 35]) (fun b hb => by
        have hb' : b ≠ 29 ∧ b ≠ 34 ∧ b ≠ 35 := by simp at hb; omega
        rw [hq]; exact zput_o (by omega) (by omega) (by omega)) rfl)
      have k31 : ∀ i : Int, 0 ≤ i → i < 4 → M31 31 i = M1 27 i := fun i a b => by
        rw [hq, show zput M26 34 28 _ 31 = M26 31 from zput_o (by decide) (by decide) (by decide), c3, zcpy_eq a b]
      suffices hs : ∀ (j i : Nat) (N : zM), i + j = n → fr1 M1 N → eq96 (N 29) H → (∀ t : Int, 0 ≤ t → t < 4 → N 31 t = M1 27 t) → zT g (z1 o) mX9_lands (zQl (z1 o) (fun r N => r = lwt x4 (4 * n) u ∧ fr1 M1 N)) 105 [(0, zA g 1), (2, zI x2), (3, zI n), (4, zI x4), (5, zI (wnd M1 (M1 24 4))), (6, zI (F i).1), (7, zL (F i).2.1), (9, zL ((2 ^ (4 * i) : Nat) : Int)), (11, zL (F i).2.2), (13, zI ((i : Int) + 1))] [] N by
        have := hs n 0 M31 (by omega) f31 e31 k31
        rw [F0] at this
        exact this
      intro j
      induction j with
      | zero =>
        intro i N hi hf he hk
        have ei : i = n := by omega
        subst ei
        rw [hu]
        refine SX9_lands_105 (C := C) (R := R) ⟨by omega, by omega, fun _ => ⟨_, c_lowest h4 (by omega) (by omega), fun r M5 hr => ⟨hr.1, by rw [hr.2]; exact hf⟩⟩, fun h => by omega⟩
      | succ j ih =>
        intro i N hi hf he hk
        have Fs := Fi i
        have Fs1 := Fi (i + 1)
        have k0 := hk 0 (by decide) (by decide)
        have k1 := hk 1 (by decide) (by decide)
        have k2 := hk 2 (by decide) (by decide)
        have k3 := hk 3 (by decide) (by decide)
        have hLN := hf.Ld hL
        refine SX9_lands_105 (C := C) (R := R) ⟨by omega, by omega, fun h => by omega, fun _ => ⟨hLN, Fs.1, wd, by omega, fun N14 e14 => ?_⟩⟩
        have o14 : ∀ b : Nat, b ≠ 34 → b ≠ 35 → N14 b = N b := fun b p q => by rw [e14, zu_other p, zrw_other q]
        have f14 : fr1 M1 N14 := hf.trans (frl.fr1 (l := [34, 35]) (fun b hb => by
          have hb' : b ≠ 34 ∧ b ≠ 35 := by simp at hb; omega
          exact o14 b hb'.1 hb'.2) rfl)
        have e14h : eq96 (N14 29) H := by rw [o14 29 (by decide) (by decide)]; exact he
        have k14 : ∀ t : Int, 0 ≤ t → t < 4 → N14 31 t = M1 27 t := fun t a b => by rw [o14 31 (by decide) (by decide)]; exact hk t a b
        have nx := ih (i + 1) N14 (by omega) f14 e14h k14
        rw [p16 i, F3 i] at nx
        rw [k0, ← F1 i, k14 1 (by decide) (by decide), k14 2 (by decide) (by decide), k14 3 (by decide) (by decide)]
        have hat := Fs1.1
        have hHa := e14h (F (i + 1)).1 hat.1 (by omega)
        have hbb := hHb (F (i + 1)).1 hat.1 (by omega)
        have sg := shd_eq (sh := M1 27 1) (w := wnd M1 (M1 24 4)) hG hat e14h
        rw [hHa]
        have nxF : (F (i + 1)).1 ≠ x2 → zT g (z1 o) mX9_lands (zQl (z1 o) (fun r N => r = lwt x4 (4 * n) u ∧ fr1 M1 N)) 105 [(0, zA g 1), (2, zI x2), (3, zI n), (4, zI x4), (5, zI (wnd M1 (M1 24 4))), (6, zI (F (i + 1)).1), (7, zL ((F i).2.1 * 16 + 0)), (9, zL (((2 ^ (4 * i) : Nat) : Int) * 16)), (11, zL ((F i).2.2 * (16 - stkA C R H (M1 27 1) (M1 27 2) (M1 27 3) (F (i + 1)).1 (wnd M1 (M1 24 4))))), (13, zI ((i : Int) + 1 + 1))] [] N14 := fun z => by rw [F2f i z] at nx; exact nx
        have nxT : (F (i + 1)).1 = x2 → zT g (z1 o) mX9_lands (zQl (z1 o) (fun r N => r = lwt x4 (4 * n) u ∧ fr1 M1 N)) 105 [(0, zA g 1), (2, zI x2), (3, zI n), (4, zI x4), (5, zI (wnd M1 (M1 24 4))), (6, zI (F (i + 1)).1), (7, zL ((F i).2.1 * 16 + (F i).2.2 * stkA C R H (M1 27 1) (M1 27 2) (M1 27 3) (F (i + 1)).1 (wnd M1 (M1 24 4)))), (9, zL (((2 ^ (4 * i) : Nat) : Int) * 16)), (11, zL ((F i).2.2 * (16 - stkA C R H (M1 27 1) (M1 27 2) (M1 27 3) (F (i + 1)).1 (wnd M1 (M1 24 4))))), (13, zI ((i : Int) + 1 + 1))] [] N14 := fun z => by rw [F2t i z] at nx; exact nx
        refine ⟨f14.Ld hL, hat, fun t a b => by have := hHb t a b; rw [← e14h t a b] at this; omega, by omega, fun z => ?_, fun z => ?_⟩
        · have es : (if 0 < H (F (i + 1)).1 then M1 27 2 else M1 27 3) = stkA C R H (M1 27 1) (M1 27 2) (M1 27 3) (F (i + 1)).1 (wnd M1 (M1 24 4)) := by
            have z0 : zb (shd C R H (M1 27 1) (F (i + 1)).1 (wnd M1 (M1 24 4))) ≠ 1 := by rw [zb_f (fun q => z (sg.mpr q))]; decide
            unfold stkA; rw [if_neg z0]
          have si := stk_in (C := C) (R := R) (H := H) (sh := M1 27 1) (c := (F (i + 1)).1) (w := wnd M1 (M1 24 4)) s1 s2
          rw [es]
          exact ⟨by omega, by omega, by omega, h2, fun q => ⟨by omega, nxF q⟩, fun q => ⟨by omega, by omega, nxT q⟩⟩
        · have es : stkA C R H (M1 27 1) (M1 27 2) (M1 27 3) (F (i + 1)).1 (wnd M1 (M1 24 4)) = 16 := by
            unfold stkA; rw [if_pos (zb_t (sg.mp z))]
          rw [es] at nxF nxT
          exact ⟨by omega, h2, nxF, nxT⟩
    · refine zkl_of rfl (Nat.le_of_ble_eq_true rfl) (SX10_lands_0 (C := C) (R := R) ⟨hR, h1, fun h => absurd hx1 h, fun _ => ⟨h2, fun h => absurd hx2 h, fun _ => ⟨h3, fun h => absurd hx3 h, fun _ => ⟨h4, fun _ => ⟨_, c_goesOn, fun M20 hg => ?_⟩, fun h => absurd hx4 h⟩⟩⟩⟩)
      obtain ⟨e, g2, g3, g4, g5, g6⟩ := hg
      have hR20 := hR.of (g5 3 (by decide) (by decide)) (g5 4 (by decide) (by decide)) (g5 5 (by decide) (by decide))
      have l26 : M20 1 26 = -1 := by rw [g6 26 (by decide) (by decide) (by decide)]; exact hJ.2.2.2.2.2.2.2.2.2.2.2.2
      have b20 : ∀ i : Int, 0 ≤ i → i < 96 → 0 ≤ M20 11 i ∧ M20 11 i ≤ 1000000 := fun i a b => by rw [← e i a (by omega)]; exact u1 i a b
      have e20 : eq96 (M20 11) (M1 25) := fun i a b => by rw [← e i a (by omega)]; exact (hJ.eh i a b).symm
      refine ⟨hR20, hx1, by rw [← e 197 (by decide) (by decide)]; omega, fun i a b => by have := b20 i a b; omega, by rw [← e 193 (by decide) (by decide)]; omega, by rw [← e (96 + x1) (by omega) (by omega)]; exact u2 x1 hx1.1 (by omega), fun _ => ⟨by omega, ?_⟩, fun h => absurd ((hy M20 e g5 hx1).mpr hyl) h⟩
      have ob : ∀ b : Nat, b ≠ 11 → zu M20 11 x1 (M20 11 x1 - 1) b = M20 b := fun b p => zu_other p
      have hrep : repz (zu M20 11 x1 (M20 11 x1 - 1)) (up (M1 25) x1 (M1 25 x1 - 1), 0, fun _ => 0) := by
        refine ⟨fun i p q => ?_, by rw [ob 1 (by decide)]; exact g3, Or.inl (by rw [ob 1 (by decide)]; exact l26)⟩
        rw [zu_row, e20 i p q, e20 x1 hx1.1 (by omega)]; rfl
      have hfl := c_fills (g := g') (o := o') (hR20.of (ob 3 (by decide)) (ob 4 (by decide)) (ob 5 (by decide))) hx1 (by rw [ob 1 (by decide), l26]; decide) hrep (fun i a b => by have := hU i a b; show 0 ≤ up _ _ _ i ∧ up _ _ _ i ≤ _; omega)
      rw [ob 3 (by decide), g5 3 (by decide) (by decide), hJ.sw.2.2.2.1] at hfl
      refine ⟨_, hfl, fun M35 hq => ?_⟩
      obtain ⟨⟨q1, -, -⟩, f1, f2, f3⟩ := hq
      have h35 : eq96 (M35 11) H := fun i a b => by rw [q1 i a b, hH]
      have o35 : ∀ b : Nat, b ≠ 1 → b ≠ 11 → M35 b = M2 b := fun b p q => by rw [f1 b p q, ob b q, g5 b p q]
      have k35 : ∀ i : Int, 96 ≤ i → i < 198 → M35 11 i = M2 10 i := fun i a b => by rw [f3 i a, zu_row, if_neg (by omega), ← e i (by omega) b]
      have f35 : fr2 M2 M35 := go_fr o35 (fun i a b c => by rw [f2 i b c, ob 1 (by decide), g6 i a b c])
      have w35 : wnr M35 (M35 11 197) = wnd M1 (M1 24 4) := by rw [wnr_of (o35 3 (by decide) (by decide)) (o35 4 (by decide) (by decide)) (o35 5 (by decide) (by decide)), k35 197 (by decide) (by decide), w2]
      have hR35 := f35.Ld hR
      refine ⟨hR35, by rw [k35 197 (by decide) (by decide)]; omega, ?_⟩
      rw [w35]
      suffices hs : ∀ (j i : Nat), i + j = n → zT g' (z2 o') mX10_lands (zQl (z2 o') (fun r N => r = lwt x4 (4 * n) u ∧ fr2 M2 N)) 92 [(0, zA g' 1), (2, zI x2), (3, zI n), (4, zI x4), (5, zI (wnd M1 (M1 24 4))), (6, zI (F i).1), (7, zL (F i).2.2), (9, zL (F i).2.1), (11, zL ((2 ^ (4 * i) : Nat) : Int)), (13, zI i)] [] M35 by
        have := hs n 0 (by omega)
        rw [F0] at this
        exact this
      intro j
      induction j with
      | zero =>
        intro i hi
        have ei : i = n := by omega
        subst ei
        rw [hu]
        have hgp : 0 < Nat.gcd (2 ^ (4 * i)) u := Nat.gcd_pos_of_pos_left u (Nat.two_pow_pos _)
        have hgl : Nat.gcd (2 ^ (4 * i)) u ≤ 2 ^ (4 * i) := Nat.gcd_le_left u (Nat.two_pow_pos _)
        have hcm := c_common (g := g') (o := o') (M := M35) (a := 2 ^ (4 * i)) (b := u) (by omega) (by omega)
        have hlw : lwt x4 (4 * i) u = if x4 = 0 then ((u / Nat.gcd (2 ^ (4 * i)) u : Nat) : Int) else ((2 ^ (4 * i) / Nat.gcd (2 ^ (4 * i)) u : Nat) : Int) := rfl
        obtain ⟨p, hp⟩ : ∃ p : Nat, p = 2 ^ (4 * i) := ⟨_, rfl⟩
        rw [← hp] at hgp hgl hcm hlw pn ⊢
        obtain ⟨gg, hgg⟩ : ∃ gg : Nat, gg = Nat.gcd p u := ⟨_, rfl⟩
        rw [← hgg] at hgp hgl hcm hlw
        refine SX10_lands_92 (C := C) (R := R) ⟨by omega, by omega, fun _ => ⟨h4, fun z => ⟨_, hcm, fun r M6 hr => ?_⟩, fun z => ⟨_, hcm, fun r M6 hr => ?_⟩⟩, fun h => by omega⟩
        · rw [hr.1, hr.2]
          exact ⟨by omega, by omega, by rw [hlw, if_neg z]; rfl, f35⟩
        · rw [hr.1, hr.2]
          exact ⟨by omega, by omega, by rw [hlw, if_pos z]; rfl, f35⟩
      | succ j ih =>
        intro i hi
        have Fs := Fi i
        have Fs1 := Fi (i + 1)
        have nx := ih (i + 1) (by omega)
        rw [p16 i, F3 i] at nx
        have hat := Fs1.1
        have hHa := h35 (F (i + 1)).1 hat.1 (by omega)
        have hbb := hHb (F (i + 1)).1 hat.1 (by omega)
        have sg := shd_eq (sh := M1 27 1) (w := wnd M1 (M1 24 4)) hG hat h35
        have nxF : (F (i + 1)).1 ≠ x2 → zT g' (z2 o') mX10_lands (zQl (z2 o') (fun r N => r = lwt x4 (4 * n) u ∧ fr2 M2 N)) 92 [(0, zA g' 1), (2, zI x2), (3, zI n), (4, zI x4), (5, zI (wnd M1 (M1 24 4))), (6, zI (F (i + 1)).1), (7, zL ((F i).2.2 * (16 - stkA C R H (M1 27 1) (M1 27 2) (M1 27 3) (F (i + 1)).1 (wnd M1 (M1 24 4))))), (9, zL ((F i).2.1 * 16 + 0)), (11, zL (((2 ^ (4 * i) : Nat) : Int) * 16)), (13, zI ((i : Int) + 1))] [] M35 := fun z => by rw [F2f i z] at nx; exact nx
        have nxT : (F (i + 1)).1 = x2 → zT g' (z2 o') mX10_lands (zQl (z2 o') (fun r N => r = lwt x4 (4 * n) u ∧ fr2 M2 N)) 92 [(0, zA g' 1), (2, zI x2), (3, zI n), (4, zI x4), (5, zI (wnd M1 (M1 24 4))), (6, zI (F (i + 1)).1), (7, zL ((F i).2.2 * (16 - stkA C R H (M1 27 1) (M1 27 2) (M1 27 3) (F (i + 1)).1 (wnd M1 (M1 24 4))))), (9, zL ((F i).2.1 * 16 + (F i).2.2 * stkA C R H (M1 27 1) (M1 27 2) (M1 27 3) (F (i + 1)).1 (wnd M1 (M1 24 4)))), (11, zL (((2 ^ (4 * i) : Nat) : Int) * 16)), (13, zI ((i : Int) + 1))] [] M35 := fun z => by rw [F2t i z] at nx; exact nx
        refine SX10_lands_92 (C := C) (R := R) ⟨by omega, by omega, fun h => by omega, fun _ => ⟨hR35, Fs.1, wd, by rw [k35 192 (by decide) (by decide)]; omega, ?_⟩⟩
        rw [k35 192 (by decide) (by decide), k35 193 (by decide) (by decide), k35 194 (by decide) (by decide), k35 195 (by decide) (by decide), w35, ← r0, ← r1, ← r2, ← r3, ← F1 i, hHa]
        refine ⟨hat, by rw [k35 197 (by decide) (by decide)]; omega, fun t a b => by have := hHb t a b; rw [← h35 t a b] at this; omega, by omega, fun z => ⟨by omega, by omega, fun q => ?_, fun q => ?_⟩, fun z => ?_⟩
        · have es : stkA C R H (M1 27 1) (M1 27 2) (M1 27 3) (F (i + 1)).1 (wnd M1 (M1 24 4)) = M1 27 3 := by
            unfold stkA; rw [if_neg (by rw [zb_f (fun q => z (sg.mpr q))]; decide), if_neg (by omega)]
          rw [es] at nxF nxT
          exact ⟨by omega, h2, fun q => ⟨by omega, nxF q⟩, fun q => ⟨by omega, by omega, nxT q⟩⟩
        · have es : stkA C R H (M1 27 1) (M1 27 2) (M1 27 3) (F (i + 1)).1 (wnd M1 (M1 24 4)) = M1 27 2 := by
            unfold stkA; rw [if_neg (by rw [zb_f (fun q => z (sg.mpr q))]; decide), if_pos (by omega)]
          rw [es] at nxF nxT
          exact ⟨by omega, h2, fun q => ⟨by omega, nxF q⟩, fun q => ⟨by omega, by omega, nxT q⟩⟩
        · have es : stkA C R H (M1 27 1) (M1 27 2) (M1 27 3) (F (i + 1)).1 (wnd M1 (M1 24 4)) = 16 := by
            unfold stkA; rw [if_pos (zb_t (sg.mp z))]
          rw [es] at nxF nxT
          exact ⟨by omega, h2, nxF, nxT⟩
  · refine ⟨-1, zkl_of rfl (Nat.le_of_ble_eq_true rfl) (SX9_lands_0 (C := C) (R := R) ⟨h1, hL, fun _ => ⟨rfl, fr1.rf⟩, fun a => ⟨h2, fun _ => ⟨rfl, fr1.rf⟩, fun b => ⟨h3, fun _ => ⟨rfl, fr1.rf⟩, fun c => ⟨fun _ => ⟨rfl, fr1.rf⟩, fun d => ⟨h4, fun _ => ⟨rfl, fr1.rf⟩, fun e => ⟨fun f => ⟨hso, a, wd, fun i a b => by have := b25 i a b; omega, by have : 1 ≤ M1 27 1 ∧ M1 27 1 ≤ 9 := hso.2.2.2.1; omega, hso.2.1 x1 a.1 (by omega), fun y => absurd ⟨a, b, by omega, by omega, y⟩ hg, fun _ => ⟨rfl, fr1.rf⟩⟩, fun _ => ⟨rfl, fr1.rf⟩⟩⟩⟩⟩⟩⟩), zkl_of rfl (Nat.le_of_ble_eq_true rfl) (SX10_lands_0 (C := C) (R := R) ⟨hR, h1, fun _ => ⟨rfl, fr2.rf⟩, fun a => ⟨h2, fun _ => ⟨rfl, fr2.rf⟩, fun b => ⟨h3, fun _ => ⟨rfl, fr2.rf⟩, fun c => ⟨h4, fun d => ⟨_, c_goesOn, fun M20 hg' => ?_⟩, fun _ => ⟨rfl, fr2.rf⟩⟩⟩⟩⟩)⟩
    obtain ⟨e, g2, g3, g4, g5, g6⟩ := hg'
    have hR20 := hR.of (g5 3 (by decide) (by decide)) (g5 4 (by decide) (by decide)) (g5 5 (by decide) (by decide))
    exact ⟨hR20, a, by rw [← e 197 (by decide) (by decide)]; omega, fun i a b => by have := u1 i a b; rw [e i a (by omega)] at this; omega, by rw [← e 193 (by decide) (by decide)]; omega, by rw [← e (96 + x1) (by omega) (by omega)]; exact u2 x1 a.1 (by omega), fun y => absurd ⟨a, b, c, d, (hy M20 e g5 a).mp y⟩ hg, fun _ => ⟨rfl, go_fr g5 g6⟩⟩
end LD
