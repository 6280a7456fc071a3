theorem dX10_flies_0 : decode cX10_flies 0 = .ok (.aload_n 0, 1) := by decide +kernel
theorem dX10_flies_1 : decode cX10_flies 1 = .ok (.invokevirtual 273, 3) := by decide +kernel
theorem dX10_flies_4 : decode cX10_flies 4 = .ok (.istore_n 2, 1) := by decide +kernel
theorem dX10_flies_5 : decode cX10_flies 5 = .ok (.iload_n 1, 1) := by decide +kernel
theorem dX10_flies_6 : decode cX10_flies 6 = .ok (.istore_n 3, 1) := by decide +kernel
theorem dX10_flies_7 : decode cX10_flies 7 = .ok (.iconst 0, 1) := by decide +kernel
theorem dX10_flies_8 : decode cX10_flies 8 = .ok (.istore 4, 2) := by decide +kernel
theorem dX10_flies_10 : decode cX10_flies 10 = .ok (.iconst 1, 1) := by decide +kernel
theorem dX10_flies_11 : decode cX10_flies 11 = .ok (.istore 5, 2) := by decide +kernel
theorem dX10_flies_13 : decode cX10_flies 13 = .ok (.iload 4, 2) := by decide +kernel
theorem dX10_flies_15 : decode cX10_flies 15 = .ok (.ifCond .ne 119, 3) := by decide +kernel
theorem dX10_flies_18 : decode cX10_flies 18 = .ok (.aload_n 0, 1) := by decide +kernel
theorem dX10_flies_19 : decode cX10_flies 19 = .ok (.iload_n 3, 1) := by decide +kernel
theorem dX10_flies_20 : decode cX10_flies 20 = .ok (.iload_n 2, 1) := by decide +kernel
theorem dX10_flies_21 : decode cX10_flies 21 = .ok (.aload_n 0, 1) := by decide +kernel
theorem dX10_flies_22 : decode cX10_flies 22 = .ok (.getfield 45, 3) := by decide +kernel
theorem dX10_flies_25 : decode cX10_flies 25 = .ok (.sipush 192, 3) := by decide +kernel
theorem dX10_flies_28 : decode cX10_flies 28 = .ok (.iaload, 1) := by decide +kernel
theorem dX10_flies_29 : decode cX10_flies 29 = .ok (.invokevirtual 289, 3) := by decide +kernel
theorem dX10_flies_32 : decode cX10_flies 32 = .ok (.aload_n 0, 1) := by decide +kernel
theorem dX10_flies_33 : decode cX10_flies 33 = .ok (.iload_n 3, 1) := by decide +kernel
theorem dX10_flies_34 : decode cX10_flies 34 = .ok (.iload_n 2, 1) := by decide +kernel
theorem dX10_flies_35 : decode cX10_flies 35 = .ok (.aload_n 0, 1) := by decide +kernel
theorem dX10_flies_36 : decode cX10_flies 36 = .ok (.getfield 45, 3) := by decide +kernel
theorem dX10_flies_39 : decode cX10_flies 39 = .ok (.sipush 192, 3) := by decide +kernel
theorem dX10_flies_42 : decode cX10_flies 42 = .ok (.iaload, 1) := by decide +kernel
theorem dX10_flies_43 : decode cX10_flies 43 = .ok (.invokevirtual 282, 3) := by decide +kernel
theorem dX10_flies_46 : decode cX10_flies 46 = .ok (.istore_n 3, 1) := by decide +kernel
theorem dX10_flies_47 : decode cX10_flies 47 = .ok (.aload_n 0, 1) := by decide +kernel
theorem dX10_flies_48 : decode cX10_flies 48 = .ok (.dup, 1) := by decide +kernel
theorem dX10_flies_49 : decode cX10_flies 49 = .ok (.getfield 261, 3) := by decide +kernel
theorem dX10_flies_52 : decode cX10_flies 52 = .ok (.iconst 1, 1) := by decide +kernel
theorem dX10_flies_53 : decode cX10_flies 53 = .ok (.iadd, 1) := by decide +kernel
theorem dX10_flies_54 : decode cX10_flies 54 = .ok (.putfield 261, 3) := by decide +kernel
theorem dX10_flies_57 : decode cX10_flies 57 = .ok (.iload 5, 2) := by decide +kernel
theorem dX10_flies_59 : decode cX10_flies 59 = .ok (.bipush 20, 2) := by decide +kernel
theorem dX10_flies_61 : decode cX10_flies 61 = .ok (.if_icmp .eq 11, 3) := by decide +kernel
theorem dX10_flies_64 : decode cX10_flies 64 = .ok (.aload_n 0, 1) := by decide +kernel
theorem dX10_flies_65 : decode cX10_flies 65 = .ok (.iload_n 3, 1) := by decide +kernel
theorem dX10_flies_66 : decode cX10_flies 66 = .ok (.invokevirtual 286, 3) := by decide +kernel
theorem dX10_flies_69 : decode cX10_flies 69 = .ok (.ifCond .eq 7, 3) := by decide +kernel
theorem dX10_flies_72 : decode cX10_flies 72 = .ok (.iconst 1, 1) := by decide +kernel
theorem dX10_flies_73 : decode cX10_flies 73 = .ok (.goto 4, 3) := by decide +kernel
theorem dX10_flies_76 : decode cX10_flies 76 = .ok (.iconst 0, 1) := by decide +kernel
theorem dX10_flies_77 : decode cX10_flies 77 = .ok (.istore 4, 2) := by decide +kernel
theorem dX10_flies_79 : decode cX10_flies 79 = .ok (.iload 4, 2) := by decide +kernel
theorem dX10_flies_81 : decode cX10_flies 81 = .ok (.ifCond .ne 47, 3) := by decide +kernel
theorem dX10_flies_84 : decode cX10_flies 84 = .ok (.aload_n 0, 1) := by decide +kernel
theorem dX10_flies_85 : decode cX10_flies 85 = .ok (.bipush 16, 2) := by decide +kernel
theorem dX10_flies_87 : decode cX10_flies 87 = .ok (.invokevirtual 300, 3) := by decide +kernel
theorem dX10_flies_90 : decode cX10_flies 90 = .ok (.aload_n 0, 1) := by decide +kernel
theorem dX10_flies_91 : decode cX10_flies 91 = .ok (.getfield 45, 3) := by decide +kernel
theorem dX10_flies_94 : decode cX10_flies 94 = .ok (.iload_n 3, 1) := by decide +kernel
theorem dX10_flies_95 : decode cX10_flies 95 = .ok (.iaload, 1) := by decide +kernel
theorem dX10_flies_96 : decode cX10_flies 96 = .ok (.ifCond .le 14, 3) := by decide +kernel
theorem dX10_flies_99 : decode cX10_flies 99 = .ok (.aload_n 0, 1) := by decide +kernel
theorem dX10_flies_100 : decode cX10_flies 100 = .ok (.getfield 45, 3) := by decide +kernel
theorem dX10_flies_103 : decode cX10_flies 103 = .ok (.sipush 194, 3) := by decide +kernel
theorem dX10_flies_106 : decode cX10_flies 106 = .ok (.iaload, 1) := by decide +kernel
theorem dX10_flies_107 : decode cX10_flies 107 = .ok (.goto 11, 3) := by decide +kernel
theorem dX10_flies_110 : decode cX10_flies 110 = .ok (.aload_n 0, 1) := by decide +kernel
theorem dX10_flies_111 : decode cX10_flies 111 = .ok (.getfield 45, 3) := by decide +kernel
theorem dX10_flies_114 : decode cX10_flies 114 = .ok (.sipush 195, 3) := by decide +kernel
theorem dX10_flies_117 : decode cX10_flies 117 = .ok (.iaload, 1) := by decide +kernel
theorem dX10_flies_118 : decode cX10_flies 118 = .ok (.if_icmp .ge 7, 3) := by decide +kernel
theorem dX10_flies_121 : decode cX10_flies 121 = .ok (.iconst 1, 1) := by decide +kernel
theorem dX10_flies_122 : decode cX10_flies 122 = .ok (.goto 4, 3) := by decide +kernel
theorem dX10_flies_125 : decode cX10_flies 125 = .ok (.iconst 0, 1) := by decide +kernel
theorem dX10_flies_126 : decode cX10_flies 126 = .ok (.istore 4, 2) := by decide +kernel
theorem dX10_flies_128 : decode cX10_flies 128 = .ok (.iinc 5 1, 3) := by decide +kernel
theorem dX10_flies_131 : decode cX10_flies 131 = .ok (.goto (-118), 3) := by decide +kernel
theorem dX10_flies_134 : decode cX10_flies 134 = .ok (.iload_n 3, 1) := by decide +kernel
theorem dX10_flies_135 : decode cX10_flies 135 = .ok (.ireturn, 1) := by decide +kernel
set_option maxRecDepth 100000 in
theorem SX10_flies_0 {g : zG} {o : Bool} {C R : Int} {M : zM} {q : Int → zM → Prop} {x1 : Int} (W : (zRf M C R) ∧ (0 ≤ M 11 197 ∧ M 11 197 ≤ 2147483647) ∧ zT g (z2 o) mX10_flies (zQi (z2 o) q) 13 [(0, zA g 1), (2, zI (wnr M (M 11 197))), (3, zI x1), (4, zI 0), (5, zI 1)] [] M) : zT g (z2 o) mX10_flies (zQi (z2 o) q) 0 [(0, zA g 1), (1, zI x1)] [] M := by
  refine zr_aload_n 0 dX10_flies_0 rfl ?_
  obtain ⟨c1, W⟩ := W
  obtain ⟨c2, W⟩ := W
  refine zt_callVi (As := []) (rest := []) dX10_flies_1 kX10_flies_273 rfl rfl rfl rfl (Nat.le_of_ble_eq_true rfl) (c_windNow c1 c2) (fun r3 N5 h4 => ?_)
  rw [h4.1, h4.2]
  refine zr_istore_n (l' := [(0, zA g 1), (1, zI x1), (2, zI (wnr M (M 11 197)))]) dX10_flies_4 (by decide) [1, 2, 0] rfl ?_
  refine zr_iload_n 1 dX10_flies_5 rfl ?_
  refine zr_istore_n (l' := [(0, zA g 1), (2, zI (wnr M (M 11 197))), (3, zI x1)]) dX10_flies_6 (by decide) [1, 3, 0] rfl ?_
  refine zr_iconst dX10_flies_7 ?_
  refine zr_istore (l' := [(0, zA g 1), (2, zI (wnr M (M 11 197))), (3, zI x1), (4, zI 0)]) dX10_flies_8 (by decide) [1, 2, 3, 0] rfl ?_
  refine zr_iconst dX10_flies_10 ?_
  refine zr_istore (l' := [(0, zA g 1), (2, zI (wnr M (M 11 197))), (3, zI x1), (4, zI 0), (5, zI 1)]) dX10_flies_11 (by decide) [1, 2, 3, 4, 0] rfl ?_
  exact W
set_option maxRecDepth 100000 in
theorem SX10_flies_13 {g : zG} {o : Bool} {C R : Int} {M : zM} {q : Int → zM → Prop} {x2 x3 x4 x5 : Int} (W : (-2147483648 ≤ x4 ∧ x4 ≤ 2147483647) ∧ ((x4 ≠ 0) → q x3 M) ∧ ((x4 = 0) → ∃ q2 : zM → Prop, zKv g (z2 o) mX10_crosses [zA g 1, zI x3, zI x2, zI (M 11 192)] M q2 ∧ ∀ M4 : zM, q2 M4 → (zRf M4 C R) ∧ (0 ≤ x3 ∧ x3 < C * R) ∧ (0 ≤ x2 ∧ x2 ≤ 3) ∧ (0 ≤ (M4 11 192) ∧ (M4 11 192) ≤ 10000) ∧ (-2147483648 ≤ x5 ∧ x5 ≤ 2147483647) ∧ ((x5 = 20) → zT g (z2 o) mX10_flies (zQi (z2 o) q) 72 [(0, zA g 1), (2, zI x2), (3, zI (alg C R x3 x2 (M4 11 192))), (5, zI x5)] [] (zu M4 1 23 ((M4 1 23) + 1))) ∧ ((¬ (x5 = 20)) → (zRf (zu M4 1 23 ((M4 1 23) + 1)) C R) ∧ (0 ≤ (alg C R x3 x2 (M4 11 192)) ∧ (alg C R x3 x2 (M4 11 192)) < C * R) ∧ (0 ≤ (zu M4 1 23 ((M4 1 23) + 1)) 11 197 ∧ (zu M4 1 23 ((M4 1 23) + 1)) 11 197 ≤ 2147483647) ∧ (Bd ((zu M4 1 23 ((M4 1 23) + 1)) 11)) ∧ (0 ≤ (zu M4 1 23 ((M4 1 23) + 1)) 11 193 ∧ (zu M4 1 23 ((M4 1 23) + 1)) 11 193 ≤ 9) ∧ ((¬ (shd C R ((zu M4 1 23 ((M4 1 23) + 1)) 11) ((zu M4 1 23 ((M4 1 23) + 1)) 11 193) (alg C R x3 x2 (M4 11 192)) (wnr (zu M4 1 23 ((M4 1 23) + 1)) ((zu M4 1 23 ((M4 1 23) + 1)) 11 197)))) → (0 ≤ (zu M4 1 23 ((M4 1 23) + 1)) 11 196 ∧ (zu M4 1 23 ((M4 1 23) + 1)) 11 196 ≤ 10006) ∧ ((0 : Int) < 16 ∧ 16 ≤ (2147483647 : Int)) ∧ ∀ (r25 : Int) (N27 : zM), r25 = dsd ((zu M4 1 23 ((M4 1 23) + 1)) 11 196) % 16 → N27 = zu (zu M4 1 23 ((M4 1 23) + 1)) 11 196 (dsd ((zu M4 1 23 ((M4 1 23) + 1)) 11 196)) → (0 ≤ (alg C R x3 x2 (M4 11 192)) ∧ (alg C R x3 x2 (M4 11 192)) < 198) ∧ (-2147483648 ≤ (N27 11 (alg C R x3 x2 (M4 11 192))) ∧ (N27 11 (alg C R x3 x2 (M4 11 192))) ≤ 2147483647) ∧ (((N27 11 (alg C R x3 x2 (M4 11 192))) ≤ 0) → (-2147483648 ≤ r25 ∧ r25 ≤ 2147483647) ∧ (-2147483648 ≤ (N27 11 195) ∧ (N27 11 195) ≤ 2147483647) ∧ (((N27 11 195) ≤ r25) → zT g (z2 o) mX10_flies (zQi (z2 o) q) 13 [(0, zA g 1), (2, zI x2), (3, zI (alg C R x3 x2 (M4 11 192))), (4, zI 0), (5, zI (x5 + 1))] [] N27) ∧ ((¬ ((N27 11 195) ≤ r25)) → zT g (z2 o) mX10_flies (zQi (z2 o) q) 13 [(0, zA g 1), (2, zI x2), (3, zI (alg C R x3 x2 (M4 11 192))), (4, zI 1), (5, zI (x5 + 1))] [] N27)) ∧ ((¬ ((N27 11 (alg C R x3 x2 (M4 11 192))) ≤ 0)) → (-2147483648 ≤ r25 ∧ r25 ≤ 2147483647) ∧ (-2147483648 ≤ (N27 11 194) ∧ (N27 11 194) ≤ 2147483647) ∧ (((N27 11 194) ≤ r25) → zT g (z2 o) mX10_flies (zQi (z2 o) q) 13 [(0, zA g 1), (2, zI x2), (3, zI (alg C R x3 x2 (M4 11 192))), (4, zI 0), (5, zI (x5 + 1))] [] N27) ∧ ((¬ ((N27 11 194) ≤ r25)) → zT g (z2 o) mX10_flies (zQi (z2 o) q) 13 [(0, zA g 1), (2, zI x2), (3, zI (alg C R x3 x2 (M4 11 192))), (4, zI 1), (5, zI (x5 + 1))] [] N27))) ∧ ((shd C R ((zu M4 1 23 ((M4 1 23) + 1)) 11) ((zu M4 1 23 ((M4 1 23) + 1)) 11 193) (alg C R x3 x2 (M4 11 192)) (wnr (zu M4 1 23 ((M4 1 23) + 1)) ((zu M4 1 23 ((M4 1 23) + 1)) 11 197))) → zT g (z2 o) mX10_flies (zQi (z2 o) q) 72 [(0, zA g 1), (2, zI x2), (3, zI (alg C R x3 x2 (M4 11 192))), (5, zI x5)] [] (zu M4 1 23 ((M4 1 23) + 1)))))) : zT g (z2 o) mX10_flies (zQi (z2 o) q) 13 [(0, zA g 1), (2, zI x2), (3, zI x3), (4, zI x4), (5, zI x5)] [] M := by
  refine zr_iload 3 dX10_flies_13 rfl ?_
  obtain ⟨c1, W⟩ := W
  refine zr_if_ne (tgt := 134) dX10_flies_15 (by decide) c1 (fun h => ?_) (fun h => ?_)
  · have W := W.1 h
    refine zr_iload_n 2 dX10_flies_134 rfl ?_
    exact zt_iret dX10_flies_135 rfl W
  · have W := W.2 h
    refine zr_aload_n 0 dX10_flies_18 rfl ?_
    refine zr_iload_n 2 dX10_flies_19 rfl ?_
    refine zr_iload_n 1 dX10_flies_20 rfl ?_
    refine zr_aload_n 0 dX10_flies_21 rfl ?_
    refine zr_getr (b := 11) dX10_flies_22 fX10_45 rfl rfl rfl (by decide) ?_
    refine zr_sipush dX10_flies_25 (by decide) ?_
    refine zr_iald dX10_flies_28 rfl (by decide) ⟨by decide, by decide⟩ ?_
    obtain ⟨q2, k6, W⟩ := W
    refine zt_callVv (As := [zI x3, zI x2, zI (M 11 192)]) (rest := []) dX10_flies_29 kX10_flies_289 rfl rfl rfl rfl (Nat.le_of_ble_eq_true rfl) k6 (fun M4 h5 => ?_)
    have W := W M4 h5
    refine zr_aload_n 0 dX10_flies_32 rfl ?_
    refine zr_iload_n 2 dX10_flies_33 rfl ?_
    refine zr_iload_n 1 dX10_flies_34 rfl ?_
    refine zr_aload_n 0 dX10_flies_35 rfl ?_
    refine zr_getr (b := 11) dX10_flies_36 fX10_45 rfl rfl rfl (by decide) ?_
    refine zr_sipush dX10_flies_39 (by decide) ?_
    refine zr_iald dX10_flies_42 rfl (by decide) ⟨by decide, by decide⟩ ?_
    obtain ⟨c7, W⟩ := W
    obtain ⟨c8, W⟩ := W
    obtain ⟨c9, W⟩ := W
    obtain ⟨c10, W⟩ := W
    refine zt_callVi (As := [zI x3, zI x2, zI (M4 11 192)]) (rest := []) dX10_flies_43 kX10_flies_282 rfl rfl rfl rfl (Nat.le_of_ble_eq_true rfl) (c_along c7 c8 c9 c10) (fun r11 N13 h12 => ?_)
    rw [h12.1, h12.2]
    refine zr_istore_n (l' := [(0, zA g 1), (2, zI x2), (3, zI (alg C R x3 x2 (M4 11 192))), (5, zI x5)]) dX10_flies_46 (by decide) [1, 2, 0, 4] rfl ?_
    refine zr_aload_n 0 dX10_flies_47 rfl ?_
    refine zr_dup dX10_flies_48 rfl ?_
    refine zt_geti 23 rfl dX10_flies_49 fX10_261 rfl (by decide) ?_
    refine zr_iconst dX10_flies_52 ?_
    refine zr_iadd dX10_flies_53 ?_
    refine zt_puti 23 rfl dX10_flies_54 fX10_261 lcX10 ltX10_23 rfl rfl ?_
    refine zr_iload 3 dX10_flies_57 rfl ?_
    refine zr_bipush dX10_flies_59 (by decide) ?_
    obtain ⟨c14, W⟩ := W
    refine zr_icmp_eq (tgt := 72) dX10_flies_61 (by decide) c14 ⟨by decide, by decide⟩ (fun h => ?_) (fun h => ?_)
    · have W := W.1 h
      exact W
    · have W := W.2 h
      refine zr_aload_n 0 dX10_flies_64 rfl ?_
      refine zr_iload_n 2 dX10_flies_65 rfl ?_
      obtain ⟨c15, W⟩ := W
      obtain ⟨c16, W⟩ := W
      obtain ⟨c17, W⟩ := W
      obtain ⟨c18, W⟩ := W
      obtain ⟨c19, W⟩ := W
      refine zt_callVi (As := [zI (alg C R x3 x2 (M4 11 192))]) (rest := []) dX10_flies_66 kX10_flies_286 rfl rfl rfl rfl (Nat.le_of_ble_eq_true rfl) (c_isShadow c15 c16 c17 c18 c19) (fun r20 N22 h21 => ?_)
      rw [h21.1, h21.2]
      refine zt_ifeq_b (tgt := 76) dX10_flies_69 (by decide) (fun h => ?_) (fun h => ?_)
      · have W := W.1 h
        refine zr_iconst dX10_flies_76 ?_
        refine zr_istore (l' := [(0, zA g 1), (2, zI x2), (3, zI (alg C R x3 x2 (M4 11 192))), (4, zI 0), (5, zI x5)]) dX10_flies_77 (by decide) [1, 2, 3, 0, 4] rfl ?_
        refine zr_iload 3 dX10_flies_79 rfl ?_
        refine zr_if_ne (tgt := 128) dX10_flies_81 (by decide) ⟨by decide, by decide⟩ (fun h => ?_) (fun h => ?_)
        · exact absurd h (by decide)
        · skip
          refine zr_aload_n 0 dX10_flies_84 rfl ?_
          refine zr_bipush dX10_flies_85 (by decide) ?_
          obtain ⟨c23, W⟩ := W
          obtain ⟨c24, W⟩ := W
          refine zt_callVi (As := [zI 16]) (rest := []) dX10_flies_87 kX10_flies_300 rfl rfl rfl rfl (Nat.le_of_ble_eq_true rfl) (c_drawR c23 c24) (fun r25 N27 h26 => ?_)
          have W := W r25 N27 h26.1 h26.2
          refine zr_aload_n 0 dX10_flies_90 rfl ?_
          refine zr_getr (b := 11) dX10_flies_91 fX10_45 rfl rfl rfl (by decide) ?_
          refine zr_iload_n 2 dX10_flies_94 rfl ?_
          obtain ⟨c28, W⟩ := W
          refine zr_iald dX10_flies_95 rfl (by decide) c28 ?_
          obtain ⟨c29, W⟩ := W
          refine zr_if_le (tgt := 110) dX10_flies_96 (by decide) c29 (fun h => ?_) (fun h => ?_)
          · have W := W.1 h
            refine zr_aload_n 0 dX10_flies_110 rfl ?_
            refine zr_getr (b := 11) dX10_flies_111 fX10_45 rfl rfl rfl (by decide) ?_
            refine zr_sipush dX10_flies_114 (by decide) ?_
            refine zr_iald dX10_flies_117 rfl (by decide) ⟨by decide, by decide⟩ ?_
            obtain ⟨c30, W⟩ := W
            obtain ⟨c31, W⟩ := W
            refine zr_icmp_ge (tgt := 125) dX10_flies_118 (by decide) c30 c31 (fun h => ?_) (fun h => ?_)
            · have W := W.1 h
              refine zr_iconst dX10_flies_125 ?_
              refine zr_istore (l' := [(0, zA g 1), (2, zI x2), (3, zI (alg C R x3 x2 (M4 11 192))), (4, zI 0), (5, zI x5)]) dX10_flies_126 (by decide) [1, 2, 3, 0, 4] rfl ?_
              refine zr_iinc (q := 4) (l' := [(0, zA g 1), (2, zI x2), (3, zI (alg C R x3 x2 (M4 11 192))), (4, zI 0), (5, zI (x5 + 1))]) dX10_flies_128 rfl (by decide) [1, 2, 3, 4, 0] rfl ?_
              refine zr_goto (tgt := 13) dX10_flies_131 (by decide) ?_
              exact W
            · have W := W.2 h
              refine zr_iconst dX10_flies_121 ?_
              refine zr_goto (tgt := 126) dX10_flies_122 (by decide) ?_
              refine zr_istore (l' := [(0, zA g 1), (2, zI x2), (3, zI (alg C R x3 x2 (M4 11 192))), (4, zI 1), (5, zI x5)]) dX10_flies_126 (by decide) [1, 2, 3, 0, 4] rfl ?_
              refine zr_iinc (q := 4) (l' := [(0, zA g 1), (2, zI x2), (3, zI (alg C R x3 x2 (M4 11 192))), (4, zI 1), (5, zI (x5 + 1))]) dX10_flies_128 rfl (by decide) [1, 2, 3, 4, 0] rfl ?_
              refine zr_goto (tgt := 13) dX10_flies_131 (by decide) ?_
              exact W
          · have W := W.2 h
            refine zr_aload_n 0 dX10_flies_99 rfl ?_
            refine zr_getr (b := 11) dX10_flies_100 fX10_45 rfl rfl rfl (by decide) ?_
            refine zr_sipush dX10_flies_103 (by decide) ?_
            refine zr_iald dX10_flies_106 rfl (by decide) ⟨by decide, by decide⟩ ?_
            refine zr_goto (tgt := 118) dX10_flies_107 (by decide) ?_
            obtain ⟨c32, W⟩ := W
            obtain ⟨c33, W⟩ := W
            refine zr_icmp_ge (tgt := 125) dX10_flies_118 (by decide) c32 c33 (fun h => ?_) (fun h => ?_)
            · have W := W.1 h
              refine zr_iconst dX10_flies_125 ?_
              refine zr_istore (l' := [(0, zA g 1), (2, zI x2), (3, zI (alg C R x3 x2 (M4 11 192))), (4, zI 0), (5, zI x5)]) dX10_flies_126 (by decide) [1, 2, 3, 0, 4] rfl ?_
              refine zr_iinc (q := 4) (l' := [(0, zA g 1), (2, zI x2), (3, zI (alg C R x3 x2 (M4 11 192))), (4, zI 0), (5, zI (x5 + 1))]) dX10_flies_128 rfl (by decide) [1, 2, 3, 4, 0] rfl ?_
              refine zr_goto (tgt := 13) dX10_flies_131 (by decide) ?_
              exact W
            · have W := W.2 h
              refine zr_iconst dX10_flies_121 ?_
              refine zr_goto (tgt := 126) dX10_flies_122 (by decide) ?_
              refine zr_istore (l' := [(0, zA g 1), (2, zI x2), (3, zI (alg C R x3 x2 (M4 11 192))), (4, zI 1), (5, zI x5)]) dX10_flies_126 (by decide) [1, 2, 3, 0, 4] rfl ?_
              refine zr_iinc (q := 4) (l' := [(0, zA g 1), (2, zI x2), (3, zI (alg C R x3 x2 (M4 11 192))), (4, zI 1), (5, zI (x5 + 1))]) dX10_flies_128 rfl (by decide) [1, 2, 3, 4, 0] rfl ?_
              refine zr_goto (tgt := 13) dX10_flies_131 (by decide) ?_
              exact W
      · have W := W.2 h
        exact W
set_option maxRecDepth 100000 in
theorem SX10_flies_72 {g : zG} {o : Bool} {M : zM} {q : Int → zM → Prop} {x2 x3 x5 : Int} (W : zT g (z2 o) mX10_flies (zQi (z2 o) q) 13 [(0, zA g 1), (2, zI x2), (3, zI x3), (4, zI 1), (5, zI (x5 + 1))] [] M) : zT g (z2 o) mX10_flies (zQi (z2 o) q) 72 [(0, zA g 1), (2, zI x2), (3, zI x3), (5, zI x5)] [] M := by
  refine zr_iconst dX10_flies_72 ?_
  refine zr_goto (tgt := 77) dX10_flies_73 (by decide) ?_
  refine zr_istore (l' := [(0, zA g 1), (2, zI x2), (3, zI x3), (4, zI 1), (5, zI x5)]) dX10_flies_77 (by decide) [1, 2, 3, 0, 4] rfl ?_
  refine zr_iload 3 dX10_flies_79 rfl ?_
  refine zr_if_ne (tgt := 128) dX10_flies_81 (by decide) ⟨by decide, by decide⟩ (fun h => ?_) (fun h => ?_)
  · skip
    refine zr_iinc (q := 4) (l' := [(0, zA g 1), (2, zI x2), (3, zI x3), (4, zI 1), (5, zI (x5 + 1))]) dX10_flies_128 rfl (by decide) [1, 2, 3, 4, 0] rfl ?_
    refine zr_goto (tgt := 13) dX10_flies_131 (by decide) ?_
    exact W
  · exact absurd h (by decide)
theorem dX10_tries_0 : decode cX10_tries 0 = .ok (.aload_n 0, 1) := by decide +kernel
theorem dX10_tries_1 : decode cX10_tries 1 = .ok (.aload_n 0, 1) := by decide +kernel
theorem dX10_tries_2 : decode cX10_tries 2 = .ok (.invokevirtual 226, 3) := by decide +kernel
theorem dX10_tries_5 : decode cX10_tries 5 = .ok (.invokevirtual 300, 3) := by decide +kernel
theorem dX10_tries_8 : decode cX10_tries 8 = .ok (.istore_n 1, 1) := by decide +kernel
theorem dX10_tries_9 : decode cX10_tries 9 = .ok (.aload_n 0, 1) := by decide +kernel
theorem dX10_tries_10 : decode cX10_tries 10 = .ok (.iload_n 1, 1) := by decide +kernel
theorem dX10_tries_11 : decode cX10_tries 11 = .ok (.invokevirtual 303, 3) := by decide +kernel
theorem dX10_tries_14 : decode cX10_tries 14 = .ok (.istore_n 2, 1) := by decide +kernel
theorem dX10_tries_15 : decode cX10_tries 15 = .ok (.iload_n 2, 1) := by decide +kernel
theorem dX10_tries_16 : decode cX10_tries 16 = .ok (.ifCond .eq 39, 3) := by decide +kernel
theorem dX10_tries_19 : decode cX10_tries 19 = .ok (.aload_n 0, 1) := by decide +kernel
theorem dX10_tries_20 : decode cX10_tries 20 = .ok (.getfield 45, 3) := by decide +kernel
theorem dX10_tries_23 : decode cX10_tries 23 = .ok (.iload_n 1, 1) := by decide +kernel
theorem dX10_tries_24 : decode cX10_tries 24 = .ok (.dup2, 1) := by decide +kernel
theorem dX10_tries_25 : decode cX10_tries 25 = .ok (.iaload, 1) := by decide +kernel
theorem dX10_tries_26 : decode cX10_tries 26 = .ok (.iconst 1, 1) := by decide +kernel
theorem dX10_tries_27 : decode cX10_tries 27 = .ok (.isub, 1) := by decide +kernel
theorem dX10_tries_28 : decode cX10_tries 28 = .ok (.iastore, 1) := by decide +kernel
theorem dX10_tries_29 : decode cX10_tries 29 = .ok (.aload_n 0, 1) := by decide +kernel
theorem dX10_tries_30 : decode cX10_tries 30 = .ok (.iload_n 1, 1) := by decide +kernel
theorem dX10_tries_31 : decode cX10_tries 31 = .ok (.invokevirtual 306, 3) := by decide +kernel
theorem dX10_tries_34 : decode cX10_tries 34 = .ok (.aload_n 0, 1) := by decide +kernel
theorem dX10_tries_35 : decode cX10_tries 35 = .ok (.iload_n 1, 1) := by decide +kernel
theorem dX10_tries_36 : decode cX10_tries 36 = .ok (.invokevirtual 309, 3) := by decide +kernel
theorem dX10_tries_39 : decode cX10_tries 39 = .ok (.istore_n 3, 1) := by decide +kernel
theorem dX10_tries_40 : decode cX10_tries 40 = .ok (.aload_n 0, 1) := by decide +kernel
theorem dX10_tries_41 : decode cX10_tries 41 = .ok (.getfield 45, 3) := by decide +kernel
theorem dX10_tries_44 : decode cX10_tries 44 = .ok (.iload_n 3, 1) := by decide +kernel
theorem dX10_tries_45 : decode cX10_tries 45 = .ok (.dup2, 1) := by decide +kernel
theorem dX10_tries_46 : decode cX10_tries 46 = .ok (.iaload, 1) := by decide +kernel
theorem dX10_tries_47 : decode cX10_tries 47 = .ok (.iconst 1, 1) := by decide +kernel
theorem dX10_tries_48 : decode cX10_tries 48 = .ok (.iadd, 1) := by decide +kernel
theorem dX10_tries_49 : decode cX10_tries 49 = .ok (.iastore, 1) := by decide +kernel
theorem dX10_tries_50 : decode cX10_tries 50 = .ok (.aload_n 0, 1) := by decide +kernel
theorem dX10_tries_51 : decode cX10_tries 51 = .ok (.iload_n 3, 1) := by decide +kernel
theorem dX10_tries_52 : decode cX10_tries 52 = .ok (.invokevirtual 312, 3) := by decide +kernel
theorem dX10_tries_55 : decode cX10_tries 55 = .ok (.aload_n 0, 1) := by decide +kernel
theorem dX10_tries_56 : decode cX10_tries 56 = .ok (.getfield 45, 3) := by decide +kernel
theorem dX10_tries_59 : decode cX10_tries 59 = .ok (.sipush 197, 3) := by decide +kernel
theorem dX10_tries_62 : decode cX10_tries 62 = .ok (.dup2, 1) := by decide +kernel
theorem dX10_tries_63 : decode cX10_tries 63 = .ok (.iaload, 1) := by decide +kernel
theorem dX10_tries_64 : decode cX10_tries 64 = .ok (.iconst 1, 1) := by decide +kernel
theorem dX10_tries_65 : decode cX10_tries 65 = .ok (.iadd, 1) := by decide +kernel
theorem dX10_tries_66 : decode cX10_tries 66 = .ok (.iastore, 1) := by decide +kernel
theorem dX10_tries_67 : decode cX10_tries 67 = .ok (.iload_n 2, 1) := by decide +kernel
theorem dX10_tries_68 : decode cX10_tries 68 = .ok (.ireturn, 1) := by decide +kernel
set_option maxRecDepth 100000 in
theorem SX10_tries_0 {g : zG} {o : Bool} {C R : Int} {M : zM} {q : Int → zM → Prop} (W : (zRf M C R) ∧ (0 ≤ M 11 196 ∧ M 11 196 ≤ 10006) ∧ ((0 : Int) < (C * R) ∧ (C * R) ≤ (2147483647 : Int)) ∧ ∀ (r7 : Int) (N9 : zM), r7 = dsd (M 11 196) % (C * R) → N9 = zu M 11 196 (dsd (M 11 196)) → (zRf N9 C R) ∧ (0 ≤ r7 ∧ r7 < C * R) ∧ (0 ≤ N9 11 197 ∧ N9 11 197 ≤ 2147483647) ∧ (Bd (N9 11)) ∧ (0 ≤ N9 11 193 ∧ N9 11 193 ≤ 9) ∧ (0 ≤ N9 11 (96 + r7) ∧ N9 11 (96 + r7) ≤ 1) ∧ ((¬ (yld C R (N9 11) (fun i => N9 11 (96 + i)) (N9 11 193) r7 (wnr N9 (N9 11 197)))) → q (zb (yld C R (N9 11) (fun i => N9 11 (96 + i)) (N9 11 193) r7 (wnr N9 (N9 11 197)))) (zu N9 11 197 ((N9 11 197) + 1))) ∧ ((yld C R (N9 11) (fun i => N9 11 (96 + i)) (N9 11 193) r7 (wnr N9 (N9 11 197))) → (0 ≤ r7 ∧ r7 < 198) ∧ ∃ q20 : zM → Prop, zKv g (z2 o) mX10_fills [zA g 1, zI r7] (zu N9 11 r7 ((N9 11 r7) - 1)) q20 ∧ ∀ M22 : zM, q20 M22 → ∃ q25 : Int → zM → Prop, zKi g (z2 o) mX10_flies [zA g 1, zI r7] M22 q25 ∧ ∀ (r26 : Int) (M27 : zM), q25 r26 M27 → (0 ≤ r26 ∧ r26 < 198) ∧ ∃ q31 : zM → Prop, zKv g (z2 o) mX10_spills [zA g 1, zI r26] (zu M27 11 r26 ((M27 11 r26) + 1)) q31 ∧ ∀ M33 : zM, q31 M33 → q (zb (yld C R (N9 11) (fun i => N9 11 (96 + i)) (N9 11 193) r7 (wnr N9 (N9 11 197)))) (zu M33 11 197 ((M33 11 197) + 1)))) : zT g (z2 o) mX10_tries (zQi (z2 o) q) 0 [(0, zA g 1)] [] M := by
  refine zr_aload_n 0 dX10_tries_0 rfl ?_
  refine zr_aload_n 0 dX10_tries_1 rfl ?_
  obtain ⟨c1, W⟩ := W
  refine zt_callVi (As := []) (rest := [zA g 1]) dX10_tries_2 kX10_tries_226 rfl rfl rfl rfl (Nat.le_of_ble_eq_true rfl) (c_cells c1) (fun r2 N4 h3 => ?_)
  rw [h3.1, h3.2]
  obtain ⟨c5, W⟩ := W
  obtain ⟨c6, W⟩ := W
  refine zt_callVi (As := [zI (C * R)]) (rest := []) dX10_tries_5 kX10_tries_300 rfl rfl rfl rfl (Nat.le_of_ble_eq_true rfl) (c_drawR c5 c6) (fun r7 N9 h8 => ?_)
  have W := W r7 N9 h8.1 h8.2
  refine zr_istore_n (l' := [(0, zA g 1), (1, zI r7)]) dX10_tries_8 (by decide) [1, 0] rfl ?_
  refine zr_aload_n 0 dX10_tries_9 rfl ?_
  refine zr_iload_n 1 dX10_tries_10 rfl ?_
  obtain ⟨c10, W⟩ := W
  obtain ⟨c11, W⟩ := W
  obtain ⟨c12, W⟩ := W
  obtain ⟨c13, W⟩ := W
  obtain ⟨c14, W⟩ := W
  obtain ⟨c15, W⟩ := W
  refine zt_callVi (As := [zI r7]) (rest := []) dX10_tries_11 kX10_tries_303 rfl rfl rfl rfl (Nat.le_of_ble_eq_true rfl) (c_gives c10 c11 c12 c13 c14 c15) (fun r16 N18 h17 => ?_)
  rw [h17.1, h17.2]
  refine zr_istore_n (l' := [(0, zA g 1), (1, zI r7), (2, zI (zb (yld C R (N9 11) (fun i => N9 11 (96 + i)) (N9 11 193) r7 (wnr N9 (N9 11 197)))))]) dX10_tries_14 (by decide) [1, 2, 0] rfl ?_
  refine zr_iload_n 2 dX10_tries_15 rfl ?_
  refine zt_ifeq_b (tgt := 55) dX10_tries_16 (by decide) (fun h => ?_) (fun h => ?_)
  · have W := W.1 h
    refine zr_aload_n 0 dX10_tries_55 rfl ?_
    refine zr_getr (b := 11) dX10_tries_56 fX10_45 rfl rfl rfl (by decide) ?_
    refine zr_sipush dX10_tries_59 (by decide) ?_
    refine zr_dup2 dX10_tries_62 rfl rfl ?_
    refine zr_iald dX10_tries_63 rfl (by decide) ⟨by decide, by decide⟩ ?_
    refine zr_iconst dX10_tries_64 ?_
    refine zr_iadd dX10_tries_65 ?_
    refine zr_iast dX10_tries_66 rfl (by decide) ⟨by decide, by decide⟩ ?_
    refine zr_iload_n 2 dX10_tries_67 rfl ?_
    exact zt_zret dX10_tries_68 rfl (zb01 _) W
  · have W := W.2 h
    refine zr_aload_n 0 dX10_tries_19 rfl ?_
    refine zr_getr (b := 11) dX10_tries_20 fX10_45 rfl rfl rfl (by decide) ?_
    refine zr_iload_n 1 dX10_tries_23 rfl ?_
    refine zr_dup2 dX10_tries_24 rfl rfl ?_
    obtain ⟨c19, W⟩ := W
    refine zr_iald dX10_tries_25 rfl (by decide) c19 ?_
    refine zr_iconst dX10_tries_26 ?_
    refine zr_isub dX10_tries_27 ?_
    refine zr_iast dX10_tries_28 rfl (by decide) c19 ?_
    refine zr_aload_n 0 dX10_tries_29 rfl ?_
    refine zr_iload_n 1 dX10_tries_30 rfl ?_
    obtain ⟨q20, k24, W⟩ := W
    refine zt_callVv (As := [zI r7]) (rest := []) dX10_tries_31 kX10_tries_306 rfl rfl rfl rfl (Nat.le_of_ble_eq_true rfl) k24 (fun M22 h23 => ?_)
    have W := W M22 h23
    refine zr_aload_n 0 dX10_tries_34 rfl ?_
    refine zr_iload_n 1 dX10_tries_35 rfl ?_
    obtain ⟨q25, k29, W⟩ := W
    refine zt_callVi (As := [zI r7]) (rest := []) dX10_tries_36 kX10_tries_309 rfl rfl rfl rfl (Nat.le_of_ble_eq_true rfl) k29 (fun r26 M27 h28 => ?_)
    have W := W r26 M27 h28
    refine zr_istore_n (l' := [(0, zA g 1), (2, zI (zb (yld C R (N9 11) (fun i => N9 11 (96 + i)) (N9 11 193) r7 (wnr N9 (N9 11 197))))), (3, zI r26)]) dX10_tries_39 (by decide) [1, 3, 0] rfl ?_
    refine zr_aload_n 0 dX10_tries_40 rfl ?_
    refine zr_getr (b := 11) dX10_tries_41 fX10_45 rfl rfl rfl (by decide) ?_
    refine zr_iload_n 2 dX10_tries_44 rfl ?_
    refine zr_dup2 dX10_tries_45 rfl rfl ?_
    obtain ⟨c30, W⟩ := W
    refine zr_iald dX10_tries_46 rfl (by decide) c30 ?_
    refine zr_iconst dX10_tries_47 ?_
    refine zr_iadd dX10_tries_48 ?_
    refine zr_iast dX10_tries_49 rfl (by decide) c30 ?_
    refine zr_aload_n 0 dX10_tries_50 rfl ?_
    refine zr_iload_n 2 dX10_tries_51 rfl ?_
    obtain ⟨q31, k35, W⟩ := W
    refine zt_callVv (As := [zI r26]) (rest := []) dX10_tries_52 kX10_tries_312 rfl rfl rfl rfl (Nat.le_of_ble_eq_true rfl) k35 (fun M33 h34 => ?_)
    have W := W M33 h34
    refine zr_aload_n 0 dX10_tries_55 rfl ?_
    refine zr_getr (b := 11) dX10_tries_56 fX10_45 rfl rfl rfl (by decide) ?_
    refine zr_sipush dX10_tries_59 (by decide) ?_
    refine zr_dup2 dX10_tries_62 rfl rfl ?_
    refine zr_iald dX10_tries_63 rfl (by decide) ⟨by decide, by decide⟩ ?_
    refine zr_iconst dX10_tries_64 ?_
    refine zr_iadd dX10_tries_65 ?_
    refine zr_iast dX10_tries_66 rfl (by decide) ⟨by decide, by decide⟩ ?_
    refine zr_iload_n 1 dX10_tries_67 rfl ?_
    exact zt_zret dX10_tries_68 rfl (zb01 _) W
theorem dX10_blows_0 : decode cX10_blows 0 = .ok (.iconst 0, 1) := by decide +kernel
theorem dX10_blows_1 : decode cX10_blows 1 = .ok (.istore_n 2, 1) := by decide +kernel
theorem dX10_blows_2 : decode cX10_blows 2 = .ok (.iconst 0, 1) := by decide +kernel
theorem dX10_blows_3 : decode cX10_blows 3 = .ok (.istore_n 3, 1) := by decide +kernel
theorem dX10_blows_4 : decode cX10_blows 4 = .ok (.iload_n 3, 1) := by decide +kernel
theorem dX10_blows_5 : decode cX10_blows 5 = .ok (.iload_n 1, 1) := by decide +kernel
theorem dX10_blows_6 : decode cX10_blows 6 = .ok (.if_icmp .ge 19, 3) := by decide +kernel
theorem dX10_blows_9 : decode cX10_blows 9 = .ok (.iload_n 2, 1) := by decide +kernel
theorem dX10_blows_10 : decode cX10_blows 10 = .ok (.aload_n 0, 1) := by decide +kernel
theorem dX10_blows_11 : decode cX10_blows 11 = .ok (.invokevirtual 315, 3) := by decide +kernel
theorem dX10_blows_14 : decode cX10_blows 14 = .ok (.invokestatic 317, 3) := by decide +kernel
theorem dX10_blows_17 : decode cX10_blows 17 = .ok (.iadd, 1) := by decide +kernel
theorem dX10_blows_18 : decode cX10_blows 18 = .ok (.istore_n 2, 1) := by decide +kernel
theorem dX10_blows_19 : decode cX10_blows 19 = .ok (.iinc 3 1, 3) := by decide +kernel
theorem dX10_blows_22 : decode cX10_blows 22 = .ok (.goto (-18), 3) := by decide +kernel
theorem dX10_blows_25 : decode cX10_blows 25 = .ok (.iload_n 2, 1) := by decide +kernel
theorem dX10_blows_26 : decode cX10_blows 26 = .ok (.ireturn, 1) := by decide +kernel
set_option maxRecDepth 100000 in
theorem SX10_blows_0 {g : zG} {o : Bool} {M : zM} {q : Int → zM → Prop} {x1 : Int} (W : zT g (z2 o) mX10_blows (zQi (z2 o) q) 4 [(0, zA g 1), (1, zI x1), (2, zI 0), (3, zI 0)] [] M) : zT g (z2 o) mX10_blows (zQi (z2 o) q) 0 [(0, zA g 1), (1, zI x1)] [] M := by
  refine zr_iconst dX10_blows_0 ?_
  refine zr_istore_n (l' := [(0, zA g 1), (1, zI x1), (2, zI 0)]) dX10_blows_1 (by decide) [1, 2, 0] rfl ?_
  refine zr_iconst dX10_blows_2 ?_
  refine zr_istore_n (l' := [(0, zA g 1), (1, zI x1), (2, zI 0), (3, zI 0)]) dX10_blows_3 (by decide) [1, 2, 3, 0] rfl ?_
  exact W
set_option maxRecDepth 100000 in
theorem SX10_blows_4 {g : zG} {o : Bool} {M : zM} {q : Int → zM → Prop} {x1 x2 x3 : Int} (W : (-2147483648 ≤ x3 ∧ x3 ≤ 2147483647) ∧ (-2147483648 ≤ x1 ∧ x1 ≤ 2147483647) ∧ ((x1 ≤ x3) → q x2 M) ∧ ((¬ (x1 ≤ x3)) → ∃ q3 : Int → zM → Prop, zKi g (z2 o) mX10_tries [zA g 1] M q3 ∧ ∀ (r4 : Int) (M5 : zM), q3 r4 M5 → (r4 = 0 ∨ r4 = 1) ∧ zT g (z2 o) mX10_blows (zQi (z2 o) q) 4 [(0, zA g 1), (1, zI x1), (2, zI (x2 + r4)), (3, zI (x3 + 1))] [] M5)) : zT g (z2 o) mX10_blows (zQi (z2 o) q) 4 [(0, zA g 1), (1, zI x1), (2, zI x2), (3, zI x3)] [] M := by
  refine zr_iload_n 3 dX10_blows_4 rfl ?_
  refine zr_iload_n 1 dX10_blows_5 rfl ?_
  obtain ⟨c1, W⟩ := W
  obtain ⟨c2, W⟩ := W
  refine zr_icmp_ge (tgt := 25) dX10_blows_6 (by decide) c1 c2 (fun h => ?_) (fun h => ?_)
  · have W := W.1 h
    refine zr_iload_n 2 dX10_blows_25 rfl ?_
    exact zt_iret dX10_blows_26 rfl W
  · have W := W.2 h
    refine zr_iload_n 2 dX10_blows_9 rfl ?_
    refine zr_aload_n 0 dX10_blows_10 rfl ?_
    obtain ⟨q3, k7, W⟩ := W
    refine zt_callVi (As := []) (rest := [zI x2]) dX10_blows_11 kX10_blows_315 rfl rfl rfl rfl (Nat.le_of_ble_eq_true rfl) k7 (fun r4 M5 h6 => ?_)
    have W := W r4 M5 h6
    obtain ⟨c8, W⟩ := W
    refine zt_callSi (As := [zI r4]) (rest := [zI x2]) dX10_blows_14 kX10_blows_317 rfl rfl (Nat.le_of_ble_eq_true rfl) (c_truthi c8) (fun r9 N11 h10 => ?_)
    rw [h10.1, h10.2]
    refine zr_iadd dX10_blows_17 ?_
    refine zr_istore_n (l' := [(0, zA g 1), (1, zI x1), (2, zI (x2 + r4)), (3, zI x3)]) dX10_blows_18 (by decide) [1, 2, 0, 3] rfl ?_
    refine zr_iinc (q := 3) (l' := [(0, zA g 1), (1, zI x1), (2, zI (x2 + r4)), (3, zI (x3 + 1))]) dX10_blows_19 rfl (by decide) [1, 2, 3, 0] rfl ?_
    refine zr_goto (tgt := 4) dX10_blows_22 (by decide) ?_
    exact W
def repx (M : zM) (x : Sx) : Prop := repz M x.1 ∧ M 1 23 = x.2.1 ∧ M 11 196 = x.2.2.1 ∧ M 11 197 = x.2.2.2
def rfx (M M' : zM) : Prop := (∀ b : Nat, b ≠ 1 → b ≠ 11 → M' b = M b) ∧ (∀ i : Int, i ≠ 23 → i ≠ 24 → i ≠ 25 → M' 1 i = M 1 i) ∧ ∀ i : Int, 96 ≤ i → i ≠ 196 → i ≠ 197 → M' 11 i = M 11 i
def RefOK (M : zM) (B T : Int) : Prop := BdB B (M 11) ∧ (∀ i : Int, 0 ≤ i → i < 96 → 0 ≤ M 11 (96 + i) ∧ M 11 (96 + i) ≤ 1) ∧ (1 ≤ M 11 192 ∧ M 11 192 ≤ 6) ∧ (1 ≤ M 11 193 ∧ M 11 193 ≤ 9) ∧ (0 ≤ M 11 194 ∧ M 11 194 ≤ 16) ∧ (0 ≤ M 11 195 ∧ M 11 195 ≤ 16) ∧ (0 ≤ M 11 196 ∧ M 11 196 ≤ 10006) ∧ (0 ≤ M 11 197 ∧ M 11 197 ≤ T)
section RS
variable {g : zG} {o : Bool} {M M' M'' : zM} {x y w c k t sh S C R B T : Int} {H H' G G' X wd : Int → Int} {z : Hz}
theorem shd_eq (hG : Geo C R) (hc : 0 ≤ c ∧ c < C * R) (h : eq96 H H') : shd C R H sh c w ↔ shd C R H' sh c w := by
  have hn := geo_n hG
  unfold shd
  constructor
  · rintro ⟨k, h1, h2, h3⟩
    have a := alg_in (w := opp w) (k := k) hG hc
    exact ⟨k, h1, h2, by rw [h c hc.1 (by omega), h _ a.1 (by omega)] at h3; exact h3⟩
  · rintro ⟨k, h1, h2, h3⟩
    have a := alg_in (w := opp w) (k := k) hG hc
    exact ⟨k, h1, h2, by rw [h c hc.1 (by omega), h _ a.1 (by omega)]; exact h3⟩
theorem yld_eq (hG : Geo C R) (hc : 0 ≤ c ∧ c < C * R) (h : eq96 H H') (hg : eq96 G G') : yld C R H G sh c w ↔ yld C R H' G' sh c w := by
  have hn := geo_n hG
  unfold yld
  rw [h c hc.1 (by omega), hg c hc.1 (by omega), shd_eq hG hc h]
theorem fsp_at {n : Nat} (h1 : 0 ≤ c ∧ c < n) (h2 : wdn C R H S c ≠ -1) (h3 : ∀ i, 0 ≤ i → i < c → wdn C R H S i = -1) : fsp C R S H n 0 = c := by
  rcases fsp_spec (C := C) (R := R) (S := S) (H := H) n 0 with ⟨-, h⟩ | ⟨p1, p2, p3, p4⟩
  · exact absurd (h c h1.1 (by omega)) h2
  · rcases Int.lt_trichotomy (fsp C R S H n 0) c with h | h | h
    · exact absurd (h3 _ p1 h) p3
    · exact h
    · exact absurd (p4 c h1.1 h) h2
theorem c_settles (h : zRf M C R) (hl : -1 ≤ M 1 26 ∧ M 1 26 ≤ 12) (hz : repz M z) (hB : Bd z.1) (hq : ssq z.1 < 2000000) : zKv g (z2 o) mX10_settles [zA g 1] M (fun M' => repz M' (stz C R (M 3 5) 1000000 z) ∧ rfz M M') := by
  have hn := geo_n h.1
  have hS := h.2.2.2.1
  refine zkv_of rfl (Nat.le_of_ble_eq_true rfl) (SX10_settles_0 ?_)
  suffices hs : ∀ (n : Nat) (z : Hz) (M1 : zM), Bd z.1 → repz M1 z → rfz M M1 → ssq z.1 < 2 * n → zT g (z2 o) mX10_settles (zQv (z2 o) (fun M' => repz M' (stz C R (M 3 5) n z) ∧ rfz M M')) 2 [(0, zA g 1), (1, zI 0)] [] M1 from hs 1000000 z M hB hz rfz.rf (by omega)
  intro n
  induction n with
  | zero => intro z M1 hB hz hf hq; have := ssq_nn z.1; omega
  | succ n ih =>
    intro z M1 hB hz hf hq
    have hL1 := hf.L h
    have e35 : M1 3 = M 3 := hf.1 3 (by decide) (by decide)
    suffices hi : ∀ (m : Nat) (c : Int), 0 ≤ c → c + m = C * R → (∀ i, 0 ≤ i → i < c → wdn C R z.1 (M 3 5) i = -1) → zT g (z2 o) mX10_settles (zQv (z2 o) (fun M' => repz M' (stz C R (M 3 5) (n + 1) z) ∧ rfz M M')) 2 [(0, zA g 1), (1, zI c)] [] M1 from hi (C * R).toNat 0 (by omega) (by omega) (fun i h1 h2 => by omega)
    intro m
    induction m with
    | zero =>
      intro c h0 hcm hno
      refine SX10_settles_2 ⟨hL1, by omega, by omega, fun h4 => ?_, fun h4 => by omega⟩
      rcases fsp_spec (C := C) (R := R) (S := M 3 5) (H := z.1) (C * R).toNat 0 with ⟨e, -⟩ | ⟨p1, p2, p3, -⟩
      · have es : stz C R (M 3 5) (n + 1) z = z := by show (if _ then _ else _) = _; rw [if_pos e]
        rw [es]; exact ⟨hz, hf⟩
      · exact absurd (hno _ p1 (by omega)) p3
    | succ m ihm =>
      intro c h0 hcm hno
      have hc : 0 ≤ c ∧ c < C * R := by omega
      have ep := pmn_eq h.1 hc (H := M1 11) (H' := z.1) hz.1 3
      have p := pmn_in (C := C) (R := R) (H := z.1) (c := c) 3
      have a1 := alg_in (w := pmn C R z.1 c 3) (k := 1) h.1 hc
      have b1 := hB _ a1.1 (by omega)
      have b2 := hB c hc.1 (by omega)
      refine SX10_settles_2 ⟨hL1, by omega, by omega, fun h4 => by omega, fun h4 => ?_⟩
      rw [ep, e35, hz.1 _ a1.1 (by omega), hz.1 c hc.1 (by omega)]
      refine ⟨hc, bd_eq hz.1 hB, by omega, by omega, by omega, by omega, by omega, fun h5 => ?_, fun h5 => ?_⟩
      · refine ihm (c + 1) (by omega) (by omega) (fun i i1 i2 => ?_)
        by_cases hi : i = c
        · rw [hi]
          rcases wdn_pmn C R z.1 (M 3 5) c with ⟨e, -⟩ | ⟨-, e2⟩
          · exact e
          · omega
        · exact hno i i1 (by omega)
      · rcases wdn_pmn C R z.1 (M 3 5) c with ⟨-, e2⟩ | ⟨e, e2⟩
        · omega
        · obtain ⟨p1, p3, -, p5⟩ := spill_step (B := 1000000000) (H := z.1) h.1 hS.1 hc e2
          refine ⟨_, c_slides hL1 hc (by omega) (by rw [hf.2.1 26 (by decide) (by decide)]; exact hl) hz, fun M2 hq2 => ?_⟩
          have ef := fsp_at (C := C) (R := R) (S := M 3 5) (H := z.1) (n := (C * R).toNat) (c := c) ⟨hc.1, by omega⟩ (by omega) hno
          have es : stz C R (M 3 5) (n + 1) z = stz C R (M 3 5) n (sldz C R z c (pmn C R z.1 c 3)) := by
            show (if _ then _ else _) = _
            rw [ef, if_neg (by omega), e]
          rw [es]
          refine ih _ M2 (p5 hB) hq2.1 (hf.trans hq2.2) ?_
          have := ssq_sld (H := z.1) (f := c) (t := alg C R c (pmn C R z.1 c 3) 1) (by omega) (by omega) (by omega)
          show ssq (sld z.1 c _) < _
          omega
theorem c_flies (h : zRf M C R) (hc : 0 ≤ c ∧ c < C * R) (hO : RefOK M B T) (hBT : B ≤ 1000000000 ∧ T ≤ 2147483647) (hl : -1 ≤ M 1 26 ∧ M 1 26 ≤ 12) (hX : rX M X) (hH : eq96 (M 11) H) :
    zKi g (z2 o) mX10_flies [zA g 1, zI c] M (fun r M' => r = (fly C R (wnr M (M 11 197)) (M 11 192) H (M 11 193) (M 11 194) (M 11 195) 20 c (M 11 196) X (M 1 23)).1 ∧ M' 11 196 = (fly C R (wnr M (M 11 197)) (M 11 192) H (M 11 193) (M 11 194) (M 11 195) 20 c (M 11 196) X (M 1 23)).2.1 ∧ rX M' (fly C R (wnr M (M 11 197)) (M 11 192) H (M 11 193) (M 11 194) (M 11 195) 20 c (M 11 196) X (M 1 23)).2.2.1 ∧ M' 1 23 = (fly C R (wnr M (M 11 197)) (M 11 192) H (M 11 193) (M 11 194) (M 11 195) 20 c (M 11 196) X (M 1 23)).2.2.2 ∧ (∀ b : Nat, b ≠ 1 → b ≠ 11 → M' b = M b) ∧ (∀ i : Int, i ≠ 23 → i ≠ 25 → M' 1 i = M 1 i) ∧ ∀ i : Int, i ≠ 196 → M' 11 i = M 11 i) := by
  obtain ⟨o1, o2, o3, o4, o5, o6, o7, o8⟩ := hO
  have hn := geo_n h.1
  have w1 := wnr_in (t := M 11 197) h o8.1
  refine zki_of rfl (Nat.le_of_ble_eq_true rfl) (SX10_flies_0 (C := C) (R := R) ⟨h, by omega, ?_⟩)
  suffices hs : ∀ (n : Nat) (i c sd hp : Int) (X : Int → Int) (M1 : zM), 1 ≤ i → i + n = 21 → 1 ≤ n → 0 ≤ c ∧ c < C * R → 0 ≤ sd ∧ sd ≤ 10006 → M1 11 196 = sd → rX M1 X → M1 1 23 = hp → (∀ b : Nat, b ≠ 1 → b ≠ 11 → M1 b = M b) → (∀ i : Int, i ≠ 23 → i ≠ 25 → M1 1 i = M 1 i) → (∀ i : Int, i ≠ 196 → M1 11 i = M 11 i) → zT g (z2 o) mX10_flies (zQi (z2 o) (fun r M' => r = (fly C R (wnr M (M 11 197)) (M 11 192) H (M 11 193) (M 11 194) (M 11 195) n c sd X hp).1 ∧ M' 11 196 = (fly C R (wnr M (M 11 197)) (M 11 192) H (M 11 193) (M 11 194) (M 11 195) n c sd X hp).2.1 ∧ rX M' (fly C R (wnr M (M 11 197)) (M 11 192) H (M 11 193) (M 11 194) (M 11 195) n c sd X hp).2.2.1 ∧ M' 1 23 = (fly C R (wnr M (M 11 197)) (M 11 192) H (M 11 193) (M 11 194) (M 11 195) n c sd X hp).2.2.2 ∧ (∀ b : Nat, b ≠ 1 → b ≠ 11 → M' b = M b) ∧ (∀ i : Int, i ≠ 23 → i ≠ 25 → M' 1 i = M 1 i) ∧ ∀ i : Int, i ≠ 196 → M' 11 i = M 11 i)) 13 [(0, zA g 1), (2, zI (wnr M (M 11 197))), (3, zI c), (4, zI 0), (5, zI i)] [] M1 from
    hs 20 1 c (M 11 196) (M 1 23) X M (by omega) (by omega) (by omega) hc o7 rfl hX rfl (fun _ _ _ => rfl) (fun _ _ _ => rfl) (fun _ _ => rfl)
  intro n
  induction n with
  | zero => intro i c sd hp X M1 i1 i2 i3; omega
  | succ n ih =>
    intro i c sd hp X M1 i1 i2 i3 hc hsd e196 hX e23 fb f1 f11
    have hL1 : zRf M1 C R := h.of (fb 3 (by decide) (by decide)) (fb 4 (by decide) (by decide)) (fb 5 (by decide) (by decide))
    have ehop : M1 11 192 = M 11 192 := f11 192 (by decide)
    obtain ⟨hn', hhn⟩ := znn (show 0 ≤ M 11 192 by omega)
    have hcr := c_crosses (g := g) (o := o) (M := M1) (n := hn') (X := X) (c := c) (w := wnr M (M 11 197)) hL1 hc w1 (by omega) (by rw [f1 26 (by decide) (by decide)]; exact hl) hX
    rw [← hhn, ← ehop] at hcr
    have a1 := alg_in (w := wnr M (M 11 197)) (k := M 11 192) h.1 hc
    have b1 := o1 _ a1.1 (by omega)
    have e : ∀ y, fly C R (wnr M (M 11 197)) (M 11 192) H (M 11 193) (M 11 194) (M 11 195) (n + 1) c sd X hp = y ↔ (if zb (n = 0 ∨ shd C R H (M 11 193) (alg C R c (wnr M (M 11 197)) (M 11 192)) (wnr M (M 11 197))) = 1 then (alg C R c (wnr M (M 11 197)) (M 11 192), sd, hpx C R (wnr M (M 11 197)) (M 11 192).toNat c X, hp + 1)
      else if (sd * 137 + 71) % 10007 % 16 < (if 0 < H (alg C R c (wnr M (M 11 197)) (M 11 192)) then M 11 194 else M 11 195) then (alg C R c (wnr M (M 11 197)) (M 11 192), (sd * 137 + 71) % 10007, hpx C R (wnr M (M 11 197)) (M 11 192).toNat c X, hp + 1)
      else fly C R (wnr M (M 11 197)) (M 11 192) H (M 11 193) (M 11 194) (M 11 195) n (alg C R c (wnr M (M 11 197)) (M 11 192)) ((sd * 137 + 71) % 10007) (hpx C R (wnr M (M 11 197)) (M 11 192).toNat c X) (hp + 1)) = y := fun y => Iff.rfl
    refine SX10_flies_13 (C := C) (R := R) ⟨by decide, fun h4 => absurd rfl h4, fun _ => ⟨_, hcr, fun M4 hq4 => ?_⟩⟩
    obtain ⟨⟨v, e4⟩, hX4⟩ := hq4
    rw [show hn' = (M 11 192).toNat by omega] at hX4
    have g11 : M4 11 = M1 11 := by rw [e4, zu_other (by decide)]
    have gb : ∀ b : Nat, b ≠ 1 → M4 b = M1 b := fun b hb => by rw [e4, zu_other hb]
    have g1 : ∀ i : Int, i ≠ 25 → M4 1 i = M1 1 i := fun i hi => by rw [e4, zu_row, if_neg hi]
    rw [g11, ehop]
    obtain ⟨M5, e5⟩ : ∃ N : zM, N = zu M4 1 23 (M4 1 23 + 1) := ⟨_, rfl⟩
    rw [← e5]
    have h5b : ∀ b : Nat, b ≠ 1 → b ≠ 11 → M5 b = M b := fun b p1 p2 => by rw [e5, zu_other p1, gb b p1, fb b p1 p2]
    have h511 : M5 11 = M1 11 := by rw [e5, zu_other (by decide), g11]
    have h51 : ∀ i : Int, i ≠ 23 → i ≠ 25 → M5 1 i = M 1 i := fun i p1 p2 => by rw [e5, zu_row, if_neg p1, g1 i p2, f1 i p1 p2]
    have h523 : M5 1 23 = hp + 1 := by rw [e5, zu_at, g1 23 (by decide), e23]
    have hX5 : rX M5 (hpx C R (wnr M (M 11 197)) (M 11 192).toNat c X) := by
      unfold rX at hX4 ⊢
      rw [e5, zu_row, if_neg (by decide), zu_row, if_neg (by decide)]; exact hX4
    have hL4 : zRf M4 C R := hL1.of (gb 3 (by decide)) (gb 4 (by decide)) (gb 5 (by decide))
    have hL5 : zRf M5 C R := h.of (h5b 3 (by decide) (by decide)) (h5b 4 (by decide) (by decide)) (h5b 5 (by decide) (by decide))
    have m197 : M5 11 197 = M 11 197 := by rw [h511, f11 197 (by decide)]
    have m193 : M5 11 193 = M 11 193 := by rw [h511, f11 193 (by decide)]
    have m196 : M5 11 196 = sd := by rw [h511, e196]
    have ew : wnr M5 (M5 11 197) = wnr M (M 11 197) := by rw [m197]; unfold wnr; rw [h5b 3 (by decide) (by decide), h5b 4 (by decide) (by decide), h5b 5 (by decide) (by decide)]
    have hH5 : eq96 (M5 11) H := fun i h0 h1 => by rw [h511, f11 i (by omega)]; exact hH i h0 h1
    have hB5 : Bd (M5 11) := fun i h0 h1 => by rw [h511, f11 i (by omega)]; have := o1 i h0 h1; omega
    have done : fly C R (wnr M (M 11 197)) (M 11 192) H (M 11 193) (M 11 194) (M 11 195) (n + 1) c sd X hp = (alg C R c (wnr M (M 11 197)) (M 11 192), sd, hpx C R (wnr M (M 11 197)) (M 11 192).toNat c X, hp + 1) → ∀ i', -2147483648 ≤ i' ∧ i' ≤ 2147483647 → zT g (z2 o) mX10_flies (zQi (z2 o) (fun r M' => r = (fly C R (wnr M (M 11 197)) (M 11 192) H (M 11 193) (M 11 194) (M 11 195) (n + 1) c sd X hp).1 ∧ M' 11 196 = (fly C R (wnr M (M 11 197)) (M 11 192) H (M 11 193) (M 11 194) (M 11 195) (n + 1) c sd X hp).2.1 ∧ rX M' (fly C R (wnr M (M 11 197)) (M 11 192) H (M 11 193) (M 11 194) (M 11 195) (n + 1) c sd X hp).2.2.1 ∧ M' 1 23 = (fly C R (wnr M (M 11 197)) (M 11 192) H (M 11 193) (M 11 194) (M 11 195) (n + 1) c sd X hp).2.2.2 ∧ (∀ b : Nat, b ≠ 1 → b ≠ 11 → M' b = M b) ∧ (∀ i : Int, i ≠ 23 → i ≠ 25 → M' 1 i = M 1 i) ∧ ∀ i : Int, i ≠ 196 → M' 11 i = M 11 i)) 13 [(0, zA g 1), (2, zI (wnr M (M 11 197))), (3, zI (alg C R c (wnr M (M 11 197)) (M 11 192))), (4, zI 1), (5, zI i')] [] M5 := by
      intro ed i' _
      refine SX10_flies_13 (C := C) (R := R) ⟨by decide, fun _ => ?_, fun h4 => absurd h4 (by decide)⟩
      rw [ed]
      exact ⟨rfl, m196, hX5, h523, h5b, h51, fun i p => by rw [h511, f11 i p]⟩
    rw [m197, m193, m196]
    have ew' : wnr M5 (M 11 197) = wnr M (M 11 197) := by rw [← m197, ew, m197]
    rw [ew']
    refine ⟨hL4, hc, w1, by omega, by omega, fun h6 => ?_, fun h6 => ⟨hL5, a1, by omega, hB5, by omega, fun h7 => ⟨hsd, by decide, fun r25 N27 e25 e27 => ?_⟩, fun h7 => ?_⟩⟩
    · exact SX10_flies_72 (done ((e _).mpr (if_pos (zb_t (Or.inl (by omega))))) _ (by omega))
    · have hz : ¬ zb (n = 0 ∨ shd C R H (M 11 193) (alg C R c (wnr M (M 11 197)) (M 11 192)) (wnr M (M 11 197))) = 1 := fun q => by
        rcases zb_1.mp q with q | q
        · omega
        · exact h7 ((shd_eq h.1 a1 hH5).mpr q)
      have n11 : ∀ i : Int, i ≠ 196 → N27 11 i = M 11 i := fun i p => by rw [e27, zu_row, if_neg p, h511, f11 i p]
      have n196 : N27 11 196 = dsd sd := by rw [e27, zu_at]
      have nb : ∀ b : Nat, b ≠ 1 → b ≠ 11 → N27 b = M b := fun b p1 p2 => by rw [e27, zu_other p2, h5b b p1 p2]
      have n1' : N27 1 = M5 1 := by rw [e27, zu_other (by decide)]
      have nX : rX N27 (hpx C R (wnr M (M 11 197)) (M 11 192).toNat c X) := by unfold rX; rw [n1']; exact hX5
      have eH : N27 11 (alg C R c (wnr M (M 11 197)) (M 11 192)) = H (alg C R c (wnr M (M 11 197)) (M 11 192)) := by rw [n11 _ (by omega)]; exact hH _ a1.1 (by omega)
      have bH : 0 ≤ H (alg C R c (wnr M (M 11 197)) (M 11 192)) ∧ H (alg C R c (wnr M (M 11 197)) (M 11 192)) ≤ B := by rw [← hH _ a1.1 (by omega)]; exact b1
      have dd := dsd_in sd
      have go : (¬ (sd * 137 + 71) % 10007 % 16 < (if 0 < H (alg C R c (wnr M (M 11 197)) (M 11 192)) then M 11 194 else M 11 195)) → _ := fun hlt => by
        have hk := ih (i + 1) (alg C R c (wnr M (M 11 197)) (M 11 192)) (dsd sd) (hp + 1) (hpx C R (wnr M (M 11 197)) (M 11 192).toNat c X) N27 (by omega) (by omega) (by omega) a1 dd n196 nX (by rw [n1', h523]) nb (fun i p1 p2 => by rw [n1', h51 i p1 p2]) n11
        have ed := (e _).mpr ((if_neg hz).trans (if_neg hlt))
        exact (show _ from ed ▸ hk)
      have stop : ((sd * 137 + 71) % 10007 % 16 < (if 0 < H (alg C R c (wnr M (M 11 197)) (M 11 192)) then M 11 194 else M 11 195)) → _ := fun hlt => by
        have ed := (e _).mpr ((if_neg hz).trans (if_pos hlt))
        exact SX10_flies_13 (g := g) (o := o) (C := C) (R := R) (M := N27) (x2 := wnr M (M 11 197)) (x3 := alg C R c (wnr M (M 11 197)) (M 11 192)) (x4 := 1) (x5 := i + 1) (q := fun r M' => r = (fly C R (wnr M (M 11 197)) (M 11 192) H (M 11 193) (M 11 194) (M 11 195) (n + 1) c sd X hp).1 ∧ M' 11 196 = (fly C R (wnr M (M 11 197)) (M 11 192) H (M 11 193) (M 11 194) (M 11 195) (n + 1) c sd X hp).2.1 ∧ rX M' (fly C R (wnr M (M 11 197)) (M 11 192) H (M 11 193) (M 11 194) (M 11 195) (n + 1) c sd X hp).2.2.1 ∧ M' 1 23 = (fly C R (wnr M (M 11 197)) (M 11 192) H (M 11 193) (M 11 194) (M 11 195) (n + 1) c sd X hp).2.2.2 ∧ (∀ b : Nat, b ≠ 1 → b ≠ 11 → M' b = M b) ∧ (∀ i : Int, i ≠ 23 → i ≠ 25 → M' 1 i = M 1 i) ∧ ∀ i : Int, i ≠ 196 → M' 11 i = M 11 i) ⟨by decide, fun _ => by rw [ed]; exact ⟨rfl, n196, nX, by rw [n1', h523], nb, fun i p1 p2 => by rw [n1', h51 i p1 p2], n11⟩, fun h4 => absurd h4 (by decide)⟩
      have er : r25 = (sd * 137 + 71) % 10007 % 16 := e25
      rw [eH, n11 194 (by decide), n11 195 (by decide)]
      refine ⟨by omega, by omega, fun h8 => ⟨by omega, by omega, fun h9 => ?_, fun h9 => ?_⟩, fun h8 => ⟨by omega, by omega, fun h9 => ?_, fun h9 => ?_⟩⟩
      · exact go (by rw [if_neg (by omega)]; omega)
      · exact stop (by rw [if_neg (by omega)]; omega)
      · exact go (by rw [if_pos (by omega)]; omega)
      · exact stop (by rw [if_pos (by omega)]; omega)
    · exact SX10_flies_72 (done ((e _).mpr (if_pos (zb_t (Or.inr ((shd_eq h.1 a1 hH5).mp h7))))) _ (by omega))
end RS
