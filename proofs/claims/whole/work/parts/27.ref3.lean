theorem dX10_windNow_0 : decode cX10_windNow 0 = .ok (.aload_n 0, 1) := by decide +kernel
theorem dX10_windNow_1 : decode cX10_windNow 1 = .ok (.aload_n 0, 1) := by decide +kernel
theorem dX10_windNow_2 : decode cX10_windNow 2 = .ok (.getfield 45, 3) := by decide +kernel
theorem dX10_windNow_5 : decode cX10_windNow 5 = .ok (.sipush 197, 3) := by decide +kernel
theorem dX10_windNow_8 : decode cX10_windNow 8 = .ok (.iaload, 1) := by decide +kernel
theorem dX10_windNow_9 : decode cX10_windNow 9 = .ok (.invokevirtual 270, 3) := by decide +kernel
theorem dX10_windNow_12 : decode cX10_windNow 12 = .ok (.ireturn, 1) := by decide +kernel
set_option maxRecDepth 100000 in
theorem SX10_windNow_0 {g : zG} {o : Bool} {C R : Int} {M : zM} {q : Int → zM → Prop} (W : (zRf M C R) ∧ (0 ≤ (M 11 197) ∧ (M 11 197) ≤ 2147483647) ∧ q (wnr M (M 11 197)) M) : zT g (z2 o) mX10_windNow (zQi (z2 o) q) 0 [(0, zA g 1)] [] M := by
  refine zr_aload_n 0 dX10_windNow_0 rfl ?_
  refine zr_aload_n 0 dX10_windNow_1 rfl ?_
  refine zr_getr (b := 11) dX10_windNow_2 fX10_45 rfl rfl rfl (by decide) ?_
  refine zr_sipush dX10_windNow_5 (by decide) ?_
  refine zr_iald dX10_windNow_8 rfl (by decide) ⟨by decide, by decide⟩ ?_
  obtain ⟨c1, W⟩ := W
  obtain ⟨c2, W⟩ := W
  refine zt_callVi (As := [zI (M 11 197)]) (rest := []) dX10_windNow_9 kX10_windNow_270 rfl rfl rfl rfl (Nat.le_of_ble_eq_true rfl) (c_windOf c1 c2) (fun r3 N5 h4 => ?_)
  rw [h4.1, h4.2]
  exact zt_iret dX10_windNow_12 rfl W
theorem dX10_wayTo_0 : decode cX10_wayTo 0 = .ok (.iconst 0, 1) := by decide +kernel
theorem dX10_wayTo_1 : decode cX10_wayTo 1 = .ok (.istore_n 3, 1) := by decide +kernel
theorem dX10_wayTo_2 : decode cX10_wayTo 2 = .ok (.iconst 1, 1) := by decide +kernel
theorem dX10_wayTo_3 : decode cX10_wayTo 3 = .ok (.istore 4, 2) := by decide +kernel
theorem dX10_wayTo_5 : decode cX10_wayTo 5 = .ok (.iload 4, 2) := by decide +kernel
theorem dX10_wayTo_7 : decode cX10_wayTo 7 = .ok (.iconst 4, 1) := by decide +kernel
theorem dX10_wayTo_8 : decode cX10_wayTo 8 = .ok (.if_icmp .ge 62, 3) := by decide +kernel
theorem dX10_wayTo_11 : decode cX10_wayTo 11 = .ok (.aload_n 0, 1) := by decide +kernel
theorem dX10_wayTo_12 : decode cX10_wayTo 12 = .ok (.getfield 45, 3) := by decide +kernel
theorem dX10_wayTo_15 : decode cX10_wayTo 15 = .ok (.aload_n 0, 1) := by decide +kernel
theorem dX10_wayTo_16 : decode cX10_wayTo 16 = .ok (.iload_n 1, 1) := by decide +kernel
theorem dX10_wayTo_17 : decode cX10_wayTo 17 = .ok (.iload 4, 2) := by decide +kernel
theorem dX10_wayTo_19 : decode cX10_wayTo 19 = .ok (.iconst 1, 1) := by decide +kernel
theorem dX10_wayTo_20 : decode cX10_wayTo 20 = .ok (.invokevirtual 282, 3) := by decide +kernel
theorem dX10_wayTo_23 : decode cX10_wayTo 23 = .ok (.iaload, 1) := by decide +kernel
theorem dX10_wayTo_24 : decode cX10_wayTo 24 = .ok (.istore 5, 2) := by decide +kernel
theorem dX10_wayTo_26 : decode cX10_wayTo 26 = .ok (.aload_n 0, 1) := by decide +kernel
theorem dX10_wayTo_27 : decode cX10_wayTo 27 = .ok (.getfield 45, 3) := by decide +kernel
theorem dX10_wayTo_30 : decode cX10_wayTo 30 = .ok (.aload_n 0, 1) := by decide +kernel
theorem dX10_wayTo_31 : decode cX10_wayTo 31 = .ok (.iload_n 1, 1) := by decide +kernel
theorem dX10_wayTo_32 : decode cX10_wayTo 32 = .ok (.iload_n 3, 1) := by decide +kernel
theorem dX10_wayTo_33 : decode cX10_wayTo 33 = .ok (.iconst 1, 1) := by decide +kernel
theorem dX10_wayTo_34 : decode cX10_wayTo 34 = .ok (.invokevirtual 282, 3) := by decide +kernel
theorem dX10_wayTo_37 : decode cX10_wayTo 37 = .ok (.iaload, 1) := by decide +kernel
theorem dX10_wayTo_38 : decode cX10_wayTo 38 = .ok (.istore 6, 2) := by decide +kernel
theorem dX10_wayTo_40 : decode cX10_wayTo 40 = .ok (.iload_n 2, 1) := by decide +kernel
theorem dX10_wayTo_41 : decode cX10_wayTo 41 = .ok (.ifCond .eq 13, 3) := by decide +kernel
theorem dX10_wayTo_44 : decode cX10_wayTo 44 = .ok (.iload 5, 2) := by decide +kernel
theorem dX10_wayTo_46 : decode cX10_wayTo 46 = .ok (.iload 6, 2) := by decide +kernel
theorem dX10_wayTo_48 : decode cX10_wayTo 48 = .ok (.if_icmp .le 16, 3) := by decide +kernel
theorem dX10_wayTo_51 : decode cX10_wayTo 51 = .ok (.goto 10, 3) := by decide +kernel
theorem dX10_wayTo_54 : decode cX10_wayTo 54 = .ok (.iload 5, 2) := by decide +kernel
theorem dX10_wayTo_56 : decode cX10_wayTo 56 = .ok (.iload 6, 2) := by decide +kernel
theorem dX10_wayTo_58 : decode cX10_wayTo 58 = .ok (.if_icmp .ge 6, 3) := by decide +kernel
theorem dX10_wayTo_61 : decode cX10_wayTo 61 = .ok (.iload 4, 2) := by decide +kernel
theorem dX10_wayTo_63 : decode cX10_wayTo 63 = .ok (.istore_n 3, 1) := by decide +kernel
theorem dX10_wayTo_64 : decode cX10_wayTo 64 = .ok (.iinc 4 1, 3) := by decide +kernel
theorem dX10_wayTo_67 : decode cX10_wayTo 67 = .ok (.goto (-62), 3) := by decide +kernel
theorem dX10_wayTo_70 : decode cX10_wayTo 70 = .ok (.iload_n 3, 1) := by decide +kernel
theorem dX10_wayTo_71 : decode cX10_wayTo 71 = .ok (.ireturn, 1) := by decide +kernel
set_option maxRecDepth 100000 in
theorem SX10_wayTo_0 {g : zG} {o : Bool} {M : zM} {q : Int → zM → Prop} {x1 x2 : Int} (W : zT g (z2 o) mX10_wayTo (zQi (z2 o) q) 5 [(0, zA g 1), (1, zI x1), (2, zI x2), (3, zI 0), (4, zI 1)] [] M) : zT g (z2 o) mX10_wayTo (zQi (z2 o) q) 0 [(0, zA g 1), (1, zI x1), (2, zI x2)] [] M := by
  refine zr_iconst dX10_wayTo_0 ?_
  refine zr_istore_n (l' := [(0, zA g 1), (1, zI x1), (2, zI x2), (3, zI 0)]) dX10_wayTo_1 (by decide) [1, 2, 3, 0] rfl ?_
  refine zr_iconst dX10_wayTo_2 ?_
  refine zr_istore (l' := [(0, zA g 1), (1, zI x1), (2, zI x2), (3, zI 0), (4, zI 1)]) dX10_wayTo_3 (by decide) [1, 2, 3, 4, 0] rfl ?_
  exact W
set_option maxRecDepth 100000 in
theorem SX10_wayTo_5 {g : zG} {o : Bool} {C R : Int} {M : zM} {q : Int → zM → Prop} {x1 x2 x3 x4 : Int} (W : (-2147483648 ≤ x4 ∧ x4 ≤ 2147483647) ∧ ((4 ≤ x4) → q x3 M) ∧ ((¬ (4 ≤ x4)) → (zRf M C R) ∧ (0 ≤ x1 ∧ x1 < C * R) ∧ (0 ≤ x4 ∧ x4 ≤ 3) ∧ (0 ≤ (alg C R x1 x4 1) ∧ (alg C R x1 x4 1) < 198) ∧ (0 ≤ x3 ∧ x3 ≤ 3) ∧ (0 ≤ (alg C R x1 x3 1) ∧ (alg C R x1 x3 1) < 198) ∧ (-2147483648 ≤ x2 ∧ x2 ≤ 2147483647) ∧ ((x2 = 0) → (-2147483648 ≤ (M 11 (alg C R x1 x4 1)) ∧ (M 11 (alg C R x1 x4 1)) ≤ 2147483647) ∧ (-2147483648 ≤ (M 11 (alg C R x1 x3 1)) ∧ (M 11 (alg C R x1 x3 1)) ≤ 2147483647) ∧ (((M 11 (alg C R x1 x3 1)) ≤ (M 11 (alg C R x1 x4 1))) → zT g (z2 o) mX10_wayTo (zQi (z2 o) q) 5 [(0, zA g 1), (1, zI x1), (2, zI x2), (3, zI x3), (4, zI (x4 + 1))] [] M) ∧ ((¬ ((M 11 (alg C R x1 x3 1)) ≤ (M 11 (alg C R x1 x4 1)))) → zT g (z2 o) mX10_wayTo (zQi (z2 o) q) 5 [(0, zA g 1), (1, zI x1), (2, zI x2), (3, zI x4), (4, zI (x4 + 1))] [] M)) ∧ ((¬ (x2 = 0)) → (-2147483648 ≤ (M 11 (alg C R x1 x4 1)) ∧ (M 11 (alg C R x1 x4 1)) ≤ 2147483647) ∧ (-2147483648 ≤ (M 11 (alg C R x1 x3 1)) ∧ (M 11 (alg C R x1 x3 1)) ≤ 2147483647) ∧ (((M 11 (alg C R x1 x4 1)) ≤ (M 11 (alg C R x1 x3 1))) → zT g (z2 o) mX10_wayTo (zQi (z2 o) q) 5 [(0, zA g 1), (1, zI x1), (2, zI x2), (3, zI x3), (4, zI (x4 + 1))] [] M) ∧ ((¬ ((M 11 (alg C R x1 x4 1)) ≤ (M 11 (alg C R x1 x3 1)))) → zT g (z2 o) mX10_wayTo (zQi (z2 o) q) 5 [(0, zA g 1), (1, zI x1), (2, zI x2), (3, zI x4), (4, zI (x4 + 1))] [] M)))) : zT g (z2 o) mX10_wayTo (zQi (z2 o) q) 5 [(0, zA g 1), (1, zI x1), (2, zI x2), (3, zI x3), (4, zI x4)] [] M := by
  refine zr_iload 4 dX10_wayTo_5 rfl ?_
  refine zr_iconst dX10_wayTo_7 ?_
  obtain ⟨c1, W⟩ := W
  refine zr_icmp_ge (tgt := 70) dX10_wayTo_8 (by decide) c1 ⟨by decide, by decide⟩ (fun h => ?_) (fun h => ?_)
  · have W := W.1 h
    refine zr_iload_n 3 dX10_wayTo_70 rfl ?_
    exact zt_iret dX10_wayTo_71 rfl W
  · have W := W.2 h
    refine zr_aload_n 0 dX10_wayTo_11 rfl ?_
    refine zr_getr (b := 11) dX10_wayTo_12 fX10_45 rfl rfl rfl (by decide) ?_
    refine zr_aload_n 0 dX10_wayTo_15 rfl ?_
    refine zr_iload_n 1 dX10_wayTo_16 rfl ?_
    refine zr_iload 4 dX10_wayTo_17 rfl ?_
    refine zr_iconst dX10_wayTo_19 ?_
    obtain ⟨c2, W⟩ := W
    obtain ⟨c3, W⟩ := W
    obtain ⟨c4, W⟩ := W
    refine zt_callVi (As := [zI x1, zI x4, zI 1]) (rest := [zA g 11]) dX10_wayTo_20 kX10_wayTo_282 rfl rfl rfl rfl (Nat.le_of_ble_eq_true rfl) (c_along c2 c3 c4 (by decide)) (fun r5 N7 h6 => ?_)
    rw [h6.1, h6.2]
    obtain ⟨c8, W⟩ := W
    refine zr_iald dX10_wayTo_23 rfl (by decide) c8 ?_
    refine zr_istore (l' := [(0, zA g 1), (1, zI x1), (2, zI x2), (3, zI x3), (4, zI x4), (5, zI (M 11 (alg C R x1 x4 1)))]) dX10_wayTo_24 (by decide) [1, 2, 3, 4, 5, 0] rfl ?_
    refine zr_aload_n 0 dX10_wayTo_26 rfl ?_
    refine zr_getr (b := 11) dX10_wayTo_27 fX10_45 rfl rfl rfl (by decide) ?_
    refine zr_aload_n 0 dX10_wayTo_30 rfl ?_
    refine zr_iload_n 1 dX10_wayTo_31 rfl ?_
    refine zr_iload_n 3 dX10_wayTo_32 rfl ?_
    refine zr_iconst dX10_wayTo_33 ?_
    obtain ⟨c9, W⟩ := W
    refine zt_callVi (As := [zI x1, zI x3, zI 1]) (rest := [zA g 11]) dX10_wayTo_34 kX10_wayTo_282 rfl rfl rfl rfl (Nat.le_of_ble_eq_true rfl) (c_along c2 c3 c9 (by decide)) (fun r10 N12 h11 => ?_)
    rw [h11.1, h11.2]
    obtain ⟨c13, W⟩ := W
    refine zr_iald dX10_wayTo_37 rfl (by decide) c13 ?_
    refine zr_istore (l' := [(0, zA g 1), (1, zI x1), (2, zI x2), (3, zI x3), (4, zI x4), (5, zI (M 11 (alg C R x1 x4 1))), (6, zI (M 11 (alg C R x1 x3 1)))]) dX10_wayTo_38 (by decide) [1, 2, 3, 4, 5, 6, 0] rfl ?_
    refine zr_iload_n 2 dX10_wayTo_40 rfl ?_
    obtain ⟨c14, W⟩ := W
    refine zr_if_eq (tgt := 54) dX10_wayTo_41 (by decide) c14 (fun h => ?_) (fun h => ?_)
    · have W := W.1 h
      refine zr_iload 5 dX10_wayTo_54 rfl ?_
      refine zr_iload 6 dX10_wayTo_56 rfl ?_
      obtain ⟨c15, W⟩ := W
      obtain ⟨c16, W⟩ := W
      refine zr_icmp_ge (tgt := 64) dX10_wayTo_58 (by decide) c15 c16 (fun h => ?_) (fun h => ?_)
      · have W := W.1 h
        refine zr_iinc (q := 4) (l' := [(0, zA g 1), (1, zI x1), (2, zI x2), (3, zI x3), (4, zI (x4 + 1))]) dX10_wayTo_64 rfl (by decide) [1, 2, 3, 4, 0] rfl ?_
        refine zr_goto (tgt := 5) dX10_wayTo_67 (by decide) ?_
        exact W
      · have W := W.2 h
        refine zr_iload 4 dX10_wayTo_61 rfl ?_
        refine zr_istore_n (l' := [(0, zA g 1), (1, zI x1), (2, zI x2), (3, zI x4), (4, zI x4)]) dX10_wayTo_63 (by decide) [1, 2, 3, 0, 4] rfl ?_
        refine zr_iinc (q := 4) (l' := [(0, zA g 1), (1, zI x1), (2, zI x2), (3, zI x4), (4, zI (x4 + 1))]) dX10_wayTo_64 rfl (by decide) [1, 2, 3, 4, 0] rfl ?_
        refine zr_goto (tgt := 5) dX10_wayTo_67 (by decide) ?_
        exact W
    · have W := W.2 h
      refine zr_iload 5 dX10_wayTo_44 rfl ?_
      refine zr_iload 6 dX10_wayTo_46 rfl ?_
      obtain ⟨c17, W⟩ := W
      obtain ⟨c18, W⟩ := W
      refine zr_icmp_le (tgt := 64) dX10_wayTo_48 (by decide) c17 c18 (fun h => ?_) (fun h => ?_)
      · have W := W.1 h
        refine zr_iinc (q := 4) (l' := [(0, zA g 1), (1, zI x1), (2, zI x2), (3, zI x3), (4, zI (x4 + 1))]) dX10_wayTo_64 rfl (by decide) [1, 2, 3, 4, 0] rfl ?_
        refine zr_goto (tgt := 5) dX10_wayTo_67 (by decide) ?_
        exact W
      · have W := W.2 h
        refine zr_goto (tgt := 61) dX10_wayTo_51 (by decide) ?_
        refine zr_iload 4 dX10_wayTo_61 rfl ?_
        refine zr_istore_n (l' := [(0, zA g 1), (1, zI x1), (2, zI x2), (3, zI x4), (4, zI x4)]) dX10_wayTo_63 (by decide) [1, 2, 3, 0, 4] rfl ?_
        refine zr_iinc (q := 4) (l' := [(0, zA g 1), (1, zI x1), (2, zI x2), (3, zI x4), (4, zI (x4 + 1))]) dX10_wayTo_64 rfl (by decide) [1, 2, 3, 4, 0] rfl ?_
        refine zr_goto (tgt := 5) dX10_wayTo_67 (by decide) ?_
        exact W
theorem dX10_crosses_0 : decode cX10_crosses 0 = .ok (.iload_n 2, 1) := by decide +kernel
theorem dX10_crosses_1 : decode cX10_crosses 1 = .ok (.iconst 2, 1) := by decide +kernel
theorem dX10_crosses_2 : decode cX10_crosses 2 = .ok (.irem, 1) := by decide +kernel
theorem dX10_crosses_3 : decode cX10_crosses 3 = .ok (.iconst 1, 1) := by decide +kernel
theorem dX10_crosses_4 : decode cX10_crosses 4 = .ok (.if_icmp .eq 11, 3) := by decide +kernel
theorem dX10_crosses_7 : decode cX10_crosses 7 = .ok (.aload_n 0, 1) := by decide +kernel
theorem dX10_crosses_8 : decode cX10_crosses 8 = .ok (.getfield 48, 3) := by decide +kernel
theorem dX10_crosses_11 : decode cX10_crosses 11 = .ok (.iconst (-1), 1) := by decide +kernel
theorem dX10_crosses_12 : decode cX10_crosses 12 = .ok (.if_icmp .ne 4, 3) := by decide +kernel
theorem dX10_crosses_15 : decode cX10_crosses 15 = .ok (.return_, 1) := by decide +kernel
theorem dX10_crosses_16 : decode cX10_crosses 16 = .ok (.iconst 0, 1) := by decide +kernel
theorem dX10_crosses_17 : decode cX10_crosses 17 = .ok (.istore 4, 2) := by decide +kernel
theorem dX10_crosses_19 : decode cX10_crosses 19 = .ok (.iload 4, 2) := by decide +kernel
theorem dX10_crosses_21 : decode cX10_crosses 21 = .ok (.iload_n 3, 1) := by decide +kernel
theorem dX10_crosses_22 : decode cX10_crosses 22 = .ok (.if_icmp .ge 88, 3) := by decide +kernel
theorem dX10_crosses_25 : decode cX10_crosses 25 = .ok (.aload_n 0, 1) := by decide +kernel
theorem dX10_crosses_26 : decode cX10_crosses 26 = .ok (.iload_n 1, 1) := by decide +kernel
theorem dX10_crosses_27 : decode cX10_crosses 27 = .ok (.iload_n 2, 1) := by decide +kernel
theorem dX10_crosses_28 : decode cX10_crosses 28 = .ok (.iload 4, 2) := by decide +kernel
theorem dX10_crosses_30 : decode cX10_crosses 30 = .ok (.invokevirtual 282, 3) := by decide +kernel
theorem dX10_crosses_33 : decode cX10_crosses 33 = .ok (.aload_n 0, 1) := by decide +kernel
theorem dX10_crosses_34 : decode cX10_crosses 34 = .ok (.invokevirtual 255, 3) := by decide +kernel
theorem dX10_crosses_37 : decode cX10_crosses 37 = .ok (.irem, 1) := by decide +kernel
theorem dX10_crosses_38 : decode cX10_crosses 38 = .ok (.istore 5, 2) := by decide +kernel
theorem dX10_crosses_40 : decode cX10_crosses 40 = .ok (.aload_n 0, 1) := by decide +kernel
theorem dX10_crosses_41 : decode cX10_crosses 41 = .ok (.iload_n 1, 1) := by decide +kernel
theorem dX10_crosses_42 : decode cX10_crosses 42 = .ok (.iload_n 2, 1) := by decide +kernel
theorem dX10_crosses_43 : decode cX10_crosses 43 = .ok (.iload 4, 2) := by decide +kernel
theorem dX10_crosses_45 : decode cX10_crosses 45 = .ok (.iconst 1, 1) := by decide +kernel
theorem dX10_crosses_46 : decode cX10_crosses 46 = .ok (.iadd, 1) := by decide +kernel
theorem dX10_crosses_47 : decode cX10_crosses 47 = .ok (.invokevirtual 282, 3) := by decide +kernel
theorem dX10_crosses_50 : decode cX10_crosses 50 = .ok (.aload_n 0, 1) := by decide +kernel
theorem dX10_crosses_51 : decode cX10_crosses 51 = .ok (.invokevirtual 255, 3) := by decide +kernel
theorem dX10_crosses_54 : decode cX10_crosses 54 = .ok (.irem, 1) := by decide +kernel
theorem dX10_crosses_55 : decode cX10_crosses 55 = .ok (.istore 6, 2) := by decide +kernel
theorem dX10_crosses_57 : decode cX10_crosses 57 = .ok (.iload_n 2, 1) := by decide +kernel
theorem dX10_crosses_58 : decode cX10_crosses 58 = .ok (.ifCond .ne 22, 3) := by decide +kernel
theorem dX10_crosses_61 : decode cX10_crosses 61 = .ok (.iload 6, 2) := by decide +kernel
theorem dX10_crosses_63 : decode cX10_crosses 63 = .ok (.aload_n 0, 1) := by decide +kernel
theorem dX10_crosses_64 : decode cX10_crosses 64 = .ok (.getfield 48, 3) := by decide +kernel
theorem dX10_crosses_67 : decode cX10_crosses 67 = .ok (.if_icmp .ne 13, 3) := by decide +kernel
theorem dX10_crosses_70 : decode cX10_crosses 70 = .ok (.aload_n 0, 1) := by decide +kernel
theorem dX10_crosses_71 : decode cX10_crosses 71 = .ok (.dup, 1) := by decide +kernel
theorem dX10_crosses_72 : decode cX10_crosses 72 = .ok (.getfield 267, 3) := by decide +kernel
theorem dX10_crosses_75 : decode cX10_crosses 75 = .ok (.iconst 1, 1) := by decide +kernel
theorem dX10_crosses_76 : decode cX10_crosses 76 = .ok (.iadd, 1) := by decide +kernel
theorem dX10_crosses_77 : decode cX10_crosses 77 = .ok (.putfield 267, 3) := by decide +kernel
theorem dX10_crosses_80 : decode cX10_crosses 80 = .ok (.iload_n 2, 1) := by decide +kernel
theorem dX10_crosses_81 : decode cX10_crosses 81 = .ok (.iconst 2, 1) := by decide +kernel
theorem dX10_crosses_82 : decode cX10_crosses 82 = .ok (.if_icmp .ne 22, 3) := by decide +kernel
theorem dX10_crosses_85 : decode cX10_crosses 85 = .ok (.iload 5, 2) := by decide +kernel
theorem dX10_crosses_87 : decode cX10_crosses 87 = .ok (.aload_n 0, 1) := by decide +kernel
theorem dX10_crosses_88 : decode cX10_crosses 88 = .ok (.getfield 48, 3) := by decide +kernel
theorem dX10_crosses_91 : decode cX10_crosses 91 = .ok (.if_icmp .ne 13, 3) := by decide +kernel
theorem dX10_crosses_94 : decode cX10_crosses 94 = .ok (.aload_n 0, 1) := by decide +kernel
theorem dX10_crosses_95 : decode cX10_crosses 95 = .ok (.dup, 1) := by decide +kernel
theorem dX10_crosses_96 : decode cX10_crosses 96 = .ok (.getfield 267, 3) := by decide +kernel
theorem dX10_crosses_99 : decode cX10_crosses 99 = .ok (.iconst 1, 1) := by decide +kernel
theorem dX10_crosses_100 : decode cX10_crosses 100 = .ok (.isub, 1) := by decide +kernel
theorem dX10_crosses_101 : decode cX10_crosses 101 = .ok (.putfield 267, 3) := by decide +kernel
theorem dX10_crosses_104 : decode cX10_crosses 104 = .ok (.iinc 4 1, 3) := by decide +kernel
theorem dX10_crosses_107 : decode cX10_crosses 107 = .ok (.goto (-88), 3) := by decide +kernel
theorem dX10_crosses_110 : decode cX10_crosses 110 = .ok (.return_, 1) := by decide +kernel
set_option maxRecDepth 100000 in
theorem SX10_crosses_0 {g : zG} {o : Bool} {M : zM} {q : zM → Prop} {x1 x2 x3 : Int} (W : (0 ≤ x2 ∧ x2 ≤ 2147483647) ∧ (-2147483648 ≤ (x2 % 2) ∧ (x2 % 2) ≤ 2147483647) ∧ (((x2 % 2) = 1) → q M) ∧ ((¬ ((x2 % 2) = 1)) → (-2147483648 ≤ (M 1 26) ∧ (M 1 26) ≤ 2147483647) ∧ (((M 1 26) ≠ (-1)) → zT g (z2 o) mX10_crosses (zQv (z2 o) q) 19 [(0, zA g 1), (1, zI x1), (2, zI x2), (3, zI x3), (4, zI 0)] [] M) ∧ (((M 1 26) = (-1)) → q M))) : zT g (z2 o) mX10_crosses (zQv (z2 o) q) 0 [(0, zA g 1), (1, zI x1), (2, zI x2), (3, zI x3)] [] M := by
  refine zr_iload_n 2 dX10_crosses_0 rfl ?_
  refine zr_iconst dX10_crosses_1 ?_
  obtain ⟨c1, W⟩ := W
  refine zr_irem dX10_crosses_2 c1 ⟨by decide, by decide⟩ ?_
  refine zr_iconst dX10_crosses_3 ?_
  obtain ⟨c2, W⟩ := W
  refine zr_icmp_eq (tgt := 15) dX10_crosses_4 (by decide) c2 ⟨by decide, by decide⟩ (fun h => ?_) (fun h => ?_)
  · have W := W.1 h
    exact zt_ret dX10_crosses_15 rfl W
  · have W := W.2 h
    refine zr_aload_n 0 dX10_crosses_7 rfl ?_
    refine zt_geti 26 rfl dX10_crosses_8 fX10_48 rfl (by decide) ?_
    refine zr_iconst dX10_crosses_11 ?_
    obtain ⟨c3, W⟩ := W
    refine zr_icmp_ne (tgt := 16) dX10_crosses_12 (by decide) c3 ⟨by decide, by decide⟩ (fun h => ?_) (fun h => ?_)
    · have W := W.1 h
      refine zr_iconst dX10_crosses_16 ?_
      refine zr_istore (l' := [(0, zA g 1), (1, zI x1), (2, zI x2), (3, zI x3), (4, zI 0)]) dX10_crosses_17 (by decide) [1, 2, 3, 4, 0] rfl ?_
      exact W
    · have W := W.2 h
      exact zt_ret dX10_crosses_15 rfl W
set_option maxRecDepth 100000 in
theorem SX10_crosses_19 {g : zG} {o : Bool} {C R : Int} {M : zM} {q : zM → Prop} {x1 x2 x3 x4 : Int} (W : (-2147483648 ≤ x4 ∧ x4 ≤ 2147483647) ∧ (-2147483648 ≤ x3 ∧ x3 ≤ 2147483647) ∧ ((x3 ≤ x4) → q M) ∧ ((¬ (x3 ≤ x4)) → (zRf M C R) ∧ (0 ≤ x1 ∧ x1 < C * R) ∧ (0 ≤ x2 ∧ x2 ≤ 3) ∧ (0 ≤ x4 ∧ x4 ≤ 10000) ∧ (0 ≤ (alg C R x1 x2 x4) ∧ (alg C R x1 x2 x4) ≤ 2147483647) ∧ (0 < C ∧ C ≤ 2147483647) ∧ (0 ≤ (x4 + 1) ∧ (x4 + 1) ≤ 10000) ∧ (0 ≤ (alg C R x1 x2 (x4 + 1)) ∧ (alg C R x1 x2 (x4 + 1)) ≤ 2147483647) ∧ (-2147483648 ≤ x2 ∧ x2 ≤ 2147483647) ∧ ((x2 ≠ 0) → ((x2 ≠ 2) → zT g (z2 o) mX10_crosses (zQv (z2 o) q) 19 [(0, zA g 1), (1, zI x1), (2, zI x2), (3, zI x3), (4, zI (x4 + 1))] [] M) ∧ ((x2 = 2) → (-2147483648 ≤ ((alg C R x1 x2 x4) % C) ∧ ((alg C R x1 x2 x4) % C) ≤ 2147483647) ∧ (-2147483648 ≤ (M 1 26) ∧ (M 1 26) ≤ 2147483647) ∧ ((((alg C R x1 x2 x4) % C) ≠ (M 1 26)) → zT g (z2 o) mX10_crosses (zQv (z2 o) q) 19 [(0, zA g 1), (1, zI x1), (2, zI x2), (3, zI x3), (4, zI (x4 + 1))] [] M) ∧ ((((alg C R x1 x2 x4) % C) = (M 1 26)) → zT g (z2 o) mX10_crosses (zQv (z2 o) q) 19 [(0, zA g 1), (1, zI x1), (2, zI x2), (3, zI x3), (4, zI (x4 + 1))] [] (zu M 1 25 ((M 1 25) - 1))))) ∧ ((x2 = 0) → (-2147483648 ≤ ((alg C R x1 x2 (x4 + 1)) % C) ∧ ((alg C R x1 x2 (x4 + 1)) % C) ≤ 2147483647) ∧ (-2147483648 ≤ (M 1 26) ∧ (M 1 26) ≤ 2147483647) ∧ ((((alg C R x1 x2 (x4 + 1)) % C) ≠ (M 1 26)) → ((x2 ≠ 2) → zT g (z2 o) mX10_crosses (zQv (z2 o) q) 19 [(0, zA g 1), (1, zI x1), (2, zI x2), (3, zI x3), (4, zI (x4 + 1))] [] M) ∧ ((x2 = 2) → (-2147483648 ≤ ((alg C R x1 x2 x4) % C) ∧ ((alg C R x1 x2 x4) % C) ≤ 2147483647) ∧ ((((alg C R x1 x2 x4) % C) ≠ (M 1 26)) → zT g (z2 o) mX10_crosses (zQv (z2 o) q) 19 [(0, zA g 1), (1, zI x1), (2, zI x2), (3, zI x3), (4, zI (x4 + 1))] [] M) ∧ ((((alg C R x1 x2 x4) % C) = (M 1 26)) → zT g (z2 o) mX10_crosses (zQv (z2 o) q) 19 [(0, zA g 1), (1, zI x1), (2, zI x2), (3, zI x3), (4, zI (x4 + 1))] [] (zu M 1 25 ((M 1 25) - 1))))) ∧ ((((alg C R x1 x2 (x4 + 1)) % C) = (M 1 26)) → ((x2 ≠ 2) → zT g (z2 o) mX10_crosses (zQv (z2 o) q) 19 [(0, zA g 1), (1, zI x1), (2, zI x2), (3, zI x3), (4, zI (x4 + 1))] [] (zu M 1 25 ((M 1 25) + 1))) ∧ ((x2 = 2) → (-2147483648 ≤ ((alg C R x1 x2 x4) % C) ∧ ((alg C R x1 x2 x4) % C) ≤ 2147483647) ∧ (-2147483648 ≤ ((zu M 1 25 ((M 1 25) + 1)) 1 26) ∧ ((zu M 1 25 ((M 1 25) + 1)) 1 26) ≤ 2147483647) ∧ ((((alg C R x1 x2 x4) % C) ≠ ((zu M 1 25 ((M 1 25) + 1)) 1 26)) → zT g (z2 o) mX10_crosses (zQv (z2 o) q) 19 [(0, zA g 1), (1, zI x1), (2, zI x2), (3, zI x3), (4, zI (x4 + 1))] [] (zu M 1 25 ((M 1 25) + 1))) ∧ ((((alg C R x1 x2 x4) % C) = ((zu M 1 25 ((M 1 25) + 1)) 1 26)) → ∀ N31 : zM, N31 = zu M 1 25 ((M 1 25) + 1) → zT g (z2 o) mX10_crosses (zQv (z2 o) q) 19 [(0, zA g 1), (1, zI x1), (2, zI x2), (3, zI x3), (4, zI (x4 + 1))] [] (zu N31 1 25 ((N31 1 25) - 1)))))))) : zT g (z2 o) mX10_crosses (zQv (z2 o) q) 19 [(0, zA g 1), (1, zI x1), (2, zI x2), (3, zI x3), (4, zI x4)] [] M := by
  refine zr_iload 4 dX10_crosses_19 rfl ?_
  refine zr_iload_n 3 dX10_crosses_21 rfl ?_
  obtain ⟨c1, W⟩ := W
  obtain ⟨c2, W⟩ := W
  refine zr_icmp_ge (tgt := 110) dX10_crosses_22 (by decide) c1 c2 (fun h => ?_) (fun h => ?_)
  · have W := W.1 h
    exact zt_ret dX10_crosses_110 rfl W
  · have W := W.2 h
    refine zr_aload_n 0 dX10_crosses_25 rfl ?_
    refine zr_iload_n 1 dX10_crosses_26 rfl ?_
    refine zr_iload_n 2 dX10_crosses_27 rfl ?_
    refine zr_iload 4 dX10_crosses_28 rfl ?_
    obtain ⟨c3, W⟩ := W
    obtain ⟨c4, W⟩ := W
    obtain ⟨c5, W⟩ := W
    obtain ⟨c6, W⟩ := W
    refine zt_callVi (As := [zI x1, zI x2, zI x4]) (rest := []) dX10_crosses_30 kX10_crosses_282 rfl rfl rfl rfl (Nat.le_of_ble_eq_true rfl) (c_along c3 c4 c5 c6) (fun r7 N9 h8 => ?_)
    rw [h8.1, h8.2]
    refine zr_aload_n 0 dX10_crosses_33 rfl ?_
    refine zt_callVi (As := []) (rest := [zI (alg C R x1 x2 x4)]) dX10_crosses_34 kX10_crosses_255 rfl rfl rfl rfl (Nat.le_of_ble_eq_true rfl) (c_columnsC c3) (fun r10 N12 h11 => ?_)
    rw [h11.1, h11.2]
    obtain ⟨c13, W⟩ := W
    obtain ⟨c14, W⟩ := W
    refine zr_irem dX10_crosses_37 c13 c14 ?_
    refine zr_istore (l' := [(0, zA g 1), (1, zI x1), (2, zI x2), (3, zI x3), (4, zI x4), (5, zI ((alg C R x1 x2 x4) % C))]) dX10_crosses_38 (by decide) [1, 2, 3, 4, 5, 0] rfl ?_
    refine zr_aload_n 0 dX10_crosses_40 rfl ?_
    refine zr_iload_n 1 dX10_crosses_41 rfl ?_
    refine zr_iload_n 2 dX10_crosses_42 rfl ?_
    refine zr_iload 4 dX10_crosses_43 rfl ?_
    refine zr_iconst dX10_crosses_45 ?_
    refine zr_iadd dX10_crosses_46 ?_
    obtain ⟨c15, W⟩ := W
    refine zt_callVi (As := [zI x1, zI x2, zI (x4 + 1)]) (rest := []) dX10_crosses_47 kX10_crosses_282 rfl rfl rfl rfl (Nat.le_of_ble_eq_true rfl) (c_along c3 c4 c5 c15) (fun r16 N18 h17 => ?_)
    rw [h17.1, h17.2]
    refine zr_aload_n 0 dX10_crosses_50 rfl ?_
    refine zt_callVi (As := []) (rest := [zI (alg C R x1 x2 (x4 + 1))]) dX10_crosses_51 kX10_crosses_255 rfl rfl rfl rfl (Nat.le_of_ble_eq_true rfl) (c_columnsC c3) (fun r19 N21 h20 => ?_)
    rw [h20.1, h20.2]
    obtain ⟨c22, W⟩ := W
    refine zr_irem dX10_crosses_54 c22 c14 ?_
    refine zr_istore (l' := [(0, zA g 1), (1, zI x1), (2, zI x2), (3, zI x3), (4, zI x4), (5, zI ((alg C R x1 x2 x4) % C)), (6, zI ((alg C R x1 x2 (x4 + 1)) % C))]) dX10_crosses_55 (by decide) [1, 2, 3, 4, 5, 6, 0] rfl ?_
    refine zr_iload_n 2 dX10_crosses_57 rfl ?_
    obtain ⟨c23, W⟩ := W
    refine zr_if_ne (tgt := 80) dX10_crosses_58 (by decide) c23 (fun h => ?_) (fun h => ?_)
    · have W := W.1 h
      refine zr_iload_n 2 dX10_crosses_80 rfl ?_
      refine zr_iconst dX10_crosses_81 ?_
      refine zr_icmp_ne (tgt := 104) dX10_crosses_82 (by decide) c23 ⟨by decide, by decide⟩ (fun h => ?_) (fun h => ?_)
      · have W := W.1 h
        refine zr_iinc (q := 4) (l' := [(0, zA g 1), (1, zI x1), (2, zI x2), (3, zI x3), (4, zI (x4 + 1))]) dX10_crosses_104 rfl (by decide) [1, 2, 3, 4, 0] rfl ?_
        refine zr_goto (tgt := 19) dX10_crosses_107 (by decide) ?_
        exact W
      · have W := W.2 h
        refine zr_iload 5 dX10_crosses_85 rfl ?_
        refine zr_aload_n 0 dX10_crosses_87 rfl ?_
        refine zt_geti 26 rfl dX10_crosses_88 fX10_48 rfl (by decide) ?_
        obtain ⟨c24, W⟩ := W
        obtain ⟨c25, W⟩ := W
        refine zr_icmp_ne (tgt := 104) dX10_crosses_91 (by decide) c24 c25 (fun h => ?_) (fun h => ?_)
        · have W := W.1 h
          refine zr_iinc (q := 4) (l' := [(0, zA g 1), (1, zI x1), (2, zI x2), (3, zI x3), (4, zI (x4 + 1))]) dX10_crosses_104 rfl (by decide) [1, 2, 3, 4, 0] rfl ?_
          refine zr_goto (tgt := 19) dX10_crosses_107 (by decide) ?_
          exact W
        · have W := W.2 h
          refine zr_aload_n 0 dX10_crosses_94 rfl ?_
          refine zr_dup dX10_crosses_95 rfl ?_
          refine zt_geti 25 rfl dX10_crosses_96 fX10_267 rfl (by decide) ?_
          refine zr_iconst dX10_crosses_99 ?_
          refine zr_isub dX10_crosses_100 ?_
          refine zt_puti 25 rfl dX10_crosses_101 fX10_267 lcX10 ltX10_25 rfl rfl ?_
          refine zr_iinc (q := 4) (l' := [(0, zA g 1), (1, zI x1), (2, zI x2), (3, zI x3), (4, zI (x4 + 1))]) dX10_crosses_104 rfl (by decide) [1, 2, 3, 4, 0] rfl ?_
          refine zr_goto (tgt := 19) dX10_crosses_107 (by decide) ?_
          exact W
    · have W := W.2 h
      refine zr_iload 6 dX10_crosses_61 rfl ?_
      refine zr_aload_n 0 dX10_crosses_63 rfl ?_
      refine zt_geti 26 rfl dX10_crosses_64 fX10_48 rfl (by decide) ?_
      obtain ⟨c26, W⟩ := W
      obtain ⟨c27, W⟩ := W
      refine zr_icmp_ne (tgt := 80) dX10_crosses_67 (by decide) c26 c27 (fun h => ?_) (fun h => ?_)
      · have W := W.1 h
        refine zr_iload_n 2 dX10_crosses_80 rfl ?_
        refine zr_iconst dX10_crosses_81 ?_
        refine zr_icmp_ne (tgt := 104) dX10_crosses_82 (by decide) c23 ⟨by decide, by decide⟩ (fun h => ?_) (fun h => ?_)
        · have W := W.1 h
          refine zr_iinc (q := 4) (l' := [(0, zA g 1), (1, zI x1), (2, zI x2), (3, zI x3), (4, zI (x4 + 1))]) dX10_crosses_104 rfl (by decide) [1, 2, 3, 4, 0] rfl ?_
          refine zr_goto (tgt := 19) dX10_crosses_107 (by decide) ?_
          exact W
        · have W := W.2 h
          refine zr_iload 5 dX10_crosses_85 rfl ?_
          refine zr_aload_n 0 dX10_crosses_87 rfl ?_
          refine zt_geti 26 rfl dX10_crosses_88 fX10_48 rfl (by decide) ?_
          obtain ⟨c28, W⟩ := W
          refine zr_icmp_ne (tgt := 104) dX10_crosses_91 (by decide) c28 c27 (fun h => ?_) (fun h => ?_)
          · have W := W.1 h
            refine zr_iinc (q := 4) (l' := [(0, zA g 1), (1, zI x1), (2, zI x2), (3, zI x3), (4, zI (x4 + 1))]) dX10_crosses_104 rfl (by decide) [1, 2, 3, 4, 0] rfl ?_
            refine zr_goto (tgt := 19) dX10_crosses_107 (by decide) ?_
            exact W
          · have W := W.2 h
            refine zr_aload_n 0 dX10_crosses_94 rfl ?_
            refine zr_dup dX10_crosses_95 rfl ?_
            refine zt_geti 25 rfl dX10_crosses_96 fX10_267 rfl (by decide) ?_
            refine zr_iconst dX10_crosses_99 ?_
            refine zr_isub dX10_crosses_100 ?_
            refine zt_puti 25 rfl dX10_crosses_101 fX10_267 lcX10 ltX10_25 rfl rfl ?_
            refine zr_iinc (q := 4) (l' := [(0, zA g 1), (1, zI x1), (2, zI x2), (3, zI x3), (4, zI (x4 + 1))]) dX10_crosses_104 rfl (by decide) [1, 2, 3, 4, 0] rfl ?_
            refine zr_goto (tgt := 19) dX10_crosses_107 (by decide) ?_
            exact W
      · have W := W.2 h
        refine zr_aload_n 0 dX10_crosses_70 rfl ?_
        refine zr_dup dX10_crosses_71 rfl ?_
        refine zt_geti 25 rfl dX10_crosses_72 fX10_267 rfl (by decide) ?_
        refine zr_iconst dX10_crosses_75 ?_
        refine zr_iadd dX10_crosses_76 ?_
        refine zt_puti 25 rfl dX10_crosses_77 fX10_267 lcX10 ltX10_25 rfl rfl ?_
        refine zr_iload_n 2 dX10_crosses_80 rfl ?_
        refine zr_iconst dX10_crosses_81 ?_
        refine zr_icmp_ne (tgt := 104) dX10_crosses_82 (by decide) c23 ⟨by decide, by decide⟩ (fun h => ?_) (fun h => ?_)
        · have W := W.1 h
          refine zr_iinc (q := 4) (l' := [(0, zA g 1), (1, zI x1), (2, zI x2), (3, zI x3), (4, zI (x4 + 1))]) dX10_crosses_104 rfl (by decide) [1, 2, 3, 4, 0] rfl ?_
          refine zr_goto (tgt := 19) dX10_crosses_107 (by decide) ?_
          exact W
        · have W := W.2 h
          refine zr_iload 5 dX10_crosses_85 rfl ?_
          refine zr_aload_n 0 dX10_crosses_87 rfl ?_
          refine zt_geti 26 rfl dX10_crosses_88 fX10_48 rfl (by decide) ?_
          obtain ⟨c29, W⟩ := W
          obtain ⟨c30, W⟩ := W
          refine zr_icmp_ne (tgt := 104) dX10_crosses_91 (by decide) c29 c30 (fun h => ?_) (fun h => ?_)
          · have W := W.1 h
            refine zr_iinc (q := 4) (l' := [(0, zA g 1), (1, zI x1), (2, zI x2), (3, zI x3), (4, zI (x4 + 1))]) dX10_crosses_104 rfl (by decide) [1, 2, 3, 4, 0] rfl ?_
            refine zr_goto (tgt := 19) dX10_crosses_107 (by decide) ?_
            exact W
          · have W := W.2 h
            refine zr_aload_n 0 dX10_crosses_94 rfl ?_
            refine zr_dup dX10_crosses_95 rfl ?_
            refine zt_geti 25 rfl dX10_crosses_96 fX10_267 rfl (by decide) ?_
            refine zr_iconst dX10_crosses_99 ?_
            refine zr_isub dX10_crosses_100 ?_
            obtain ⟨N31, e32⟩ : ∃ N : zM, N = zu M 1 25 ((M 1 25) + 1) := ⟨_, rfl⟩
            rw [← e32]
            have W := W N31 e32
            refine zt_puti 25 rfl dX10_crosses_101 fX10_267 lcX10 ltX10_25 rfl rfl ?_
            refine zr_iinc (q := 4) (l' := [(0, zA g 1), (1, zI x1), (2, zI x2), (3, zI x3), (4, zI (x4 + 1))]) dX10_crosses_104 rfl (by decide) [1, 2, 3, 4, 0] rfl ?_
            refine zr_goto (tgt := 19) dX10_crosses_107 (by decide) ?_
            exact W
/-- the way to the first of the highest, of the lowest ones beside -/
def pmx (C R : Int) (H : Int → Int) (c : Int) : Nat → Int
  | 0 => 0
  | n + 1 => if H (alg C R c (pmx C R H c n) 1) < H (alg C R c ((n + 1 : Nat) : Int) 1) then ((n + 1 : Nat) : Int) else pmx C R H c n
def pmn (C R : Int) (H : Int → Int) (c : Int) : Nat → Int
  | 0 => 0
  | n + 1 => if H (alg C R c ((n + 1 : Nat) : Int) 1) < H (alg C R c (pmn C R H c n) 1) then ((n + 1 : Nat) : Int) else pmn C R H c n
/-- what crossed the line is what crosses its column -/
def rX (M : zM) (X : Int → Int) : Prop := M 1 26 = -1 ∨ M 1 25 = X (M 1 26)
section RN
variable {g : zG} {o : Bool} {M : zM} {x y z w c k t C R : Int} {H X : Int → Int}
theorem pmx_in (n : Nat) : 0 ≤ pmx C R H c n ∧ pmx C R H c n ≤ n := by
  induction n with
  | zero => exact ⟨Int.le_refl 0, Int.le_refl 0⟩
  | succ n ih => unfold pmx; split <;> omega
theorem pmn_in (n : Nat) : 0 ≤ pmn C R H c n ∧ pmn C R H c n ≤ n := by
  induction n with
  | zero => exact ⟨Int.le_refl 0, Int.le_refl 0⟩
  | succ n ih => unfold pmn; split <;> omega
theorem c_windNow (h : zRf M C R) (ht : 0 ≤ M 11 197 ∧ M 11 197 ≤ 2147483647) : zKi g (z2 o) mX10_windNow [zA g 1] M (fun r M' => r = wnr M (M 11 197) ∧ M' = M) :=
  zki_of rfl (Nat.le_of_ble_eq_true rfl) (SX10_windNow_0 (C := C) (R := R) ⟨h, ht, rfl, rfl⟩)
theorem c_wayToH (h : zRf M C R) (hc : 0 ≤ c ∧ c < C * R) (hB : Bd (M 11)) : zKi g (z2 o) mX10_wayTo [zA g 1, zI c, zI 1] M (fun r M' => r = pmx C R (M 11) c 3 ∧ M' = M) := by
  have hn := geo_n h.1
  refine zki_of rfl (Nat.le_of_ble_eq_true rfl) (SX10_wayTo_0 ?_)
  suffices hs : ∀ (j k : Nat), k + j = 3 → zT g (z2 o) mX10_wayTo (zQi (z2 o) (fun r M' => r = pmx C R (M 11) c 3 ∧ M' = M)) 5 [(0, zA g 1), (1, zI c), (2, zI 1), (3, zI (pmx C R (M 11) c k)), (4, zI ((k + 1 : Nat) : Int))] [] M from hs 3 0 rfl
  intro j
  induction j with
  | zero => intro k hk; exact SX10_wayTo_5 (C := C) (R := R) ⟨by omega, fun h4 => ⟨by rw [show k = 3 by omega], rfl⟩, fun h4 => by omega⟩
  | succ j ih =>
    intro k hk
    have p := pmx_in (C := C) (R := R) (H := M 11) (c := c) k
    have a1 := alg_in (w := ((k + 1 : Nat) : Int)) (k := 1) h.1 hc
    have a2 := alg_in (w := pmx C R (M 11) c k) (k := 1) h.1 hc
    have b1 := hB _ a1.1 (by omega)
    have b2 := hB _ a2.1 (by omega)
    have hk2 := ih (k + 1) (by omega)
    refine SX10_wayTo_5 ⟨by omega, fun h4 => by omega, fun h4 => ⟨h, hc, by omega, by omega, by omega, by omega, by decide, fun h5 => absurd h5 (by decide), fun h5 => ⟨by omega, by omega, fun h6 => ?_, fun h6 => ?_⟩⟩⟩
    · have e : pmx C R (M 11) c (k + 1) = pmx C R (M 11) c k := by show (if _ then _ else _) = _; rw [if_neg (by omega)]
      rw [e] at hk2; exact hk2
    · have e : pmx C R (M 11) c (k + 1) = ((k + 1 : Nat) : Int) := by show (if _ then _ else _) = _; rw [if_pos (by omega)]
      rw [e] at hk2; exact hk2
theorem c_wayToL (h : zRf M C R) (hc : 0 ≤ c ∧ c < C * R) (hB : Bd (M 11)) : zKi g (z2 o) mX10_wayTo [zA g 1, zI c, zI 0] M (fun r M' => r = pmn C R (M 11) c 3 ∧ M' = M) := by
  have hn := geo_n h.1
  refine zki_of rfl (Nat.le_of_ble_eq_true rfl) (SX10_wayTo_0 ?_)
  suffices hs : ∀ (j k : Nat), k + j = 3 → zT g (z2 o) mX10_wayTo (zQi (z2 o) (fun r M' => r = pmn C R (M 11) c 3 ∧ M' = M)) 5 [(0, zA g 1), (1, zI c), (2, zI 0), (3, zI (pmn C R (M 11) c k)), (4, zI ((k + 1 : Nat) : Int))] [] M from hs 3 0 rfl
  intro j
  induction j with
  | zero => intro k hk; exact SX10_wayTo_5 (C := C) (R := R) ⟨by omega, fun h4 => ⟨by rw [show k = 3 by omega], rfl⟩, fun h4 => by omega⟩
  | succ j ih =>
    intro k hk
    have p := pmn_in (C := C) (R := R) (H := M 11) (c := c) k
    have a1 := alg_in (w := ((k + 1 : Nat) : Int)) (k := 1) h.1 hc
    have a2 := alg_in (w := pmn C R (M 11) c k) (k := 1) h.1 hc
    have b1 := hB _ a1.1 (by omega)
    have b2 := hB _ a2.1 (by omega)
    have hk2 := ih (k + 1) (by omega)
    refine SX10_wayTo_5 ⟨by omega, fun h4 => by omega, fun h4 => ⟨h, hc, by omega, by omega, by omega, by omega, by decide, fun h5 => ⟨by omega, by omega, fun h6 => ?_, fun h6 => ?_⟩, fun h5 => absurd rfl h5⟩⟩
    · have e : pmn C R (M 11) c (k + 1) = pmn C R (M 11) c k := by show (if _ then _ else _) = _; rw [if_neg (by omega)]
      rw [e] at hk2; exact hk2
    · have e : pmn C R (M 11) c (k + 1) = ((k + 1 : Nat) : Int) := by show (if _ then _ else _) = _; rw [if_pos (by omega)]
      rw [e] at hk2; exact hk2
theorem hpx_snoc (hG : Geo C R) (n : Nat) (c : Int) (hc : 0 ≤ c ∧ c < C * R) (X : Int → Int) : hpx C R w (n + 1) c X = crs C (hpx C R w n c X) (alg C R c w n) (alg C R c w ((n + 1 : Nat) : Int)) w := by
  induction n generalizing c X with
  | zero =>
    show crs C X c (alg C R c w 1) w = crs C X (alg C R c w 0) (alg C R c w 1) w
    rw [alg_0 hG hc]
  | succ n ih =>
    show hpx C R w (n + 1) (alg C R c w 1) (crs C X c (alg C R c w 1) w) = _
    rw [ih _ (alg_in hG hc), alg_s hG hc, alg_s hG hc, show (1 : Int) + (n : Int) = ((n + 1 : Nat) : Int) by omega, show (1 : Int) + ((n + 1 : Nat) : Int) = ((n + 1 + 1 : Nat) : Int) by omega]
    rfl
theorem hpx_odd (h0 : w ≠ 0) (h2 : w ≠ 2) (n : Nat) (c : Int) (X : Int → Int) : hpx C R w n c X = X := by
  induction n generalizing c X with
  | zero => rfl
  | succ n ih =>
    show hpx C R w n (alg C R c w 1) (crs C X c (alg C R c w 1) w) = X
    rw [ih]; unfold crs; rw [if_neg h0, if_neg h2]
theorem c_crosses (h : zRf M C R) (hc : 0 ≤ c ∧ c < C * R) (hw : 0 ≤ w ∧ w ≤ 3) {n : Nat} (hn : n ≤ 100) (hl : -1 ≤ M 1 26 ∧ M 1 26 ≤ 12) (hX : rX M X) : zKv g (z2 o) mX10_crosses [zA g 1, zI c, zI w, zI n] M (fun M' => (∃ v, M' = zu M 1 25 v) ∧ rX M' (hpx C R w n c X)) := by
  have hnn := geo_n h.1
  have hG := h.1
  unfold Geo at hG
  have self : zu M 1 25 (M 1 25) = M := by rw [zu_zrw, show up (M 1) 25 (M 1 25) = M 1 by funext j; unfold up; split <;> simp_all, zrw_self]
  have r25 : ∀ v, zu M 1 25 v 1 25 = v := fun v => zu_at M 1 25 v
  have r26 : ∀ v, zu M 1 25 v 1 26 = M 1 26 := fun v => by rw [zu_row, if_neg (by decide)]
  refine zkv_of rfl (Nat.le_of_ble_eq_true rfl) (SX10_crosses_0 ⟨by omega, by omega, fun h1 => ?_, fun h1 => ⟨by omega, fun h2 => ?_, fun h2 => ?_⟩⟩)
  · exact ⟨⟨_, self.symm⟩, by rw [hpx_odd (by omega) (by omega)]; exact hX⟩
  · suffices hs : ∀ (j k : Nat) (v : Int), k + j = n → v = hpx C R w k c X (M 1 26) → zT g (z2 o) mX10_crosses (zQv (z2 o) (fun M' => (∃ v, M' = zu M 1 25 v) ∧ rX M' (hpx C R w n c X))) 19 [(0, zA g 1), (1, zI c), (2, zI w), (3, zI n), (4, zI k)] [] (zu M 1 25 v) by
      have := hs n 0 (M 1 25) (by omega) (by rcases hX with e | e; exact absurd e h2; exact e)
      rw [self] at this; exact this
    intro j
    induction j with
    | zero =>
      intro k v hk hv
      refine SX10_crosses_19 (C := C) (R := R) ⟨by omega, by omega, fun h3 => ⟨⟨v, rfl⟩, Or.inr ?_⟩, fun h3 => by omega⟩
      rw [r25, r26, hv, show k = n by omega]
    | succ j ih =>
      intro k v hk hv
      have hL : zRf (zu M 1 25 v) C R := h.of (zu_other (by decide)) (zu_other (by decide)) (zu_other (by decide))
      have a1 := alg_in (w := w) (k := (k : Int)) h.1 hc
      have a2 := alg_in (w := w) (k := (k : Int) + 1) h.1 hc
      have m1 := md (C := C) (k := alg C R c w k) (by omega)
      have m2 := md (C := C) (k := alg C R c w ((k : Int) + 1)) (by omega)
      have hsn := hpx_snoc (w := w) h.1 k c hc X
      rw [show ((k + 1 : Nat) : Int) = (k : Int) + 1 by omega] at hsn
      have uu : ∀ v', zu (zu M 1 25 v) 1 25 v' = zu M 1 25 v' := fun v' => by rw [zu_zrw, zu_zrw, zrw_row, zrw_zrw, zu_zrw]; congr 1; funext j; unfold up; split <;> rfl
      have go := fun v' hv' => ih (k + 1) v' (by omega) hv'
      rw [show ((k + 1 : Nat) : Int) = (k : Int) + 1 by omega] at go
      refine SX10_crosses_19 (C := C) (R := R) ?_
      rw [r26, r25, uu, uu]
      refine ⟨by omega, by omega, fun h3 => by omega, fun h3 => ⟨hL, hc, hw, by omega, by omega, by omega, by omega, by omega, by omega, fun h4 => ⟨fun h5 => by omega, fun h5 => ⟨by omega, by omega, fun h6 => go v ?_, fun h6 => go (v - 1) ?_⟩⟩, fun h4 => ⟨by omega, by omega, fun h6 => ⟨fun h5 => go v ?_, fun h5 => by omega⟩, fun h6 => ⟨fun h5 => go (v + 1) ?_, fun h5 => by omega⟩⟩⟩⟩
      · rw [hsn, hv]; unfold crs; rw [if_neg h4, if_pos h5, up_ne (fun e => h6 e.symm)]
      · rw [hsn, hv]; unfold crs; rw [if_neg h4, if_pos h5, h6, up_at]
      · rw [hsn, hv]; unfold crs; rw [if_pos h4, up_ne (fun e => h6 e.symm)]
      · rw [hsn, hv]; unfold crs; rw [if_pos h4, h6, up_at]
  · exact ⟨⟨_, self.symm⟩, Or.inl h2⟩
end RN
theorem dX10_isShadow_0 : decode cX10_isShadow 0 = .ok (.aload_n 0, 1) := by decide +kernel
theorem dX10_isShadow_1 : decode cX10_isShadow 1 = .ok (.invokevirtual 273, 3) := by decide +kernel
theorem dX10_isShadow_4 : decode cX10_isShadow 4 = .ok (.istore_n 2, 1) := by decide +kernel
theorem dX10_isShadow_5 : decode cX10_isShadow 5 = .ok (.iconst 1, 1) := by decide +kernel
theorem dX10_isShadow_6 : decode cX10_isShadow 6 = .ok (.istore_n 3, 1) := by decide +kernel
theorem dX10_isShadow_7 : decode cX10_isShadow 7 = .ok (.iload_n 3, 1) := by decide +kernel
theorem dX10_isShadow_8 : decode cX10_isShadow 8 = .ok (.aload_n 0, 1) := by decide +kernel
theorem dX10_isShadow_9 : decode cX10_isShadow 9 = .ok (.iload_n 2, 1) := by decide +kernel
theorem dX10_isShadow_10 : decode cX10_isShadow 10 = .ok (.invokevirtual 276, 3) := by decide +kernel
theorem dX10_isShadow_13 : decode cX10_isShadow 13 = .ok (.if_icmp .ge 46, 3) := by decide +kernel
theorem dX10_isShadow_16 : decode cX10_isShadow 16 = .ok (.aload_n 0, 1) := by decide +kernel
theorem dX10_isShadow_17 : decode cX10_isShadow 17 = .ok (.getfield 45, 3) := by decide +kernel
theorem dX10_isShadow_20 : decode cX10_isShadow 20 = .ok (.aload_n 0, 1) := by decide +kernel
theorem dX10_isShadow_21 : decode cX10_isShadow 21 = .ok (.iload_n 1, 1) := by decide +kernel
theorem dX10_isShadow_22 : decode cX10_isShadow 22 = .ok (.iload_n 2, 1) := by decide +kernel
theorem dX10_isShadow_23 : decode cX10_isShadow 23 = .ok (.invokestatic 279, 3) := by decide +kernel
theorem dX10_isShadow_26 : decode cX10_isShadow 26 = .ok (.iload_n 3, 1) := by decide +kernel
theorem dX10_isShadow_27 : decode cX10_isShadow 27 = .ok (.invokevirtual 282, 3) := by decide +kernel
theorem dX10_isShadow_30 : decode cX10_isShadow 30 = .ok (.iaload, 1) := by decide +kernel
theorem dX10_isShadow_31 : decode cX10_isShadow 31 = .ok (.aload_n 0, 1) := by decide +kernel
theorem dX10_isShadow_32 : decode cX10_isShadow 32 = .ok (.getfield 45, 3) := by decide +kernel
theorem dX10_isShadow_35 : decode cX10_isShadow 35 = .ok (.iload_n 1, 1) := by decide +kernel
theorem dX10_isShadow_36 : decode cX10_isShadow 36 = .ok (.iaload, 1) := by decide +kernel
theorem dX10_isShadow_37 : decode cX10_isShadow 37 = .ok (.iload_n 3, 1) := by decide +kernel
theorem dX10_isShadow_38 : decode cX10_isShadow 38 = .ok (.aload_n 0, 1) := by decide +kernel
theorem dX10_isShadow_39 : decode cX10_isShadow 39 = .ok (.getfield 45, 3) := by decide +kernel
theorem dX10_isShadow_42 : decode cX10_isShadow 42 = .ok (.sipush 193, 3) := by decide +kernel
theorem dX10_isShadow_45 : decode cX10_isShadow 45 = .ok (.iaload, 1) := by decide +kernel
theorem dX10_isShadow_46 : decode cX10_isShadow 46 = .ok (.imul, 1) := by decide +kernel
theorem dX10_isShadow_47 : decode cX10_isShadow 47 = .ok (.iadd, 1) := by decide +kernel
theorem dX10_isShadow_48 : decode cX10_isShadow 48 = .ok (.if_icmp .lt 5, 3) := by decide +kernel
theorem dX10_isShadow_51 : decode cX10_isShadow 51 = .ok (.iconst 1, 1) := by decide +kernel
theorem dX10_isShadow_52 : decode cX10_isShadow 52 = .ok (.ireturn, 1) := by decide +kernel
theorem dX10_isShadow_53 : decode cX10_isShadow 53 = .ok (.iinc 3 1, 3) := by decide +kernel
theorem dX10_isShadow_56 : decode cX10_isShadow 56 = .ok (.goto (-49), 3) := by decide +kernel
theorem dX10_isShadow_59 : decode cX10_isShadow 59 = .ok (.iconst 0, 1) := by decide +kernel
theorem dX10_isShadow_60 : decode cX10_isShadow 60 = .ok (.ireturn, 1) := by decide +kernel
set_option maxRecDepth 100000 in
theorem SX10_isShadow_0 {g : zG} {o : Bool} {C R : Int} {M : zM} {q : Int → zM → Prop} {x1 : Int} (W : (zRf M C R) ∧ (0 ≤ M 11 197 ∧ M 11 197 ≤ 2147483647) ∧ zT g (z2 o) mX10_isShadow (zQi (z2 o) q) 7 [(0, zA g 1), (1, zI x1), (2, zI (wnr M (M 11 197))), (3, zI 1)] [] M) : zT g (z2 o) mX10_isShadow (zQi (z2 o) q) 0 [(0, zA g 1), (1, zI x1)] [] M := by
  refine zr_aload_n 0 dX10_isShadow_0 rfl ?_
  obtain ⟨c1, W⟩ := W
  obtain ⟨c2, W⟩ := W
  refine zt_callVi (As := []) (rest := []) dX10_isShadow_1 kX10_isShadow_273 rfl rfl rfl rfl (Nat.le_of_ble_eq_true rfl) (c_windNow c1 c2) (fun r3 N5 h4 => ?_)
  rw [h4.1, h4.2]
  refine zr_istore_n (l' := [(0, zA g 1), (1, zI x1), (2, zI (wnr M (M 11 197)))]) dX10_isShadow_4 (by decide) [1, 2, 0] rfl ?_
  refine zr_iconst dX10_isShadow_5 ?_
  refine zr_istore_n (l' := [(0, zA g 1), (1, zI x1), (2, zI (wnr M (M 11 197))), (3, zI 1)]) dX10_isShadow_6 (by decide) [1, 2, 3, 0] rfl ?_
  exact W
set_option maxRecDepth 100000 in
theorem SX10_isShadow_7 {g : zG} {o : Bool} {C R : Int} {M : zM} {q : Int → zM → Prop} {x1 x2 x3 : Int} (W : (zRf M C R) ∧ (0 ≤ x2 ∧ x2 ≤ 3) ∧ (-2147483648 ≤ x3 ∧ x3 ≤ 2147483647) ∧ (-2147483648 ≤ (rnd C R x2) ∧ (rnd C R x2) ≤ 2147483647) ∧ (((rnd C R x2) ≤ x3) → q 0 M) ∧ ((¬ ((rnd C R x2) ≤ x3)) → (0 ≤ x1 ∧ x1 < C * R) ∧ (0 ≤ (opp x2) ∧ (opp x2) ≤ 3) ∧ (0 ≤ x3 ∧ x3 ≤ 10000) ∧ (0 ≤ (alg C R x1 (opp x2) x3) ∧ (alg C R x1 (opp x2) x3) < 198) ∧ (0 ≤ x1 ∧ x1 < 198) ∧ (-2147483648 ≤ (M 11 (alg C R x1 (opp x2) x3)) ∧ (M 11 (alg C R x1 (opp x2) x3)) ≤ 2147483647) ∧ (-2147483648 ≤ ((M 11 x1) + (x3 * (M 11 193))) ∧ ((M 11 x1) + (x3 * (M 11 193))) ≤ 2147483647) ∧ (((M 11 (alg C R x1 (opp x2) x3)) < ((M 11 x1) + (x3 * (M 11 193)))) → zT g (z2 o) mX10_isShadow (zQi (z2 o) q) 7 [(0, zA g 1), (1, zI x1), (2, zI x2), (3, zI (x3 + 1))] [] M) ∧ ((¬ ((M 11 (alg C R x1 (opp x2) x3)) < ((M 11 x1) + (x3 * (M 11 193))))) → q 1 M))) : zT g (z2 o) mX10_isShadow (zQi (z2 o) q) 7 [(0, zA g 1), (1, zI x1), (2, zI x2), (3, zI x3)] [] M := by
  refine zr_iload_n 3 dX10_isShadow_7 rfl ?_
  refine zr_aload_n 0 dX10_isShadow_8 rfl ?_
  refine zr_iload_n 2 dX10_isShadow_9 rfl ?_
  obtain ⟨c1, W⟩ := W
  obtain ⟨c2, W⟩ := W
  refine zt_callVi (As := [zI x2]) (rest := [zI x3]) dX10_isShadow_10 kX10_isShadow_276 rfl rfl rfl rfl (Nat.le_of_ble_eq_true rfl) (c_roundR c1 c2) (fun r3 N5 h4 => ?_)
  rw [h4.1, h4.2]
  obtain ⟨c6, W⟩ := W
  obtain ⟨c7, W⟩ := W
  refine zr_icmp_ge (tgt := 59) dX10_isShadow_13 (by decide) c6 c7 (fun h => ?_) (fun h => ?_)
  · have W := W.1 h
    refine zr_iconst dX10_isShadow_59 ?_
    exact zt_zret dX10_isShadow_60 rfl (by decide) W
  · have W := W.2 h
    refine zr_aload_n 0 dX10_isShadow_16 rfl ?_
    refine zr_getr (b := 11) dX10_isShadow_17 fX10_45 rfl rfl rfl (by decide) ?_
    refine zr_aload_n 0 dX10_isShadow_20 rfl ?_
    refine zr_iload_n 1 dX10_isShadow_21 rfl ?_
    refine zr_iload_n 2 dX10_isShadow_22 rfl ?_
    refine zt_callSi (As := [zI x2]) (rest := [zI x1, zA g 1, zA g 11]) dX10_isShadow_23 kX10_isShadow_279 rfl rfl (Nat.le_of_ble_eq_true rfl) (c_against c2) (fun r8 N10 h9 => ?_)
    rw [h9.1, h9.2]
    refine zr_iload_n 3 dX10_isShadow_26 rfl ?_
    obtain ⟨c11, W⟩ := W
    obtain ⟨c12, W⟩ := W
    obtain ⟨c13, W⟩ := W
    refine zt_callVi (As := [zI x1, zI (opp x2), zI x3]) (rest := [zA g 11]) dX10_isShadow_27 kX10_isShadow_282 rfl rfl rfl rfl (Nat.le_of_ble_eq_true rfl) (c_along c1 c11 c12 c13) (fun r14 N16 h15 => ?_)
    rw [h15.1, h15.2]
    obtain ⟨c17, W⟩ := W
    refine zr_iald dX10_isShadow_30 rfl (by decide) c17 ?_
    refine zr_aload_n 0 dX10_isShadow_31 rfl ?_
    refine zr_getr (b := 11) dX10_isShadow_32 fX10_45 rfl rfl rfl (by decide) ?_
    refine zr_iload_n 1 dX10_isShadow_35 rfl ?_
    obtain ⟨c18, W⟩ := W
    refine zr_iald dX10_isShadow_36 rfl (by decide) c18 ?_
    refine zr_iload_n 3 dX10_isShadow_37 rfl ?_
    refine zr_aload_n 0 dX10_isShadow_38 rfl ?_
    refine zr_getr (b := 11) dX10_isShadow_39 fX10_45 rfl rfl rfl (by decide) ?_
    refine zr_sipush dX10_isShadow_42 (by decide) ?_
    refine zr_iald dX10_isShadow_45 rfl (by decide) ⟨by decide, by decide⟩ ?_
    refine zr_imul dX10_isShadow_46 ?_
    refine zr_iadd dX10_isShadow_47 ?_
    obtain ⟨c19, W⟩ := W
    obtain ⟨c20, W⟩ := W
    refine zr_icmp_lt (tgt := 53) dX10_isShadow_48 (by decide) c19 c20 (fun h => ?_) (fun h => ?_)
    · have W := W.1 h
      refine zr_iinc (q := 3) (l' := [(0, zA g 1), (1, zI x1), (2, zI x2), (3, zI (x3 + 1))]) dX10_isShadow_53 rfl (by decide) [1, 2, 3, 0] rfl ?_
      refine zr_goto (tgt := 7) dX10_isShadow_56 (by decide) ?_
      exact W
    · have W := W.2 h
      refine zr_iconst dX10_isShadow_51 ?_
      exact zt_zret dX10_isShadow_52 rfl (by decide) W
section RO
variable {g : zG} {o : Bool} {M : zM} {x y z w c k t C R : Int} {H X : Int → Int}
theorem wnr_in (h : zRf M C R) (ht : 0 ≤ t) : 0 ≤ wnr M t ∧ wnr M t ≤ 3 := by
  obtain ⟨-, -, -, -, hn, hw⟩ := h
  obtain ⟨n, hnn⟩ : ∃ n : Nat, M 3 9 = (n : Int) := znn (by omega)
  rw [hnn] at hw hn
  have hpos : 1 ≤ smt (M 5) n := by
    cases n with
    | zero => omega
    | succ k =>
      have h1 := smt_nn (f := M 5) (n := k) (fun i h0 h1 => by have := hw i h0 (by omega); omega)
      have h2 := hw k (by omega) (by omega)
      show 1 ≤ smt (M 5) k + M 5 k
      omega
  have hmod := md (C := smt (M 5) n) (k := t) (by omega)
  have hx := wix_lt (sp := M 5) (n := n) (i := 0) (l := t % smt (M 5) n) (fun j h1 h2 => (hw j h1 (by omega)).2.1) hmod.1 (by simpa using hmod.2)
  unfold wnr
  rw [hnn, Int.toNat_natCast]
  exact (hw _ hx.1 (by omega)).1
theorem c_isShadow (h : zRf M C R) (hc : 0 ≤ c ∧ c < C * R) (ht : 0 ≤ M 11 197 ∧ M 11 197 ≤ 2147483647) (hB : Bd (M 11)) (hsh : 0 ≤ M 11 193 ∧ M 11 193 ≤ 9) : zKi g (z2 o) mX10_isShadow [zA g 1, zI c] M (fun r M' => r = zb (shd C R (M 11) (M 11 193) c (wnr M (M 11 197))) ∧ M' = M) := by
  have hn := geo_n h.1
  have w1 := wnr_in (t := M 11 197) h ht.1
  have hr := rnd_in (w := wnr M (M 11 197)) h.1
  have ho := opp_in w1
  have hc0 := hB c hc.1 (by omega)
  refine zki_of rfl (Nat.le_of_ble_eq_true rfl) (SX10_isShadow_0 (C := C) (R := R) ⟨h, ht, ?_⟩)
  suffices hs : ∀ (n : Nat) (k : Int), 1 ≤ k → k + n = rnd C R (wnr M (M 11 197)) → (∀ j, 1 ≤ j → j < k → ¬ (M 11 c + j * M 11 193 ≤ M 11 (alg C R c (opp (wnr M (M 11 197))) j))) → zT g (z2 o) mX10_isShadow (zQi (z2 o) (fun r M' => r = zb (shd C R (M 11) (M 11 193) c (wnr M (M 11 197))) ∧ M' = M)) 7 [(0, zA g 1), (1, zI c), (2, zI (wnr M (M 11 197))), (3, zI k)] [] M from
    hs (rnd C R (wnr M (M 11 197)) - 1).toNat 1 (by omega) (by omega) (fun j h1 h2 => by omega)
  intro n
  induction n with
  | zero =>
    intro k h1 hk hno
    refine SX10_isShadow_7 ⟨h, w1, by omega, by omega, fun h2 => ⟨(zb_f ?_).symm, rfl⟩, fun h2 => by omega⟩
    rintro ⟨j, j1, j2, j3⟩
    exact hno j j1 (by omega) j3
  | succ n ih =>
    intro k h1 hk hno
    have a2 := alg_in (w := opp (wnr M (M 11 197))) (k := k) h.1 hc
    have b2 := hB _ a2.1 (by omega)
    have b3 : 0 ≤ k * M 11 193 ∧ k * M 11 193 ≤ 108 := by
      constructor
      · exact Int.mul_nonneg (by omega) hsh.1
      · have := Int.mul_le_mul (show k ≤ 12 by omega) hsh.2 hsh.1 (by decide); omega
    refine SX10_isShadow_7 ⟨h, w1, by omega, by omega, fun h2 => by omega, fun h2 => ⟨hc, ho, by omega, by omega, by omega, by omega, by omega, fun h4 => ?_, fun h4 => ⟨(zb_t ⟨k, h1, by omega, by omega⟩).symm, rfl⟩⟩⟩
    exact ih (k + 1) (by omega) (by omega) (fun j j1 j2 => by
      by_cases hj : j < k
      · exact hno j j1 hj
      · rw [show j = k by omega]; omega)
end RO
theorem dX10_gives_0 : decode cX10_gives 0 = .ok (.aload_n 0, 1) := by decide +kernel
theorem dX10_gives_1 : decode cX10_gives 1 = .ok (.getfield 45, 3) := by decide +kernel
theorem dX10_gives_4 : decode cX10_gives 4 = .ok (.iload_n 1, 1) := by decide +kernel
theorem dX10_gives_5 : decode cX10_gives 5 = .ok (.iaload, 1) := by decide +kernel
theorem dX10_gives_6 : decode cX10_gives 6 = .ok (.ifCond .le 27, 3) := by decide +kernel
theorem dX10_gives_9 : decode cX10_gives 9 = .ok (.aload_n 0, 1) := by decide +kernel
theorem dX10_gives_10 : decode cX10_gives 10 = .ok (.getfield 45, 3) := by decide +kernel
theorem dX10_gives_13 : decode cX10_gives 13 = .ok (.bipush 96, 2) := by decide +kernel
theorem dX10_gives_15 : decode cX10_gives 15 = .ok (.iload_n 1, 1) := by decide +kernel
theorem dX10_gives_16 : decode cX10_gives 16 = .ok (.iadd, 1) := by decide +kernel
theorem dX10_gives_17 : decode cX10_gives 17 = .ok (.iaload, 1) := by decide +kernel
theorem dX10_gives_18 : decode cX10_gives 18 = .ok (.ifCond .ne 15, 3) := by decide +kernel
theorem dX10_gives_21 : decode cX10_gives 21 = .ok (.aload_n 0, 1) := by decide +kernel
theorem dX10_gives_22 : decode cX10_gives 22 = .ok (.iload_n 1, 1) := by decide +kernel
theorem dX10_gives_23 : decode cX10_gives 23 = .ok (.invokevirtual 286, 3) := by decide +kernel
theorem dX10_gives_26 : decode cX10_gives 26 = .ok (.ifCond .ne 7, 3) := by decide +kernel
theorem dX10_gives_29 : decode cX10_gives 29 = .ok (.iconst 1, 1) := by decide +kernel
theorem dX10_gives_30 : decode cX10_gives 30 = .ok (.goto 4, 3) := by decide +kernel
theorem dX10_gives_33 : decode cX10_gives 33 = .ok (.iconst 0, 1) := by decide +kernel
theorem dX10_gives_34 : decode cX10_gives 34 = .ok (.ireturn, 1) := by decide +kernel
set_option maxRecDepth 100000 in
theorem SX10_gives_0 {g : zG} {o : Bool} {C R : Int} {M : zM} {q : Int → zM → Prop} {x1 : Int} (W : (0 ≤ x1 ∧ x1 < 198) ∧ (-2147483648 ≤ (M 11 x1) ∧ (M 11 x1) ≤ 2147483647) ∧ (((M 11 x1) ≤ 0) → q 0 M) ∧ ((¬ ((M 11 x1) ≤ 0)) → (0 ≤ (96 + x1) ∧ (96 + x1) < 198) ∧ (-2147483648 ≤ (M 11 (96 + x1)) ∧ (M 11 (96 + x1)) ≤ 2147483647) ∧ (((M 11 (96 + x1)) ≠ 0) → q 0 M) ∧ (((M 11 (96 + x1)) = 0) → (zRf M C R) ∧ (0 ≤ x1 ∧ x1 < C * R) ∧ (0 ≤ M 11 197 ∧ M 11 197 ≤ 2147483647) ∧ (Bd (M 11)) ∧ (0 ≤ M 11 193 ∧ M 11 193 ≤ 9) ∧ ((shd C R (M 11) (M 11 193) x1 (wnr M (M 11 197))) → q 0 M) ∧ ((¬ (shd C R (M 11) (M 11 193) x1 (wnr M (M 11 197)))) → q 1 M)))) : zT g (z2 o) mX10_gives (zQi (z2 o) q) 0 [(0, zA g 1), (1, zI x1)] [] M := by
  refine zr_aload_n 0 dX10_gives_0 rfl ?_
  refine zr_getr (b := 11) dX10_gives_1 fX10_45 rfl rfl rfl (by decide) ?_
  refine zr_iload_n 1 dX10_gives_4 rfl ?_
  obtain ⟨c1, W⟩ := W
  refine zr_iald dX10_gives_5 rfl (by decide) c1 ?_
  obtain ⟨c2, W⟩ := W
  refine zr_if_le (tgt := 33) dX10_gives_6 (by decide) c2 (fun h => ?_) (fun h => ?_)
  · have W := W.1 h
    refine zr_iconst dX10_gives_33 ?_
    exact zt_zret dX10_gives_34 rfl (by decide) W
  · have W := W.2 h
    refine zr_aload_n 0 dX10_gives_9 rfl ?_
    refine zr_getr (b := 11) dX10_gives_10 fX10_45 rfl rfl rfl (by decide) ?_
    refine zr_bipush dX10_gives_13 (by decide) ?_
    refine zr_iload_n 1 dX10_gives_15 rfl ?_
    refine zr_iadd dX10_gives_16 ?_
    obtain ⟨c3, W⟩ := W
    refine zr_iald dX10_gives_17 rfl (by decide) c3 ?_
    obtain ⟨c4, W⟩ := W
    refine zr_if_ne (tgt := 33) dX10_gives_18 (by decide) c4 (fun h => ?_) (fun h => ?_)
    · have W := W.1 h
      refine zr_iconst dX10_gives_33 ?_
      exact zt_zret dX10_gives_34 rfl (by decide) W
    · have W := W.2 h
      refine zr_aload_n 0 dX10_gives_21 rfl ?_
      refine zr_iload_n 1 dX10_gives_22 rfl ?_
      obtain ⟨c5, W⟩ := W
      obtain ⟨c6, W⟩ := W
      obtain ⟨c7, W⟩ := W
      obtain ⟨c8, W⟩ := W
      obtain ⟨c9, W⟩ := W
      refine zt_callVi (As := [zI x1]) (rest := []) dX10_gives_23 kX10_gives_286 rfl rfl rfl rfl (Nat.le_of_ble_eq_true rfl) (c_isShadow c5 c6 c7 c8 c9) (fun r10 N12 h11 => ?_)
      rw [h11.1, h11.2]
      refine zt_ifne_b (tgt := 33) dX10_gives_26 (by decide) (fun h => ?_) (fun h => ?_)
      · have W := W.1 h
        refine zr_iconst dX10_gives_33 ?_
        exact zt_zret dX10_gives_34 rfl (by decide) W
      · have W := W.2 h
        refine zr_iconst dX10_gives_29 ?_
        refine zr_goto (tgt := 34) dX10_gives_30 (by decide) ?_
        exact zt_zret dX10_gives_34 rfl (by decide) W
theorem dX10_draw_0 : decode cX10_draw 0 = .ok (.aload_n 0, 1) := by decide +kernel
theorem dX10_draw_1 : decode cX10_draw 1 = .ok (.getfield 45, 3) := by decide +kernel
theorem dX10_draw_4 : decode cX10_draw 4 = .ok (.sipush 196, 3) := by decide +kernel
theorem dX10_draw_7 : decode cX10_draw 7 = .ok (.sipush 137, 3) := by decide +kernel
theorem dX10_draw_10 : decode cX10_draw 10 = .ok (.aload_n 0, 1) := by decide +kernel
theorem dX10_draw_11 : decode cX10_draw 11 = .ok (.getfield 45, 3) := by decide +kernel
theorem dX10_draw_14 : decode cX10_draw 14 = .ok (.sipush 196, 3) := by decide +kernel
theorem dX10_draw_17 : decode cX10_draw 17 = .ok (.iaload, 1) := by decide +kernel
theorem dX10_draw_18 : decode cX10_draw 18 = .ok (.imul, 1) := by decide +kernel
theorem dX10_draw_19 : decode cX10_draw 19 = .ok (.bipush 71, 2) := by decide +kernel
theorem dX10_draw_21 : decode cX10_draw 21 = .ok (.iadd, 1) := by decide +kernel
theorem dX10_draw_22 : decode cX10_draw 22 = .ok (.sipush 10007, 3) := by decide +kernel
theorem dX10_draw_25 : decode cX10_draw 25 = .ok (.irem, 1) := by decide +kernel
theorem dX10_draw_26 : decode cX10_draw 26 = .ok (.iastore, 1) := by decide +kernel
theorem dX10_draw_27 : decode cX10_draw 27 = .ok (.aload_n 0, 1) := by decide +kernel
theorem dX10_draw_28 : decode cX10_draw 28 = .ok (.getfield 45, 3) := by decide +kernel
theorem dX10_draw_31 : decode cX10_draw 31 = .ok (.sipush 196, 3) := by decide +kernel
theorem dX10_draw_34 : decode cX10_draw 34 = .ok (.iaload, 1) := by decide +kernel
theorem dX10_draw_35 : decode cX10_draw 35 = .ok (.iload_n 1, 1) := by decide +kernel
theorem dX10_draw_36 : decode cX10_draw 36 = .ok (.irem, 1) := by decide +kernel
theorem dX10_draw_37 : decode cX10_draw 37 = .ok (.ireturn, 1) := by decide +kernel
set_option maxRecDepth 100000 in
theorem SX10_draw_0 {g : zG} {o : Bool} {M : zM} {q : Int → zM → Prop} {x1 : Int} (W : (0 ≤ ((137 * (M 11 196)) + 71) ∧ ((137 * (M 11 196)) + 71) ≤ 2147483647) ∧ (0 ≤ ((zu M 11 196 (((137 * (M 11 196)) + 71) % 10007)) 11 196) ∧ ((zu M 11 196 (((137 * (M 11 196)) + 71) % 10007)) 11 196) ≤ 2147483647) ∧ (0 < x1 ∧ x1 ≤ 2147483647) ∧ q (((zu M 11 196 (((137 * (M 11 196)) + 71) % 10007)) 11 196) % x1) (zu M 11 196 (((137 * (M 11 196)) + 71) % 10007))) : zT g (z2 o) mX10_draw (zQi (z2 o) q) 0 [(0, zA g 1), (1, zI x1)] [] M := by
  refine zr_aload_n 0 dX10_draw_0 rfl ?_
  refine zr_getr (b := 11) dX10_draw_1 fX10_45 rfl rfl rfl (by decide) ?_
  refine zr_sipush dX10_draw_4 (by decide) ?_
  refine zr_sipush dX10_draw_7 (by decide) ?_
  refine zr_aload_n 0 dX10_draw_10 rfl ?_
  refine zr_getr (b := 11) dX10_draw_11 fX10_45 rfl rfl rfl (by decide) ?_
  refine zr_sipush dX10_draw_14 (by decide) ?_
  refine zr_iald dX10_draw_17 rfl (by decide) ⟨by decide, by decide⟩ ?_
  refine zr_imul dX10_draw_18 ?_
  refine zr_bipush dX10_draw_19 (by decide) ?_
  refine zr_iadd dX10_draw_21 ?_
  refine zr_sipush dX10_draw_22 (by decide) ?_
  obtain ⟨c1, W⟩ := W
  refine zr_irem dX10_draw_25 c1 ⟨by decide, by decide⟩ ?_
  refine zr_iast dX10_draw_26 rfl (by decide) ⟨by decide, by decide⟩ ?_
  refine zr_aload_n 0 dX10_draw_27 rfl ?_
  refine zr_getr (b := 11) dX10_draw_28 fX10_45 rfl rfl rfl (by decide) ?_
  refine zr_sipush dX10_draw_31 (by decide) ?_
  refine zr_iald dX10_draw_34 rfl (by decide) ⟨by decide, by decide⟩ ?_
  refine zr_iload_n 1 dX10_draw_35 rfl ?_
  obtain ⟨c2, W⟩ := W
  obtain ⟨c3, W⟩ := W
  refine zr_irem dX10_draw_36 c2 c3 ?_
  exact zt_iret dX10_draw_37 rfl W
section RP
variable {g : zG} {o : Bool} {M : zM} {x y z w c k t m C R : Int} {H X : Int → Int}
theorem c_gives (h : zRf M C R) (hc : 0 ≤ c ∧ c < C * R) (ht : 0 ≤ M 11 197 ∧ M 11 197 ≤ 2147483647) (hB : Bd (M 11)) (hsh : 0 ≤ M 11 193 ∧ M 11 193 ≤ 9) (hg : 0 ≤ M 11 (96 + c) ∧ M 11 (96 + c) ≤ 1) : zKi g (z2 o) mX10_gives [zA g 1, zI c] M (fun r M' => r = zb (yld C R (M 11) (fun i => M 11 (96 + i)) (M 11 193) c (wnr M (M 11 197))) ∧ M' = M) := by
  have hn := geo_n h.1
  have hc0 := hB c hc.1 (by omega)
  exact zki_of rfl (Nat.le_of_ble_eq_true rfl) (SX10_gives_0 (C := C) (R := R) ⟨by omega, by omega, fun h1 => ⟨(zb_f fun q => by have := q.1; omega).symm, rfl⟩, fun h1 => ⟨by omega, by omega, fun h2 => ⟨(zb_f fun q => h2 q.2.1).symm, rfl⟩, fun h2 => ⟨h, hc, ht, hB, hsh, fun h3 => ⟨(zb_f fun q => q.2.2 h3).symm, rfl⟩, fun h3 => ⟨(zb_t ⟨by omega, h2, h3⟩).symm, rfl⟩⟩⟩⟩)
theorem c_drawR (h0 : 0 ≤ M 11 196 ∧ M 11 196 ≤ 10006) (hm : 0 < m ∧ m ≤ 2147483647) : zKi g (z2 o) mX10_draw [zA g 1, zI m] M (fun r M' => r = dsd (M 11 196) % m ∧ M' = zu M 11 196 (dsd (M 11 196))) := by
  have d := dsd_in (M 11 196)
  have e : (137 * M 11 196 + 71) % 10007 = dsd (M 11 196) := by unfold dsd; rw [Int.mul_comm]
  refine zki_of rfl (Nat.le_of_ble_eq_true rfl) (SX10_draw_0 ?_)
  rw [e, zu_at]
  exact ⟨by omega, by omega, hm, rfl, rfl⟩
end RP
