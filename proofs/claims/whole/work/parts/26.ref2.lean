theorem dX10_cells_0 : decode cX10_cells 0 = .ok (.aload_n 0, 1) := by decide +kernel
theorem dX10_cells_1 : decode cX10_cells 1 = .ok (.invokevirtual 255, 3) := by decide +kernel
theorem dX10_cells_4 : decode cX10_cells 4 = .ok (.aload_n 0, 1) := by decide +kernel
theorem dX10_cells_5 : decode cX10_cells 5 = .ok (.invokevirtual 258, 3) := by decide +kernel
theorem dX10_cells_8 : decode cX10_cells 8 = .ok (.imul, 1) := by decide +kernel
theorem dX10_cells_9 : decode cX10_cells 9 = .ok (.ireturn, 1) := by decide +kernel
set_option maxRecDepth 100000 in
theorem SX10_cells_0 {g : zG} {o : Bool} {C R : Int} {M : zM} {q : Int → zM → Prop} (W : (zRf M C R) ∧ q (C * R) M) : zT g (z2 o) mX10_cells (zQi (z2 o) q) 0 [(0, zA g 1)] [] M := by
  refine zr_aload_n 0 dX10_cells_0 rfl ?_
  obtain ⟨c1, W⟩ := W
  refine zt_callVi (As := []) (rest := []) dX10_cells_1 kX10_cells_255 rfl rfl rfl rfl (Nat.le_of_ble_eq_true rfl) (c_columnsC c1) (fun r2 N4 h3 => ?_)
  rw [h3.1, h3.2]
  refine zr_aload_n 0 dX10_cells_4 rfl ?_
  refine zt_callVi (As := []) (rest := [zI C]) dX10_cells_5 kX10_cells_258 rfl rfl rfl rfl (Nat.le_of_ble_eq_true rfl) (c_rowsR c1) (fun r5 N7 h6 => ?_)
  rw [h6.1, h6.2]
  refine zr_imul dX10_cells_8 ?_
  exact zt_iret dX10_cells_9 rfl W
theorem dX10_along_0 : decode cX10_along 0 = .ok (.iload_n 1, 1) := by decide +kernel
theorem dX10_along_1 : decode cX10_along 1 = .ok (.aload_n 0, 1) := by decide +kernel
theorem dX10_along_2 : decode cX10_along 2 = .ok (.invokevirtual 255, 3) := by decide +kernel
theorem dX10_along_5 : decode cX10_along 5 = .ok (.irem, 1) := by decide +kernel
theorem dX10_along_6 : decode cX10_along 6 = .ok (.istore 4, 2) := by decide +kernel
theorem dX10_along_8 : decode cX10_along 8 = .ok (.iload_n 1, 1) := by decide +kernel
theorem dX10_along_9 : decode cX10_along 9 = .ok (.aload_n 0, 1) := by decide +kernel
theorem dX10_along_10 : decode cX10_along 10 = .ok (.invokevirtual 255, 3) := by decide +kernel
theorem dX10_along_13 : decode cX10_along 13 = .ok (.idiv, 1) := by decide +kernel
theorem dX10_along_14 : decode cX10_along 14 = .ok (.istore 5, 2) := by decide +kernel
theorem dX10_along_16 : decode cX10_along 16 = .ok (.iload_n 2, 1) := by decide +kernel
theorem dX10_along_17 : decode cX10_along 17 = .ok (.ifCond .ne 17, 3) := by decide +kernel
theorem dX10_along_20 : decode cX10_along 20 = .ok (.iload 4, 2) := by decide +kernel
theorem dX10_along_22 : decode cX10_along 22 = .ok (.iload_n 3, 1) := by decide +kernel
theorem dX10_along_23 : decode cX10_along 23 = .ok (.iadd, 1) := by decide +kernel
theorem dX10_along_24 : decode cX10_along 24 = .ok (.aload_n 0, 1) := by decide +kernel
theorem dX10_along_25 : decode cX10_along 25 = .ok (.invokevirtual 255, 3) := by decide +kernel
theorem dX10_along_28 : decode cX10_along 28 = .ok (.irem, 1) := by decide +kernel
theorem dX10_along_29 : decode cX10_along 29 = .ok (.istore 4, 2) := by decide +kernel
theorem dX10_along_31 : decode cX10_along 31 = .ok (.goto 66, 3) := by decide +kernel
theorem dX10_along_34 : decode cX10_along 34 = .ok (.iload_n 2, 1) := by decide +kernel
theorem dX10_along_35 : decode cX10_along 35 = .ok (.iconst 1, 1) := by decide +kernel
theorem dX10_along_36 : decode cX10_along 36 = .ok (.if_icmp .ne 17, 3) := by decide +kernel
theorem dX10_along_39 : decode cX10_along 39 = .ok (.iload 5, 2) := by decide +kernel
theorem dX10_along_41 : decode cX10_along 41 = .ok (.iload_n 3, 1) := by decide +kernel
theorem dX10_along_42 : decode cX10_along 42 = .ok (.iadd, 1) := by decide +kernel
theorem dX10_along_43 : decode cX10_along 43 = .ok (.aload_n 0, 1) := by decide +kernel
theorem dX10_along_44 : decode cX10_along 44 = .ok (.invokevirtual 258, 3) := by decide +kernel
theorem dX10_along_47 : decode cX10_along 47 = .ok (.irem, 1) := by decide +kernel
theorem dX10_along_48 : decode cX10_along 48 = .ok (.istore 5, 2) := by decide +kernel
theorem dX10_along_50 : decode cX10_along 50 = .ok (.goto 47, 3) := by decide +kernel
theorem dX10_along_53 : decode cX10_along 53 = .ok (.iload_n 2, 1) := by decide +kernel
theorem dX10_along_54 : decode cX10_along 54 = .ok (.iconst 2, 1) := by decide +kernel
theorem dX10_along_55 : decode cX10_along 55 = .ok (.if_icmp .ne 24, 3) := by decide +kernel
theorem dX10_along_58 : decode cX10_along 58 = .ok (.iload 4, 2) := by decide +kernel
theorem dX10_along_60 : decode cX10_along 60 = .ok (.iload_n 3, 1) := by decide +kernel
theorem dX10_along_61 : decode cX10_along 61 = .ok (.aload_n 0, 1) := by decide +kernel
theorem dX10_along_62 : decode cX10_along 62 = .ok (.invokevirtual 255, 3) := by decide +kernel
theorem dX10_along_65 : decode cX10_along 65 = .ok (.iconst 1, 1) := by decide +kernel
theorem dX10_along_66 : decode cX10_along 66 = .ok (.isub, 1) := by decide +kernel
theorem dX10_along_67 : decode cX10_along 67 = .ok (.imul, 1) := by decide +kernel
theorem dX10_along_68 : decode cX10_along 68 = .ok (.iadd, 1) := by decide +kernel
theorem dX10_along_69 : decode cX10_along 69 = .ok (.aload_n 0, 1) := by decide +kernel
theorem dX10_along_70 : decode cX10_along 70 = .ok (.invokevirtual 255, 3) := by decide +kernel
theorem dX10_along_73 : decode cX10_along 73 = .ok (.irem, 1) := by decide +kernel
theorem dX10_along_74 : decode cX10_along 74 = .ok (.istore 4, 2) := by decide +kernel
theorem dX10_along_76 : decode cX10_along 76 = .ok (.goto 21, 3) := by decide +kernel
theorem dX10_along_79 : decode cX10_along 79 = .ok (.iload 5, 2) := by decide +kernel
theorem dX10_along_81 : decode cX10_along 81 = .ok (.iload_n 3, 1) := by decide +kernel
theorem dX10_along_82 : decode cX10_along 82 = .ok (.aload_n 0, 1) := by decide +kernel
theorem dX10_along_83 : decode cX10_along 83 = .ok (.invokevirtual 258, 3) := by decide +kernel
theorem dX10_along_86 : decode cX10_along 86 = .ok (.iconst 1, 1) := by decide +kernel
theorem dX10_along_87 : decode cX10_along 87 = .ok (.isub, 1) := by decide +kernel
theorem dX10_along_88 : decode cX10_along 88 = .ok (.imul, 1) := by decide +kernel
theorem dX10_along_89 : decode cX10_along 89 = .ok (.iadd, 1) := by decide +kernel
theorem dX10_along_90 : decode cX10_along 90 = .ok (.aload_n 0, 1) := by decide +kernel
theorem dX10_along_91 : decode cX10_along 91 = .ok (.invokevirtual 258, 3) := by decide +kernel
theorem dX10_along_94 : decode cX10_along 94 = .ok (.irem, 1) := by decide +kernel
theorem dX10_along_95 : decode cX10_along 95 = .ok (.istore 5, 2) := by decide +kernel
theorem dX10_along_97 : decode cX10_along 97 = .ok (.aload_n 0, 1) := by decide +kernel
theorem dX10_along_98 : decode cX10_along 98 = .ok (.invokevirtual 255, 3) := by decide +kernel
theorem dX10_along_101 : decode cX10_along 101 = .ok (.iload 5, 2) := by decide +kernel
theorem dX10_along_103 : decode cX10_along 103 = .ok (.imul, 1) := by decide +kernel
theorem dX10_along_104 : decode cX10_along 104 = .ok (.iload 4, 2) := by decide +kernel
theorem dX10_along_106 : decode cX10_along 106 = .ok (.iadd, 1) := by decide +kernel
theorem dX10_along_107 : decode cX10_along 107 = .ok (.ireturn, 1) := by decide +kernel
set_option maxRecDepth 100000 in
theorem SX10_along_0 {g : zG} {o : Bool} {C R : Int} {M : zM} {q : Int → zM → Prop} {x1 x2 x3 : Int} (W : (zRf M C R) ∧ (0 ≤ x1 ∧ x1 ≤ 2147483647) ∧ (0 < C ∧ C ≤ 2147483647) ∧ (-2147483648 ≤ x2 ∧ x2 ≤ 2147483647) ∧ ((x2 ≠ 0) → ((x2 ≠ 1) → ((x2 ≠ 2) → (0 ≤ ((x1 / C) + (x3 * (R - 1))) ∧ ((x1 / C) + (x3 * (R - 1))) ≤ 2147483647) ∧ (0 < R ∧ R ≤ 2147483647) ∧ q ((C * (((x1 / C) + (x3 * (R - 1))) % R)) + (x1 % C)) M) ∧ ((x2 = 2) → (0 ≤ ((x1 % C) + (x3 * (C - 1))) ∧ ((x1 % C) + (x3 * (C - 1))) ≤ 2147483647) ∧ q ((C * (x1 / C)) + (((x1 % C) + (x3 * (C - 1))) % C)) M)) ∧ ((x2 = 1) → (0 ≤ ((x1 / C) + x3) ∧ ((x1 / C) + x3) ≤ 2147483647) ∧ (0 < R ∧ R ≤ 2147483647) ∧ q ((C * (((x1 / C) + x3) % R)) + (x1 % C)) M)) ∧ ((x2 = 0) → (0 ≤ ((x1 % C) + x3) ∧ ((x1 % C) + x3) ≤ 2147483647) ∧ q ((C * (x1 / C)) + (((x1 % C) + x3) % C)) M)) : zT g (z2 o) mX10_along (zQi (z2 o) q) 0 [(0, zA g 1), (1, zI x1), (2, zI x2), (3, zI x3)] [] M := by
  refine zr_iload_n 1 dX10_along_0 rfl ?_
  refine zr_aload_n 0 dX10_along_1 rfl ?_
  obtain ⟨c1, W⟩ := W
  refine zt_callVi (As := []) (rest := [zI x1]) dX10_along_2 kX10_along_255 rfl rfl rfl rfl (Nat.le_of_ble_eq_true rfl) (c_columnsC c1) (fun r2 N4 h3 => ?_)
  rw [h3.1, h3.2]
  obtain ⟨c5, W⟩ := W
  obtain ⟨c6, W⟩ := W
  refine zr_irem dX10_along_5 c5 c6 ?_
  refine zr_istore (l' := [(0, zA g 1), (1, zI x1), (2, zI x2), (3, zI x3), (4, zI (x1 % C))]) dX10_along_6 (by decide) [1, 2, 3, 4, 0] rfl ?_
  refine zr_iload_n 1 dX10_along_8 rfl ?_
  refine zr_aload_n 0 dX10_along_9 rfl ?_
  refine zt_callVi (As := []) (rest := [zI x1]) dX10_along_10 kX10_along_255 rfl rfl rfl rfl (Nat.le_of_ble_eq_true rfl) (c_columnsC c1) (fun r7 N9 h8 => ?_)
  rw [h8.1, h8.2]
  refine zr_idiv dX10_along_13 c5 c6 ?_
  refine zr_istore (l' := [(0, zA g 1), (2, zI x2), (3, zI x3), (4, zI (x1 % C)), (5, zI (x1 / C))]) dX10_along_14 (by decide) [1, 3, 4, 5, 0] rfl ?_
  refine zr_iload_n 1 dX10_along_16 rfl ?_
  obtain ⟨c10, W⟩ := W
  refine zr_if_ne (tgt := 34) dX10_along_17 (by decide) c10 (fun h => ?_) (fun h => ?_)
  · have W := W.1 h
    refine zr_iload_n 1 dX10_along_34 rfl ?_
    refine zr_iconst dX10_along_35 ?_
    refine zr_icmp_ne (tgt := 53) dX10_along_36 (by decide) c10 ⟨by decide, by decide⟩ (fun h => ?_) (fun h => ?_)
    · have W := W.1 h
      refine zr_iload_n 1 dX10_along_53 rfl ?_
      refine zr_iconst dX10_along_54 ?_
      refine zr_icmp_ne (tgt := 79) dX10_along_55 (by decide) c10 ⟨by decide, by decide⟩ (fun h => ?_) (fun h => ?_)
      · have W := W.1 h
        refine zr_iload 4 dX10_along_79 rfl ?_
        refine zr_iload_n 2 dX10_along_81 rfl ?_
        refine zr_aload_n 0 dX10_along_82 rfl ?_
        refine zt_callVi (As := []) (rest := [zI x3, zI (x1 / C)]) dX10_along_83 kX10_along_258 rfl rfl rfl rfl (Nat.le_of_ble_eq_true rfl) (c_rowsR c1) (fun r11 N13 h12 => ?_)
        rw [h12.1, h12.2]
        refine zr_iconst dX10_along_86 ?_
        refine zr_isub dX10_along_87 ?_
        refine zr_imul dX10_along_88 ?_
        refine zr_iadd dX10_along_89 ?_
        refine zr_aload_n 0 dX10_along_90 rfl ?_
        refine zt_callVi (As := []) (rest := [zI ((x1 / C) + (x3 * (R - 1)))]) dX10_along_91 kX10_along_258 rfl rfl rfl rfl (Nat.le_of_ble_eq_true rfl) (c_rowsR c1) (fun r14 N16 h15 => ?_)
        rw [h15.1, h15.2]
        obtain ⟨c17, W⟩ := W
        obtain ⟨c18, W⟩ := W
        refine zr_irem dX10_along_94 c17 c18 ?_
        refine zr_istore (l' := [(0, zA g 1), (4, zI (x1 % C)), (5, zI (((x1 / C) + (x3 * (R - 1))) % R))]) dX10_along_95 (by decide) [1, 4, 0] rfl ?_
        refine zr_aload_n 0 dX10_along_97 rfl ?_
        refine zt_callVi (As := []) (rest := []) dX10_along_98 kX10_along_255 rfl rfl rfl rfl (Nat.le_of_ble_eq_true rfl) (c_columnsC c1) (fun r19 N21 h20 => ?_)
        rw [h20.1, h20.2]
        refine zr_iload 2 dX10_along_101 rfl ?_
        refine zr_imul dX10_along_103 ?_
        refine zr_iload 1 dX10_along_104 rfl ?_
        refine zr_iadd dX10_along_106 ?_
        exact zt_iret dX10_along_107 rfl W
      · have W := W.2 h
        refine zr_iload 3 dX10_along_58 rfl ?_
        refine zr_iload_n 2 dX10_along_60 rfl ?_
        refine zr_aload_n 0 dX10_along_61 rfl ?_
        refine zt_callVi (As := []) (rest := [zI x3, zI (x1 % C)]) dX10_along_62 kX10_along_255 rfl rfl rfl rfl (Nat.le_of_ble_eq_true rfl) (c_columnsC c1) (fun r22 N24 h23 => ?_)
        rw [h23.1, h23.2]
        refine zr_iconst dX10_along_65 ?_
        refine zr_isub dX10_along_66 ?_
        refine zr_imul dX10_along_67 ?_
        refine zr_iadd dX10_along_68 ?_
        refine zr_aload_n 0 dX10_along_69 rfl ?_
        refine zt_callVi (As := []) (rest := [zI ((x1 % C) + (x3 * (C - 1)))]) dX10_along_70 kX10_along_255 rfl rfl rfl rfl (Nat.le_of_ble_eq_true rfl) (c_columnsC c1) (fun r25 N27 h26 => ?_)
        rw [h26.1, h26.2]
        obtain ⟨c28, W⟩ := W
        refine zr_irem dX10_along_73 c28 c6 ?_
        refine zr_istore (l' := [(0, zA g 1), (4, zI (((x1 % C) + (x3 * (C - 1))) % C)), (5, zI (x1 / C))]) dX10_along_74 (by decide) [1, 0, 4] rfl ?_
        refine zr_goto (tgt := 97) dX10_along_76 (by decide) ?_
        refine zr_aload_n 0 dX10_along_97 rfl ?_
        refine zt_callVi (As := []) (rest := []) dX10_along_98 kX10_along_255 rfl rfl rfl rfl (Nat.le_of_ble_eq_true rfl) (c_columnsC c1) (fun r29 N31 h30 => ?_)
        rw [h30.1, h30.2]
        refine zr_iload 2 dX10_along_101 rfl ?_
        refine zr_imul dX10_along_103 ?_
        refine zr_iload 1 dX10_along_104 rfl ?_
        refine zr_iadd dX10_along_106 ?_
        exact zt_iret dX10_along_107 rfl W
    · have W := W.2 h
      refine zr_iload 4 dX10_along_39 rfl ?_
      refine zr_iload_n 2 dX10_along_41 rfl ?_
      refine zr_iadd dX10_along_42 ?_
      refine zr_aload_n 0 dX10_along_43 rfl ?_
      refine zt_callVi (As := []) (rest := [zI ((x1 / C) + x3)]) dX10_along_44 kX10_along_258 rfl rfl rfl rfl (Nat.le_of_ble_eq_true rfl) (c_rowsR c1) (fun r32 N34 h33 => ?_)
      rw [h33.1, h33.2]
      obtain ⟨c35, W⟩ := W
      obtain ⟨c36, W⟩ := W
      refine zr_irem dX10_along_47 c35 c36 ?_
      refine zr_istore (l' := [(0, zA g 1), (4, zI (x1 % C)), (5, zI (((x1 / C) + x3) % R))]) dX10_along_48 (by decide) [1, 4, 0] rfl ?_
      refine zr_goto (tgt := 97) dX10_along_50 (by decide) ?_
      refine zr_aload_n 0 dX10_along_97 rfl ?_
      refine zt_callVi (As := []) (rest := []) dX10_along_98 kX10_along_255 rfl rfl rfl rfl (Nat.le_of_ble_eq_true rfl) (c_columnsC c1) (fun r37 N39 h38 => ?_)
      rw [h38.1, h38.2]
      refine zr_iload 2 dX10_along_101 rfl ?_
      refine zr_imul dX10_along_103 ?_
      refine zr_iload 1 dX10_along_104 rfl ?_
      refine zr_iadd dX10_along_106 ?_
      exact zt_iret dX10_along_107 rfl W
  · have W := W.2 h
    refine zr_iload 3 dX10_along_20 rfl ?_
    refine zr_iload_n 2 dX10_along_22 rfl ?_
    refine zr_iadd dX10_along_23 ?_
    refine zr_aload_n 0 dX10_along_24 rfl ?_
    refine zt_callVi (As := []) (rest := [zI ((x1 % C) + x3)]) dX10_along_25 kX10_along_255 rfl rfl rfl rfl (Nat.le_of_ble_eq_true rfl) (c_columnsC c1) (fun r40 N42 h41 => ?_)
    rw [h41.1, h41.2]
    obtain ⟨c43, W⟩ := W
    refine zr_irem dX10_along_28 c43 c6 ?_
    refine zr_istore (l' := [(0, zA g 1), (4, zI (((x1 % C) + x3) % C)), (5, zI (x1 / C))]) dX10_along_29 (by decide) [1, 0, 4] rfl ?_
    refine zr_goto (tgt := 97) dX10_along_31 (by decide) ?_
    refine zr_aload_n 0 dX10_along_97 rfl ?_
    refine zt_callVi (As := []) (rest := []) dX10_along_98 kX10_along_255 rfl rfl rfl rfl (Nat.le_of_ble_eq_true rfl) (c_columnsC c1) (fun r44 N46 h45 => ?_)
    rw [h45.1, h45.2]
    refine zr_iload 2 dX10_along_101 rfl ?_
    refine zr_imul dX10_along_103 ?_
    refine zr_iload 1 dX10_along_104 rfl ?_
    refine zr_iadd dX10_along_106 ?_
    exact zt_iret dX10_along_107 rfl W
theorem dX10_roundOf_0 : decode cX10_roundOf 0 = .ok (.iload_n 1, 1) := by decide +kernel
theorem dX10_roundOf_1 : decode cX10_roundOf 1 = .ok (.iconst 2, 1) := by decide +kernel
theorem dX10_roundOf_2 : decode cX10_roundOf 2 = .ok (.irem, 1) := by decide +kernel
theorem dX10_roundOf_3 : decode cX10_roundOf 3 = .ok (.ifCond .ne 10, 3) := by decide +kernel
theorem dX10_roundOf_6 : decode cX10_roundOf 6 = .ok (.aload_n 0, 1) := by decide +kernel
theorem dX10_roundOf_7 : decode cX10_roundOf 7 = .ok (.invokevirtual 255, 3) := by decide +kernel
theorem dX10_roundOf_10 : decode cX10_roundOf 10 = .ok (.goto 7, 3) := by decide +kernel
theorem dX10_roundOf_13 : decode cX10_roundOf 13 = .ok (.aload_n 0, 1) := by decide +kernel
theorem dX10_roundOf_14 : decode cX10_roundOf 14 = .ok (.invokevirtual 258, 3) := by decide +kernel
theorem dX10_roundOf_17 : decode cX10_roundOf 17 = .ok (.ireturn, 1) := by decide +kernel
set_option maxRecDepth 100000 in
theorem SX10_roundOf_0 {g : zG} {o : Bool} {C R : Int} {M : zM} {q : Int → zM → Prop} {x1 : Int} (W : (0 ≤ x1 ∧ x1 ≤ 2147483647) ∧ (-2147483648 ≤ (x1 % 2) ∧ (x1 % 2) ≤ 2147483647) ∧ (((x1 % 2) ≠ 0) → (zRf M C R) ∧ q R M) ∧ (((x1 % 2) = 0) → (zRf M C R) ∧ q C M)) : zT g (z2 o) mX10_roundOf (zQi (z2 o) q) 0 [(0, zA g 1), (1, zI x1)] [] M := by
  refine zr_iload_n 1 dX10_roundOf_0 rfl ?_
  refine zr_iconst dX10_roundOf_1 ?_
  obtain ⟨c1, W⟩ := W
  refine zr_irem dX10_roundOf_2 c1 ⟨by decide, by decide⟩ ?_
  obtain ⟨c2, W⟩ := W
  refine zr_if_ne (tgt := 13) dX10_roundOf_3 (by decide) c2 (fun h => ?_) (fun h => ?_)
  · have W := W.1 h
    refine zr_aload_n 0 dX10_roundOf_13 rfl ?_
    obtain ⟨c3, W⟩ := W
    refine zt_callVi (As := []) (rest := []) dX10_roundOf_14 kX10_roundOf_258 rfl rfl rfl rfl (Nat.le_of_ble_eq_true rfl) (c_rowsR c3) (fun r4 N6 h5 => ?_)
    rw [h5.1, h5.2]
    exact zt_iret dX10_roundOf_17 rfl W
  · have W := W.2 h
    refine zr_aload_n 0 dX10_roundOf_6 rfl ?_
    obtain ⟨c7, W⟩ := W
    refine zt_callVi (As := []) (rest := []) dX10_roundOf_7 kX10_roundOf_255 rfl rfl rfl rfl (Nat.le_of_ble_eq_true rfl) (c_columnsC c7) (fun r8 N10 h9 => ?_)
    rw [h9.1, h9.2]
    refine zr_goto (tgt := 17) dX10_roundOf_10 (by decide) ?_
    exact zt_iret dX10_roundOf_17 rfl W
theorem dX10_windOf_0 : decode cX10_windOf 0 = .ok (.iconst 0, 1) := by decide +kernel
theorem dX10_windOf_1 : decode cX10_windOf 1 = .ok (.istore_n 2, 1) := by decide +kernel
theorem dX10_windOf_2 : decode cX10_windOf 2 = .ok (.iconst 0, 1) := by decide +kernel
theorem dX10_windOf_3 : decode cX10_windOf 3 = .ok (.istore_n 3, 1) := by decide +kernel
theorem dX10_windOf_4 : decode cX10_windOf 4 = .ok (.iload_n 3, 1) := by decide +kernel
theorem dX10_windOf_5 : decode cX10_windOf 5 = .ok (.aload_n 0, 1) := by decide +kernel
theorem dX10_windOf_6 : decode cX10_windOf 6 = .ok (.getfield 20, 3) := by decide +kernel
theorem dX10_windOf_9 : decode cX10_windOf 9 = .ok (.bipush 9, 2) := by decide +kernel
theorem dX10_windOf_11 : decode cX10_windOf 11 = .ok (.iaload, 1) := by decide +kernel
theorem dX10_windOf_12 : decode cX10_windOf 12 = .ok (.if_icmp .ge 18, 3) := by decide +kernel
theorem dX10_windOf_15 : decode cX10_windOf 15 = .ok (.iload_n 2, 1) := by decide +kernel
theorem dX10_windOf_16 : decode cX10_windOf 16 = .ok (.aload_n 0, 1) := by decide +kernel
theorem dX10_windOf_17 : decode cX10_windOf 17 = .ok (.getfield 26, 3) := by decide +kernel
theorem dX10_windOf_20 : decode cX10_windOf 20 = .ok (.iload_n 3, 1) := by decide +kernel
theorem dX10_windOf_21 : decode cX10_windOf 21 = .ok (.iaload, 1) := by decide +kernel
theorem dX10_windOf_22 : decode cX10_windOf 22 = .ok (.iadd, 1) := by decide +kernel
theorem dX10_windOf_23 : decode cX10_windOf 23 = .ok (.istore_n 2, 1) := by decide +kernel
theorem dX10_windOf_24 : decode cX10_windOf 24 = .ok (.iinc 3 1, 3) := by decide +kernel
theorem dX10_windOf_27 : decode cX10_windOf 27 = .ok (.goto (-23), 3) := by decide +kernel
theorem dX10_windOf_30 : decode cX10_windOf 30 = .ok (.iload_n 1, 1) := by decide +kernel
theorem dX10_windOf_31 : decode cX10_windOf 31 = .ok (.iload_n 2, 1) := by decide +kernel
theorem dX10_windOf_32 : decode cX10_windOf 32 = .ok (.irem, 1) := by decide +kernel
theorem dX10_windOf_33 : decode cX10_windOf 33 = .ok (.istore_n 3, 1) := by decide +kernel
theorem dX10_windOf_34 : decode cX10_windOf 34 = .ok (.iconst 0, 1) := by decide +kernel
theorem dX10_windOf_35 : decode cX10_windOf 35 = .ok (.istore 4, 2) := by decide +kernel
theorem dX10_windOf_37 : decode cX10_windOf 37 = .ok (.iload_n 3, 1) := by decide +kernel
theorem dX10_windOf_38 : decode cX10_windOf 38 = .ok (.aload_n 0, 1) := by decide +kernel
theorem dX10_windOf_39 : decode cX10_windOf 39 = .ok (.getfield 26, 3) := by decide +kernel
theorem dX10_windOf_42 : decode cX10_windOf 42 = .ok (.iload 4, 2) := by decide +kernel
theorem dX10_windOf_44 : decode cX10_windOf 44 = .ok (.iaload, 1) := by decide +kernel
theorem dX10_windOf_45 : decode cX10_windOf 45 = .ok (.if_icmp .lt 19, 3) := by decide +kernel
theorem dX10_windOf_48 : decode cX10_windOf 48 = .ok (.iload_n 3, 1) := by decide +kernel
theorem dX10_windOf_49 : decode cX10_windOf 49 = .ok (.aload_n 0, 1) := by decide +kernel
theorem dX10_windOf_50 : decode cX10_windOf 50 = .ok (.getfield 26, 3) := by decide +kernel
theorem dX10_windOf_53 : decode cX10_windOf 53 = .ok (.iload 4, 2) := by decide +kernel
theorem dX10_windOf_55 : decode cX10_windOf 55 = .ok (.iaload, 1) := by decide +kernel
theorem dX10_windOf_56 : decode cX10_windOf 56 = .ok (.isub, 1) := by decide +kernel
theorem dX10_windOf_57 : decode cX10_windOf 57 = .ok (.istore_n 3, 1) := by decide +kernel
theorem dX10_windOf_58 : decode cX10_windOf 58 = .ok (.iinc 4 1, 3) := by decide +kernel
theorem dX10_windOf_61 : decode cX10_windOf 61 = .ok (.goto (-24), 3) := by decide +kernel
theorem dX10_windOf_64 : decode cX10_windOf 64 = .ok (.aload_n 0, 1) := by decide +kernel
theorem dX10_windOf_65 : decode cX10_windOf 65 = .ok (.getfield 23, 3) := by decide +kernel
theorem dX10_windOf_68 : decode cX10_windOf 68 = .ok (.iload 4, 2) := by decide +kernel
theorem dX10_windOf_70 : decode cX10_windOf 70 = .ok (.iaload, 1) := by decide +kernel
theorem dX10_windOf_71 : decode cX10_windOf 71 = .ok (.ireturn, 1) := by decide +kernel
set_option maxRecDepth 100000 in
theorem SX10_windOf_0 {g : zG} {o : Bool} {M : zM} {q : Int → zM → Prop} {x1 : Int} (W : zT g (z2 o) mX10_windOf (zQi (z2 o) q) 4 [(0, zA g 1), (1, zI x1), (2, zI 0), (3, zI 0)] [] M) : zT g (z2 o) mX10_windOf (zQi (z2 o) q) 0 [(0, zA g 1), (1, zI x1)] [] M := by
  refine zr_iconst dX10_windOf_0 ?_
  refine zr_istore_n (l' := [(0, zA g 1), (1, zI x1), (2, zI 0)]) dX10_windOf_1 (by decide) [1, 2, 0] rfl ?_
  refine zr_iconst dX10_windOf_2 ?_
  refine zr_istore_n (l' := [(0, zA g 1), (1, zI x1), (2, zI 0), (3, zI 0)]) dX10_windOf_3 (by decide) [1, 2, 3, 0] rfl ?_
  exact W
set_option maxRecDepth 100000 in
theorem SX10_windOf_4 {g : zG} {o : Bool} {M : zM} {q : Int → zM → Prop} {x1 x2 x3 : Int} (W : (-2147483648 ≤ x3 ∧ x3 ≤ 2147483647) ∧ (-2147483648 ≤ (M 3 9) ∧ (M 3 9) ≤ 2147483647) ∧ (((M 3 9) ≤ x3) → (0 ≤ x1 ∧ x1 ≤ 2147483647) ∧ (0 < x2 ∧ x2 ≤ 2147483647) ∧ zT g (z2 o) mX10_windOf (zQi (z2 o) q) 37 [(0, zA g 1), (3, zI (x1 % x2)), (4, zI 0)] [] M) ∧ ((¬ ((M 3 9) ≤ x3)) → (0 ≤ x3 ∧ x3 < 16) ∧ zT g (z2 o) mX10_windOf (zQi (z2 o) q) 4 [(0, zA g 1), (1, zI x1), (2, zI (x2 + (M 5 x3))), (3, zI (x3 + 1))] [] M)) : zT g (z2 o) mX10_windOf (zQi (z2 o) q) 4 [(0, zA g 1), (1, zI x1), (2, zI x2), (3, zI x3)] [] M := by
  refine zr_iload_n 3 dX10_windOf_4 rfl ?_
  refine zr_aload_n 0 dX10_windOf_5 rfl ?_
  refine zr_getr (b := 3) dX10_windOf_6 fX10_20 rfl rfl rfl (by decide) ?_
  refine zr_bipush dX10_windOf_9 (by decide) ?_
  refine zr_iald dX10_windOf_11 rfl (by decide) ⟨by decide, by decide⟩ ?_
  obtain ⟨c1, W⟩ := W
  obtain ⟨c2, W⟩ := W
  refine zr_icmp_ge (tgt := 30) dX10_windOf_12 (by decide) c1 c2 (fun h => ?_) (fun h => ?_)
  · have W := W.1 h
    refine zr_iload_n 1 dX10_windOf_30 rfl ?_
    refine zr_iload_n 2 dX10_windOf_31 rfl ?_
    obtain ⟨c3, W⟩ := W
    obtain ⟨c4, W⟩ := W
    refine zr_irem dX10_windOf_32 c3 c4 ?_
    refine zr_istore_n (l' := [(0, zA g 1), (3, zI (x1 % x2))]) dX10_windOf_33 (by decide) [1, 0] rfl ?_
    refine zr_iconst dX10_windOf_34 ?_
    refine zr_istore (l' := [(0, zA g 1), (3, zI (x1 % x2)), (4, zI 0)]) dX10_windOf_35 (by decide) [1, 2, 0] rfl ?_
    exact W
  · have W := W.2 h
    refine zr_iload_n 2 dX10_windOf_15 rfl ?_
    refine zr_aload_n 0 dX10_windOf_16 rfl ?_
    refine zr_getr (b := 5) dX10_windOf_17 fX10_26 rfl rfl rfl (by decide) ?_
    refine zr_iload_n 3 dX10_windOf_20 rfl ?_
    obtain ⟨c5, W⟩ := W
    refine zr_iald dX10_windOf_21 rfl (by decide) c5 ?_
    refine zr_iadd dX10_windOf_22 ?_
    refine zr_istore_n (l' := [(0, zA g 1), (1, zI x1), (2, zI (x2 + (M 5 x3))), (3, zI x3)]) dX10_windOf_23 (by decide) [1, 2, 0, 3] rfl ?_
    refine zr_iinc (q := 3) (l' := [(0, zA g 1), (1, zI x1), (2, zI (x2 + (M 5 x3))), (3, zI (x3 + 1))]) dX10_windOf_24 rfl (by decide) [1, 2, 3, 0] rfl ?_
    refine zr_goto (tgt := 4) dX10_windOf_27 (by decide) ?_
    exact W
set_option maxRecDepth 100000 in
theorem SX10_windOf_37 {g : zG} {o : Bool} {M : zM} {q : Int → zM → Prop} {x3 x4 : Int} (W : (0 ≤ x4 ∧ x4 < 16) ∧ (-2147483648 ≤ x3 ∧ x3 ≤ 2147483647) ∧ (-2147483648 ≤ (M 5 x4) ∧ (M 5 x4) ≤ 2147483647) ∧ ((x3 < (M 5 x4)) → q (M 4 x4) M) ∧ ((¬ (x3 < (M 5 x4))) → zT g (z2 o) mX10_windOf (zQi (z2 o) q) 37 [(0, zA g 1), (3, zI (x3 - (M 5 x4))), (4, zI (x4 + 1))] [] M)) : zT g (z2 o) mX10_windOf (zQi (z2 o) q) 37 [(0, zA g 1), (3, zI x3), (4, zI x4)] [] M := by
  refine zr_iload_n 1 dX10_windOf_37 rfl ?_
  refine zr_aload_n 0 dX10_windOf_38 rfl ?_
  refine zr_getr (b := 5) dX10_windOf_39 fX10_26 rfl rfl rfl (by decide) ?_
  refine zr_iload 2 dX10_windOf_42 rfl ?_
  obtain ⟨c1, W⟩ := W
  refine zr_iald dX10_windOf_44 rfl (by decide) c1 ?_
  obtain ⟨c2, W⟩ := W
  obtain ⟨c3, W⟩ := W
  refine zr_icmp_lt (tgt := 64) dX10_windOf_45 (by decide) c2 c3 (fun h => ?_) (fun h => ?_)
  · have W := W.1 h
    refine zr_aload_n 0 dX10_windOf_64 rfl ?_
    refine zr_getr (b := 4) dX10_windOf_65 fX10_23 rfl rfl rfl (by decide) ?_
    refine zr_iload 2 dX10_windOf_68 rfl ?_
    refine zr_iald dX10_windOf_70 rfl (by decide) c1 ?_
    exact zt_iret dX10_windOf_71 rfl W
  · have W := W.2 h
    refine zr_iload_n 1 dX10_windOf_48 rfl ?_
    refine zr_aload_n 0 dX10_windOf_49 rfl ?_
    refine zr_getr (b := 5) dX10_windOf_50 fX10_26 rfl rfl rfl (by decide) ?_
    refine zr_iload 2 dX10_windOf_53 rfl ?_
    refine zr_iald dX10_windOf_55 rfl (by decide) c1 ?_
    refine zr_isub dX10_windOf_56 ?_
    refine zr_istore_n (l' := [(0, zA g 1), (3, zI (x3 - (M 5 x4))), (4, zI x4)]) dX10_windOf_57 (by decide) [1, 0, 2] rfl ?_
    refine zr_iinc (q := 2) (l' := [(0, zA g 1), (3, zI (x3 - (M 5 x4))), (4, zI (x4 + 1))]) dX10_windOf_58 rfl (by decide) [1, 2, 0] rfl ?_
    refine zr_goto (tgt := 37) dX10_windOf_61 (by decide) ?_
    exact W
section RM
variable {g : zG} {o : Bool} {M : zM} {x y z w c k t C R : Int}
theorem c_cells (h : zRf M C R) : zKi g (z2 o) mX10_cells [zA g 1] M (fun r M' => r = C * R ∧ M' = M) :=
  zki_of rfl (Nat.le_of_ble_eq_true rfl) (SX10_cells_0 (C := C) (R := R) ⟨h, rfl, rfl⟩)
end RM
theorem dX10_isCell_0 : decode cX10_isCell 0 = .ok (.iload_n 1, 1) := by decide +kernel
theorem dX10_isCell_1 : decode cX10_isCell 1 = .ok (.iconst 0, 1) := by decide +kernel
theorem dX10_isCell_2 : decode cX10_isCell 2 = .ok (.aload_n 0, 1) := by decide +kernel
theorem dX10_isCell_3 : decode cX10_isCell 3 = .ok (.invokevirtual 226, 3) := by decide +kernel
theorem dX10_isCell_6 : decode cX10_isCell 6 = .ok (.iconst 1, 1) := by decide +kernel
theorem dX10_isCell_7 : decode cX10_isCell 7 = .ok (.isub, 1) := by decide +kernel
theorem dX10_isCell_8 : decode cX10_isCell 8 = .ok (.invokestatic 106, 3) := by decide +kernel
theorem dX10_isCell_11 : decode cX10_isCell 11 = .ok (.ireturn, 1) := by decide +kernel
set_option maxRecDepth 100000 in
theorem SX10_isCell_0 {g : zG} {o : Bool} {C R : Int} {M : zM} {q : Int → zM → Prop} {x1 : Int} (W : (zRf M C R) ∧ (-2147483648 ≤ x1 ∧ x1 ≤ 2147483647) ∧ (-2147483648 ≤ ((C * R) - 1) ∧ ((C * R) - 1) ≤ 2147483647) ∧ q (zb (0 ≤ x1 ∧ x1 ≤ ((C * R) - 1))) M) : zT g (z2 o) mX10_isCell (zQi (z2 o) q) 0 [(0, zA g 1), (1, zI x1)] [] M := by
  refine zr_iload_n 1 dX10_isCell_0 rfl ?_
  refine zr_iconst dX10_isCell_1 ?_
  refine zr_aload_n 0 dX10_isCell_2 rfl ?_
  obtain ⟨c1, W⟩ := W
  refine zt_callVi (As := []) (rest := [zI 0, zI x1]) dX10_isCell_3 kX10_isCell_226 rfl rfl rfl rfl (Nat.le_of_ble_eq_true rfl) (c_cells c1) (fun r2 N4 h3 => ?_)
  rw [h3.1, h3.2]
  refine zr_iconst dX10_isCell_6 ?_
  refine zr_isub dX10_isCell_7 ?_
  obtain ⟨c5, W⟩ := W
  obtain ⟨c6, W⟩ := W
  refine zt_callSi (As := [zI x1, zI 0, zI ((C * R) - 1)]) (rest := []) dX10_isCell_8 kX10_isCell_106 rfl rfl (Nat.le_of_ble_eq_true rfl) (c_isIn c5 ⟨by decide, by decide⟩ c6) (fun r7 N9 h8 => ?_)
  rw [h8.1, h8.2]
  exact zt_zret dX10_isCell_11 rfl (zb01 _) W
section RM
variable {g : zG} {o : Bool} {M : zM} {x y z w c k t C R : Int}
theorem c_along (h : zRf M C R) (hc : 0 ≤ c ∧ c < C * R) (hw : 0 ≤ w ∧ w ≤ 3) (hk : 0 ≤ k ∧ k ≤ 10000) : zKi g (z2 o) mX10_along [zA g 1, zI c, zI w, zI k] M (fun r M' => r = alg C R c w k ∧ M' = M) := by
  have hn := geo_n h.1
  have hG := h.1
  unfold Geo at hG
  obtain ⟨hx, hy, he⟩ := xy h.1 hc
  have k1 : 0 ≤ k * (C - 1) ∧ k * (C - 1) ≤ 110000 := by
    constructor
    · exact Int.mul_nonneg hk.1 (by omega)
    · have := Int.mul_le_mul hk.2 (show C - 1 ≤ 11 by omega) (by omega) (by decide); omega
  have k2 : 0 ≤ k * (R - 1) ∧ k * (R - 1) ≤ 70000 := by
    constructor
    · exact Int.mul_nonneg hk.1 (by omega)
    · have := Int.mul_le_mul hk.2 (show R - 1 ≤ 7 by omega) (by omega) (by decide); omega
  refine zki_of rfl (Nat.le_of_ble_eq_true rfl) (SX10_along_0 (C := C) (R := R) ⟨h, by omega, by omega, by omega, fun h1 => ⟨fun h2 => ⟨fun h3 => ⟨by omega, by omega, ?_, rfl⟩, fun h3 => ⟨by omega, ?_, rfl⟩⟩, fun h2 => ⟨by omega, by omega, ?_, rfl⟩⟩, fun h1 => ⟨by omega, ?_, rfl⟩⟩)
  · unfold alg; rw [if_neg h1, if_neg h2, if_neg h3]
  · subst h3; rw [alg2]
  · subst h2; rw [alg1]
  · subst h1; rw [alg0]
theorem c_roundR (h : zRf M C R) (hw : 0 ≤ w ∧ w ≤ 3) : zKi g (z2 o) mX10_roundOf [zA g 1, zI w] M (fun r M' => r = rnd C R w ∧ M' = M) := by
  refine zki_of rfl (Nat.le_of_ble_eq_true rfl) (SX10_roundOf_0 (C := C) (R := R) ⟨by omega, by omega, fun h1 => ⟨h, ?_, rfl⟩, fun h1 => ⟨h, ?_, rfl⟩⟩)
  · unfold rnd; rw [if_neg (by omega)]
  · unfold rnd; rw [if_pos (by omega)]
theorem c_isCell (h : zRf M C R) (hx : -2147483648 ≤ x ∧ x ≤ 2147483647) : zKi g (z2 o) mX10_isCell [zA g 1, zI x] M (fun r M' => r = zb (0 ≤ x ∧ x < C * R) ∧ M' = M) := by
  have hn := geo_n h.1
  exact zki_of rfl (Nat.le_of_ble_eq_true rfl) (SX10_isCell_0 (C := C) (R := R) ⟨h, hx, by omega, zb_congr (by omega), rfl⟩)
theorem c_windOf (h : zRf M C R) (ht : 0 ≤ t ∧ t ≤ 2147483647) : zKi g (z2 o) mX10_windOf [zA g 1, zI t] M (fun r M' => r = wnr M t ∧ M' = M) := by
  obtain ⟨-, -, -, -, hn, hw⟩ := h
  obtain ⟨n, hnn⟩ : ∃ n : Nat, M 3 9 = (n : Int) := znn (by omega)
  rw [hnn] at hw hn
  have hpos : 1 ≤ smt (M 5) n := by
    cases n with
    | zero => omega
    | succ k =>
      have h1 := smt_nn (f := M 5) (n := k) (fun i h0 h1 => by have := hw i h0 (by omega); omega)
      have h2 := hw k (by omega) (by omega)
      show 1 ≤ smt (M 5) k + M 5 k
      omega
  have hle : smt (M 5) n ≤ n * 99 := smt_le (fun i h0 h1 => (hw i h0 h1).2.2)
  have hmod := md (C := smt (M 5) n) (k := t) (by omega)
  have part2 : ∀ (j : Nat) (i l : Int), 0 ≤ i → i + j = n → 0 ≤ l → l < smt (fun z => M 5 (i + z)) j → l ≤ 2147483647 → zT g (z2 o) mX10_windOf (zQi (z2 o) (fun r M' => r = M 4 (wix (M 5) j i l) ∧ M' = M)) 37 [(0, zA g 1), (3, zI l), (4, zI i)] [] M := by
    intro j
    induction j with
    | zero => intro i l h0 h1 h2 h3 h4; simp [smt] at h3; omega
    | succ j ih =>
      intro i l h0 h1 h2 h3 h4
      have hi := hw i h0 (by omega)
      refine SX10_windOf_37 ⟨by omega, by omega, by omega, fun h5 => ?_, fun h5 => ?_⟩
      · have e : wix (M 5) (j + 1) i l = i := by
          show (if l < M 5 i then i else wix (M 5) j (i + 1) (l - M 5 i)) = _
          rw [if_pos (by omega)]
        rw [e]
        exact ⟨rfl, rfl⟩
      · have e : wix (M 5) (j + 1) i l = wix (M 5) j (i + 1) (l - M 5 i) := by
          show (if l < M 5 i then i else wix (M 5) j (i + 1) (l - M 5 i)) = _
          rw [if_neg (by omega)]
        rw [e]
        refine ih (i + 1) (l - M 5 i) (by omega) (by omega) (by omega) ?_ (by omega)
        have key : ∀ k : Nat, smt (fun z => M 5 (i + z)) (k + 1) = M 5 i + smt (fun z => M 5 (i + 1 + z)) k := by
          intro k
          induction k with
          | zero => simp [smt]
          | succ k ih2 =>
            show smt (fun z => M 5 (i + z)) (k + 1) + M 5 (i + ((k + 1 : Nat) : Int)) = M 5 i + (smt (fun z => M 5 (i + 1 + z)) k + M 5 (i + 1 + (k : Int)))
            rw [ih2, show i + ((k + 1 : Nat) : Int) = i + 1 + (k : Int) by omega]; omega
        rw [key] at h3; omega
  have fin := part2 n 0 (t % smt (M 5) n) (by omega) (by omega) hmod.1 (by simpa using hmod.2) (by omega)
  refine zki_of rfl (Nat.le_of_ble_eq_true rfl) (SX10_windOf_0 ?_)
  have ew : wnr M t = M 4 (wix (M 5) n 0 (t % smt (M 5) n)) := by unfold wnr; rw [hnn, Int.toNat_natCast]
  rw [ew]
  suffices hs : ∀ (j k : Nat), k + j = n → zT g (z2 o) mX10_windOf (zQi (z2 o) (fun r M' => r = M 4 (wix (M 5) n 0 (t % smt (M 5) n)) ∧ M' = M)) 4 [(0, zA g 1), (1, zI t), (2, zI (smt (M 5) k)), (3, zI k)] [] M from hs n 0 (by omega)
  intro j
  induction j with
  | zero =>
    intro k hk
    refine SX10_windOf_4 ?_
    rw [hnn, show k = n by omega]
    exact ⟨by omega, by omega, fun h => ⟨ht, by omega, fin⟩, fun h => by omega⟩
  | succ j ih =>
    intro k hk
    refine SX10_windOf_4 ?_
    rw [hnn]
    exact ⟨by omega, by omega, fun h => by omega, fun h => ⟨by omega, ih (k + 1) (by omega)⟩⟩
end RM
