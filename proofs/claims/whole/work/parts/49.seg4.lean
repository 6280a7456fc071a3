theorem dX9_parts_0 : decode cX9_parts 0 = .ok (.iload_n 1, 1) := by decide +kernel
theorem dX9_parts_1 : decode cX9_parts 1 = .ok (.iconst 1, 1) := by decide +kernel
theorem dX9_parts_2 : decode cX9_parts 2 = .ok (.if_icmp .ge 5, 3) := by decide +kernel
theorem dX9_parts_5 : decode cX9_parts 5 = .ok (.iconst (-1), 1) := by decide +kernel
theorem dX9_parts_6 : decode cX9_parts 6 = .ok (.ireturn, 1) := by decide +kernel
theorem dX9_parts_7 : decode cX9_parts 7 = .ok (.iconst 1, 1) := by decide +kernel
theorem dX9_parts_8 : decode cX9_parts 8 = .ok (.istore_n 2, 1) := by decide +kernel
theorem dX9_parts_9 : decode cX9_parts 9 = .ok (.iconst 0, 1) := by decide +kernel
theorem dX9_parts_10 : decode cX9_parts 10 = .ok (.istore_n 3, 1) := by decide +kernel
theorem dX9_parts_11 : decode cX9_parts 11 = .ok (.iload_n 3, 1) := by decide +kernel
theorem dX9_parts_12 : decode cX9_parts 12 = .ok (.bipush 96, 2) := by decide +kernel
theorem dX9_parts_14 : decode cX9_parts 14 = .ok (.if_icmp .gt 57, 3) := by decide +kernel
theorem dX9_parts_17 : decode cX9_parts 17 = .ok (.aload_n 0, 1) := by decide +kernel
theorem dX9_parts_18 : decode cX9_parts 18 = .ok (.getfield 78, 3) := by decide +kernel
theorem dX9_parts_21 : decode cX9_parts 21 = .ok (.aload_n 0, 1) := by decide +kernel
theorem dX9_parts_22 : decode cX9_parts 22 = .ok (.getfield 39, 3) := by decide +kernel
theorem dX9_parts_25 : decode cX9_parts 25 = .ok (.getfield 152, 3) := by decide +kernel
theorem dX9_parts_28 : decode cX9_parts 28 = .ok (.iload_n 2, 1) := by decide +kernel
theorem dX9_parts_29 : decode cX9_parts 29 = .ok (.invokevirtual 274, 3) := by decide +kernel
theorem dX9_parts_32 : decode cX9_parts 32 = .ok (.aload_n 0, 1) := by decide +kernel
theorem dX9_parts_33 : decode cX9_parts 33 = .ok (.getfield 78, 3) := by decide +kernel
theorem dX9_parts_36 : decode cX9_parts 36 = .ok (.getfield 278, 3) := by decide +kernel
theorem dX9_parts_39 : decode cX9_parts 39 = .ok (.iload_n 1, 1) := by decide +kernel
theorem dX9_parts_40 : decode cX9_parts 40 = .ok (.if_icmp .lt 5, 3) := by decide +kernel
theorem dX9_parts_43 : decode cX9_parts 43 = .ok (.iload_n 2, 1) := by decide +kernel
theorem dX9_parts_44 : decode cX9_parts 44 = .ok (.ireturn, 1) := by decide +kernel
theorem dX9_parts_45 : decode cX9_parts 45 = .ok (.aload_n 0, 1) := by decide +kernel
theorem dX9_parts_46 : decode cX9_parts 46 = .ok (.iload_n 2, 1) := by decide +kernel
theorem dX9_parts_47 : decode cX9_parts 47 = .ok (.invokevirtual 303, 3) := by decide +kernel
theorem dX9_parts_50 : decode cX9_parts 50 = .ok (.istore 4, 2) := by decide +kernel
theorem dX9_parts_52 : decode cX9_parts 52 = .ok (.iload 4, 2) := by decide +kernel
theorem dX9_parts_54 : decode cX9_parts 54 = .ok (.iconst (-1), 1) := by decide +kernel
theorem dX9_parts_55 : decode cX9_parts 55 = .ok (.if_icmp .ne 5, 3) := by decide +kernel
theorem dX9_parts_58 : decode cX9_parts 58 = .ok (.iconst (-1), 1) := by decide +kernel
theorem dX9_parts_59 : decode cX9_parts 59 = .ok (.ireturn, 1) := by decide +kernel
theorem dX9_parts_60 : decode cX9_parts 60 = .ok (.iload 4, 2) := by decide +kernel
theorem dX9_parts_62 : decode cX9_parts 62 = .ok (.iconst 1, 1) := by decide +kernel
theorem dX9_parts_63 : decode cX9_parts 63 = .ok (.iadd, 1) := by decide +kernel
theorem dX9_parts_64 : decode cX9_parts 64 = .ok (.istore_n 2, 1) := by decide +kernel
theorem dX9_parts_65 : decode cX9_parts 65 = .ok (.iinc 3 1, 3) := by decide +kernel
theorem dX9_parts_68 : decode cX9_parts 68 = .ok (.goto (-57), 3) := by decide +kernel
theorem dX9_parts_71 : decode cX9_parts 71 = .ok (.iconst (-1), 1) := by decide +kernel
theorem dX9_parts_72 : decode cX9_parts 72 = .ok (.ireturn, 1) := by decide +kernel
set_option maxRecDepth 100000 in
theorem SX9_parts_0 {g : zG} {o : Bool} {M : zM} {q : Int → zM → Prop} {x1 : Int} (W : (-2147483648 ≤ x1 ∧ x1 ≤ 2147483647) ∧ ((1 ≤ x1) → zT g (z1 o) mX9_parts (zQi (z1 o) q) 11 [(0, zA g 1), (1, zI x1), (2, zI 1), (3, zI 0)] [] M) ∧ ((¬ (1 ≤ x1)) → q (-1) M)) : zT g (z1 o) mX9_parts (zQi (z1 o) q) 0 [(0, zA g 1), (1, zI x1)] [] M := by
  refine zr_iload_n 1 dX9_parts_0 rfl ?_
  refine zr_iconst dX9_parts_1 ?_
  obtain ⟨c1, W⟩ := W
  refine zr_icmp_ge (tgt := 7) dX9_parts_2 (by decide) c1 ⟨by decide, by decide⟩ (fun h => ?_) (fun h => ?_)
  · have W := W.1 h
    refine zr_iconst dX9_parts_7 ?_
    refine zr_istore_n (l' := [(0, zA g 1), (1, zI x1), (2, zI 1)]) dX9_parts_8 (by decide) [1, 2, 0] rfl ?_
    refine zr_iconst dX9_parts_9 ?_
    refine zr_istore_n (l' := [(0, zA g 1), (1, zI x1), (2, zI 1), (3, zI 0)]) dX9_parts_10 (by decide) [1, 2, 3, 0] rfl ?_
    exact W
  · have W := W.2 h
    refine zr_iconst dX9_parts_5 ?_
    exact zt_iret dX9_parts_6 rfl W
set_option maxRecDepth 100000 in
theorem SX9_parts_11 {g : zG} {o : Bool} {M : zM} {q : Int → zM → Prop} {x1 x2 x3 : Int} (W : (-2147483648 ≤ x3 ∧ x3 ≤ 2147483647) ∧ ((96 < x3) → q (-1) M) ∧ ((¬ (96 < x3)) → ∃ q2 : zM → Prop, zKv g (z1 o) mX3_joinLevel [zA g 127, zA g 25, zI x2] M q2 ∧ ∀ M4 : zM, q2 M4 → (-2147483648 ≤ (M4 127 5) ∧ (M4 127 5) ≤ 2147483647) ∧ (-2147483648 ≤ x1 ∧ x1 ≤ 2147483647) ∧ (((M4 127 5) < x1) → ∃ q9 : Int → zM → Prop, zKi g (z1 o) mX9_leastFrom [zA g 1, zI x2] M4 q9 ∧ ∀ (r10 : Int) (M11 : zM), q9 r10 M11 → (-2147483648 ≤ r10 ∧ r10 ≤ 2147483647) ∧ ((r10 ≠ (-1)) → zT g (z1 o) mX9_parts (zQi (z1 o) q) 11 [(0, zA g 1), (1, zI x1), (2, zI (r10 + 1)), (3, zI (x3 + 1))] [] M11) ∧ ((r10 = (-1)) → q (-1) M11)) ∧ ((¬ ((M4 127 5) < x1)) → q x2 M4))) : zT g (z1 o) mX9_parts (zQi (z1 o) q) 11 [(0, zA g 1), (1, zI x1), (2, zI x2), (3, zI x3)] [] M := by
  refine zr_iload_n 3 dX9_parts_11 rfl ?_
  refine zr_bipush dX9_parts_12 (by decide) ?_
  obtain ⟨c1, W⟩ := W
  refine zr_icmp_gt (tgt := 71) dX9_parts_14 (by decide) c1 ⟨by decide, by decide⟩ (fun h => ?_) (fun h => ?_)
  · have W := W.1 h
    refine zr_iconst dX9_parts_71 ?_
    exact zt_iret dX9_parts_72 rfl W
  · have W := W.2 h
    refine zr_aload_n 0 dX9_parts_17 rfl ?_
    refine zr_getr (b := 127) dX9_parts_18 fX9_78 rfl rfl rfl (by decide) ?_
    refine zr_aload_n 0 dX9_parts_21 rfl ?_
    refine zr_getr (b := 24) dX9_parts_22 fX9_39 rfl rfl rfl (by decide) ?_
    refine zr_getr (b := 25) dX9_parts_25 fX9_152 rfl rfl rfl (by decide) ?_
    refine zr_iload_n 2 dX9_parts_28 rfl ?_
    obtain ⟨q2, k6, W⟩ := W
    refine zt_callVv (As := [zA g 25, zI x2]) (rest := []) dX9_parts_29 kX9_parts_274 rfl rfl rfl rfl (Nat.le_of_ble_eq_true rfl) k6 (fun M4 h5 => ?_)
    have W := W M4 h5
    refine zr_aload_n 0 dX9_parts_32 rfl ?_
    refine zr_getr (b := 127) dX9_parts_33 fX9_78 rfl rfl rfl (by decide) ?_
    refine zt_geti 5 rfl dX9_parts_36 fX9_278 rfl (by decide) ?_
    refine zr_iload_n 1 dX9_parts_39 rfl ?_
    obtain ⟨c7, W⟩ := W
    obtain ⟨c8, W⟩ := W
    refine zr_icmp_lt (tgt := 45) dX9_parts_40 (by decide) c7 c8 (fun h => ?_) (fun h => ?_)
    · have W := W.1 h
      refine zr_aload_n 0 dX9_parts_45 rfl ?_
      refine zr_iload_n 2 dX9_parts_46 rfl ?_
      obtain ⟨q9, k13, W⟩ := W
      refine zt_callVi (As := [zI x2]) (rest := []) dX9_parts_47 kX9_parts_303 rfl rfl rfl rfl (Nat.le_of_ble_eq_true rfl) k13 (fun r10 M11 h12 => ?_)
      have W := W r10 M11 h12
      refine zr_istore (l' := [(0, zA g 1), (1, zI x1), (3, zI x3), (4, zI r10)]) dX9_parts_50 (by decide) [1, 2, 4, 0] rfl ?_
      refine zr_iload 3 dX9_parts_52 rfl ?_
      refine zr_iconst dX9_parts_54 ?_
      obtain ⟨c14, W⟩ := W
      refine zr_icmp_ne (tgt := 60) dX9_parts_55 (by decide) c14 ⟨by decide, by decide⟩ (fun h => ?_) (fun h => ?_)
      · have W := W.1 h
        refine zr_iload 3 dX9_parts_60 rfl ?_
        refine zr_iconst dX9_parts_62 ?_
        refine zr_iadd dX9_parts_63 ?_
        refine zr_istore_n (l' := [(0, zA g 1), (1, zI x1), (2, zI (r10 + 1)), (3, zI x3)]) dX9_parts_64 (by decide) [1, 2, 0, 3] rfl ?_
        refine zr_iinc (q := 3) (l' := [(0, zA g 1), (1, zI x1), (2, zI (r10 + 1)), (3, zI (x3 + 1))]) dX9_parts_65 rfl (by decide) [1, 2, 3, 0] rfl ?_
        refine zr_goto (tgt := 11) dX9_parts_68 (by decide) ?_
        exact W
      · have W := W.2 h
        refine zr_iconst dX9_parts_58 ?_
        exact zt_iret dX9_parts_59 rfl W
    · have W := W.2 h
      refine zr_iload_n 2 dX9_parts_43 rfl ?_
      exact zt_iret dX9_parts_44 rfl W
theorem dX9_leastFrom_0 : decode cX9_leastFrom 0 = .ok (.iconst (-1), 1) := by decide +kernel
theorem dX9_leastFrom_1 : decode cX9_leastFrom 1 = .ok (.istore_n 2, 1) := by decide +kernel
theorem dX9_leastFrom_2 : decode cX9_leastFrom 2 = .ok (.iconst 0, 1) := by decide +kernel
theorem dX9_leastFrom_3 : decode cX9_leastFrom 3 = .ok (.istore_n 3, 1) := by decide +kernel
theorem dX9_leastFrom_4 : decode cX9_leastFrom 4 = .ok (.iload_n 3, 1) := by decide +kernel
theorem dX9_leastFrom_5 : decode cX9_leastFrom 5 = .ok (.aload_n 0, 1) := by decide +kernel
theorem dX9_leastFrom_6 : decode cX9_leastFrom 6 = .ok (.getfield 28, 3) := by decide +kernel
theorem dX9_leastFrom_9 : decode cX9_leastFrom 9 = .ok (.getfield 120, 3) := by decide +kernel
theorem dX9_leastFrom_12 : decode cX9_leastFrom 12 = .ok (.if_icmp .ge 40, 3) := by decide +kernel
theorem dX9_leastFrom_15 : decode cX9_leastFrom 15 = .ok (.aload_n 0, 1) := by decide +kernel
theorem dX9_leastFrom_16 : decode cX9_leastFrom 16 = .ok (.getfield 39, 3) := by decide +kernel
theorem dX9_leastFrom_19 : decode cX9_leastFrom 19 = .ok (.getfield 152, 3) := by decide +kernel
theorem dX9_leastFrom_22 : decode cX9_leastFrom 22 = .ok (.iload_n 3, 1) := by decide +kernel
theorem dX9_leastFrom_23 : decode cX9_leastFrom 23 = .ok (.iaload, 1) := by decide +kernel
theorem dX9_leastFrom_24 : decode cX9_leastFrom 24 = .ok (.istore 4, 2) := by decide +kernel
theorem dX9_leastFrom_26 : decode cX9_leastFrom 26 = .ok (.iload 4, 2) := by decide +kernel
theorem dX9_leastFrom_28 : decode cX9_leastFrom 28 = .ok (.iload_n 1, 1) := by decide +kernel
theorem dX9_leastFrom_29 : decode cX9_leastFrom 29 = .ok (.if_icmp .lt 17, 3) := by decide +kernel
theorem dX9_leastFrom_32 : decode cX9_leastFrom 32 = .ok (.iload_n 2, 1) := by decide +kernel
theorem dX9_leastFrom_33 : decode cX9_leastFrom 33 = .ok (.iconst (-1), 1) := by decide +kernel
theorem dX9_leastFrom_34 : decode cX9_leastFrom 34 = .ok (.if_icmp .eq 9, 3) := by decide +kernel
theorem dX9_leastFrom_37 : decode cX9_leastFrom 37 = .ok (.iload 4, 2) := by decide +kernel
theorem dX9_leastFrom_39 : decode cX9_leastFrom 39 = .ok (.iload_n 2, 1) := by decide +kernel
theorem dX9_leastFrom_40 : decode cX9_leastFrom 40 = .ok (.if_icmp .ge 6, 3) := by decide +kernel
theorem dX9_leastFrom_43 : decode cX9_leastFrom 43 = .ok (.iload 4, 2) := by decide +kernel
theorem dX9_leastFrom_45 : decode cX9_leastFrom 45 = .ok (.istore_n 2, 1) := by decide +kernel
theorem dX9_leastFrom_46 : decode cX9_leastFrom 46 = .ok (.iinc 3 1, 3) := by decide +kernel
theorem dX9_leastFrom_49 : decode cX9_leastFrom 49 = .ok (.goto (-45), 3) := by decide +kernel
theorem dX9_leastFrom_52 : decode cX9_leastFrom 52 = .ok (.iload_n 2, 1) := by decide +kernel
theorem dX9_leastFrom_53 : decode cX9_leastFrom 53 = .ok (.ireturn, 1) := by decide +kernel
set_option maxRecDepth 100000 in
theorem SX9_leastFrom_0 {g : zG} {o : Bool} {M : zM} {q : Int → zM → Prop} {x1 : Int} (W : zT g (z1 o) mX9_leastFrom (zQi (z1 o) q) 4 [(0, zA g 1), (1, zI x1), (2, zI (-1)), (3, zI 0)] [] M) : zT g (z1 o) mX9_leastFrom (zQi (z1 o) q) 0 [(0, zA g 1), (1, zI x1)] [] M := by
  refine zr_iconst dX9_leastFrom_0 ?_
  refine zr_istore_n (l' := [(0, zA g 1), (1, zI x1), (2, zI (-1))]) dX9_leastFrom_1 (by decide) [1, 2, 0] rfl ?_
  refine zr_iconst dX9_leastFrom_2 ?_
  refine zr_istore_n (l' := [(0, zA g 1), (1, zI x1), (2, zI (-1)), (3, zI 0)]) dX9_leastFrom_3 (by decide) [1, 2, 3, 0] rfl ?_
  exact W
set_option maxRecDepth 100000 in
theorem SX9_leastFrom_4 {g : zG} {o : Bool} {M : zM} {q : Int → zM → Prop} {x1 x2 x3 : Int} (W : (-2147483648 ≤ x3 ∧ x3 ≤ 2147483647) ∧ (-2147483648 ≤ (M 14 2) ∧ (M 14 2) ≤ 2147483647) ∧ (((M 14 2) ≤ x3) → q x2 M) ∧ ((¬ ((M 14 2) ≤ x3)) → (0 ≤ x3 ∧ x3 < 96) ∧ (-2147483648 ≤ (M 25 x3) ∧ (M 25 x3) ≤ 2147483647) ∧ (-2147483648 ≤ x1 ∧ x1 ≤ 2147483647) ∧ (((M 25 x3) < x1) → zT g (z1 o) mX9_leastFrom (zQi (z1 o) q) 4 [(0, zA g 1), (1, zI x1), (2, zI x2), (3, zI (x3 + 1))] [] M) ∧ ((¬ ((M 25 x3) < x1)) → (-2147483648 ≤ x2 ∧ x2 ≤ 2147483647) ∧ ((x2 = (-1)) → zT g (z1 o) mX9_leastFrom (zQi (z1 o) q) 4 [(0, zA g 1), (1, zI x1), (2, zI (M 25 x3)), (3, zI (x3 + 1))] [] M) ∧ ((¬ (x2 = (-1))) → ((x2 ≤ (M 25 x3)) → zT g (z1 o) mX9_leastFrom (zQi (z1 o) q) 4 [(0, zA g 1), (1, zI x1), (2, zI x2), (3, zI (x3 + 1))] [] M) ∧ ((¬ (x2 ≤ (M 25 x3))) → zT g (z1 o) mX9_leastFrom (zQi (z1 o) q) 4 [(0, zA g 1), (1, zI x1), (2, zI (M 25 x3)), (3, zI (x3 + 1))] [] M))))) : zT g (z1 o) mX9_leastFrom (zQi (z1 o) q) 4 [(0, zA g 1), (1, zI x1), (2, zI x2), (3, zI x3)] [] M := by
  refine zr_iload_n 3 dX9_leastFrom_4 rfl ?_
  refine zr_aload_n 0 dX9_leastFrom_5 rfl ?_
  refine zr_getr (b := 14) dX9_leastFrom_6 fX9_28 rfl rfl rfl (by decide) ?_
  refine zt_geti 2 rfl dX9_leastFrom_9 fX9_120 rfl (by decide) ?_
  obtain ⟨c1, W⟩ := W
  obtain ⟨c2, W⟩ := W
  refine zr_icmp_ge (tgt := 52) dX9_leastFrom_12 (by decide) c1 c2 (fun h => ?_) (fun h => ?_)
  · have W := W.1 h
    refine zr_iload_n 2 dX9_leastFrom_52 rfl ?_
    exact zt_iret dX9_leastFrom_53 rfl W
  · have W := W.2 h
    refine zr_aload_n 0 dX9_leastFrom_15 rfl ?_
    refine zr_getr (b := 24) dX9_leastFrom_16 fX9_39 rfl rfl rfl (by decide) ?_
    refine zr_getr (b := 25) dX9_leastFrom_19 fX9_152 rfl rfl rfl (by decide) ?_
    refine zr_iload_n 3 dX9_leastFrom_22 rfl ?_
    obtain ⟨c3, W⟩ := W
    refine zr_iald dX9_leastFrom_23 rfl (by decide) c3 ?_
    refine zr_istore (l' := [(0, zA g 1), (1, zI x1), (2, zI x2), (3, zI x3), (4, zI (M 25 x3))]) dX9_leastFrom_24 (by decide) [1, 2, 3, 4, 0] rfl ?_
    refine zr_iload 4 dX9_leastFrom_26 rfl ?_
    refine zr_iload_n 1 dX9_leastFrom_28 rfl ?_
    obtain ⟨c4, W⟩ := W
    obtain ⟨c5, W⟩ := W
    refine zr_icmp_lt (tgt := 46) dX9_leastFrom_29 (by decide) c4 c5 (fun h => ?_) (fun h => ?_)
    · have W := W.1 h
      refine zr_iinc (q := 3) (l' := [(0, zA g 1), (1, zI x1), (2, zI x2), (3, zI (x3 + 1))]) dX9_leastFrom_46 rfl (by decide) [1, 2, 3, 0] rfl ?_
      refine zr_goto (tgt := 4) dX9_leastFrom_49 (by decide) ?_
      exact W
    · have W := W.2 h
      refine zr_iload_n 2 dX9_leastFrom_32 rfl ?_
      refine zr_iconst dX9_leastFrom_33 ?_
      obtain ⟨c6, W⟩ := W
      refine zr_icmp_eq (tgt := 43) dX9_leastFrom_34 (by decide) c6 ⟨by decide, by decide⟩ (fun h => ?_) (fun h => ?_)
      · have W := W.1 h
        refine zr_iload 4 dX9_leastFrom_43 rfl ?_
        refine zr_istore_n (l' := [(0, zA g 1), (1, zI x1), (2, zI (M 25 x3)), (3, zI x3)]) dX9_leastFrom_45 (by decide) [1, 2, 0, 3] rfl ?_
        refine zr_iinc (q := 3) (l' := [(0, zA g 1), (1, zI x1), (2, zI (M 25 x3)), (3, zI (x3 + 1))]) dX9_leastFrom_46 rfl (by decide) [1, 2, 3, 0] rfl ?_
        refine zr_goto (tgt := 4) dX9_leastFrom_49 (by decide) ?_
        exact W
      · have W := W.2 h
        refine zr_iload 4 dX9_leastFrom_37 rfl ?_
        refine zr_iload_n 2 dX9_leastFrom_39 rfl ?_
        refine zr_icmp_ge (tgt := 46) dX9_leastFrom_40 (by decide) c4 c6 (fun h => ?_) (fun h => ?_)
        · have W := W.1 h
          refine zr_iinc (q := 3) (l' := [(0, zA g 1), (1, zI x1), (2, zI x2), (3, zI (x3 + 1))]) dX9_leastFrom_46 rfl (by decide) [1, 2, 3, 0] rfl ?_
          refine zr_goto (tgt := 4) dX9_leastFrom_49 (by decide) ?_
          exact W
        · have W := W.2 h
          refine zr_iload 4 dX9_leastFrom_43 rfl ?_
          refine zr_istore_n (l' := [(0, zA g 1), (1, zI x1), (2, zI (M 25 x3)), (3, zI x3)]) dX9_leastFrom_45 (by decide) [1, 2, 0, 3] rfl ?_
          refine zr_iinc (q := 3) (l' := [(0, zA g 1), (1, zI x1), (2, zI (M 25 x3)), (3, zI (x3 + 1))]) dX9_leastFrom_46 rfl (by decide) [1, 2, 3, 0] rfl ?_
          refine zr_goto (tgt := 4) dX9_leastFrom_49 (by decide) ?_
          exact W
theorem dX9_saddle_0 : decode cX9_saddle 0 = .ok (.aload_n 0, 1) := by decide +kernel
theorem dX9_saddle_1 : decode cX9_saddle 1 = .ok (.getfield 28, 3) := by decide +kernel
theorem dX9_saddle_4 : decode cX9_saddle 4 = .ok (.iload_n 1, 1) := by decide +kernel
theorem dX9_saddle_5 : decode cX9_saddle 5 = .ok (.invokevirtual 148, 3) := by decide +kernel
theorem dX9_saddle_8 : decode cX9_saddle 8 = .ok (.ifCond .eq 14, 3) := by decide +kernel
theorem dX9_saddle_11 : decode cX9_saddle 11 = .ok (.aload_n 0, 1) := by decide +kernel
theorem dX9_saddle_12 : decode cX9_saddle 12 = .ok (.getfield 28, 3) := by decide +kernel
theorem dX9_saddle_15 : decode cX9_saddle 15 = .ok (.iload_n 2, 1) := by decide +kernel
theorem dX9_saddle_16 : decode cX9_saddle 16 = .ok (.invokevirtual 148, 3) := by decide +kernel
theorem dX9_saddle_19 : decode cX9_saddle 19 = .ok (.ifCond .ne 5, 3) := by decide +kernel
theorem dX9_saddle_22 : decode cX9_saddle 22 = .ok (.iconst (-1), 1) := by decide +kernel
theorem dX9_saddle_23 : decode cX9_saddle 23 = .ok (.ireturn, 1) := by decide +kernel
theorem dX9_saddle_24 : decode cX9_saddle 24 = .ok (.aload_n 0, 1) := by decide +kernel
theorem dX9_saddle_25 : decode cX9_saddle 25 = .ok (.getfield 39, 3) := by decide +kernel
theorem dX9_saddle_28 : decode cX9_saddle 28 = .ok (.getfield 152, 3) := by decide +kernel
theorem dX9_saddle_31 : decode cX9_saddle 31 = .ok (.iload_n 1, 1) := by decide +kernel
theorem dX9_saddle_32 : decode cX9_saddle 32 = .ok (.iaload, 1) := by decide +kernel
theorem dX9_saddle_33 : decode cX9_saddle 33 = .ok (.aload_n 0, 1) := by decide +kernel
theorem dX9_saddle_34 : decode cX9_saddle 34 = .ok (.getfield 39, 3) := by decide +kernel
theorem dX9_saddle_37 : decode cX9_saddle 37 = .ok (.getfield 152, 3) := by decide +kernel
theorem dX9_saddle_40 : decode cX9_saddle 40 = .ok (.iload_n 2, 1) := by decide +kernel
theorem dX9_saddle_41 : decode cX9_saddle 41 = .ok (.iaload, 1) := by decide +kernel
theorem dX9_saddle_42 : decode cX9_saddle 42 = .ok (.invokestatic 306, 3) := by decide +kernel
theorem dX9_saddle_45 : decode cX9_saddle 45 = .ok (.istore_n 3, 1) := by decide +kernel
theorem dX9_saddle_46 : decode cX9_saddle 46 = .ok (.iconst 0, 1) := by decide +kernel
theorem dX9_saddle_47 : decode cX9_saddle 47 = .ok (.istore 4, 2) := by decide +kernel
theorem dX9_saddle_49 : decode cX9_saddle 49 = .ok (.iload 4, 2) := by decide +kernel
theorem dX9_saddle_51 : decode cX9_saddle 51 = .ok (.bipush 96, 2) := by decide +kernel
theorem dX9_saddle_53 : decode cX9_saddle 53 = .ok (.if_icmp .gt 57, 3) := by decide +kernel
theorem dX9_saddle_56 : decode cX9_saddle 56 = .ok (.iload_n 3, 1) := by decide +kernel
theorem dX9_saddle_57 : decode cX9_saddle 57 = .ok (.ifCond .le 53, 3) := by decide +kernel
theorem dX9_saddle_60 : decode cX9_saddle 60 = .ok (.aload_n 0, 1) := by decide +kernel
theorem dX9_saddle_61 : decode cX9_saddle 61 = .ok (.getfield 78, 3) := by decide +kernel
theorem dX9_saddle_64 : decode cX9_saddle 64 = .ok (.aload_n 0, 1) := by decide +kernel
theorem dX9_saddle_65 : decode cX9_saddle 65 = .ok (.getfield 39, 3) := by decide +kernel
theorem dX9_saddle_68 : decode cX9_saddle 68 = .ok (.getfield 152, 3) := by decide +kernel
theorem dX9_saddle_71 : decode cX9_saddle 71 = .ok (.iload_n 3, 1) := by decide +kernel
theorem dX9_saddle_72 : decode cX9_saddle 72 = .ok (.invokevirtual 274, 3) := by decide +kernel
theorem dX9_saddle_75 : decode cX9_saddle 75 = .ok (.aload_n 0, 1) := by decide +kernel
theorem dX9_saddle_76 : decode cX9_saddle 76 = .ok (.getfield 78, 3) := by decide +kernel
theorem dX9_saddle_79 : decode cX9_saddle 79 = .ok (.getfield 295, 3) := by decide +kernel
theorem dX9_saddle_82 : decode cX9_saddle 82 = .ok (.iload_n 1, 1) := by decide +kernel
theorem dX9_saddle_83 : decode cX9_saddle 83 = .ok (.iaload, 1) := by decide +kernel
theorem dX9_saddle_84 : decode cX9_saddle 84 = .ok (.aload_n 0, 1) := by decide +kernel
theorem dX9_saddle_85 : decode cX9_saddle 85 = .ok (.getfield 78, 3) := by decide +kernel
theorem dX9_saddle_88 : decode cX9_saddle 88 = .ok (.getfield 295, 3) := by decide +kernel
theorem dX9_saddle_91 : decode cX9_saddle 91 = .ok (.iload_n 2, 1) := by decide +kernel
theorem dX9_saddle_92 : decode cX9_saddle 92 = .ok (.iaload, 1) := by decide +kernel
theorem dX9_saddle_93 : decode cX9_saddle 93 = .ok (.if_icmp .ne 5, 3) := by decide +kernel
theorem dX9_saddle_96 : decode cX9_saddle 96 = .ok (.iload_n 3, 1) := by decide +kernel
theorem dX9_saddle_97 : decode cX9_saddle 97 = .ok (.ireturn, 1) := by decide +kernel
theorem dX9_saddle_98 : decode cX9_saddle 98 = .ok (.aload_n 0, 1) := by decide +kernel
theorem dX9_saddle_99 : decode cX9_saddle 99 = .ok (.iload_n 3, 1) := by decide +kernel
theorem dX9_saddle_100 : decode cX9_saddle 100 = .ok (.invokevirtual 309, 3) := by decide +kernel
theorem dX9_saddle_103 : decode cX9_saddle 103 = .ok (.istore_n 3, 1) := by decide +kernel
theorem dX9_saddle_104 : decode cX9_saddle 104 = .ok (.iinc 4 1, 3) := by decide +kernel
theorem dX9_saddle_107 : decode cX9_saddle 107 = .ok (.goto (-58), 3) := by decide +kernel
theorem dX9_saddle_110 : decode cX9_saddle 110 = .ok (.iconst 0, 1) := by decide +kernel
theorem dX9_saddle_111 : decode cX9_saddle 111 = .ok (.ireturn, 1) := by decide +kernel
set_option maxRecDepth 100000 in
theorem SX9_saddle_0 {g : zG} {o : Bool} {C R : Int} {M : zM} {q : Int → zM → Prop} {x1 x2 : Int} (W : (-2147483648 ≤ x1 ∧ x1 ≤ 2147483647) ∧ (zLand M C R) ∧ ((¬ (0 ≤ x1 ∧ x1 < C * R)) → q (-1) M) ∧ ((0 ≤ x1 ∧ x1 < C * R) → (-2147483648 ≤ x2 ∧ x2 ≤ 2147483647) ∧ ((0 ≤ x2 ∧ x2 < C * R) → (0 ≤ x1 ∧ x1 < 96) ∧ (0 ≤ x2 ∧ x2 < 96) ∧ (-2147483648 ≤ (M 25 x1) ∧ (M 25 x1) ≤ 2147483647) ∧ (-2147483648 ≤ (M 25 x2) ∧ (M 25 x2) ≤ 2147483647) ∧ zT g (z1 o) mX9_saddle (zQi (z1 o) q) 49 [(0, zA g 1), (1, zI x1), (2, zI x2), (3, zI (min (M 25 x1) (M 25 x2))), (4, zI 0)] [] M) ∧ ((¬ (0 ≤ x2 ∧ x2 < C * R)) → q (-1) M))) : zT g (z1 o) mX9_saddle (zQi (z1 o) q) 0 [(0, zA g 1), (1, zI x1), (2, zI x2)] [] M := by
  refine zr_aload_n 0 dX9_saddle_0 rfl ?_
  refine zr_getr (b := 14) dX9_saddle_1 fX9_28 rfl rfl rfl (by decide) ?_
  refine zr_iload_n 1 dX9_saddle_4 rfl ?_
  obtain ⟨c1, W⟩ := W
  obtain ⟨c2, W⟩ := W
  refine zt_callVi (As := [zI x1]) (rest := []) dX9_saddle_5 kX9_saddle_148 rfl rfl rfl rfl (Nat.le_of_ble_eq_true rfl) (c_has c1 c2) (fun r3 N5 h4 => ?_)
  rw [h4.1, h4.2]
  refine zt_ifeq_b (tgt := 22) dX9_saddle_8 (by decide) (fun h => ?_) (fun h => ?_)
  · have W := W.1 h
    refine zr_iconst dX9_saddle_22 ?_
    exact zt_iret dX9_saddle_23 rfl W
  · have W := W.2 h
    refine zr_aload_n 0 dX9_saddle_11 rfl ?_
    refine zr_getr (b := 14) dX9_saddle_12 fX9_28 rfl rfl rfl (by decide) ?_
    refine zr_iload_n 2 dX9_saddle_15 rfl ?_
    obtain ⟨c6, W⟩ := W
    refine zt_callVi (As := [zI x2]) (rest := []) dX9_saddle_16 kX9_saddle_148 rfl rfl rfl rfl (Nat.le_of_ble_eq_true rfl) (c_has c6 c2) (fun r7 N9 h8 => ?_)
    rw [h8.1, h8.2]
    refine zt_ifne_b (tgt := 24) dX9_saddle_19 (by decide) (fun h => ?_) (fun h => ?_)
    · have W := W.1 h
      refine zr_aload_n 0 dX9_saddle_24 rfl ?_
      refine zr_getr (b := 24) dX9_saddle_25 fX9_39 rfl rfl rfl (by decide) ?_
      refine zr_getr (b := 25) dX9_saddle_28 fX9_152 rfl rfl rfl (by decide) ?_
      refine zr_iload_n 1 dX9_saddle_31 rfl ?_
      obtain ⟨c10, W⟩ := W
      refine zr_iald dX9_saddle_32 rfl (by decide) c10 ?_
      refine zr_aload_n 0 dX9_saddle_33 rfl ?_
      refine zr_getr (b := 24) dX9_saddle_34 fX9_39 rfl rfl rfl (by decide) ?_
      refine zr_getr (b := 25) dX9_saddle_37 fX9_152 rfl rfl rfl (by decide) ?_
      refine zr_iload_n 2 dX9_saddle_40 rfl ?_
      obtain ⟨c11, W⟩ := W
      refine zr_iald dX9_saddle_41 rfl (by decide) c11 ?_
      obtain ⟨c12, W⟩ := W
      obtain ⟨c13, W⟩ := W
      refine zr_min dX9_saddle_42 kX9_saddle_306 c12 c13 (Nat.le_of_ble_eq_true rfl) ⟨Nat.le_refl _, Nat.le_refl _⟩ ?_
      refine zr_istore_n (l' := [(0, zA g 1), (1, zI x1), (2, zI x2), (3, zI (min (M 25 x1) (M 25 x2)))]) dX9_saddle_45 (by decide) [1, 2, 3, 0] rfl ?_
      refine zr_iconst dX9_saddle_46 ?_
      refine zr_istore (l' := [(0, zA g 1), (1, zI x1), (2, zI x2), (3, zI (min (M 25 x1) (M 25 x2))), (4, zI 0)]) dX9_saddle_47 (by decide) [1, 2, 3, 4, 0] rfl ?_
      exact W
    · have W := W.2 h
      refine zr_iconst dX9_saddle_22 ?_
      exact zt_iret dX9_saddle_23 rfl W
set_option maxRecDepth 100000 in
theorem SX9_saddle_49 {g : zG} {o : Bool} {M : zM} {q : Int → zM → Prop} {x1 x2 x3 x4 : Int} (W : (-2147483648 ≤ x4 ∧ x4 ≤ 2147483647) ∧ ((96 < x4) → q 0 M) ∧ ((¬ (96 < x4)) → (-2147483648 ≤ x3 ∧ x3 ≤ 2147483647) ∧ ((x3 ≤ 0) → q 0 M) ∧ ((¬ (x3 ≤ 0)) → ∃ q3 : zM → Prop, zKv g (z1 o) mX3_joinLevel [zA g 127, zA g 25, zI x3] M q3 ∧ ∀ M5 : zM, q3 M5 → (0 ≤ x1 ∧ x1 < 96) ∧ (0 ≤ x2 ∧ x2 < 96) ∧ (-2147483648 ≤ (M5 130 x1) ∧ (M5 130 x1) ≤ 2147483647) ∧ (-2147483648 ≤ (M5 130 x2) ∧ (M5 130 x2) ≤ 2147483647) ∧ (((M5 130 x1) ≠ (M5 130 x2)) → ∃ q12 : Int → zM → Prop, zKi g (z1 o) mX9_greatestBelow [zA g 1, zI x3] M5 q12 ∧ ∀ (r13 : Int) (M14 : zM), q12 r13 M14 → zT g (z1 o) mX9_saddle (zQi (z1 o) q) 49 [(0, zA g 1), (1, zI x1), (2, zI x2), (3, zI r13), (4, zI (x4 + 1))] [] M14) ∧ (((M5 130 x1) = (M5 130 x2)) → q x3 M5)))) : zT g (z1 o) mX9_saddle (zQi (z1 o) q) 49 [(0, zA g 1), (1, zI x1), (2, zI x2), (3, zI x3), (4, zI x4)] [] M := by
  refine zr_iload 4 dX9_saddle_49 rfl ?_
  refine zr_bipush dX9_saddle_51 (by decide) ?_
  obtain ⟨c1, W⟩ := W
  refine zr_icmp_gt (tgt := 110) dX9_saddle_53 (by decide) c1 ⟨by decide, by decide⟩ (fun h => ?_) (fun h => ?_)
  · have W := W.1 h
    refine zr_iconst dX9_saddle_110 ?_
    exact zt_iret dX9_saddle_111 rfl W
  · have W := W.2 h
    refine zr_iload_n 3 dX9_saddle_56 rfl ?_
    obtain ⟨c2, W⟩ := W
    refine zr_if_le (tgt := 110) dX9_saddle_57 (by decide) c2 (fun h => ?_) (fun h => ?_)
    · have W := W.1 h
      refine zr_iconst dX9_saddle_110 ?_
      exact zt_iret dX9_saddle_111 rfl W
    · have W := W.2 h
      refine zr_aload_n 0 dX9_saddle_60 rfl ?_
      refine zr_getr (b := 127) dX9_saddle_61 fX9_78 rfl rfl rfl (by decide) ?_
      refine zr_aload_n 0 dX9_saddle_64 rfl ?_
      refine zr_getr (b := 24) dX9_saddle_65 fX9_39 rfl rfl rfl (by decide) ?_
      refine zr_getr (b := 25) dX9_saddle_68 fX9_152 rfl rfl rfl (by decide) ?_
      refine zr_iload_n 3 dX9_saddle_71 rfl ?_
      obtain ⟨q3, k7, W⟩ := W
      refine zt_callVv (As := [zA g 25, zI x3]) (rest := []) dX9_saddle_72 kX9_saddle_274 rfl rfl rfl rfl (Nat.le_of_ble_eq_true rfl) k7 (fun M5 h6 => ?_)
      have W := W M5 h6
      refine zr_aload_n 0 dX9_saddle_75 rfl ?_
      refine zr_getr (b := 127) dX9_saddle_76 fX9_78 rfl rfl rfl (by decide) ?_
      refine zr_getr (b := 130) dX9_saddle_79 fX9_295 rfl rfl rfl (by decide) ?_
      refine zr_iload_n 1 dX9_saddle_82 rfl ?_
      obtain ⟨c8, W⟩ := W
      refine zr_iald dX9_saddle_83 rfl (by decide) c8 ?_
      refine zr_aload_n 0 dX9_saddle_84 rfl ?_
      refine zr_getr (b := 127) dX9_saddle_85 fX9_78 rfl rfl rfl (by decide) ?_
      refine zr_getr (b := 130) dX9_saddle_88 fX9_295 rfl rfl rfl (by decide) ?_
      refine zr_iload_n 2 dX9_saddle_91 rfl ?_
      obtain ⟨c9, W⟩ := W
      refine zr_iald dX9_saddle_92 rfl (by decide) c9 ?_
      obtain ⟨c10, W⟩ := W
      obtain ⟨c11, W⟩ := W
      refine zr_icmp_ne (tgt := 98) dX9_saddle_93 (by decide) c10 c11 (fun h => ?_) (fun h => ?_)
      · have W := W.1 h
        refine zr_aload_n 0 dX9_saddle_98 rfl ?_
        refine zr_iload_n 3 dX9_saddle_99 rfl ?_
        obtain ⟨q12, k16, W⟩ := W
        refine zt_callVi (As := [zI x3]) (rest := []) dX9_saddle_100 kX9_saddle_309 rfl rfl rfl rfl (Nat.le_of_ble_eq_true rfl) k16 (fun r13 M14 h15 => ?_)
        have W := W r13 M14 h15
        refine zr_istore_n (l' := [(0, zA g 1), (1, zI x1), (2, zI x2), (3, zI r13), (4, zI x4)]) dX9_saddle_103 (by decide) [1, 2, 3, 0, 4] rfl ?_
        refine zr_iinc (q := 4) (l' := [(0, zA g 1), (1, zI x1), (2, zI x2), (3, zI r13), (4, zI (x4 + 1))]) dX9_saddle_104 rfl (by decide) [1, 2, 3, 4, 0] rfl ?_
        refine zr_goto (tgt := 49) dX9_saddle_107 (by decide) ?_
        exact W
      · have W := W.2 h
        refine zr_iload_n 3 dX9_saddle_96 rfl ?_
        exact zt_iret dX9_saddle_97 rfl W
theorem dX9_greatestBelow_0 : decode cX9_greatestBelow 0 = .ok (.iconst 0, 1) := by decide +kernel
theorem dX9_greatestBelow_1 : decode cX9_greatestBelow 1 = .ok (.istore_n 2, 1) := by decide +kernel
theorem dX9_greatestBelow_2 : decode cX9_greatestBelow 2 = .ok (.iconst 0, 1) := by decide +kernel
theorem dX9_greatestBelow_3 : decode cX9_greatestBelow 3 = .ok (.istore_n 3, 1) := by decide +kernel
theorem dX9_greatestBelow_4 : decode cX9_greatestBelow 4 = .ok (.iload_n 3, 1) := by decide +kernel
theorem dX9_greatestBelow_5 : decode cX9_greatestBelow 5 = .ok (.aload_n 0, 1) := by decide +kernel
theorem dX9_greatestBelow_6 : decode cX9_greatestBelow 6 = .ok (.getfield 28, 3) := by decide +kernel
theorem dX9_greatestBelow_9 : decode cX9_greatestBelow 9 = .ok (.getfield 120, 3) := by decide +kernel
theorem dX9_greatestBelow_12 : decode cX9_greatestBelow 12 = .ok (.if_icmp .ge 33, 3) := by decide +kernel
theorem dX9_greatestBelow_15 : decode cX9_greatestBelow 15 = .ok (.aload_n 0, 1) := by decide +kernel
theorem dX9_greatestBelow_16 : decode cX9_greatestBelow 16 = .ok (.getfield 39, 3) := by decide +kernel
theorem dX9_greatestBelow_19 : decode cX9_greatestBelow 19 = .ok (.getfield 152, 3) := by decide +kernel
theorem dX9_greatestBelow_22 : decode cX9_greatestBelow 22 = .ok (.iload_n 3, 1) := by decide +kernel
theorem dX9_greatestBelow_23 : decode cX9_greatestBelow 23 = .ok (.iaload, 1) := by decide +kernel
theorem dX9_greatestBelow_24 : decode cX9_greatestBelow 24 = .ok (.istore 4, 2) := by decide +kernel
theorem dX9_greatestBelow_26 : decode cX9_greatestBelow 26 = .ok (.iload 4, 2) := by decide +kernel
theorem dX9_greatestBelow_28 : decode cX9_greatestBelow 28 = .ok (.iload_n 1, 1) := by decide +kernel
theorem dX9_greatestBelow_29 : decode cX9_greatestBelow 29 = .ok (.if_icmp .ge 10, 3) := by decide +kernel
theorem dX9_greatestBelow_32 : decode cX9_greatestBelow 32 = .ok (.iload_n 2, 1) := by decide +kernel
theorem dX9_greatestBelow_33 : decode cX9_greatestBelow 33 = .ok (.iload 4, 2) := by decide +kernel
theorem dX9_greatestBelow_35 : decode cX9_greatestBelow 35 = .ok (.invokestatic 183, 3) := by decide +kernel
theorem dX9_greatestBelow_38 : decode cX9_greatestBelow 38 = .ok (.istore_n 2, 1) := by decide +kernel
theorem dX9_greatestBelow_39 : decode cX9_greatestBelow 39 = .ok (.iinc 3 1, 3) := by decide +kernel
theorem dX9_greatestBelow_42 : decode cX9_greatestBelow 42 = .ok (.goto (-38), 3) := by decide +kernel
theorem dX9_greatestBelow_45 : decode cX9_greatestBelow 45 = .ok (.iload_n 2, 1) := by decide +kernel
theorem dX9_greatestBelow_46 : decode cX9_greatestBelow 46 = .ok (.ireturn, 1) := by decide +kernel
set_option maxRecDepth 100000 in
theorem SX9_greatestBelow_0 {g : zG} {o : Bool} {M : zM} {q : Int → zM → Prop} {x1 : Int} (W : zT g (z1 o) mX9_greatestBelow (zQi (z1 o) q) 4 [(0, zA g 1), (1, zI x1), (2, zI 0), (3, zI 0)] [] M) : zT g (z1 o) mX9_greatestBelow (zQi (z1 o) q) 0 [(0, zA g 1), (1, zI x1)] [] M := by
  refine zr_iconst dX9_greatestBelow_0 ?_
  refine zr_istore_n (l' := [(0, zA g 1), (1, zI x1), (2, zI 0)]) dX9_greatestBelow_1 (by decide) [1, 2, 0] rfl ?_
  refine zr_iconst dX9_greatestBelow_2 ?_
  refine zr_istore_n (l' := [(0, zA g 1), (1, zI x1), (2, zI 0), (3, zI 0)]) dX9_greatestBelow_3 (by decide) [1, 2, 3, 0] rfl ?_
  exact W
set_option maxRecDepth 100000 in
theorem SX9_greatestBelow_4 {g : zG} {o : Bool} {M : zM} {q : Int → zM → Prop} {x1 x2 x3 : Int} (W : (-2147483648 ≤ x3 ∧ x3 ≤ 2147483647) ∧ (-2147483648 ≤ (M 14 2) ∧ (M 14 2) ≤ 2147483647) ∧ (((M 14 2) ≤ x3) → q x2 M) ∧ ((¬ ((M 14 2) ≤ x3)) → (0 ≤ x3 ∧ x3 < 96) ∧ (-2147483648 ≤ (M 25 x3) ∧ (M 25 x3) ≤ 2147483647) ∧ (-2147483648 ≤ x1 ∧ x1 ≤ 2147483647) ∧ ((x1 ≤ (M 25 x3)) → zT g (z1 o) mX9_greatestBelow (zQi (z1 o) q) 4 [(0, zA g 1), (1, zI x1), (2, zI x2), (3, zI (x3 + 1))] [] M) ∧ ((¬ (x1 ≤ (M 25 x3))) → (-2147483648 ≤ x2 ∧ x2 ≤ 2147483647) ∧ zT g (z1 o) mX9_greatestBelow (zQi (z1 o) q) 4 [(0, zA g 1), (1, zI x1), (2, zI (max x2 (M 25 x3))), (3, zI (x3 + 1))] [] M))) : zT g (z1 o) mX9_greatestBelow (zQi (z1 o) q) 4 [(0, zA g 1), (1, zI x1), (2, zI x2), (3, zI x3)] [] M := by
  refine zr_iload_n 3 dX9_greatestBelow_4 rfl ?_
  refine zr_aload_n 0 dX9_greatestBelow_5 rfl ?_
  refine zr_getr (b := 14) dX9_greatestBelow_6 fX9_28 rfl rfl rfl (by decide) ?_
  refine zt_geti 2 rfl dX9_greatestBelow_9 fX9_120 rfl (by decide) ?_
  obtain ⟨c1, W⟩ := W
  obtain ⟨c2, W⟩ := W
  refine zr_icmp_ge (tgt := 45) dX9_greatestBelow_12 (by decide) c1 c2 (fun h => ?_) (fun h => ?_)
  · have W := W.1 h
    refine zr_iload_n 2 dX9_greatestBelow_45 rfl ?_
    exact zt_iret dX9_greatestBelow_46 rfl W
  · have W := W.2 h
    refine zr_aload_n 0 dX9_greatestBelow_15 rfl ?_
    refine zr_getr (b := 24) dX9_greatestBelow_16 fX9_39 rfl rfl rfl (by decide) ?_
    refine zr_getr (b := 25) dX9_greatestBelow_19 fX9_152 rfl rfl rfl (by decide) ?_
    refine zr_iload_n 3 dX9_greatestBelow_22 rfl ?_
    obtain ⟨c3, W⟩ := W
    refine zr_iald dX9_greatestBelow_23 rfl (by decide) c3 ?_
    refine zr_istore (l' := [(0, zA g 1), (1, zI x1), (2, zI x2), (3, zI x3), (4, zI (M 25 x3))]) dX9_greatestBelow_24 (by decide) [1, 2, 3, 4, 0] rfl ?_
    refine zr_iload 4 dX9_greatestBelow_26 rfl ?_
    refine zr_iload_n 1 dX9_greatestBelow_28 rfl ?_
    obtain ⟨c4, W⟩ := W
    obtain ⟨c5, W⟩ := W
    refine zr_icmp_ge (tgt := 39) dX9_greatestBelow_29 (by decide) c4 c5 (fun h => ?_) (fun h => ?_)
    · have W := W.1 h
      refine zr_iinc (q := 3) (l' := [(0, zA g 1), (1, zI x1), (2, zI x2), (3, zI (x3 + 1))]) dX9_greatestBelow_39 rfl (by decide) [1, 2, 3, 0] rfl ?_
      refine zr_goto (tgt := 4) dX9_greatestBelow_42 (by decide) ?_
      exact W
    · have W := W.2 h
      refine zr_iload_n 2 dX9_greatestBelow_32 rfl ?_
      refine zr_iload 4 dX9_greatestBelow_33 rfl ?_
      obtain ⟨c6, W⟩ := W
      refine zr_max dX9_greatestBelow_35 kX9_greatestBelow_183 c6 c4 (Nat.le_of_ble_eq_true rfl) ⟨Nat.le_refl _, Nat.le_refl _⟩ ?_
      refine zr_istore_n (l' := [(0, zA g 1), (1, zI x1), (2, zI (max x2 (M 25 x3))), (3, zI x3)]) dX9_greatestBelow_38 (by decide) [1, 2, 0, 3] rfl ?_
      refine zr_iinc (q := 3) (l' := [(0, zA g 1), (1, zI x1), (2, zI (max x2 (M 25 x3))), (3, zI (x3 + 1))]) dX9_greatestBelow_39 rfl (by decide) [1, 2, 3, 0] rfl ?_
      refine zr_goto (tgt := 4) dX9_greatestBelow_42 (by decide) ?_
      exact W
theorem dX9_crests_0 : decode cX9_crests 0 = .ok (.iload_n 1, 1) := by decide +kernel
theorem dX9_crests_1 : decode cX9_crests 1 = .ok (.ifCond .lt 8, 3) := by decide +kernel
theorem dX9_crests_4 : decode cX9_crests 4 = .ok (.iload_n 1, 1) := by decide +kernel
theorem dX9_crests_5 : decode cX9_crests 5 = .ok (.iconst 2, 1) := by decide +kernel
theorem dX9_crests_6 : decode cX9_crests 6 = .ok (.if_icmp .le 5, 3) := by decide +kernel
theorem dX9_crests_9 : decode cX9_crests 9 = .ok (.iconst (-1), 1) := by decide +kernel
theorem dX9_crests_10 : decode cX9_crests 10 = .ok (.ireturn, 1) := by decide +kernel
theorem dX9_crests_11 : decode cX9_crests 11 = .ok (.aload_n 0, 1) := by decide +kernel
theorem dX9_crests_12 : decode cX9_crests 12 = .ok (.getfield 78, 3) := by decide +kernel
theorem dX9_crests_15 : decode cX9_crests 15 = .ok (.aload_n 0, 1) := by decide +kernel
theorem dX9_crests_16 : decode cX9_crests 16 = .ok (.getfield 50, 3) := by decide +kernel
theorem dX9_crests_19 : decode cX9_crests 19 = .ok (.aload_n 0, 1) := by decide +kernel
theorem dX9_crests_20 : decode cX9_crests 20 = .ok (.invokevirtual 155, 3) := by decide +kernel
theorem dX9_crests_23 : decode cX9_crests 23 = .ok (.invokevirtual 312, 3) := by decide +kernel
theorem dX9_crests_26 : decode cX9_crests 26 = .ok (.iload_n 1, 1) := by decide +kernel
theorem dX9_crests_27 : decode cX9_crests 27 = .ok (.ifCond .ne 11, 3) := by decide +kernel
theorem dX9_crests_30 : decode cX9_crests 30 = .ok (.aload_n 0, 1) := by decide +kernel
theorem dX9_crests_31 : decode cX9_crests 31 = .ok (.getfield 78, 3) := by decide +kernel
theorem dX9_crests_34 : decode cX9_crests 34 = .ok (.getfield 278, 3) := by decide +kernel
theorem dX9_crests_37 : decode cX9_crests 37 = .ok (.ireturn, 1) := by decide +kernel
theorem dX9_crests_38 : decode cX9_crests 38 = .ok (.iconst (-1), 1) := by decide +kernel
theorem dX9_crests_39 : decode cX9_crests 39 = .ok (.istore_n 2, 1) := by decide +kernel
theorem dX9_crests_40 : decode cX9_crests 40 = .ok (.iconst 0, 1) := by decide +kernel
theorem dX9_crests_41 : decode cX9_crests 41 = .ok (.istore_n 3, 1) := by decide +kernel
theorem dX9_crests_42 : decode cX9_crests 42 = .ok (.iconst 0, 1) := by decide +kernel
theorem dX9_crests_43 : decode cX9_crests 43 = .ok (.istore 4, 2) := by decide +kernel
theorem dX9_crests_45 : decode cX9_crests 45 = .ok (.iload 4, 2) := by decide +kernel
theorem dX9_crests_47 : decode cX9_crests 47 = .ok (.aload_n 0, 1) := by decide +kernel
theorem dX9_crests_48 : decode cX9_crests 48 = .ok (.getfield 78, 3) := by decide +kernel
theorem dX9_crests_51 : decode cX9_crests 51 = .ok (.getfield 278, 3) := by decide +kernel
theorem dX9_crests_54 : decode cX9_crests 54 = .ok (.if_icmp .ge 32, 3) := by decide +kernel
theorem dX9_crests_57 : decode cX9_crests 57 = .ok (.aload_n 0, 1) := by decide +kernel
theorem dX9_crests_58 : decode cX9_crests 58 = .ok (.getfield 78, 3) := by decide +kernel
theorem dX9_crests_61 : decode cX9_crests 61 = .ok (.iload 4, 2) := by decide +kernel
theorem dX9_crests_63 : decode cX9_crests 63 = .ok (.invokevirtual 282, 3) := by decide +kernel
theorem dX9_crests_66 : decode cX9_crests 66 = .ok (.istore 5, 2) := by decide +kernel
theorem dX9_crests_68 : decode cX9_crests 68 = .ok (.iload 5, 2) := by decide +kernel
theorem dX9_crests_70 : decode cX9_crests 70 = .ok (.iload_n 3, 1) := by decide +kernel
theorem dX9_crests_71 : decode cX9_crests 71 = .ok (.if_icmp .le 9, 3) := by decide +kernel
theorem dX9_crests_74 : decode cX9_crests 74 = .ok (.iload 5, 2) := by decide +kernel
theorem dX9_crests_76 : decode cX9_crests 76 = .ok (.istore_n 3, 1) := by decide +kernel
theorem dX9_crests_77 : decode cX9_crests 77 = .ok (.iload 4, 2) := by decide +kernel
theorem dX9_crests_79 : decode cX9_crests 79 = .ok (.istore_n 2, 1) := by decide +kernel
theorem dX9_crests_80 : decode cX9_crests 80 = .ok (.iinc 4 1, 3) := by decide +kernel
theorem dX9_crests_83 : decode cX9_crests 83 = .ok (.goto (-38), 3) := by decide +kernel
theorem dX9_crests_86 : decode cX9_crests 86 = .ok (.iload_n 1, 1) := by decide +kernel
theorem dX9_crests_87 : decode cX9_crests 87 = .ok (.iconst 1, 1) := by decide +kernel
theorem dX9_crests_88 : decode cX9_crests 88 = .ok (.if_icmp .ne 7, 3) := by decide +kernel
theorem dX9_crests_91 : decode cX9_crests 91 = .ok (.iload_n 3, 1) := by decide +kernel
theorem dX9_crests_92 : decode cX9_crests 92 = .ok (.goto 11, 3) := by decide +kernel
theorem dX9_crests_95 : decode cX9_crests 95 = .ok (.aload_n 0, 1) := by decide +kernel
theorem dX9_crests_96 : decode cX9_crests 96 = .ok (.getfield 78, 3) := by decide +kernel
theorem dX9_crests_99 : decode cX9_crests 99 = .ok (.iload_n 2, 1) := by decide +kernel
theorem dX9_crests_100 : decode cX9_crests 100 = .ok (.invokevirtual 279, 3) := by decide +kernel
theorem dX9_crests_103 : decode cX9_crests 103 = .ok (.ireturn, 1) := by decide +kernel
set_option maxRecDepth 100000 in
theorem SX9_crests_0 {g : zG} {o : Bool} {C R : Int} {M : zM} {q : Int → zM → Prop} {x1 : Int} (W : (-2147483648 ≤ x1 ∧ x1 ≤ 2147483647) ∧ ((x1 < 0) → q (-1) M) ∧ ((¬ (x1 < 0)) → ((x1 ≤ 2) → (zLand M C R) ∧ (sOk M 24) ∧ ∃ q7 : zM → Prop, zKv g (z1 o) mX3_joinCrests [zA g 127, zA g 32, zI (wnd M (M 24 4))] M q7 ∧ ∀ M9 : zM, q7 M9 → ((x1 ≠ 0) → zT g (z1 o) mX9_crests (zQi (z1 o) q) 45 [(0, zA g 1), (1, zI x1), (2, zI (-1)), (3, zI 0), (4, zI 0)] [] M9) ∧ ((x1 = 0) → q (M9 127 5) M9)) ∧ ((¬ (x1 ≤ 2)) → q (-1) M))) : zT g (z1 o) mX9_crests (zQi (z1 o) q) 0 [(0, zA g 1), (1, zI x1)] [] M := by
  refine zr_iload_n 1 dX9_crests_0 rfl ?_
  obtain ⟨c1, W⟩ := W
  refine zr_if_lt (tgt := 9) dX9_crests_1 (by decide) c1 (fun h => ?_) (fun h => ?_)
  · have W := W.1 h
    refine zr_iconst dX9_crests_9 ?_
    exact zt_iret dX9_crests_10 rfl W
  · have W := W.2 h
    refine zr_iload_n 1 dX9_crests_4 rfl ?_
    refine zr_iconst dX9_crests_5 ?_
    refine zr_icmp_le (tgt := 11) dX9_crests_6 (by decide) c1 ⟨by decide, by decide⟩ (fun h => ?_) (fun h => ?_)
    · have W := W.1 h
      refine zr_aload_n 0 dX9_crests_11 rfl ?_
      refine zr_getr (b := 127) dX9_crests_12 fX9_78 rfl rfl rfl (by decide) ?_
      refine zr_aload_n 0 dX9_crests_15 rfl ?_
      refine zr_getr (b := 32) dX9_crests_16 fX9_50 rfl rfl rfl (by decide) ?_
      refine zr_aload_n 0 dX9_crests_19 rfl ?_
      obtain ⟨c2, W⟩ := W
      obtain ⟨c3, W⟩ := W
      refine zt_callVi (As := []) (rest := [zA g 32, zA g 127]) dX9_crests_20 kX9_crests_155 rfl rfl rfl rfl (Nat.le_of_ble_eq_true rfl) (c_windNow1 c2 c3) (fun r4 N6 h5 => ?_)
      rw [h5.1, h5.2]
      obtain ⟨q7, k11, W⟩ := W
      refine zt_callVv (As := [zA g 32, zI (wnd M (M 24 4))]) (rest := []) dX9_crests_23 kX9_crests_312 rfl rfl rfl rfl (Nat.le_of_ble_eq_true rfl) k11 (fun M9 h10 => ?_)
      have W := W M9 h10
      refine zr_iload_n 1 dX9_crests_26 rfl ?_
      refine zr_if_ne (tgt := 38) dX9_crests_27 (by decide) c1 (fun h => ?_) (fun h => ?_)
      · have W := W.1 h
        refine zr_iconst dX9_crests_38 ?_
        refine zr_istore_n (l' := [(0, zA g 1), (1, zI x1), (2, zI (-1))]) dX9_crests_39 (by decide) [1, 2, 0] rfl ?_
        refine zr_iconst dX9_crests_40 ?_
        refine zr_istore_n (l' := [(0, zA g 1), (1, zI x1), (2, zI (-1)), (3, zI 0)]) dX9_crests_41 (by decide) [1, 2, 3, 0] rfl ?_
        refine zr_iconst dX9_crests_42 ?_
        refine zr_istore (l' := [(0, zA g 1), (1, zI x1), (2, zI (-1)), (3, zI 0), (4, zI 0)]) dX9_crests_43 (by decide) [1, 2, 3, 4, 0] rfl ?_
        exact W
      · have W := W.2 h
        refine zr_aload_n 0 dX9_crests_30 rfl ?_
        refine zr_getr (b := 127) dX9_crests_31 fX9_78 rfl rfl rfl (by decide) ?_
        refine zt_geti 5 rfl dX9_crests_34 fX9_278 rfl (by decide) ?_
        exact zt_iret dX9_crests_37 rfl W
    · have W := W.2 h
      refine zr_iconst dX9_crests_9 ?_
      exact zt_iret dX9_crests_10 rfl W
set_option maxRecDepth 100000 in
theorem SX9_crests_45 {g : zG} {o : Bool} {M : zM} {q : Int → zM → Prop} {x1 x2 x3 x4 : Int} (W : (-2147483648 ≤ x4 ∧ x4 ≤ 2147483647) ∧ (-2147483648 ≤ (M 127 5) ∧ (M 127 5) ≤ 2147483647) ∧ (((M 127 5) ≤ x4) → (-2147483648 ≤ x1 ∧ x1 ≤ 2147483647) ∧ ((x1 ≠ 1) → ∃ q4 : Int → zM → Prop, zKi g (z1 o) mX3_firstCell [zA g 127, zI x2] M q4 ∧ ∀ (r5 : Int) (M6 : zM), q4 r5 M6 → q r5 M6) ∧ ((x1 = 1) → q x3 M)) ∧ ((¬ ((M 127 5) ≤ x4)) → ∃ q9 : Int → zM → Prop, zKi g (z1 o) mX3_size [zA g 127, zI x4] M q9 ∧ ∀ (r10 : Int) (M11 : zM), q9 r10 M11 → (-2147483648 ≤ r10 ∧ r10 ≤ 2147483647) ∧ (-2147483648 ≤ x3 ∧ x3 ≤ 2147483647) ∧ ((r10 ≤ x3) → zT g (z1 o) mX9_crests (zQi (z1 o) q) 45 [(0, zA g 1), (1, zI x1), (2, zI x2), (3, zI x3), (4, zI (x4 + 1))] [] M11) ∧ ((¬ (r10 ≤ x3)) → zT g (z1 o) mX9_crests (zQi (z1 o) q) 45 [(0, zA g 1), (1, zI x1), (2, zI x4), (3, zI r10), (4, zI (x4 + 1))] [] M11))) : zT g (z1 o) mX9_crests (zQi (z1 o) q) 45 [(0, zA g 1), (1, zI x1), (2, zI x2), (3, zI x3), (4, zI x4)] [] M := by
  refine zr_iload 4 dX9_crests_45 rfl ?_
  refine zr_aload_n 0 dX9_crests_47 rfl ?_
  refine zr_getr (b := 127) dX9_crests_48 fX9_78 rfl rfl rfl (by decide) ?_
  refine zt_geti 5 rfl dX9_crests_51 fX9_278 rfl (by decide) ?_
  obtain ⟨c1, W⟩ := W
  obtain ⟨c2, W⟩ := W
  refine zr_icmp_ge (tgt := 86) dX9_crests_54 (by decide) c1 c2 (fun h => ?_) (fun h => ?_)
  · have W := W.1 h
    refine zr_iload_n 1 dX9_crests_86 rfl ?_
    refine zr_iconst dX9_crests_87 ?_
    obtain ⟨c3, W⟩ := W
    refine zr_icmp_ne (tgt := 95) dX9_crests_88 (by decide) c3 ⟨by decide, by decide⟩ (fun h => ?_) (fun h => ?_)
    · have W := W.1 h
      refine zr_aload_n 0 dX9_crests_95 rfl ?_
      refine zr_getr (b := 127) dX9_crests_96 fX9_78 rfl rfl rfl (by decide) ?_
      refine zr_iload_n 2 dX9_crests_99 rfl ?_
      obtain ⟨q4, k8, W⟩ := W
      refine zt_callVi (As := [zI x2]) (rest := []) dX9_crests_100 kX9_crests_279 rfl rfl rfl rfl (Nat.le_of_ble_eq_true rfl) k8 (fun r5 M6 h7 => ?_)
      have W := W r5 M6 h7
      exact zt_iret dX9_crests_103 rfl W
    · have W := W.2 h
      refine zr_iload_n 3 dX9_crests_91 rfl ?_
      refine zr_goto (tgt := 103) dX9_crests_92 (by decide) ?_
      exact zt_iret dX9_crests_103 rfl W
  · have W := W.2 h
    refine zr_aload_n 0 dX9_crests_57 rfl ?_
    refine zr_getr (b := 127) dX9_crests_58 fX9_78 rfl rfl rfl (by decide) ?_
    refine zr_iload 4 dX9_crests_61 rfl ?_
    obtain ⟨q9, k13, W⟩ := W
    refine zt_callVi (As := [zI x4]) (rest := []) dX9_crests_63 kX9_crests_282 rfl rfl rfl rfl (Nat.le_of_ble_eq_true rfl) k13 (fun r10 M11 h12 => ?_)
    have W := W r10 M11 h12
    refine zr_istore (l' := [(0, zA g 1), (1, zI x1), (2, zI x2), (3, zI x3), (4, zI x4), (5, zI r10)]) dX9_crests_66 (by decide) [1, 2, 3, 4, 5, 0] rfl ?_
    refine zr_iload 5 dX9_crests_68 rfl ?_
    refine zr_iload_n 3 dX9_crests_70 rfl ?_
    obtain ⟨c14, W⟩ := W
    obtain ⟨c15, W⟩ := W
    refine zr_icmp_le (tgt := 80) dX9_crests_71 (by decide) c14 c15 (fun h => ?_) (fun h => ?_)
    · have W := W.1 h
      refine zr_iinc (q := 4) (l' := [(0, zA g 1), (1, zI x1), (2, zI x2), (3, zI x3), (4, zI (x4 + 1))]) dX9_crests_80 rfl (by decide) [1, 2, 3, 4, 0] rfl ?_
      refine zr_goto (tgt := 45) dX9_crests_83 (by decide) ?_
      exact W
    · have W := W.2 h
      refine zr_iload 5 dX9_crests_74 rfl ?_
      refine zr_istore_n (l' := [(0, zA g 1), (1, zI x1), (3, zI r10), (4, zI x4)]) dX9_crests_76 (by decide) [1, 2, 0, 4] rfl ?_
      refine zr_iload 3 dX9_crests_77 rfl ?_
      refine zr_istore_n (l' := [(0, zA g 1), (1, zI x1), (2, zI x4), (3, zI r10), (4, zI x4)]) dX9_crests_79 (by decide) [1, 2, 0, 3, 4] rfl ?_
      refine zr_iinc (q := 4) (l' := [(0, zA g 1), (1, zI x1), (2, zI x4), (3, zI r10), (4, zI (x4 + 1))]) dX9_crests_80 rfl (by decide) [1, 2, 3, 4, 0] rfl ?_
      refine zr_goto (tgt := 45) dX9_crests_83 (by decide) ?_
      exact W
theorem dX9_follows_0 : decode cX9_follows 0 = .ok (.aload_n 0, 1) := by decide +kernel
theorem dX9_follows_1 : decode cX9_follows 1 = .ok (.iload_n 1, 1) := by decide +kernel
theorem dX9_follows_2 : decode cX9_follows 2 = .ok (.invokevirtual 316, 3) := by decide +kernel
theorem dX9_follows_5 : decode cX9_follows 5 = .ok (.ifCond .eq 8, 3) := by decide +kernel
theorem dX9_follows_8 : decode cX9_follows 8 = .ok (.iload_n 2, 1) := by decide +kernel
theorem dX9_follows_9 : decode cX9_follows 9 = .ok (.iconst 1, 1) := by decide +kernel
theorem dX9_follows_10 : decode cX9_follows 10 = .ok (.if_icmp .ge 5, 3) := by decide +kernel
theorem dX9_follows_13 : decode cX9_follows 13 = .ok (.iconst (-1), 1) := by decide +kernel
theorem dX9_follows_14 : decode cX9_follows 14 = .ok (.ireturn, 1) := by decide +kernel
theorem dX9_follows_15 : decode cX9_follows 15 = .ok (.aload_n 0, 1) := by decide +kernel
theorem dX9_follows_16 : decode cX9_follows 16 = .ok (.iload_n 1, 1) := by decide +kernel
theorem dX9_follows_17 : decode cX9_follows 17 = .ok (.iload_n 2, 1) := by decide +kernel
theorem dX9_follows_18 : decode cX9_follows 18 = .ok (.invokevirtual 319, 3) := by decide +kernel
theorem dX9_follows_21 : decode cX9_follows 21 = .ok (.iload_n 3, 1) := by decide +kernel
theorem dX9_follows_22 : decode cX9_follows 22 = .ok (.ifCond .lt 14, 3) := by decide +kernel
theorem dX9_follows_25 : decode cX9_follows 25 = .ok (.iload_n 3, 1) := by decide +kernel
theorem dX9_follows_26 : decode cX9_follows 26 = .ok (.aload_n 0, 1) := by decide +kernel
theorem dX9_follows_27 : decode cX9_follows 27 = .ok (.getfield 78, 3) := by decide +kernel
theorem dX9_follows_30 : decode cX9_follows 30 = .ok (.getfield 278, 3) := by decide +kernel
theorem dX9_follows_33 : decode cX9_follows 33 = .ok (.if_icmp .lt 5, 3) := by decide +kernel
theorem dX9_follows_36 : decode cX9_follows 36 = .ok (.iconst (-1), 1) := by decide +kernel
theorem dX9_follows_37 : decode cX9_follows 37 = .ok (.ireturn, 1) := by decide +kernel
theorem dX9_follows_38 : decode cX9_follows 38 = .ok (.aload_n 0, 1) := by decide +kernel
theorem dX9_follows_39 : decode cX9_follows 39 = .ok (.getfield 93, 3) := by decide +kernel
theorem dX9_follows_42 : decode cX9_follows 42 = .ok (.iconst 0, 1) := by decide +kernel
theorem dX9_follows_43 : decode cX9_follows 43 = .ok (.invokestatic 298, 3) := by decide +kernel
theorem dX9_follows_46 : decode cX9_follows 46 = .ok (.iconst 0, 1) := by decide +kernel
theorem dX9_follows_47 : decode cX9_follows 47 = .ok (.istore 4, 2) := by decide +kernel
theorem dX9_follows_49 : decode cX9_follows 49 = .ok (.iload 4, 2) := by decide +kernel
theorem dX9_follows_51 : decode cX9_follows 51 = .ok (.aload_n 0, 1) := by decide +kernel
theorem dX9_follows_52 : decode cX9_follows 52 = .ok (.getfield 28, 3) := by decide +kernel
theorem dX9_follows_55 : decode cX9_follows 55 = .ok (.getfield 120, 3) := by decide +kernel
theorem dX9_follows_58 : decode cX9_follows 58 = .ok (.if_icmp .ge 52, 3) := by decide +kernel
theorem dX9_follows_61 : decode cX9_follows 61 = .ok (.aload_n 0, 1) := by decide +kernel
theorem dX9_follows_62 : decode cX9_follows 62 = .ok (.getfield 82, 3) := by decide +kernel
theorem dX9_follows_65 : decode cX9_follows 65 = .ok (.getfield 295, 3) := by decide +kernel
theorem dX9_follows_68 : decode cX9_follows 68 = .ok (.iload 4, 2) := by decide +kernel
theorem dX9_follows_70 : decode cX9_follows 70 = .ok (.iaload, 1) := by decide +kernel
theorem dX9_follows_71 : decode cX9_follows 71 = .ok (.istore 5, 2) := by decide +kernel
theorem dX9_follows_73 : decode cX9_follows 73 = .ok (.aload_n 0, 1) := by decide +kernel
theorem dX9_follows_74 : decode cX9_follows 74 = .ok (.getfield 78, 3) := by decide +kernel
theorem dX9_follows_77 : decode cX9_follows 77 = .ok (.getfield 295, 3) := by decide +kernel
theorem dX9_follows_80 : decode cX9_follows 80 = .ok (.iload 4, 2) := by decide +kernel
theorem dX9_follows_82 : decode cX9_follows 82 = .ok (.iaload, 1) := by decide +kernel
theorem dX9_follows_83 : decode cX9_follows 83 = .ok (.iload_n 3, 1) := by decide +kernel
theorem dX9_follows_84 : decode cX9_follows 84 = .ok (.if_icmp .ne 20, 3) := by decide +kernel
theorem dX9_follows_87 : decode cX9_follows 87 = .ok (.iload 5, 2) := by decide +kernel
theorem dX9_follows_89 : decode cX9_follows 89 = .ok (.iconst (-1), 1) := by decide +kernel
theorem dX9_follows_90 : decode cX9_follows 90 = .ok (.if_icmp .eq 14, 3) := by decide +kernel
theorem dX9_follows_93 : decode cX9_follows 93 = .ok (.aload_n 0, 1) := by decide +kernel
theorem dX9_follows_94 : decode cX9_follows 94 = .ok (.getfield 93, 3) := by decide +kernel
theorem dX9_follows_97 : decode cX9_follows 97 = .ok (.iload 5, 2) := by decide +kernel
theorem dX9_follows_99 : decode cX9_follows 99 = .ok (.dup2, 1) := by decide +kernel
theorem dX9_follows_100 : decode cX9_follows 100 = .ok (.iaload, 1) := by decide +kernel
theorem dX9_follows_101 : decode cX9_follows 101 = .ok (.iconst 1, 1) := by decide +kernel
theorem dX9_follows_102 : decode cX9_follows 102 = .ok (.iadd, 1) := by decide +kernel
theorem dX9_follows_103 : decode cX9_follows 103 = .ok (.iastore, 1) := by decide +kernel
theorem dX9_follows_104 : decode cX9_follows 104 = .ok (.iinc 4 1, 3) := by decide +kernel
theorem dX9_follows_107 : decode cX9_follows 107 = .ok (.goto (-58), 3) := by decide +kernel
theorem dX9_follows_110 : decode cX9_follows 110 = .ok (.iconst (-1), 1) := by decide +kernel
theorem dX9_follows_111 : decode cX9_follows 111 = .ok (.istore 4, 2) := by decide +kernel
theorem dX9_follows_113 : decode cX9_follows 113 = .ok (.iconst 0, 1) := by decide +kernel
theorem dX9_follows_114 : decode cX9_follows 114 = .ok (.istore 5, 2) := by decide +kernel
theorem dX9_follows_116 : decode cX9_follows 116 = .ok (.iconst 0, 1) := by decide +kernel
theorem dX9_follows_117 : decode cX9_follows 117 = .ok (.istore 6, 2) := by decide +kernel
theorem dX9_follows_119 : decode cX9_follows 119 = .ok (.iload 6, 2) := by decide +kernel
theorem dX9_follows_121 : decode cX9_follows 121 = .ok (.aload_n 0, 1) := by decide +kernel
theorem dX9_follows_122 : decode cX9_follows 122 = .ok (.getfield 82, 3) := by decide +kernel
theorem dX9_follows_125 : decode cX9_follows 125 = .ok (.getfield 278, 3) := by decide +kernel
theorem dX9_follows_128 : decode cX9_follows 128 = .ok (.if_icmp .ge 34, 3) := by decide +kernel
theorem dX9_follows_131 : decode cX9_follows 131 = .ok (.aload_n 0, 1) := by decide +kernel
theorem dX9_follows_132 : decode cX9_follows 132 = .ok (.getfield 93, 3) := by decide +kernel
theorem dX9_follows_135 : decode cX9_follows 135 = .ok (.iload 6, 2) := by decide +kernel
theorem dX9_follows_137 : decode cX9_follows 137 = .ok (.iaload, 1) := by decide +kernel
theorem dX9_follows_138 : decode cX9_follows 138 = .ok (.iload 5, 2) := by decide +kernel
theorem dX9_follows_140 : decode cX9_follows 140 = .ok (.if_icmp .le 16, 3) := by decide +kernel
theorem dX9_follows_143 : decode cX9_follows 143 = .ok (.aload_n 0, 1) := by decide +kernel
theorem dX9_follows_144 : decode cX9_follows 144 = .ok (.getfield 93, 3) := by decide +kernel
theorem dX9_follows_147 : decode cX9_follows 147 = .ok (.iload 6, 2) := by decide +kernel
theorem dX9_follows_149 : decode cX9_follows 149 = .ok (.iaload, 1) := by decide +kernel
theorem dX9_follows_150 : decode cX9_follows 150 = .ok (.istore 5, 2) := by decide +kernel
theorem dX9_follows_152 : decode cX9_follows 152 = .ok (.iload 6, 2) := by decide +kernel
theorem dX9_follows_154 : decode cX9_follows 154 = .ok (.istore 4, 2) := by decide +kernel
theorem dX9_follows_156 : decode cX9_follows 156 = .ok (.iinc 6 1, 3) := by decide +kernel
theorem dX9_follows_159 : decode cX9_follows 159 = .ok (.goto (-40), 3) := by decide +kernel
theorem dX9_follows_162 : decode cX9_follows 162 = .ok (.iload 4, 2) := by decide +kernel
theorem dX9_follows_164 : decode cX9_follows 164 = .ok (.ireturn, 1) := by decide +kernel
set_option maxRecDepth 100000 in
theorem SX9_follows_0 {g : zG} {o : Bool} {M : zM} {q : Int → zM → Prop} {x1 x2 x3 : Int} (W : (-2147483648 ≤ x1 ∧ x1 ≤ 2147483647) ∧ (kOk (M 148)) ∧ ((¬ ((0 ≤ x1 ∧ x1 < 3) ∧ M 148 x1 = 1)) → q (-1) M) ∧ (((0 ≤ x1 ∧ x1 < 3) ∧ M 148 x1 = 1) → (-2147483648 ≤ x2 ∧ x2 ≤ 2147483647) ∧ ((1 ≤ x2) → ∃ q7 : zM → Prop, zKv g (z1 o) mX9_joinBoth [zA g 1, zI x1, zI x2] M q7 ∧ ∀ M9 : zM, q7 M9 → (-2147483648 ≤ x3 ∧ x3 ≤ 2147483647) ∧ ((x3 < 0) → q (-1) M9) ∧ ((¬ (x3 < 0)) → (-2147483648 ≤ (M9 127 5) ∧ (M9 127 5) ≤ 2147483647) ∧ ((x3 < (M9 127 5)) → ∃ q14 : zM → Prop, zKv g (z1 o) mJ7_fill_53178 [zA g 149, zI 0] M9 q14 ∧ ∀ M16 : zM, q14 M16 → zT g (z1 o) mX9_follows (zQi (z1 o) q) 49 [(0, zA g 1), (3, zI x3), (4, zI 0)] [] M16) ∧ ((¬ (x3 < (M9 127 5))) → q (-1) M9))) ∧ ((¬ (1 ≤ x2)) → q (-1) M))) : zT g (z1 o) mX9_follows (zQi (z1 o) q) 0 [(0, zA g 1), (1, zI x1), (2, zI x2), (3, zI x3)] [] M := by
  refine zr_aload_n 0 dX9_follows_0 rfl ?_
  refine zr_iload_n 1 dX9_follows_1 rfl ?_
  obtain ⟨c1, W⟩ := W
  obtain ⟨c2, W⟩ := W
  refine zt_callVi (As := [zI x1]) (rest := []) dX9_follows_2 kX9_follows_316 rfl rfl rfl rfl (Nat.le_of_ble_eq_true rfl) (c_isKept1 c1 c2) (fun r3 N5 h4 => ?_)
  rw [h4.1, h4.2]
  refine zt_ifeq_b (tgt := 13) dX9_follows_5 (by decide) (fun h => ?_) (fun h => ?_)
  · have W := W.1 h
    refine zr_iconst dX9_follows_13 ?_
    exact zt_iret dX9_follows_14 rfl W
  · have W := W.2 h
    refine zr_iload_n 2 dX9_follows_8 rfl ?_
    refine zr_iconst dX9_follows_9 ?_
    obtain ⟨c6, W⟩ := W
    refine zr_icmp_ge (tgt := 15) dX9_follows_10 (by decide) c6 ⟨by decide, by decide⟩ (fun h => ?_) (fun h => ?_)
    · have W := W.1 h
      refine zr_aload_n 0 dX9_follows_15 rfl ?_
      refine zr_iload_n 1 dX9_follows_16 rfl ?_
      refine zr_iload_n 2 dX9_follows_17 rfl ?_
      obtain ⟨q7, k11, W⟩ := W
      refine zt_callVv (As := [zI x1, zI x2]) (rest := []) dX9_follows_18 kX9_follows_319 rfl rfl rfl rfl (Nat.le_of_ble_eq_true rfl) k11 (fun M9 h10 => ?_)
      have W := W M9 h10
      refine zr_iload_n 3 dX9_follows_21 rfl ?_
      obtain ⟨c12, W⟩ := W
      refine zr_if_lt (tgt := 36) dX9_follows_22 (by decide) c12 (fun h => ?_) (fun h => ?_)
      · have W := W.1 h
        refine zr_iconst dX9_follows_36 ?_
        exact zt_iret dX9_follows_37 rfl W
      · have W := W.2 h
        refine zr_iload_n 3 dX9_follows_25 rfl ?_
        refine zr_aload_n 0 dX9_follows_26 rfl ?_
        refine zr_getr (b := 127) dX9_follows_27 fX9_78 rfl rfl rfl (by decide) ?_
        refine zt_geti 5 rfl dX9_follows_30 fX9_278 rfl (by decide) ?_
        obtain ⟨c13, W⟩ := W
        refine zr_icmp_lt (tgt := 38) dX9_follows_33 (by decide) c12 c13 (fun h => ?_) (fun h => ?_)
        · have W := W.1 h
          refine zr_aload_n 0 dX9_follows_38 rfl ?_
          refine zr_getr (b := 149) dX9_follows_39 fX9_93 rfl rfl rfl (by decide) ?_
          refine zr_iconst dX9_follows_42 ?_
          obtain ⟨q14, k18, W⟩ := W
          refine zt_callSv (As := [zA g 149, zI 0]) (rest := []) dX9_follows_43 kX9_follows_298 rfl rfl (Nat.le_of_ble_eq_true rfl) k18 (fun M16 h17 => ?_)
          have W := W M16 h17
          refine zr_iconst dX9_follows_46 ?_
          refine zr_istore (l' := [(0, zA g 1), (3, zI x3), (4, zI 0)]) dX9_follows_47 (by decide) [1, 4, 0] rfl ?_
          exact W
        · have W := W.2 h
          refine zr_iconst dX9_follows_36 ?_
          exact zt_iret dX9_follows_37 rfl W
    · have W := W.2 h
      refine zr_iconst dX9_follows_13 ?_
      exact zt_iret dX9_follows_14 rfl W
set_option maxRecDepth 100000 in
theorem SX9_follows_49 {g : zG} {o : Bool} {M : zM} {q : Int → zM → Prop} {x3 x4 : Int} (W : (-2147483648 ≤ x4 ∧ x4 ≤ 2147483647) ∧ (-2147483648 ≤ (M 14 2) ∧ (M 14 2) ≤ 2147483647) ∧ (((M 14 2) ≤ x4) → zT g (z1 o) mX9_follows (zQi (z1 o) q) 119 [(0, zA g 1), (4, zI (-1)), (5, zI 0), (6, zI 0)] [] M) ∧ ((¬ ((M 14 2) ≤ x4)) → (0 ≤ x4 ∧ x4 < 96) ∧ (-2147483648 ≤ (M 130 x4) ∧ (M 130 x4) ≤ 2147483647) ∧ (-2147483648 ≤ x3 ∧ x3 ≤ 2147483647) ∧ (((M 130 x4) ≠ x3) → zT g (z1 o) mX9_follows (zQi (z1 o) q) 49 [(0, zA g 1), (3, zI x3), (4, zI (x4 + 1))] [] M) ∧ (((M 130 x4) = x3) → (-2147483648 ≤ (M 134 x4) ∧ (M 134 x4) ≤ 2147483647) ∧ (((M 134 x4) = (-1)) → zT g (z1 o) mX9_follows (zQi (z1 o) q) 49 [(0, zA g 1), (3, zI x3), (4, zI (x4 + 1))] [] M) ∧ ((¬ ((M 134 x4) = (-1))) → (0 ≤ (M 134 x4) ∧ (M 134 x4) < 96) ∧ zT g (z1 o) mX9_follows (zQi (z1 o) q) 49 [(0, zA g 1), (3, zI x3), (4, zI (x4 + 1))] [] (zu M 149 (M 134 x4) ((M 149 (M 134 x4)) + 1)))))) : zT g (z1 o) mX9_follows (zQi (z1 o) q) 49 [(0, zA g 1), (3, zI x3), (4, zI x4)] [] M := by
  refine zr_iload 2 dX9_follows_49 rfl ?_
  refine zr_aload_n 0 dX9_follows_51 rfl ?_
  refine zr_getr (b := 14) dX9_follows_52 fX9_28 rfl rfl rfl (by decide) ?_
  refine zt_geti 2 rfl dX9_follows_55 fX9_120 rfl (by decide) ?_
  obtain ⟨c1, W⟩ := W
  obtain ⟨c2, W⟩ := W
  refine zr_icmp_ge (tgt := 110) dX9_follows_58 (by decide) c1 c2 (fun h => ?_) (fun h => ?_)
  · have W := W.1 h
    refine zr_iconst dX9_follows_110 ?_
    refine zr_istore (l' := [(0, zA g 1), (4, zI (-1))]) dX9_follows_111 (by decide) [1, 0] rfl ?_
    refine zr_iconst dX9_follows_113 ?_
    refine zr_istore (l' := [(0, zA g 1), (4, zI (-1)), (5, zI 0)]) dX9_follows_114 (by decide) [1, 2, 0] rfl ?_
    refine zr_iconst dX9_follows_116 ?_
    refine zr_istore (l' := [(0, zA g 1), (4, zI (-1)), (5, zI 0), (6, zI 0)]) dX9_follows_117 (by decide) [1, 2, 3, 0] rfl ?_
    exact W
  · have W := W.2 h
    refine zr_aload_n 0 dX9_follows_61 rfl ?_
    refine zr_getr (b := 131) dX9_follows_62 fX9_82 rfl rfl rfl (by decide) ?_
    refine zr_getr (b := 134) dX9_follows_65 fX9_295 rfl rfl rfl (by decide) ?_
    refine zr_iload 2 dX9_follows_68 rfl ?_
    obtain ⟨c3, W⟩ := W
    refine zr_iald dX9_follows_70 rfl (by decide) c3 ?_
    refine zr_istore (l' := [(0, zA g 1), (3, zI x3), (4, zI x4), (5, zI (M 134 x4))]) dX9_follows_71 (by decide) [1, 2, 3, 0] rfl ?_
    refine zr_aload_n 0 dX9_follows_73 rfl ?_
    refine zr_getr (b := 127) dX9_follows_74 fX9_78 rfl rfl rfl (by decide) ?_
    refine zr_getr (b := 130) dX9_follows_77 fX9_295 rfl rfl rfl (by decide) ?_
    refine zr_iload 2 dX9_follows_80 rfl ?_
    refine zr_iald dX9_follows_82 rfl (by decide) c3 ?_
    refine zr_iload_n 1 dX9_follows_83 rfl ?_
    obtain ⟨c4, W⟩ := W
    obtain ⟨c5, W⟩ := W
    refine zr_icmp_ne (tgt := 104) dX9_follows_84 (by decide) c4 c5 (fun h => ?_) (fun h => ?_)
    · have W := W.1 h
      refine zr_iinc (q := 2) (l' := [(0, zA g 1), (3, zI x3), (4, zI (x4 + 1))]) dX9_follows_104 rfl (by decide) [1, 2, 0] rfl ?_
      refine zr_goto (tgt := 49) dX9_follows_107 (by decide) ?_
      exact W
    · have W := W.2 h
      refine zr_iload 3 dX9_follows_87 rfl ?_
      refine zr_iconst dX9_follows_89 ?_
      obtain ⟨c6, W⟩ := W
      refine zr_icmp_eq (tgt := 104) dX9_follows_90 (by decide) c6 ⟨by decide, by decide⟩ (fun h => ?_) (fun h => ?_)
      · have W := W.1 h
        refine zr_iinc (q := 2) (l' := [(0, zA g 1), (3, zI x3), (4, zI (x4 + 1))]) dX9_follows_104 rfl (by decide) [1, 2, 0] rfl ?_
        refine zr_goto (tgt := 49) dX9_follows_107 (by decide) ?_
        exact W
      · have W := W.2 h
        refine zr_aload_n 0 dX9_follows_93 rfl ?_
        refine zr_getr (b := 149) dX9_follows_94 fX9_93 rfl rfl rfl (by decide) ?_
        refine zr_iload 3 dX9_follows_97 rfl ?_
        refine zr_dup2 dX9_follows_99 rfl rfl ?_
        obtain ⟨c7, W⟩ := W
        refine zr_iald dX9_follows_100 rfl (by decide) c7 ?_
        refine zr_iconst dX9_follows_101 ?_
        refine zr_iadd dX9_follows_102 ?_
        refine zr_iast dX9_follows_103 rfl (by decide) c7 ?_
        refine zr_iinc (q := 2) (l' := [(0, zA g 1), (3, zI x3), (4, zI (x4 + 1))]) dX9_follows_104 rfl (by decide) [1, 2, 0] rfl ?_
        refine zr_goto (tgt := 49) dX9_follows_107 (by decide) ?_
        exact W
set_option maxRecDepth 100000 in
theorem SX9_follows_119 {g : zG} {o : Bool} {M : zM} {q : Int → zM → Prop} {x4 x5 x6 : Int} (W : (-2147483648 ≤ x6 ∧ x6 ≤ 2147483647) ∧ (-2147483648 ≤ (M 131 5) ∧ (M 131 5) ≤ 2147483647) ∧ (((M 131 5) ≤ x6) → q x4 M) ∧ ((¬ ((M 131 5) ≤ x6)) → (0 ≤ x6 ∧ x6 < 96) ∧ (-2147483648 ≤ (M 149 x6) ∧ (M 149 x6) ≤ 2147483647) ∧ (-2147483648 ≤ x5 ∧ x5 ≤ 2147483647) ∧ (((M 149 x6) ≤ x5) → zT g (z1 o) mX9_follows (zQi (z1 o) q) 119 [(0, zA g 1), (4, zI x4), (5, zI x5), (6, zI (x6 + 1))] [] M) ∧ ((¬ ((M 149 x6) ≤ x5)) → zT g (z1 o) mX9_follows (zQi (z1 o) q) 119 [(0, zA g 1), (4, zI x6), (5, zI (M 149 x6)), (6, zI (x6 + 1))] [] M))) : zT g (z1 o) mX9_follows (zQi (z1 o) q) 119 [(0, zA g 1), (4, zI x4), (5, zI x5), (6, zI x6)] [] M := by
  refine zr_iload 3 dX9_follows_119 rfl ?_
  refine zr_aload_n 0 dX9_follows_121 rfl ?_
  refine zr_getr (b := 131) dX9_follows_122 fX9_82 rfl rfl rfl (by decide) ?_
  refine zt_geti 5 rfl dX9_follows_125 fX9_278 rfl (by decide) ?_
  obtain ⟨c1, W⟩ := W
  obtain ⟨c2, W⟩ := W
  refine zr_icmp_ge (tgt := 162) dX9_follows_128 (by decide) c1 c2 (fun h => ?_) (fun h => ?_)
  · have W := W.1 h
    refine zr_iload 1 dX9_follows_162 rfl ?_
    exact zt_iret dX9_follows_164 rfl W
  · have W := W.2 h
    refine zr_aload_n 0 dX9_follows_131 rfl ?_
    refine zr_getr (b := 149) dX9_follows_132 fX9_93 rfl rfl rfl (by decide) ?_
    refine zr_iload 3 dX9_follows_135 rfl ?_
    obtain ⟨c3, W⟩ := W
    refine zr_iald dX9_follows_137 rfl (by decide) c3 ?_
    refine zr_iload 2 dX9_follows_138 rfl ?_
    obtain ⟨c4, W⟩ := W
    obtain ⟨c5, W⟩ := W
    refine zr_icmp_le (tgt := 156) dX9_follows_140 (by decide) c4 c5 (fun h => ?_) (fun h => ?_)
    · have W := W.1 h
      refine zr_iinc (q := 3) (l' := [(0, zA g 1), (4, zI x4), (5, zI x5), (6, zI (x6 + 1))]) dX9_follows_156 rfl (by decide) [1, 2, 3, 0] rfl ?_
      refine zr_goto (tgt := 119) dX9_follows_159 (by decide) ?_
      exact W
    · have W := W.2 h
      refine zr_aload_n 0 dX9_follows_143 rfl ?_
      refine zr_getr (b := 149) dX9_follows_144 fX9_93 rfl rfl rfl (by decide) ?_
      refine zr_iload 3 dX9_follows_147 rfl ?_
      refine zr_iald dX9_follows_149 rfl (by decide) c3 ?_
      refine zr_istore (l' := [(0, zA g 1), (5, zI (M 149 x6)), (6, zI x6)]) dX9_follows_150 (by decide) [1, 0, 3] rfl ?_
      refine zr_iload 2 dX9_follows_152 rfl ?_
      refine zr_istore (l' := [(0, zA g 1), (4, zI x6), (5, zI (M 149 x6)), (6, zI x6)]) dX9_follows_154 (by decide) [1, 0, 2, 3] rfl ?_
      refine zr_iinc (q := 3) (l' := [(0, zA g 1), (4, zI x6), (5, zI (M 149 x6)), (6, zI (x6 + 1))]) dX9_follows_156 rfl (by decide) [1, 2, 3, 0] rfl ?_
      refine zr_goto (tgt := 119) dX9_follows_159 (by decide) ?_
      exact W
theorem dX9_fates_0 : decode cX9_fates 0 = .ok (.aload_n 0, 1) := by decide +kernel
theorem dX9_fates_1 : decode cX9_fates 1 = .ok (.iload_n 1, 1) := by decide +kernel
theorem dX9_fates_2 : decode cX9_fates 2 = .ok (.invokevirtual 316, 3) := by decide +kernel
theorem dX9_fates_5 : decode cX9_fates 5 = .ok (.ifCond .eq 8, 3) := by decide +kernel
theorem dX9_fates_8 : decode cX9_fates 8 = .ok (.iload_n 2, 1) := by decide +kernel
theorem dX9_fates_9 : decode cX9_fates 9 = .ok (.iconst 1, 1) := by decide +kernel
theorem dX9_fates_10 : decode cX9_fates 10 = .ok (.if_icmp .ge 5, 3) := by decide +kernel
theorem dX9_fates_13 : decode cX9_fates 13 = .ok (.iconst (-1), 1) := by decide +kernel
theorem dX9_fates_14 : decode cX9_fates 14 = .ok (.ireturn, 1) := by decide +kernel
theorem dX9_fates_15 : decode cX9_fates 15 = .ok (.aload_n 0, 1) := by decide +kernel
theorem dX9_fates_16 : decode cX9_fates 16 = .ok (.iload_n 1, 1) := by decide +kernel
theorem dX9_fates_17 : decode cX9_fates 17 = .ok (.iload_n 2, 1) := by decide +kernel
theorem dX9_fates_18 : decode cX9_fates 18 = .ok (.invokevirtual 319, 3) := by decide +kernel
theorem dX9_fates_21 : decode cX9_fates 21 = .ok (.iload_n 3, 1) := by decide +kernel
theorem dX9_fates_22 : decode cX9_fates 22 = .ok (.tableswitch 82 0 3 #[30, 43, 56, 69], 30) := by decide +kernel
theorem dX9_fates_52 : decode cX9_fates 52 = .ok (.aload_n 0, 1) := by decide +kernel
theorem dX9_fates_53 : decode cX9_fates 53 = .ok (.aload_n 0, 1) := by decide +kernel
theorem dX9_fates_54 : decode cX9_fates 54 = .ok (.getfield 78, 3) := by decide +kernel
theorem dX9_fates_57 : decode cX9_fates 57 = .ok (.aload_n 0, 1) := by decide +kernel
theorem dX9_fates_58 : decode cX9_fates 58 = .ok (.getfield 82, 3) := by decide +kernel
theorem dX9_fates_61 : decode cX9_fates 61 = .ok (.invokevirtual 323, 3) := by decide +kernel
theorem dX9_fates_64 : decode cX9_fates 64 = .ok (.ireturn, 1) := by decide +kernel
theorem dX9_fates_65 : decode cX9_fates 65 = .ok (.aload_n 0, 1) := by decide +kernel
theorem dX9_fates_66 : decode cX9_fates 66 = .ok (.aload_n 0, 1) := by decide +kernel
theorem dX9_fates_67 : decode cX9_fates 67 = .ok (.getfield 82, 3) := by decide +kernel
theorem dX9_fates_70 : decode cX9_fates 70 = .ok (.aload_n 0, 1) := by decide +kernel
theorem dX9_fates_71 : decode cX9_fates 71 = .ok (.getfield 78, 3) := by decide +kernel
theorem dX9_fates_74 : decode cX9_fates 74 = .ok (.invokevirtual 323, 3) := by decide +kernel
theorem dX9_fates_77 : decode cX9_fates 77 = .ok (.ireturn, 1) := by decide +kernel
theorem dX9_fates_78 : decode cX9_fates 78 = .ok (.aload_n 0, 1) := by decide +kernel
theorem dX9_fates_79 : decode cX9_fates 79 = .ok (.aload_n 0, 1) := by decide +kernel
theorem dX9_fates_80 : decode cX9_fates 80 = .ok (.getfield 82, 3) := by decide +kernel
theorem dX9_fates_83 : decode cX9_fates 83 = .ok (.aload_n 0, 1) := by decide +kernel
theorem dX9_fates_84 : decode cX9_fates 84 = .ok (.getfield 78, 3) := by decide +kernel
theorem dX9_fates_87 : decode cX9_fates 87 = .ok (.invokevirtual 327, 3) := by decide +kernel
theorem dX9_fates_90 : decode cX9_fates 90 = .ok (.ireturn, 1) := by decide +kernel
theorem dX9_fates_91 : decode cX9_fates 91 = .ok (.aload_n 0, 1) := by decide +kernel
theorem dX9_fates_92 : decode cX9_fates 92 = .ok (.aload_n 0, 1) := by decide +kernel
theorem dX9_fates_93 : decode cX9_fates 93 = .ok (.getfield 78, 3) := by decide +kernel
theorem dX9_fates_96 : decode cX9_fates 96 = .ok (.aload_n 0, 1) := by decide +kernel
theorem dX9_fates_97 : decode cX9_fates 97 = .ok (.getfield 82, 3) := by decide +kernel
theorem dX9_fates_100 : decode cX9_fates 100 = .ok (.invokevirtual 327, 3) := by decide +kernel
theorem dX9_fates_103 : decode cX9_fates 103 = .ok (.ireturn, 1) := by decide +kernel
theorem dX9_fates_104 : decode cX9_fates 104 = .ok (.iconst (-1), 1) := by decide +kernel
theorem dX9_fates_105 : decode cX9_fates 105 = .ok (.ireturn, 1) := by decide +kernel
set_option maxRecDepth 100000 in
theorem SX9_fates_0 {g : zG} {o : Bool} {M : zM} {q : Int → zM → Prop} {x1 x2 x3 : Int} (W : (-2147483648 ≤ x1 ∧ x1 ≤ 2147483647) ∧ (kOk (M 148)) ∧ ((¬ ((0 ≤ x1 ∧ x1 < 3) ∧ M 148 x1 = 1)) → q (-1) M) ∧ (((0 ≤ x1 ∧ x1 < 3) ∧ M 148 x1 = 1) → (-2147483648 ≤ x2 ∧ x2 ≤ 2147483647) ∧ ((1 ≤ x2) → ∃ q7 : zM → Prop, zKv g (z1 o) mX9_joinBoth [zA g 1, zI x1, zI x2] M q7 ∧ ∀ M9 : zM, q7 M9 → (-2147483648 ≤ x3 ∧ x3 ≤ 2147483647) ∧ (x3 = 0 → ∃ q13 : Int → zM → Prop, zKi g (z1 o) mX9_meetingMany [zA g 1, zA g 127, zA g 131] M9 q13 ∧ ∀ (r14 : Int) (M15 : zM), q13 r14 M15 → q r14 M15) ∧ (x3 = 1 → ∃ q18 : Int → zM → Prop, zKi g (z1 o) mX9_meetingMany [zA g 1, zA g 131, zA g 127] M9 q18 ∧ ∀ (r19 : Int) (M20 : zM), q18 r19 M20 → q r19 M20) ∧ (x3 = 2 → ∃ q23 : Int → zM → Prop, zKi g (z1 o) mX9_meetingNone [zA g 1, zA g 131, zA g 127] M9 q23 ∧ ∀ (r24 : Int) (M25 : zM), q23 r24 M25 → q r24 M25) ∧ (x3 = 3 → ∃ q28 : Int → zM → Prop, zKi g (z1 o) mX9_meetingNone [zA g 1, zA g 127, zA g 131] M9 q28 ∧ ∀ (r29 : Int) (M30 : zM), q28 r29 M30 → q r29 M30) ∧ (x3 < 0 ∨ 3 < x3 → q (-1) M9)) ∧ ((¬ (1 ≤ x2)) → q (-1) M))) : zT g (z1 o) mX9_fates (zQi (z1 o) q) 0 [(0, zA g 1), (1, zI x1), (2, zI x2), (3, zI x3)] [] M := by
  refine zr_aload_n 0 dX9_fates_0 rfl ?_
  refine zr_iload_n 1 dX9_fates_1 rfl ?_
  obtain ⟨c1, W⟩ := W
  obtain ⟨c2, W⟩ := W
  refine zt_callVi (As := [zI x1]) (rest := []) dX9_fates_2 kX9_fates_316 rfl rfl rfl rfl (Nat.le_of_ble_eq_true rfl) (c_isKept1 c1 c2) (fun r3 N5 h4 => ?_)
  rw [h4.1, h4.2]
  refine zt_ifeq_b (tgt := 13) dX9_fates_5 (by decide) (fun h => ?_) (fun h => ?_)
  · have W := W.1 h
    refine zr_iconst dX9_fates_13 ?_
    exact zt_iret dX9_fates_14 rfl W
  · have W := W.2 h
    refine zr_iload_n 2 dX9_fates_8 rfl ?_
    refine zr_iconst dX9_fates_9 ?_
    obtain ⟨c6, W⟩ := W
    refine zr_icmp_ge (tgt := 15) dX9_fates_10 (by decide) c6 ⟨by decide, by decide⟩ (fun h => ?_) (fun h => ?_)
    · have W := W.1 h
      refine zr_aload_n 0 dX9_fates_15 rfl ?_
      refine zr_iload_n 1 dX9_fates_16 rfl ?_
      refine zr_iload_n 2 dX9_fates_17 rfl ?_
      obtain ⟨q7, k11, W⟩ := W
      refine zt_callVv (As := [zI x1, zI x2]) (rest := []) dX9_fates_18 kX9_fates_319 rfl rfl rfl rfl (Nat.le_of_ble_eq_true rfl) k11 (fun M9 h10 => ?_)
      have W := W M9 h10
      refine zr_iload_n 3 dX9_fates_21 rfl ?_
      obtain ⟨c12, W⟩ := W
      by_cases e0 : x3 = 0
      · have W := W.1 e0
        refine zr_tin (tgt := 52) dX9_fates_22 c12 (by omega) (by omega) (by rw [e0]; rfl) (by decide) ?_
        refine zr_aload_n 0 dX9_fates_52 rfl ?_
        refine zr_aload_n 0 dX9_fates_53 rfl ?_
        refine zr_getr (b := 127) dX9_fates_54 fX9_78 rfl rfl rfl (by decide) ?_
        refine zr_aload_n 0 dX9_fates_57 rfl ?_
        refine zr_getr (b := 131) dX9_fates_58 fX9_82 rfl rfl rfl (by decide) ?_
        obtain ⟨q13, k17, W⟩ := W
        refine zt_callVi (As := [zA g 127, zA g 131]) (rest := []) dX9_fates_61 kX9_fates_323 rfl rfl rfl rfl (Nat.le_of_ble_eq_true rfl) k17 (fun r14 M15 h16 => ?_)
        have W := W r14 M15 h16
        exact zt_iret dX9_fates_64 rfl W
      by_cases e1 : x3 = 1
      · have W := W.2.1 e1
        refine zr_tin (tgt := 65) dX9_fates_22 c12 (by omega) (by omega) (by rw [e1]; rfl) (by decide) ?_
        refine zr_aload_n 0 dX9_fates_65 rfl ?_
        refine zr_aload_n 0 dX9_fates_66 rfl ?_
        refine zr_getr (b := 131) dX9_fates_67 fX9_82 rfl rfl rfl (by decide) ?_
        refine zr_aload_n 0 dX9_fates_70 rfl ?_
        refine zr_getr (b := 127) dX9_fates_71 fX9_78 rfl rfl rfl (by decide) ?_
        obtain ⟨q18, k22, W⟩ := W
        refine zt_callVi (As := [zA g 131, zA g 127]) (rest := []) dX9_fates_74 kX9_fates_323 rfl rfl rfl rfl (Nat.le_of_ble_eq_true rfl) k22 (fun r19 M20 h21 => ?_)
        have W := W r19 M20 h21
        exact zt_iret dX9_fates_77 rfl W
      by_cases e2 : x3 = 2
      · have W := W.2.2.1 e2
        refine zr_tin (tgt := 78) dX9_fates_22 c12 (by omega) (by omega) (by rw [e2]; rfl) (by decide) ?_
        refine zr_aload_n 0 dX9_fates_78 rfl ?_
        refine zr_aload_n 0 dX9_fates_79 rfl ?_
        refine zr_getr (b := 131) dX9_fates_80 fX9_82 rfl rfl rfl (by decide) ?_
        refine zr_aload_n 0 dX9_fates_83 rfl ?_
        refine zr_getr (b := 127) dX9_fates_84 fX9_78 rfl rfl rfl (by decide) ?_
        obtain ⟨q23, k27, W⟩ := W
        refine zt_callVi (As := [zA g 131, zA g 127]) (rest := []) dX9_fates_87 kX9_fates_327 rfl rfl rfl rfl (Nat.le_of_ble_eq_true rfl) k27 (fun r24 M25 h26 => ?_)
        have W := W r24 M25 h26
        exact zt_iret dX9_fates_90 rfl W
      by_cases e3 : x3 = 3
      · have W := W.2.2.2.1 e3
        refine zr_tin (tgt := 91) dX9_fates_22 c12 (by omega) (by omega) (by rw [e3]; rfl) (by decide) ?_
        refine zr_aload_n 0 dX9_fates_91 rfl ?_
        refine zr_aload_n 0 dX9_fates_92 rfl ?_
        refine zr_getr (b := 127) dX9_fates_93 fX9_78 rfl rfl rfl (by decide) ?_
        refine zr_aload_n 0 dX9_fates_96 rfl ?_
        refine zr_getr (b := 131) dX9_fates_97 fX9_82 rfl rfl rfl (by decide) ?_
        obtain ⟨q28, k32, W⟩ := W
        refine zt_callVi (As := [zA g 127, zA g 131]) (rest := []) dX9_fates_100 kX9_fates_327 rfl rfl rfl rfl (Nat.le_of_ble_eq_true rfl) k32 (fun r29 M30 h31 => ?_)
        have W := W r29 M30 h31
        exact zt_iret dX9_fates_103 rfl W
      have W := W.2.2.2.2 (by omega)
      refine zr_tout (tgt := 104) dX9_fates_22 c12 (by omega) (by decide) ?_
      refine zr_iconst dX9_fates_104 ?_
      exact zt_iret dX9_fates_105 rfl W
    · have W := W.2 h
      refine zr_iconst dX9_fates_13 ?_
      exact zt_iret dX9_fates_14 rfl W
theorem dX9_joinBoth_0 : decode cX9_joinBoth 0 = .ok (.aload_n 0, 1) := by decide +kernel
theorem dX9_joinBoth_1 : decode cX9_joinBoth 1 = .ok (.getfield 78, 3) := by decide +kernel
theorem dX9_joinBoth_4 : decode cX9_joinBoth 4 = .ok (.aload_n 0, 1) := by decide +kernel
theorem dX9_joinBoth_5 : decode cX9_joinBoth 5 = .ok (.getfield 39, 3) := by decide +kernel
theorem dX9_joinBoth_8 : decode cX9_joinBoth 8 = .ok (.getfield 152, 3) := by decide +kernel
theorem dX9_joinBoth_11 : decode cX9_joinBoth 11 = .ok (.iload_n 2, 1) := by decide +kernel
theorem dX9_joinBoth_12 : decode cX9_joinBoth 12 = .ok (.invokevirtual 274, 3) := by decide +kernel
theorem dX9_joinBoth_15 : decode cX9_joinBoth 15 = .ok (.aload_n 0, 1) := by decide +kernel
theorem dX9_joinBoth_16 : decode cX9_joinBoth 16 = .ok (.getfield 82, 3) := by decide +kernel
theorem dX9_joinBoth_19 : decode cX9_joinBoth 19 = .ok (.aload_n 0, 1) := by decide +kernel
theorem dX9_joinBoth_20 : decode cX9_joinBoth 20 = .ok (.getfield 85, 3) := by decide +kernel
theorem dX9_joinBoth_23 : decode cX9_joinBoth 23 = .ok (.iload_n 1, 1) := by decide +kernel
theorem dX9_joinBoth_24 : decode cX9_joinBoth 24 = .ok (.aaload, 1) := by decide +kernel
theorem dX9_joinBoth_25 : decode cX9_joinBoth 25 = .ok (.getfield 152, 3) := by decide +kernel
theorem dX9_joinBoth_28 : decode cX9_joinBoth 28 = .ok (.iload_n 2, 1) := by decide +kernel
theorem dX9_joinBoth_29 : decode cX9_joinBoth 29 = .ok (.invokevirtual 274, 3) := by decide +kernel
theorem dX9_joinBoth_32 : decode cX9_joinBoth 32 = .ok (.return_, 1) := by decide +kernel
set_option maxRecDepth 100000 in
theorem SX9_joinBoth_0 {g : zG} {o : Bool} {M : zM} {q : zM → Prop} {x1 x2 : Int} (W : ∃ q1 : zM → Prop, zKv g (z1 o) mX3_joinLevel [zA g 127, zA g 25, zI x2] M q1 ∧ ∀ M3 : zM, q1 M3 → (0 ≤ x1 ∧ x1 < 3) ∧ ∃ b6 : Nat, (M3 135 x1 = (b6 : Int)) ∧ zSd b6 ∧ ∃ q8 : zM → Prop, zKv g (z1 o) mX3_joinLevel [zA g 131, zA g (b6 + 1), zI x2] M3 q8 ∧ ∀ M10 : zM, q8 M10 → q M10) : zT g (z1 o) mX9_joinBoth (zQv (z1 o) q) 0 [(0, zA g 1), (1, zI x1), (2, zI x2)] [] M := by
  refine zr_aload_n 0 dX9_joinBoth_0 rfl ?_
  refine zr_getr (b := 127) dX9_joinBoth_1 fX9_78 rfl rfl rfl (by decide) ?_
  refine zr_aload_n 0 dX9_joinBoth_4 rfl ?_
  refine zr_getr (b := 24) dX9_joinBoth_5 fX9_39 rfl rfl rfl (by decide) ?_
  refine zr_getr (b := 25) dX9_joinBoth_8 fX9_152 rfl rfl rfl (by decide) ?_
  refine zr_iload_n 2 dX9_joinBoth_11 rfl ?_
  obtain ⟨q1, k5, W⟩ := W
  refine zt_callVv (As := [zA g 25, zI x2]) (rest := []) dX9_joinBoth_12 kX9_joinBoth_274 rfl rfl rfl rfl (Nat.le_of_ble_eq_true rfl) k5 (fun M3 h4 => ?_)
  have W := W M3 h4
  refine zr_aload_n 0 dX9_joinBoth_15 rfl ?_
  refine zr_getr (b := 131) dX9_joinBoth_16 fX9_82 rfl rfl rfl (by decide) ?_
  refine zr_aload_n 0 dX9_joinBoth_19 rfl ?_
  refine zr_getr (b := 135) dX9_joinBoth_20 fX9_85 rfl rfl rfl (by decide) ?_
  refine zr_iload_n 1 dX9_joinBoth_23 rfl ?_
  obtain ⟨c7, W⟩ := W
  obtain ⟨b6, eb6, hb6, W⟩ := W
  refine zr_aald dX9_joinBoth_24 rfl (by decide) c7 eb6 (zsd_nz hb6) ?_
  refine zr_getr (b := (b6 + 1)) dX9_joinBoth_25 fX9_152 (zsd_0 hb6) rfl (zsd_f0 hb6) (Nat.succ_ne_zero _) ?_
  refine zr_iload_n 2 dX9_joinBoth_28 rfl ?_
  obtain ⟨q8, k12, W⟩ := W
  refine zt_callVv (As := [zA g (b6 + 1), zI x2]) (rest := []) dX9_joinBoth_29 kX9_joinBoth_274 rfl rfl rfl rfl (Nat.le_of_ble_eq_true rfl) k12 (fun M10 h11 => ?_)
  have W := W M10 h11
  exact zt_ret dX9_joinBoth_32 rfl W
theorem dX9_meetingMany_0 : decode cX9_meetingMany 0 = .ok (.bipush (-2), 2) := by decide +kernel
theorem dX9_meetingMany_2 : decode cX9_meetingMany 2 = .ok (.istore_n 3, 1) := by decide +kernel
theorem dX9_meetingMany_3 : decode cX9_meetingMany 3 = .ok (.iconst 0, 1) := by decide +kernel
theorem dX9_meetingMany_4 : decode cX9_meetingMany 4 = .ok (.istore 4, 2) := by decide +kernel
theorem dX9_meetingMany_6 : decode cX9_meetingMany 6 = .ok (.aload_n 0, 1) := by decide +kernel
theorem dX9_meetingMany_7 : decode cX9_meetingMany 7 = .ok (.getfield 93, 3) := by decide +kernel
theorem dX9_meetingMany_10 : decode cX9_meetingMany 10 = .ok (.iconst (-1), 1) := by decide +kernel
theorem dX9_meetingMany_11 : decode cX9_meetingMany 11 = .ok (.invokestatic 298, 3) := by decide +kernel
theorem dX9_meetingMany_14 : decode cX9_meetingMany 14 = .ok (.iconst 0, 1) := by decide +kernel
theorem dX9_meetingMany_15 : decode cX9_meetingMany 15 = .ok (.istore 5, 2) := by decide +kernel
theorem dX9_meetingMany_17 : decode cX9_meetingMany 17 = .ok (.iload 5, 2) := by decide +kernel
theorem dX9_meetingMany_19 : decode cX9_meetingMany 19 = .ok (.aload_n 0, 1) := by decide +kernel
theorem dX9_meetingMany_20 : decode cX9_meetingMany 20 = .ok (.getfield 28, 3) := by decide +kernel
theorem dX9_meetingMany_23 : decode cX9_meetingMany 23 = .ok (.getfield 120, 3) := by decide +kernel
theorem dX9_meetingMany_26 : decode cX9_meetingMany 26 = .ok (.if_icmp .ge 99, 3) := by decide +kernel
theorem dX9_meetingMany_29 : decode cX9_meetingMany 29 = .ok (.aload_n 1, 1) := by decide +kernel
theorem dX9_meetingMany_30 : decode cX9_meetingMany 30 = .ok (.getfield 295, 3) := by decide +kernel
theorem dX9_meetingMany_33 : decode cX9_meetingMany 33 = .ok (.iload 5, 2) := by decide +kernel
theorem dX9_meetingMany_35 : decode cX9_meetingMany 35 = .ok (.iaload, 1) := by decide +kernel
theorem dX9_meetingMany_36 : decode cX9_meetingMany 36 = .ok (.istore 6, 2) := by decide +kernel
theorem dX9_meetingMany_38 : decode cX9_meetingMany 38 = .ok (.aload_n 2, 1) := by decide +kernel
theorem dX9_meetingMany_39 : decode cX9_meetingMany 39 = .ok (.getfield 295, 3) := by decide +kernel
theorem dX9_meetingMany_42 : decode cX9_meetingMany 42 = .ok (.iload 5, 2) := by decide +kernel
theorem dX9_meetingMany_44 : decode cX9_meetingMany 44 = .ok (.iaload, 1) := by decide +kernel
theorem dX9_meetingMany_45 : decode cX9_meetingMany 45 = .ok (.istore 7, 2) := by decide +kernel
theorem dX9_meetingMany_47 : decode cX9_meetingMany 47 = .ok (.iload 6, 2) := by decide +kernel
theorem dX9_meetingMany_49 : decode cX9_meetingMany 49 = .ok (.iconst (-1), 1) := by decide +kernel
theorem dX9_meetingMany_50 : decode cX9_meetingMany 50 = .ok (.if_icmp .eq 69, 3) := by decide +kernel
theorem dX9_meetingMany_53 : decode cX9_meetingMany 53 = .ok (.iload 7, 2) := by decide +kernel
theorem dX9_meetingMany_55 : decode cX9_meetingMany 55 = .ok (.iconst (-1), 1) := by decide +kernel
theorem dX9_meetingMany_56 : decode cX9_meetingMany 56 = .ok (.if_icmp .eq 63, 3) := by decide +kernel
theorem dX9_meetingMany_59 : decode cX9_meetingMany 59 = .ok (.aload_n 0, 1) := by decide +kernel
theorem dX9_meetingMany_60 : decode cX9_meetingMany 60 = .ok (.getfield 93, 3) := by decide +kernel
theorem dX9_meetingMany_63 : decode cX9_meetingMany 63 = .ok (.iload 6, 2) := by decide +kernel
theorem dX9_meetingMany_65 : decode cX9_meetingMany 65 = .ok (.iaload, 1) := by decide +kernel
theorem dX9_meetingMany_66 : decode cX9_meetingMany 66 = .ok (.iload_n 3, 1) := by decide +kernel
theorem dX9_meetingMany_67 : decode cX9_meetingMany 67 = .ok (.if_icmp .ne 6, 3) := by decide +kernel
theorem dX9_meetingMany_70 : decode cX9_meetingMany 70 = .ok (.goto 49, 3) := by decide +kernel
theorem dX9_meetingMany_73 : decode cX9_meetingMany 73 = .ok (.aload_n 0, 1) := by decide +kernel
theorem dX9_meetingMany_74 : decode cX9_meetingMany 74 = .ok (.getfield 93, 3) := by decide +kernel
theorem dX9_meetingMany_77 : decode cX9_meetingMany 77 = .ok (.iload 6, 2) := by decide +kernel
theorem dX9_meetingMany_79 : decode cX9_meetingMany 79 = .ok (.iaload, 1) := by decide +kernel
theorem dX9_meetingMany_80 : decode cX9_meetingMany 80 = .ok (.iconst (-1), 1) := by decide +kernel
theorem dX9_meetingMany_81 : decode cX9_meetingMany 81 = .ok (.if_icmp .ne 15, 3) := by decide +kernel
theorem dX9_meetingMany_84 : decode cX9_meetingMany 84 = .ok (.aload_n 0, 1) := by decide +kernel
theorem dX9_meetingMany_85 : decode cX9_meetingMany 85 = .ok (.getfield 93, 3) := by decide +kernel
theorem dX9_meetingMany_88 : decode cX9_meetingMany 88 = .ok (.iload 6, 2) := by decide +kernel
theorem dX9_meetingMany_90 : decode cX9_meetingMany 90 = .ok (.iload 7, 2) := by decide +kernel
theorem dX9_meetingMany_92 : decode cX9_meetingMany 92 = .ok (.iastore, 1) := by decide +kernel
theorem dX9_meetingMany_93 : decode cX9_meetingMany 93 = .ok (.goto 26, 3) := by decide +kernel
theorem dX9_meetingMany_96 : decode cX9_meetingMany 96 = .ok (.aload_n 0, 1) := by decide +kernel
theorem dX9_meetingMany_97 : decode cX9_meetingMany 97 = .ok (.getfield 93, 3) := by decide +kernel
theorem dX9_meetingMany_100 : decode cX9_meetingMany 100 = .ok (.iload 6, 2) := by decide +kernel
theorem dX9_meetingMany_102 : decode cX9_meetingMany 102 = .ok (.iaload, 1) := by decide +kernel
theorem dX9_meetingMany_103 : decode cX9_meetingMany 103 = .ok (.iload 7, 2) := by decide +kernel
theorem dX9_meetingMany_105 : decode cX9_meetingMany 105 = .ok (.if_icmp .eq 14, 3) := by decide +kernel
theorem dX9_meetingMany_108 : decode cX9_meetingMany 108 = .ok (.aload_n 0, 1) := by decide +kernel
theorem dX9_meetingMany_109 : decode cX9_meetingMany 109 = .ok (.getfield 93, 3) := by decide +kernel
theorem dX9_meetingMany_112 : decode cX9_meetingMany 112 = .ok (.iload 6, 2) := by decide +kernel
theorem dX9_meetingMany_114 : decode cX9_meetingMany 114 = .ok (.iload_n 3, 1) := by decide +kernel
theorem dX9_meetingMany_115 : decode cX9_meetingMany 115 = .ok (.iastore, 1) := by decide +kernel
theorem dX9_meetingMany_116 : decode cX9_meetingMany 116 = .ok (.iinc 4 1, 3) := by decide +kernel
theorem dX9_meetingMany_119 : decode cX9_meetingMany 119 = .ok (.iinc 5 1, 3) := by decide +kernel
theorem dX9_meetingMany_122 : decode cX9_meetingMany 122 = .ok (.goto (-105), 3) := by decide +kernel
theorem dX9_meetingMany_125 : decode cX9_meetingMany 125 = .ok (.iload 4, 2) := by decide +kernel
theorem dX9_meetingMany_127 : decode cX9_meetingMany 127 = .ok (.ireturn, 1) := by decide +kernel
set_option maxRecDepth 100000 in
theorem SX9_meetingMany_0 {g : zG} {o : Bool} {b1 : Nat} (hb1 : zLu b1) {b2 : Nat} (hb2 : zLu b2) {M : zM} {q : Int → zM → Prop} (W : ∃ q1 : zM → Prop, zKv g (z1 o) mJ7_fill_53178 [zA g 149, zI (-1)] M q1 ∧ ∀ M3 : zM, q1 M3 → zT g (z1 o) mX9_meetingMany (zQi (z1 o) q) 17 [(0, zA g 1), (1, zA g b1), (2, zA g b2), (3, zI (-2)), (4, zI 0), (5, zI 0)] [] M3) : zT g (z1 o) mX9_meetingMany (zQi (z1 o) q) 0 [(0, zA g 1), (1, zA g b1), (2, zA g b2)] [] M := by
  refine zr_bipush dX9_meetingMany_0 (by decide) ?_
  refine zr_istore_n (l' := [(0, zA g 1), (1, zA g b1), (2, zA g b2), (3, zI (-2))]) dX9_meetingMany_2 (by decide) [1, 2, 3, 0] rfl ?_
  refine zr_iconst dX9_meetingMany_3 ?_
  refine zr_istore (l' := [(0, zA g 1), (1, zA g b1), (2, zA g b2), (3, zI (-2)), (4, zI 0)]) dX9_meetingMany_4 (by decide) [1, 2, 3, 4, 0] rfl ?_
  refine zr_aload_n 0 dX9_meetingMany_6 rfl ?_
  refine zr_getr (b := 149) dX9_meetingMany_7 fX9_93 rfl rfl rfl (by decide) ?_
  refine zr_iconst dX9_meetingMany_10 ?_
  obtain ⟨q1, k5, W⟩ := W
  refine zt_callSv (As := [zA g 149, zI (-1)]) (rest := []) dX9_meetingMany_11 kX9_meetingMany_298 rfl rfl (Nat.le_of_ble_eq_true rfl) k5 (fun M3 h4 => ?_)
  have W := W M3 h4
  refine zr_iconst dX9_meetingMany_14 ?_
  refine zr_istore (l' := [(0, zA g 1), (1, zA g b1), (2, zA g b2), (3, zI (-2)), (4, zI 0), (5, zI 0)]) dX9_meetingMany_15 (by decide) [1, 2, 3, 4, 5, 0] rfl ?_
  exact W
set_option maxRecDepth 100000 in
theorem SX9_meetingMany_17 {g : zG} {o : Bool} {b1 : Nat} (hb1 : zLu b1) {b2 : Nat} (hb2 : zLu b2) {M : zM} {q : Int → zM → Prop} {x3 x4 x5 : Int} (W : (-2147483648 ≤ x5 ∧ x5 ≤ 2147483647) ∧ (-2147483648 ≤ (M 14 2) ∧ (M 14 2) ≤ 2147483647) ∧ (((M 14 2) ≤ x5) → q x4 M) ∧ ((¬ ((M 14 2) ≤ x5)) → (0 ≤ x5 ∧ x5 < 96) ∧ (-2147483648 ≤ (M (b1 + 3) x5) ∧ (M (b1 + 3) x5) ≤ 2147483647) ∧ (((M (b1 + 3) x5) = (-1)) → zT g (z1 o) mX9_meetingMany (zQi (z1 o) q) 17 [(0, zA g 1), (1, zA g b1), (2, zA g b2), (3, zI x3), (4, zI x4), (5, zI (x5 + 1))] [] M) ∧ ((¬ ((M (b1 + 3) x5) = (-1))) → (-2147483648 ≤ (M (b2 + 3) x5) ∧ (M (b2 + 3) x5) ≤ 2147483647) ∧ (((M (b2 + 3) x5) = (-1)) → zT g (z1 o) mX9_meetingMany (zQi (z1 o) q) 17 [(0, zA g 1), (1, zA g b1), (2, zA g b2), (3, zI x3), (4, zI x4), (5, zI (x5 + 1))] [] M) ∧ ((¬ ((M (b2 + 3) x5) = (-1))) → (0 ≤ (M (b1 + 3) x5) ∧ (M (b1 + 3) x5) < 96) ∧ (-2147483648 ≤ (M 149 (M (b1 + 3) x5)) ∧ (M 149 (M (b1 + 3) x5)) ≤ 2147483647) ∧ (-2147483648 ≤ x3 ∧ x3 ≤ 2147483647) ∧ (((M 149 (M (b1 + 3) x5)) ≠ x3) → (((M 149 (M (b1 + 3) x5)) ≠ (-1)) → (((M 149 (M (b1 + 3) x5)) = (M (b2 + 3) x5)) → zT g (z1 o) mX9_meetingMany (zQi (z1 o) q) 17 [(0, zA g 1), (1, zA g b1), (2, zA g b2), (3, zI x3), (4, zI x4), (5, zI (x5 + 1))] [] M) ∧ ((¬ ((M 149 (M (b1 + 3) x5)) = (M (b2 + 3) x5))) → zT g (z1 o) mX9_meetingMany (zQi (z1 o) q) 17 [(0, zA g 1), (1, zA g b1), (2, zA g b2), (3, zI x3), (4, zI (x4 + 1)), (5, zI (x5 + 1))] [] (zu M 149 (M (b1 + 3) x5) x3))) ∧ (((M 149 (M (b1 + 3) x5)) = (-1)) → zT g (z1 o) mX9_meetingMany (zQi (z1 o) q) 17 [(0, zA g 1), (1, zA g b1), (2, zA g b2), (3, zI x3), (4, zI x4), (5, zI (x5 + 1))] [] (zu M 149 (M (b1 + 3) x5) (M (b2 + 3) x5)))) ∧ (((M 149 (M (b1 + 3) x5)) = x3) → zT g (z1 o) mX9_meetingMany (zQi (z1 o) q) 17 [(0, zA g 1), (1, zA g b1), (2, zA g b2), (3, zI x3), (4, zI x4), (5, zI (x5 + 1))] [] M))))) : zT g (z1 o) mX9_meetingMany (zQi (z1 o) q) 17 [(0, zA g 1), (1, zA g b1), (2, zA g b2), (3, zI x3), (4, zI x4), (5, zI x5)] [] M := by
  refine zr_iload 5 dX9_meetingMany_17 rfl ?_
  refine zr_aload_n 0 dX9_meetingMany_19 rfl ?_
  refine zr_getr (b := 14) dX9_meetingMany_20 fX9_28 rfl rfl rfl (by decide) ?_
  refine zt_geti 2 rfl dX9_meetingMany_23 fX9_120 rfl (by decide) ?_
  obtain ⟨c1, W⟩ := W
  obtain ⟨c2, W⟩ := W
  refine zr_icmp_ge (tgt := 125) dX9_meetingMany_26 (by decide) c1 c2 (fun h => ?_) (fun h => ?_)
  · have W := W.1 h
    refine zr_iload 4 dX9_meetingMany_125 rfl ?_
    exact zt_iret dX9_meetingMany_127 rfl W
  · have W := W.2 h
    refine zr_aload_n 1 dX9_meetingMany_29 rfl ?_
    refine zr_getr (b := (b1 + 3)) dX9_meetingMany_30 fX9_295 (zlu_0 hb1) rfl (zlu_f4 hb1) (Nat.succ_ne_zero _) ?_
    refine zr_iload 5 dX9_meetingMany_33 rfl ?_
    obtain ⟨c3, W⟩ := W
    refine zr_iald dX9_meetingMany_35 (zlu_3 hb1) (by decide) c3 ?_
    refine zr_istore (l' := [(0, zA g 1), (1, zA g b1), (2, zA g b2), (3, zI x3), (4, zI x4), (5, zI x5), (6, zI (M (b1 + 3) x5))]) dX9_meetingMany_36 (by decide) [1, 2, 3, 4, 5, 6, 0] rfl ?_
    refine zr_aload_n 2 dX9_meetingMany_38 rfl ?_
    refine zr_getr (b := (b2 + 3)) dX9_meetingMany_39 fX9_295 (zlu_0 hb2) rfl (zlu_f4 hb2) (Nat.succ_ne_zero _) ?_
    refine zr_iload 5 dX9_meetingMany_42 rfl ?_
    refine zr_iald dX9_meetingMany_44 (zlu_3 hb2) (by decide) c3 ?_
    refine zr_istore (l' := [(0, zA g 1), (1, zA g b1), (2, zA g b2), (3, zI x3), (4, zI x4), (5, zI x5), (6, zI (M (b1 + 3) x5)), (7, zI (M (b2 + 3) x5))]) dX9_meetingMany_45 (by decide) [1, 2, 3, 4, 5, 6, 7, 0] rfl ?_
    refine zr_iload 6 dX9_meetingMany_47 rfl ?_
    refine zr_iconst dX9_meetingMany_49 ?_
    obtain ⟨c4, W⟩ := W
    refine zr_icmp_eq (tgt := 119) dX9_meetingMany_50 (by decide) c4 ⟨by decide, by decide⟩ (fun h => ?_) (fun h => ?_)
    · have W := W.1 h
      refine zr_iinc (q := 5) (l' := [(0, zA g 1), (1, zA g b1), (2, zA g b2), (3, zI x3), (4, zI x4), (5, zI (x5 + 1))]) dX9_meetingMany_119 rfl (by decide) [1, 2, 3, 4, 5, 0] rfl ?_
      refine zr_goto (tgt := 17) dX9_meetingMany_122 (by decide) ?_
      exact W
    · have W := W.2 h
      refine zr_iload 7 dX9_meetingMany_53 rfl ?_
      refine zr_iconst dX9_meetingMany_55 ?_
      obtain ⟨c5, W⟩ := W
      refine zr_icmp_eq (tgt := 119) dX9_meetingMany_56 (by decide) c5 ⟨by decide, by decide⟩ (fun h => ?_) (fun h => ?_)
      · have W := W.1 h
        refine zr_iinc (q := 5) (l' := [(0, zA g 1), (1, zA g b1), (2, zA g b2), (3, zI x3), (4, zI x4), (5, zI (x5 + 1))]) dX9_meetingMany_119 rfl (by decide) [1, 2, 3, 4, 5, 0] rfl ?_
        refine zr_goto (tgt := 17) dX9_meetingMany_122 (by decide) ?_
        exact W
      · have W := W.2 h
        refine zr_aload_n 0 dX9_meetingMany_59 rfl ?_
        refine zr_getr (b := 149) dX9_meetingMany_60 fX9_93 rfl rfl rfl (by decide) ?_
        refine zr_iload 6 dX9_meetingMany_63 rfl ?_
        obtain ⟨c6, W⟩ := W
        refine zr_iald dX9_meetingMany_65 rfl (by decide) c6 ?_
        refine zr_iload_n 3 dX9_meetingMany_66 rfl ?_
        obtain ⟨c7, W⟩ := W
        obtain ⟨c8, W⟩ := W
        refine zr_icmp_ne (tgt := 73) dX9_meetingMany_67 (by decide) c7 c8 (fun h => ?_) (fun h => ?_)
        · have W := W.1 h
          refine zr_aload_n 0 dX9_meetingMany_73 rfl ?_
          refine zr_getr (b := 149) dX9_meetingMany_74 fX9_93 rfl rfl rfl (by decide) ?_
          refine zr_iload 6 dX9_meetingMany_77 rfl ?_
          refine zr_iald dX9_meetingMany_79 rfl (by decide) c6 ?_
          refine zr_iconst dX9_meetingMany_80 ?_
          refine zr_icmp_ne (tgt := 96) dX9_meetingMany_81 (by decide) c7 ⟨by decide, by decide⟩ (fun h => ?_) (fun h => ?_)
          · have W := W.1 h
            refine zr_aload_n 0 dX9_meetingMany_96 rfl ?_
            refine zr_getr (b := 149) dX9_meetingMany_97 fX9_93 rfl rfl rfl (by decide) ?_
            refine zr_iload 6 dX9_meetingMany_100 rfl ?_
            refine zr_iald dX9_meetingMany_102 rfl (by decide) c6 ?_
            refine zr_iload 7 dX9_meetingMany_103 rfl ?_
            refine zr_icmp_eq (tgt := 119) dX9_meetingMany_105 (by decide) c7 c5 (fun h => ?_) (fun h => ?_)
            · have W := W.1 h
              refine zr_iinc (q := 5) (l' := [(0, zA g 1), (1, zA g b1), (2, zA g b2), (3, zI x3), (4, zI x4), (5, zI (x5 + 1))]) dX9_meetingMany_119 rfl (by decide) [1, 2, 3, 4, 5, 0] rfl ?_
              refine zr_goto (tgt := 17) dX9_meetingMany_122 (by decide) ?_
              exact W
            · have W := W.2 h
              refine zr_aload_n 0 dX9_meetingMany_108 rfl ?_
              refine zr_getr (b := 149) dX9_meetingMany_109 fX9_93 rfl rfl rfl (by decide) ?_
              refine zr_iload 6 dX9_meetingMany_112 rfl ?_
              refine zr_iload_n 3 dX9_meetingMany_114 rfl ?_
              refine zr_iast dX9_meetingMany_115 rfl (by decide) c6 ?_
              refine zr_iinc (q := 4) (l' := [(0, zA g 1), (1, zA g b1), (2, zA g b2), (3, zI x3), (4, zI (x4 + 1)), (5, zI x5)]) dX9_meetingMany_116 rfl (by decide) [1, 2, 3, 4, 0, 5] rfl ?_
              refine zr_iinc (q := 5) (l' := [(0, zA g 1), (1, zA g b1), (2, zA g b2), (3, zI x3), (4, zI (x4 + 1)), (5, zI (x5 + 1))]) dX9_meetingMany_119 rfl (by decide) [1, 2, 3, 4, 5, 0] rfl ?_
              refine zr_goto (tgt := 17) dX9_meetingMany_122 (by decide) ?_
              exact W
          · have W := W.2 h
            refine zr_aload_n 0 dX9_meetingMany_84 rfl ?_
            refine zr_getr (b := 149) dX9_meetingMany_85 fX9_93 rfl rfl rfl (by decide) ?_
            refine zr_iload 6 dX9_meetingMany_88 rfl ?_
            refine zr_iload 7 dX9_meetingMany_90 rfl ?_
            refine zr_iast dX9_meetingMany_92 rfl (by decide) c6 ?_
            refine zr_goto (tgt := 119) dX9_meetingMany_93 (by decide) ?_
            refine zr_iinc (q := 5) (l' := [(0, zA g 1), (1, zA g b1), (2, zA g b2), (3, zI x3), (4, zI x4), (5, zI (x5 + 1))]) dX9_meetingMany_119 rfl (by decide) [1, 2, 3, 4, 5, 0] rfl ?_
            refine zr_goto (tgt := 17) dX9_meetingMany_122 (by decide) ?_
            exact W
        · have W := W.2 h
          refine zr_goto (tgt := 119) dX9_meetingMany_70 (by decide) ?_
          refine zr_iinc (q := 5) (l' := [(0, zA g 1), (1, zA g b1), (2, zA g b2), (3, zI x3), (4, zI x4), (5, zI (x5 + 1))]) dX9_meetingMany_119 rfl (by decide) [1, 2, 3, 4, 5, 0] rfl ?_
          refine zr_goto (tgt := 17) dX9_meetingMany_122 (by decide) ?_
          exact W
theorem dX9_meetingNone_0 : decode cX9_meetingNone 0 = .ok (.iconst 0, 1) := by decide +kernel
theorem dX9_meetingNone_1 : decode cX9_meetingNone 1 = .ok (.istore_n 3, 1) := by decide +kernel
theorem dX9_meetingNone_2 : decode cX9_meetingNone 2 = .ok (.aload_n 0, 1) := by decide +kernel
theorem dX9_meetingNone_3 : decode cX9_meetingNone 3 = .ok (.getfield 93, 3) := by decide +kernel
theorem dX9_meetingNone_6 : decode cX9_meetingNone 6 = .ok (.iconst 0, 1) := by decide +kernel
theorem dX9_meetingNone_7 : decode cX9_meetingNone 7 = .ok (.invokestatic 298, 3) := by decide +kernel
theorem dX9_meetingNone_10 : decode cX9_meetingNone 10 = .ok (.iconst 0, 1) := by decide +kernel
theorem dX9_meetingNone_11 : decode cX9_meetingNone 11 = .ok (.istore 4, 2) := by decide +kernel
theorem dX9_meetingNone_13 : decode cX9_meetingNone 13 = .ok (.iload 4, 2) := by decide +kernel
theorem dX9_meetingNone_15 : decode cX9_meetingNone 15 = .ok (.aload_n 0, 1) := by decide +kernel
theorem dX9_meetingNone_16 : decode cX9_meetingNone 16 = .ok (.getfield 28, 3) := by decide +kernel
theorem dX9_meetingNone_19 : decode cX9_meetingNone 19 = .ok (.getfield 120, 3) := by decide +kernel
theorem dX9_meetingNone_22 : decode cX9_meetingNone 22 = .ok (.if_icmp .ge 56, 3) := by decide +kernel
theorem dX9_meetingNone_25 : decode cX9_meetingNone 25 = .ok (.aload_n 1, 1) := by decide +kernel
theorem dX9_meetingNone_26 : decode cX9_meetingNone 26 = .ok (.getfield 295, 3) := by decide +kernel
theorem dX9_meetingNone_29 : decode cX9_meetingNone 29 = .ok (.iload 4, 2) := by decide +kernel
theorem dX9_meetingNone_31 : decode cX9_meetingNone 31 = .ok (.iaload, 1) := by decide +kernel
theorem dX9_meetingNone_32 : decode cX9_meetingNone 32 = .ok (.istore 5, 2) := by decide +kernel
theorem dX9_meetingNone_34 : decode cX9_meetingNone 34 = .ok (.iload 5, 2) := by decide +kernel
theorem dX9_meetingNone_36 : decode cX9_meetingNone 36 = .ok (.iconst (-1), 1) := by decide +kernel
theorem dX9_meetingNone_37 : decode cX9_meetingNone 37 = .ok (.if_icmp .eq 35, 3) := by decide +kernel
theorem dX9_meetingNone_40 : decode cX9_meetingNone 40 = .ok (.aload_n 2, 1) := by decide +kernel
theorem dX9_meetingNone_41 : decode cX9_meetingNone 41 = .ok (.getfield 295, 3) := by decide +kernel
theorem dX9_meetingNone_44 : decode cX9_meetingNone 44 = .ok (.iload 4, 2) := by decide +kernel
theorem dX9_meetingNone_46 : decode cX9_meetingNone 46 = .ok (.iaload, 1) := by decide +kernel
theorem dX9_meetingNone_47 : decode cX9_meetingNone 47 = .ok (.iconst (-1), 1) := by decide +kernel
theorem dX9_meetingNone_48 : decode cX9_meetingNone 48 = .ok (.if_icmp .eq 24, 3) := by decide +kernel
theorem dX9_meetingNone_51 : decode cX9_meetingNone 51 = .ok (.aload_n 0, 1) := by decide +kernel
theorem dX9_meetingNone_52 : decode cX9_meetingNone 52 = .ok (.getfield 93, 3) := by decide +kernel
theorem dX9_meetingNone_55 : decode cX9_meetingNone 55 = .ok (.iload 5, 2) := by decide +kernel
theorem dX9_meetingNone_57 : decode cX9_meetingNone 57 = .ok (.iaload, 1) := by decide +kernel
theorem dX9_meetingNone_58 : decode cX9_meetingNone 58 = .ok (.ifCond .ne 14, 3) := by decide +kernel
theorem dX9_meetingNone_61 : decode cX9_meetingNone 61 = .ok (.aload_n 0, 1) := by decide +kernel
theorem dX9_meetingNone_62 : decode cX9_meetingNone 62 = .ok (.getfield 93, 3) := by decide +kernel
theorem dX9_meetingNone_65 : decode cX9_meetingNone 65 = .ok (.iload 5, 2) := by decide +kernel
theorem dX9_meetingNone_67 : decode cX9_meetingNone 67 = .ok (.iconst 1, 1) := by decide +kernel
theorem dX9_meetingNone_68 : decode cX9_meetingNone 68 = .ok (.iastore, 1) := by decide +kernel
theorem dX9_meetingNone_69 : decode cX9_meetingNone 69 = .ok (.iinc 3 1, 3) := by decide +kernel
theorem dX9_meetingNone_72 : decode cX9_meetingNone 72 = .ok (.iinc 4 1, 3) := by decide +kernel
theorem dX9_meetingNone_75 : decode cX9_meetingNone 75 = .ok (.goto (-62), 3) := by decide +kernel
theorem dX9_meetingNone_78 : decode cX9_meetingNone 78 = .ok (.aload_n 1, 1) := by decide +kernel
theorem dX9_meetingNone_79 : decode cX9_meetingNone 79 = .ok (.getfield 278, 3) := by decide +kernel
theorem dX9_meetingNone_82 : decode cX9_meetingNone 82 = .ok (.iload_n 3, 1) := by decide +kernel
theorem dX9_meetingNone_83 : decode cX9_meetingNone 83 = .ok (.isub, 1) := by decide +kernel
theorem dX9_meetingNone_84 : decode cX9_meetingNone 84 = .ok (.ireturn, 1) := by decide +kernel
set_option maxRecDepth 100000 in
theorem SX9_meetingNone_0 {g : zG} {o : Bool} {b1 : Nat} (hb1 : zLu b1) {b2 : Nat} (hb2 : zLu b2) {M : zM} {q : Int → zM → Prop} (W : ∃ q1 : zM → Prop, zKv g (z1 o) mJ7_fill_53178 [zA g 149, zI 0] M q1 ∧ ∀ M3 : zM, q1 M3 → zT g (z1 o) mX9_meetingNone (zQi (z1 o) q) 13 [(0, zA g 1), (1, zA g b1), (2, zA g b2), (3, zI 0), (4, zI 0)] [] M3) : zT g (z1 o) mX9_meetingNone (zQi (z1 o) q) 0 [(0, zA g 1), (1, zA g b1), (2, zA g b2)] [] M := by
  refine zr_iconst dX9_meetingNone_0 ?_
  refine zr_istore_n (l' := [(0, zA g 1), (1, zA g b1), (2, zA g b2), (3, zI 0)]) dX9_meetingNone_1 (by decide) [1, 2, 3, 0] rfl ?_
  refine zr_aload_n 0 dX9_meetingNone_2 rfl ?_
  refine zr_getr (b := 149) dX9_meetingNone_3 fX9_93 rfl rfl rfl (by decide) ?_
  refine zr_iconst dX9_meetingNone_6 ?_
  obtain ⟨q1, k5, W⟩ := W
  refine zt_callSv (As := [zA g 149, zI 0]) (rest := []) dX9_meetingNone_7 kX9_meetingNone_298 rfl rfl (Nat.le_of_ble_eq_true rfl) k5 (fun M3 h4 => ?_)
  have W := W M3 h4
  refine zr_iconst dX9_meetingNone_10 ?_
  refine zr_istore (l' := [(0, zA g 1), (1, zA g b1), (2, zA g b2), (3, zI 0), (4, zI 0)]) dX9_meetingNone_11 (by decide) [1, 2, 3, 4, 0] rfl ?_
  exact W
set_option maxRecDepth 100000 in
theorem SX9_meetingNone_13 {g : zG} {o : Bool} {b1 : Nat} (hb1 : zLu b1) {b2 : Nat} (hb2 : zLu b2) {M : zM} {q : Int → zM → Prop} {x3 x4 : Int} (W : (-2147483648 ≤ x4 ∧ x4 ≤ 2147483647) ∧ (-2147483648 ≤ (M 14 2) ∧ (M 14 2) ≤ 2147483647) ∧ (((M 14 2) ≤ x4) → q ((M b1 5) - x3) M) ∧ ((¬ ((M 14 2) ≤ x4)) → (0 ≤ x4 ∧ x4 < 96) ∧ (-2147483648 ≤ (M (b1 + 3) x4) ∧ (M (b1 + 3) x4) ≤ 2147483647) ∧ (((M (b1 + 3) x4) = (-1)) → zT g (z1 o) mX9_meetingNone (zQi (z1 o) q) 13 [(0, zA g 1), (1, zA g b1), (2, zA g b2), (3, zI x3), (4, zI (x4 + 1))] [] M) ∧ ((¬ ((M (b1 + 3) x4) = (-1))) → (-2147483648 ≤ (M (b2 + 3) x4) ∧ (M (b2 + 3) x4) ≤ 2147483647) ∧ (((M (b2 + 3) x4) = (-1)) → zT g (z1 o) mX9_meetingNone (zQi (z1 o) q) 13 [(0, zA g 1), (1, zA g b1), (2, zA g b2), (3, zI x3), (4, zI (x4 + 1))] [] M) ∧ ((¬ ((M (b2 + 3) x4) = (-1))) → (0 ≤ (M (b1 + 3) x4) ∧ (M (b1 + 3) x4) < 96) ∧ (-2147483648 ≤ (M 149 (M (b1 + 3) x4)) ∧ (M 149 (M (b1 + 3) x4)) ≤ 2147483647) ∧ (((M 149 (M (b1 + 3) x4)) ≠ 0) → zT g (z1 o) mX9_meetingNone (zQi (z1 o) q) 13 [(0, zA g 1), (1, zA g b1), (2, zA g b2), (3, zI x3), (4, zI (x4 + 1))] [] M) ∧ (((M 149 (M (b1 + 3) x4)) = 0) → zT g (z1 o) mX9_meetingNone (zQi (z1 o) q) 13 [(0, zA g 1), (1, zA g b1), (2, zA g b2), (3, zI (x3 + 1)), (4, zI (x4 + 1))] [] (zu M 149 (M (b1 + 3) x4) 1)))))) : zT g (z1 o) mX9_meetingNone (zQi (z1 o) q) 13 [(0, zA g 1), (1, zA g b1), (2, zA g b2), (3, zI x3), (4, zI x4)] [] M := by
  refine zr_iload 4 dX9_meetingNone_13 rfl ?_
  refine zr_aload_n 0 dX9_meetingNone_15 rfl ?_
  refine zr_getr (b := 14) dX9_meetingNone_16 fX9_28 rfl rfl rfl (by decide) ?_
  refine zt_geti 2 rfl dX9_meetingNone_19 fX9_120 rfl (by decide) ?_
  obtain ⟨c1, W⟩ := W
  obtain ⟨c2, W⟩ := W
  refine zr_icmp_ge (tgt := 78) dX9_meetingNone_22 (by decide) c1 c2 (fun h => ?_) (fun h => ?_)
  · have W := W.1 h
    refine zr_aload_n 1 dX9_meetingNone_78 rfl ?_
    refine zt_geti 5 rfl dX9_meetingNone_79 fX9_278 (zlu_0 hb1) (by decide) ?_
    refine zr_iload_n 3 dX9_meetingNone_82 rfl ?_
    refine zr_isub dX9_meetingNone_83 ?_
    exact zt_iret dX9_meetingNone_84 rfl W
  · have W := W.2 h
    refine zr_aload_n 1 dX9_meetingNone_25 rfl ?_
    refine zr_getr (b := (b1 + 3)) dX9_meetingNone_26 fX9_295 (zlu_0 hb1) rfl (zlu_f4 hb1) (Nat.succ_ne_zero _) ?_
    refine zr_iload 4 dX9_meetingNone_29 rfl ?_
    obtain ⟨c3, W⟩ := W
    refine zr_iald dX9_meetingNone_31 (zlu_3 hb1) (by decide) c3 ?_
    refine zr_istore (l' := [(0, zA g 1), (1, zA g b1), (2, zA g b2), (3, zI x3), (4, zI x4), (5, zI (M (b1 + 3) x4))]) dX9_meetingNone_32 (by decide) [1, 2, 3, 4, 5, 0] rfl ?_
    refine zr_iload 5 dX9_meetingNone_34 rfl ?_
    refine zr_iconst dX9_meetingNone_36 ?_
    obtain ⟨c4, W⟩ := W
    refine zr_icmp_eq (tgt := 72) dX9_meetingNone_37 (by decide) c4 ⟨by decide, by decide⟩ (fun h => ?_) (fun h => ?_)
    · have W := W.1 h
      refine zr_iinc (q := 4) (l' := [(0, zA g 1), (1, zA g b1), (2, zA g b2), (3, zI x3), (4, zI (x4 + 1))]) dX9_meetingNone_72 rfl (by decide) [1, 2, 3, 4, 0] rfl ?_
      refine zr_goto (tgt := 13) dX9_meetingNone_75 (by decide) ?_
      exact W
    · have W := W.2 h
      refine zr_aload_n 2 dX9_meetingNone_40 rfl ?_
      refine zr_getr (b := (b2 + 3)) dX9_meetingNone_41 fX9_295 (zlu_0 hb2) rfl (zlu_f4 hb2) (Nat.succ_ne_zero _) ?_
      refine zr_iload 4 dX9_meetingNone_44 rfl ?_
      refine zr_iald dX9_meetingNone_46 (zlu_3 hb2) (by decide) c3 ?_
      refine zr_iconst dX9_meetingNone_47 ?_
      obtain ⟨c5, W⟩ := W
      refine zr_icmp_eq (tgt := 72) dX9_meetingNone_48 (by decide) c5 ⟨by decide, by decide⟩ (fun h => ?_) (fun h => ?_)
      · have W := W.1 h
        refine zr_iinc (q := 4) (l' := [(0, zA g 1), (1, zA g b1), (2, zA g b2), (3, zI x3), (4, zI (x4 + 1))]) dX9_meetingNone_72 rfl (by decide) [1, 2, 3, 4, 0] rfl ?_
        refine zr_goto (tgt := 13) dX9_meetingNone_75 (by decide) ?_
        exact W
      · have W := W.2 h
        refine zr_aload_n 0 dX9_meetingNone_51 rfl ?_
        refine zr_getr (b := 149) dX9_meetingNone_52 fX9_93 rfl rfl rfl (by decide) ?_
        refine zr_iload 5 dX9_meetingNone_55 rfl ?_
        obtain ⟨c6, W⟩ := W
        refine zr_iald dX9_meetingNone_57 rfl (by decide) c6 ?_
        obtain ⟨c7, W⟩ := W
        refine zr_if_ne (tgt := 72) dX9_meetingNone_58 (by decide) c7 (fun h => ?_) (fun h => ?_)
        · have W := W.1 h
          refine zr_iinc (q := 4) (l' := [(0, zA g 1), (1, zA g b1), (2, zA g b2), (3, zI x3), (4, zI (x4 + 1))]) dX9_meetingNone_72 rfl (by decide) [1, 2, 3, 4, 0] rfl ?_
          refine zr_goto (tgt := 13) dX9_meetingNone_75 (by decide) ?_
          exact W
        · have W := W.2 h
          refine zr_aload_n 0 dX9_meetingNone_61 rfl ?_
          refine zr_getr (b := 149) dX9_meetingNone_62 fX9_93 rfl rfl rfl (by decide) ?_
          refine zr_iload 5 dX9_meetingNone_65 rfl ?_
          refine zr_iconst dX9_meetingNone_67 ?_
          refine zr_iast dX9_meetingNone_68 rfl (by decide) c6 ?_
          refine zr_iinc (q := 3) (l' := [(0, zA g 1), (1, zA g b1), (2, zA g b2), (3, zI (x3 + 1)), (4, zI x4)]) dX9_meetingNone_69 rfl (by decide) [1, 2, 3, 0, 4] rfl ?_
          refine zr_iinc (q := 4) (l' := [(0, zA g 1), (1, zA g b1), (2, zA g b2), (3, zI (x3 + 1)), (4, zI (x4 + 1))]) dX9_meetingNone_72 rfl (by decide) [1, 2, 3, 4, 0] rfl ?_
          refine zr_goto (tgt := 13) dX9_meetingNone_75 (by decide) ?_
          exact W
theorem dX9_shift_0 : decode cX9_shift 0 = .ok (.aload_n 0, 1) := by decide +kernel
theorem dX9_shift_1 : decode cX9_shift 1 = .ok (.iload_n 1, 1) := by decide +kernel
theorem dX9_shift_2 : decode cX9_shift 2 = .ok (.invokevirtual 316, 3) := by decide +kernel
theorem dX9_shift_5 : decode cX9_shift 5 = .ok (.ifCond .eq 12, 3) := by decide +kernel
theorem dX9_shift_8 : decode cX9_shift 8 = .ok (.iload_n 2, 1) := by decide +kernel
theorem dX9_shift_9 : decode cX9_shift 9 = .ok (.ifCond .lt 8, 3) := by decide +kernel
theorem dX9_shift_12 : decode cX9_shift 12 = .ok (.iload_n 2, 1) := by decide +kernel
theorem dX9_shift_13 : decode cX9_shift 13 = .ok (.iconst 2, 1) := by decide +kernel
theorem dX9_shift_14 : decode cX9_shift 14 = .ok (.if_icmp .le 5, 3) := by decide +kernel
theorem dX9_shift_17 : decode cX9_shift 17 = .ok (.iconst (-1), 1) := by decide +kernel
theorem dX9_shift_18 : decode cX9_shift 18 = .ok (.ireturn, 1) := by decide +kernel
theorem dX9_shift_19 : decode cX9_shift 19 = .ok (.iconst (-1), 1) := by decide +kernel
theorem dX9_shift_20 : decode cX9_shift 20 = .ok (.istore_n 3, 1) := by decide +kernel
theorem dX9_shift_21 : decode cX9_shift 21 = .ok (.iconst 0, 1) := by decide +kernel
theorem dX9_shift_22 : decode cX9_shift 22 = .ok (.istore 4, 2) := by decide +kernel
theorem dX9_shift_24 : decode cX9_shift 24 = .ok (.iconst 0, 1) := by decide +kernel
theorem dX9_shift_25 : decode cX9_shift 25 = .ok (.istore 5, 2) := by decide +kernel
theorem dX9_shift_27 : decode cX9_shift 27 = .ok (.iconst 0, 1) := by decide +kernel
theorem dX9_shift_28 : decode cX9_shift 28 = .ok (.istore 6, 2) := by decide +kernel
theorem dX9_shift_30 : decode cX9_shift 30 = .ok (.iload 6, 2) := by decide +kernel
theorem dX9_shift_32 : decode cX9_shift 32 = .ok (.aload_n 0, 1) := by decide +kernel
theorem dX9_shift_33 : decode cX9_shift 33 = .ok (.getfield 28, 3) := by decide +kernel
theorem dX9_shift_36 : decode cX9_shift 36 = .ok (.getfield 249, 3) := by decide +kernel
theorem dX9_shift_39 : decode cX9_shift 39 = .ok (.if_icmp .ge 66, 3) := by decide +kernel
theorem dX9_shift_42 : decode cX9_shift 42 = .ok (.iconst 0, 1) := by decide +kernel
theorem dX9_shift_43 : decode cX9_shift 43 = .ok (.istore 7, 2) := by decide +kernel
theorem dX9_shift_45 : decode cX9_shift 45 = .ok (.iload 7, 2) := by decide +kernel
theorem dX9_shift_47 : decode cX9_shift 47 = .ok (.aload_n 0, 1) := by decide +kernel
theorem dX9_shift_48 : decode cX9_shift 48 = .ok (.getfield 28, 3) := by decide +kernel
theorem dX9_shift_51 : decode cX9_shift 51 = .ok (.getfield 246, 3) := by decide +kernel
theorem dX9_shift_54 : decode cX9_shift 54 = .ok (.if_icmp .ge 45, 3) := by decide +kernel
theorem dX9_shift_57 : decode cX9_shift 57 = .ok (.aload_n 0, 1) := by decide +kernel
theorem dX9_shift_58 : decode cX9_shift 58 = .ok (.aload_n 0, 1) := by decide +kernel
theorem dX9_shift_59 : decode cX9_shift 59 = .ok (.getfield 85, 3) := by decide +kernel
theorem dX9_shift_62 : decode cX9_shift 62 = .ok (.iload_n 1, 1) := by decide +kernel
theorem dX9_shift_63 : decode cX9_shift 63 = .ok (.aaload, 1) := by decide +kernel
theorem dX9_shift_64 : decode cX9_shift 64 = .ok (.getfield 152, 3) := by decide +kernel
theorem dX9_shift_67 : decode cX9_shift 67 = .ok (.iload 7, 2) := by decide +kernel
theorem dX9_shift_69 : decode cX9_shift 69 = .ok (.iload 6, 2) := by decide +kernel
theorem dX9_shift_71 : decode cX9_shift 71 = .ok (.invokevirtual 330, 3) := by decide +kernel
theorem dX9_shift_74 : decode cX9_shift 74 = .ok (.istore 8, 2) := by decide +kernel
theorem dX9_shift_76 : decode cX9_shift 76 = .ok (.iload 8, 2) := by decide +kernel
theorem dX9_shift_78 : decode cX9_shift 78 = .ok (.iload_n 3, 1) := by decide +kernel
theorem dX9_shift_79 : decode cX9_shift 79 = .ok (.if_icmp .le 14, 3) := by decide +kernel
theorem dX9_shift_82 : decode cX9_shift 82 = .ok (.iload 8, 2) := by decide +kernel
theorem dX9_shift_84 : decode cX9_shift 84 = .ok (.istore_n 3, 1) := by decide +kernel
theorem dX9_shift_85 : decode cX9_shift 85 = .ok (.iload 7, 2) := by decide +kernel
theorem dX9_shift_87 : decode cX9_shift 87 = .ok (.istore 4, 2) := by decide +kernel
theorem dX9_shift_89 : decode cX9_shift 89 = .ok (.iload 6, 2) := by decide +kernel
theorem dX9_shift_91 : decode cX9_shift 91 = .ok (.istore 5, 2) := by decide +kernel
theorem dX9_shift_93 : decode cX9_shift 93 = .ok (.iinc 7 1, 3) := by decide +kernel
theorem dX9_shift_96 : decode cX9_shift 96 = .ok (.goto (-51), 3) := by decide +kernel
theorem dX9_shift_99 : decode cX9_shift 99 = .ok (.iinc 6 1, 3) := by decide +kernel
theorem dX9_shift_102 : decode cX9_shift 102 = .ok (.goto (-72), 3) := by decide +kernel
theorem dX9_shift_105 : decode cX9_shift 105 = .ok (.iload_n 2, 1) := by decide +kernel
theorem dX9_shift_106 : decode cX9_shift 106 = .ok (.lookupswitch 32 #[(0, 26), (1, 29)], 26) := by decide +kernel
theorem dX9_shift_132 : decode cX9_shift 132 = .ok (.iload 4, 2) := by decide +kernel
theorem dX9_shift_134 : decode cX9_shift 134 = .ok (.ireturn, 1) := by decide +kernel
theorem dX9_shift_135 : decode cX9_shift 135 = .ok (.iload 5, 2) := by decide +kernel
theorem dX9_shift_137 : decode cX9_shift 137 = .ok (.ireturn, 1) := by decide +kernel
theorem dX9_shift_138 : decode cX9_shift 138 = .ok (.iload_n 3, 1) := by decide +kernel
theorem dX9_shift_139 : decode cX9_shift 139 = .ok (.ireturn, 1) := by decide +kernel
set_option maxRecDepth 100000 in
theorem SX9_shift_0 {g : zG} {o : Bool} {M : zM} {q : Int → zM → Prop} {x1 x2 : Int} (W : (-2147483648 ≤ x1 ∧ x1 ≤ 2147483647) ∧ (kOk (M 148)) ∧ ((¬ ((0 ≤ x1 ∧ x1 < 3) ∧ M 148 x1 = 1)) → q (-1) M) ∧ (((0 ≤ x1 ∧ x1 < 3) ∧ M 148 x1 = 1) → (-2147483648 ≤ x2 ∧ x2 ≤ 2147483647) ∧ ((x2 < 0) → q (-1) M) ∧ ((¬ (x2 < 0)) → ((x2 ≤ 2) → zT g (z1 o) mX9_shift (zQi (z1 o) q) 30 [(0, zA g 1), (1, zI x1), (2, zI x2), (3, zI (-1)), (4, zI 0), (5, zI 0), (6, zI 0)] [] M) ∧ ((¬ (x2 ≤ 2)) → q (-1) M)))) : zT g (z1 o) mX9_shift (zQi (z1 o) q) 0 [(0, zA g 1), (1, zI x1), (2, zI x2)] [] M := by
  refine zr_aload_n 0 dX9_shift_0 rfl ?_
  refine zr_iload_n 1 dX9_shift_1 rfl ?_
  obtain ⟨c1, W⟩ := W
  obtain ⟨c2, W⟩ := W
  refine zt_callVi (As := [zI x1]) (rest := []) dX9_shift_2 kX9_shift_316 rfl rfl rfl rfl (Nat.le_of_ble_eq_true rfl) (c_isKept1 c1 c2) (fun r3 N5 h4 => ?_)
  rw [h4.1, h4.2]
  refine zt_ifeq_b (tgt := 17) dX9_shift_5 (by decide) (fun h => ?_) (fun h => ?_)
  · have W := W.1 h
    refine zr_iconst dX9_shift_17 ?_
    exact zt_iret dX9_shift_18 rfl W
  · have W := W.2 h
    refine zr_iload_n 2 dX9_shift_8 rfl ?_
    obtain ⟨c6, W⟩ := W
    refine zr_if_lt (tgt := 17) dX9_shift_9 (by decide) c6 (fun h => ?_) (fun h => ?_)
    · have W := W.1 h
      refine zr_iconst dX9_shift_17 ?_
      exact zt_iret dX9_shift_18 rfl W
    · have W := W.2 h
      refine zr_iload_n 2 dX9_shift_12 rfl ?_
      refine zr_iconst dX9_shift_13 ?_
      refine zr_icmp_le (tgt := 19) dX9_shift_14 (by decide) c6 ⟨by decide, by decide⟩ (fun h => ?_) (fun h => ?_)
      · have W := W.1 h
        refine zr_iconst dX9_shift_19 ?_
        refine zr_istore_n (l' := [(0, zA g 1), (1, zI x1), (2, zI x2), (3, zI (-1))]) dX9_shift_20 (by decide) [1, 2, 3, 0] rfl ?_
        refine zr_iconst dX9_shift_21 ?_
        refine zr_istore (l' := [(0, zA g 1), (1, zI x1), (2, zI x2), (3, zI (-1)), (4, zI 0)]) dX9_shift_22 (by decide) [1, 2, 3, 4, 0] rfl ?_
        refine zr_iconst dX9_shift_24 ?_
        refine zr_istore (l' := [(0, zA g 1), (1, zI x1), (2, zI x2), (3, zI (-1)), (4, zI 0), (5, zI 0)]) dX9_shift_25 (by decide) [1, 2, 3, 4, 5, 0] rfl ?_
        refine zr_iconst dX9_shift_27 ?_
        refine zr_istore (l' := [(0, zA g 1), (1, zI x1), (2, zI x2), (3, zI (-1)), (4, zI 0), (5, zI 0), (6, zI 0)]) dX9_shift_28 (by decide) [1, 2, 3, 4, 5, 6, 0] rfl ?_
        exact W
      · have W := W.2 h
        refine zr_iconst dX9_shift_17 ?_
        exact zt_iret dX9_shift_18 rfl W
set_option maxRecDepth 100000 in
theorem SX9_shift_30 {g : zG} {o : Bool} {M : zM} {q : Int → zM → Prop} {x1 x2 x3 x4 x5 x6 : Int} (W : (-2147483648 ≤ x6 ∧ x6 ≤ 2147483647) ∧ (-2147483648 ≤ (M 14 1) ∧ (M 14 1) ≤ 2147483647) ∧ (((M 14 1) ≤ x6) → (-2147483648 ≤ x2 ∧ x2 ≤ 2147483647) ∧ (x2 = 0 → q x4 M) ∧ (x2 = 1 → q x5 M) ∧ (x2 ≠ 0 ∧ x2 ≠ 1 → q x3 M)) ∧ ((¬ ((M 14 1) ≤ x6)) → zT g (z1 o) mX9_shift (zQi (z1 o) q) 45 [(0, zA g 1), (1, zI x1), (2, zI x2), (3, zI x3), (4, zI x4), (5, zI x5), (6, zI x6), (7, zI 0)] [] M)) : zT g (z1 o) mX9_shift (zQi (z1 o) q) 30 [(0, zA g 1), (1, zI x1), (2, zI x2), (3, zI x3), (4, zI x4), (5, zI x5), (6, zI x6)] [] M := by
  refine zr_iload 6 dX9_shift_30 rfl ?_
  refine zr_aload_n 0 dX9_shift_32 rfl ?_
  refine zr_getr (b := 14) dX9_shift_33 fX9_28 rfl rfl rfl (by decide) ?_
  refine zt_geti 1 rfl dX9_shift_36 fX9_249 rfl (by decide) ?_
  obtain ⟨c1, W⟩ := W
  obtain ⟨c2, W⟩ := W
  refine zr_icmp_ge (tgt := 105) dX9_shift_39 (by decide) c1 c2 (fun h => ?_) (fun h => ?_)
  · have W := W.1 h
    refine zr_iload_n 2 dX9_shift_105 rfl ?_
    obtain ⟨c3, W⟩ := W
    by_cases e0 : x2 = 0
    · have W := W.1 e0
      refine zr_look (tgt := 132) dX9_shift_106 (by decide) c3 (by rw [e0] <;> rfl) (by decide) ?_
      refine zr_iload 4 dX9_shift_132 rfl ?_
      exact zt_iret dX9_shift_134 rfl W
    by_cases e1 : x2 = 1
    · have W := W.2.1 e1
      refine zr_look (tgt := 135) dX9_shift_106 (by decide) c3 (by rw [e1] <;> rfl) (by decide) ?_
      refine zr_iload 5 dX9_shift_135 rfl ?_
      exact zt_iret dX9_shift_137 rfl W
    have W := W.2.2 ⟨e0, e1⟩
    refine zr_look (tgt := 138) (off := 32) dX9_shift_106 (by decide) c3 (by simp [Op.lookupswitch.offset_cons, Op.lookupswitch.offset, e0, Ne.symm e0, e1, Ne.symm e1]) (by decide) ?_
    refine zr_iload_n 3 dX9_shift_138 rfl ?_
    exact zt_iret dX9_shift_139 rfl W
  · have W := W.2 h
    refine zr_iconst dX9_shift_42 ?_
    refine zr_istore (l' := [(0, zA g 1), (1, zI x1), (2, zI x2), (3, zI x3), (4, zI x4), (5, zI x5), (6, zI x6), (7, zI 0)]) dX9_shift_43 (by decide) [1, 2, 3, 4, 5, 6, 7, 0] rfl ?_
    exact W
set_option maxRecDepth 100000 in
theorem SX9_shift_45 {g : zG} {o : Bool} {M : zM} {q : Int → zM → Prop} {x1 x2 x3 x4 x5 x6 x7 : Int} (W : (-2147483648 ≤ x7 ∧ x7 ≤ 2147483647) ∧ (-2147483648 ≤ (M 14 0) ∧ (M 14 0) ≤ 2147483647) ∧ (((M 14 0) ≤ x7) → zT g (z1 o) mX9_shift (zQi (z1 o) q) 30 [(0, zA g 1), (1, zI x1), (2, zI x2), (3, zI x3), (4, zI x4), (5, zI x5), (6, zI (x6 + 1))] [] M) ∧ ((¬ ((M 14 0) ≤ x7)) → (0 ≤ x1 ∧ x1 < 3) ∧ ∃ b3 : Nat, (M 135 x1 = (b3 : Int)) ∧ zSd b3 ∧ ∃ q5 : Int → zM → Prop, zKi g (z1 o) mX9_overlap [zA g 1, zA g (b3 + 1), zI x7, zI x6] M q5 ∧ ∀ (r6 : Int) (M7 : zM), q5 r6 M7 → (-2147483648 ≤ r6 ∧ r6 ≤ 2147483647) ∧ (-2147483648 ≤ x3 ∧ x3 ≤ 2147483647) ∧ ((r6 ≤ x3) → zT g (z1 o) mX9_shift (zQi (z1 o) q) 45 [(0, zA g 1), (1, zI x1), (2, zI x2), (3, zI x3), (4, zI x4), (5, zI x5), (6, zI x6), (7, zI (x7 + 1))] [] M7) ∧ ((¬ (r6 ≤ x3)) → zT g (z1 o) mX9_shift (zQi (z1 o) q) 45 [(0, zA g 1), (1, zI x1), (2, zI x2), (3, zI r6), (4, zI x7), (5, zI x6), (6, zI x6), (7, zI (x7 + 1))] [] M7))) : zT g (z1 o) mX9_shift (zQi (z1 o) q) 45 [(0, zA g 1), (1, zI x1), (2, zI x2), (3, zI x3), (4, zI x4), (5, zI x5), (6, zI x6), (7, zI x7)] [] M := by
  refine zr_iload 7 dX9_shift_45 rfl ?_
  refine zr_aload_n 0 dX9_shift_47 rfl ?_
  refine zr_getr (b := 14) dX9_shift_48 fX9_28 rfl rfl rfl (by decide) ?_
  refine zt_geti 0 rfl dX9_shift_51 fX9_246 rfl (by decide) ?_
  obtain ⟨c1, W⟩ := W
  obtain ⟨c2, W⟩ := W
  refine zr_icmp_ge (tgt := 99) dX9_shift_54 (by decide) c1 c2 (fun h => ?_) (fun h => ?_)
  · have W := W.1 h
    refine zr_iinc (q := 6) (l' := [(0, zA g 1), (1, zI x1), (2, zI x2), (3, zI x3), (4, zI x4), (5, zI x5), (6, zI (x6 + 1))]) dX9_shift_99 rfl (by decide) [1, 2, 3, 4, 5, 6, 0] rfl ?_
    refine zr_goto (tgt := 30) dX9_shift_102 (by decide) ?_
    exact W
  · have W := W.2 h
    refine zr_aload_n 0 dX9_shift_57 rfl ?_
    refine zr_aload_n 0 dX9_shift_58 rfl ?_
    refine zr_getr (b := 135) dX9_shift_59 fX9_85 rfl rfl rfl (by decide) ?_
    refine zr_iload_n 1 dX9_shift_62 rfl ?_
    obtain ⟨c4, W⟩ := W
    obtain ⟨b3, eb3, hb3, W⟩ := W
    refine zr_aald dX9_shift_63 rfl (by decide) c4 eb3 (zsd_nz hb3) ?_
    refine zr_getr (b := (b3 + 1)) dX9_shift_64 fX9_152 (zsd_0 hb3) rfl (zsd_f0 hb3) (Nat.succ_ne_zero _) ?_
    refine zr_iload 7 dX9_shift_67 rfl ?_
    refine zr_iload 6 dX9_shift_69 rfl ?_
    obtain ⟨q5, k9, W⟩ := W
    refine zt_callVi (As := [zA g (b3 + 1), zI x7, zI x6]) (rest := []) dX9_shift_71 kX9_shift_330 rfl rfl rfl rfl (Nat.le_of_ble_eq_true rfl) k9 (fun r6 M7 h8 => ?_)
    have W := W r6 M7 h8
    refine zr_istore (l' := [(0, zA g 1), (1, zI x1), (2, zI x2), (3, zI x3), (4, zI x4), (5, zI x5), (6, zI x6), (7, zI x7), (8, zI r6)]) dX9_shift_74 (by decide) [1, 2, 3, 4, 5, 6, 7, 8, 0] rfl ?_
    refine zr_iload 8 dX9_shift_76 rfl ?_
    refine zr_iload_n 3 dX9_shift_78 rfl ?_
    obtain ⟨c10, W⟩ := W
    obtain ⟨c11, W⟩ := W
    refine zr_icmp_le (tgt := 93) dX9_shift_79 (by decide) c10 c11 (fun h => ?_) (fun h => ?_)
    · have W := W.1 h
      refine zr_iinc (q := 7) (l' := [(0, zA g 1), (1, zI x1), (2, zI x2), (3, zI x3), (4, zI x4), (5, zI x5), (6, zI x6), (7, zI (x7 + 1))]) dX9_shift_93 rfl (by decide) [1, 2, 3, 4, 5, 6, 7, 0] rfl ?_
      refine zr_goto (tgt := 45) dX9_shift_96 (by decide) ?_
      exact W
    · have W := W.2 h
      refine zr_iload 8 dX9_shift_82 rfl ?_
      refine zr_istore_n (l' := [(0, zA g 1), (1, zI x1), (2, zI x2), (3, zI r6), (6, zI x6), (7, zI x7)]) dX9_shift_84 (by decide) [1, 2, 3, 0, 6, 7] rfl ?_
      refine zr_iload 5 dX9_shift_85 rfl ?_
      refine zr_istore (l' := [(0, zA g 1), (1, zI x1), (2, zI x2), (3, zI r6), (4, zI x7), (6, zI x6), (7, zI x7)]) dX9_shift_87 (by decide) [1, 2, 3, 4, 0, 5, 6] rfl ?_
      refine zr_iload 5 dX9_shift_89 rfl ?_
      refine zr_istore (l' := [(0, zA g 1), (1, zI x1), (2, zI x2), (3, zI r6), (4, zI x7), (5, zI x6), (6, zI x6), (7, zI x7)]) dX9_shift_91 (by decide) [1, 2, 3, 4, 5, 0, 6, 7] rfl ?_
      refine zr_iinc (q := 7) (l' := [(0, zA g 1), (1, zI x1), (2, zI x2), (3, zI r6), (4, zI x7), (5, zI x6), (6, zI x6), (7, zI (x7 + 1))]) dX9_shift_93 rfl (by decide) [1, 2, 3, 4, 5, 6, 7, 0] rfl ?_
      refine zr_goto (tgt := 45) dX9_shift_96 (by decide) ?_
      exact W
theorem dX9_game_0 : decode cX9_game 0 = .ok (.iload_n 1, 1) := by decide +kernel
theorem dX9_game_1 : decode cX9_game 1 = .ok (.ifCond .lt 30, 3) := by decide +kernel
theorem dX9_game_4 : decode cX9_game 4 = .ok (.iload_n 1, 1) := by decide +kernel
theorem dX9_game_5 : decode cX9_game 5 = .ok (.sipush 9999, 3) := by decide +kernel
theorem dX9_game_8 : decode cX9_game 8 = .ok (.if_icmp .gt 23, 3) := by decide +kernel
theorem dX9_game_11 : decode cX9_game 11 = .ok (.iload_n 2, 1) := by decide +kernel
theorem dX9_game_12 : decode cX9_game 12 = .ok (.ifCond .lt 19, 3) := by decide +kernel
theorem dX9_game_15 : decode cX9_game 15 = .ok (.iload_n 2, 1) := by decide +kernel
theorem dX9_game_16 : decode cX9_game 16 = .ok (.sipush 500, 3) := by decide +kernel
theorem dX9_game_19 : decode cX9_game 19 = .ok (.if_icmp .gt 12, 3) := by decide +kernel
theorem dX9_game_22 : decode cX9_game 22 = .ok (.iload_n 3, 1) := by decide +kernel
theorem dX9_game_23 : decode cX9_game 23 = .ok (.ifCond .lt 8, 3) := by decide +kernel
theorem dX9_game_26 : decode cX9_game 26 = .ok (.iload_n 3, 1) := by decide +kernel
theorem dX9_game_27 : decode cX9_game 27 = .ok (.iconst 3, 1) := by decide +kernel
theorem dX9_game_28 : decode cX9_game 28 = .ok (.if_icmp .le 5, 3) := by decide +kernel
theorem dX9_game_31 : decode cX9_game 31 = .ok (.iconst (-1), 1) := by decide +kernel
theorem dX9_game_32 : decode cX9_game 32 = .ok (.ireturn, 1) := by decide +kernel
theorem dX9_game_33 : decode cX9_game 33 = .ok (.aload_n 0, 1) := by decide +kernel
theorem dX9_game_34 : decode cX9_game 34 = .ok (.iload_n 1, 1) := by decide +kernel
theorem dX9_game_35 : decode cX9_game 35 = .ok (.iload_n 2, 1) := by decide +kernel
theorem dX9_game_36 : decode cX9_game 36 = .ok (.invokevirtual 341, 3) := by decide +kernel
theorem dX9_game_39 : decode cX9_game 39 = .ok (.istore 4, 2) := by decide +kernel
theorem dX9_game_41 : decode cX9_game 41 = .ok (.iload_n 3, 1) := by decide +kernel
theorem dX9_game_42 : decode cX9_game 42 = .ok (.tableswitch 72 0 2 #[26, 34, 49], 26) := by decide +kernel
theorem dX9_game_68 : decode cX9_game 68 = .ok (.aload_n 0, 1) := by decide +kernel
theorem dX9_game_69 : decode cX9_game 69 = .ok (.getfield 42, 3) := by decide +kernel
theorem dX9_game_72 : decode cX9_game 72 = .ok (.invokevirtual 222, 3) := by decide +kernel
theorem dX9_game_75 : decode cX9_game 75 = .ok (.ireturn, 1) := by decide +kernel
theorem dX9_game_76 : decode cX9_game 76 = .ok (.aload_n 0, 1) := by decide +kernel
theorem dX9_game_77 : decode cX9_game 77 = .ok (.getfield 42, 3) := by decide +kernel
theorem dX9_game_80 : decode cX9_game 80 = .ok (.aload_n 0, 1) := by decide +kernel
theorem dX9_game_81 : decode cX9_game 81 = .ok (.getfield 28, 3) := by decide +kernel
theorem dX9_game_84 : decode cX9_game 84 = .ok (.getfield 120, 3) := by decide +kernel
theorem dX9_game_87 : decode cX9_game 87 = .ok (.invokevirtual 225, 3) := by decide +kernel
theorem dX9_game_90 : decode cX9_game 90 = .ok (.ireturn, 1) := by decide +kernel
theorem dX9_game_91 : decode cX9_game 91 = .ok (.aload_n 0, 1) := by decide +kernel
theorem dX9_game_92 : decode cX9_game 92 = .ok (.getfield 78, 3) := by decide +kernel
theorem dX9_game_95 : decode cX9_game 95 = .ok (.aload_n 0, 1) := by decide +kernel
theorem dX9_game_96 : decode cX9_game 96 = .ok (.getfield 42, 3) := by decide +kernel
theorem dX9_game_99 : decode cX9_game 99 = .ok (.getfield 152, 3) := by decide +kernel
theorem dX9_game_102 : decode cX9_game 102 = .ok (.iconst 1, 1) := by decide +kernel
theorem dX9_game_103 : decode cX9_game 103 = .ok (.invokevirtual 274, 3) := by decide +kernel
theorem dX9_game_106 : decode cX9_game 106 = .ok (.aload_n 0, 1) := by decide +kernel
theorem dX9_game_107 : decode cX9_game 107 = .ok (.getfield 78, 3) := by decide +kernel
theorem dX9_game_110 : decode cX9_game 110 = .ok (.getfield 278, 3) := by decide +kernel
theorem dX9_game_113 : decode cX9_game 113 = .ok (.ireturn, 1) := by decide +kernel
theorem dX9_game_114 : decode cX9_game 114 = .ok (.iload 4, 2) := by decide +kernel
theorem dX9_game_116 : decode cX9_game 116 = .ok (.ireturn, 1) := by decide +kernel
set_option maxRecDepth 100000 in
theorem SX9_game_0 {g : zG} {o : Bool} {C R : Int} {M : zM} {q : Int → zM → Prop} {x1 x2 x3 : Int} (W : (-2147483648 ≤ x1 ∧ x1 ≤ 2147483647) ∧ ((x1 < 0) → q (-1) M) ∧ ((¬ (x1 < 0)) → ((9999 < x1) → q (-1) M) ∧ ((¬ (9999 < x1)) → (-2147483648 ≤ x2 ∧ x2 ≤ 2147483647) ∧ ((x2 < 0) → q (-1) M) ∧ ((¬ (x2 < 0)) → ((500 < x2) → q (-1) M) ∧ ((¬ (500 < x2)) → (-2147483648 ≤ x3 ∧ x3 ≤ 2147483647) ∧ ((x3 < 0) → q (-1) M) ∧ ((¬ (x3 < 0)) → ((x3 ≤ 3) → ∃ q4 : Int → zM → Prop, zKi g (z1 o) mX9_runTrial [zA g 1, zI x1, zI x2] M q4 ∧ ∀ (r5 : Int) (M6 : zM), q4 r5 M6 → (x3 = 0 → (sOk M6 28) ∧ q (mxt (M6 29) 96) M6) ∧ (x3 = 1 → (zLand M6 C R) ∧ (sOk M6 28) ∧ ((M6 14 2) = C * R) ∧ q (cnt (fun i => M6 29 i = 0) (C * R).toNat) M6) ∧ (x3 = 2 → ∃ q19 : zM → Prop, zKv g (z1 o) mX3_joinLevel [zA g 127, zA g 29, zI 1] M6 q19 ∧ ∀ M21 : zM, q19 M21 → q (M21 127 5) M21) ∧ (x3 < 0 ∨ 2 < x3 → q r5 M6)) ∧ ((¬ (x3 ≤ 3)) → q (-1) M))))))) : zT g (z1 o) mX9_game (zQi (z1 o) q) 0 [(0, zA g 1), (1, zI x1), (2, zI x2), (3, zI x3)] [] M := by
  refine zr_iload_n 1 dX9_game_0 rfl ?_
  obtain ⟨c1, W⟩ := W
  refine zr_if_lt (tgt := 31) dX9_game_1 (by decide) c1 (fun h => ?_) (fun h => ?_)
  · have W := W.1 h
    refine zr_iconst dX9_game_31 ?_
    exact zt_iret dX9_game_32 rfl W
  · have W := W.2 h
    refine zr_iload_n 1 dX9_game_4 rfl ?_
    refine zr_sipush dX9_game_5 (by decide) ?_
    refine zr_icmp_gt (tgt := 31) dX9_game_8 (by decide) c1 ⟨by decide, by decide⟩ (fun h => ?_) (fun h => ?_)
    · have W := W.1 h
      refine zr_iconst dX9_game_31 ?_
      exact zt_iret dX9_game_32 rfl W
    · have W := W.2 h
      refine zr_iload_n 2 dX9_game_11 rfl ?_
      obtain ⟨c2, W⟩ := W
      refine zr_if_lt (tgt := 31) dX9_game_12 (by decide) c2 (fun h => ?_) (fun h => ?_)
      · have W := W.1 h
        refine zr_iconst dX9_game_31 ?_
        exact zt_iret dX9_game_32 rfl W
      · have W := W.2 h
        refine zr_iload_n 2 dX9_game_15 rfl ?_
        refine zr_sipush dX9_game_16 (by decide) ?_
        refine zr_icmp_gt (tgt := 31) dX9_game_19 (by decide) c2 ⟨by decide, by decide⟩ (fun h => ?_) (fun h => ?_)
        · have W := W.1 h
          refine zr_iconst dX9_game_31 ?_
          exact zt_iret dX9_game_32 rfl W
        · have W := W.2 h
          refine zr_iload_n 3 dX9_game_22 rfl ?_
          obtain ⟨c3, W⟩ := W
          refine zr_if_lt (tgt := 31) dX9_game_23 (by decide) c3 (fun h => ?_) (fun h => ?_)
          · have W := W.1 h
            refine zr_iconst dX9_game_31 ?_
            exact zt_iret dX9_game_32 rfl W
          · have W := W.2 h
            refine zr_iload_n 3 dX9_game_26 rfl ?_
            refine zr_iconst dX9_game_27 ?_
            refine zr_icmp_le (tgt := 33) dX9_game_28 (by decide) c3 ⟨by decide, by decide⟩ (fun h => ?_) (fun h => ?_)
            · have W := W.1 h
              refine zr_aload_n 0 dX9_game_33 rfl ?_
              refine zr_iload_n 1 dX9_game_34 rfl ?_
              refine zr_iload_n 2 dX9_game_35 rfl ?_
              obtain ⟨q4, k8, W⟩ := W
              refine zt_callVi (As := [zI x1, zI x2]) (rest := []) dX9_game_36 kX9_game_341 rfl rfl rfl rfl (Nat.le_of_ble_eq_true rfl) k8 (fun r5 M6 h7 => ?_)
              have W := W r5 M6 h7
              refine zr_istore (l' := [(0, zA g 1), (3, zI x3), (4, zI r5)]) dX9_game_39 (by decide) [1, 4, 0] rfl ?_
              refine zr_iload_n 1 dX9_game_41 rfl ?_
              by_cases e0 : x3 = 0
              · have W := W.1 e0
                refine zr_tin (tgt := 68) dX9_game_42 c3 (by omega) (by omega) (by rw [e0]; rfl) (by decide) ?_
                refine zr_aload_n 0 dX9_game_68 rfl ?_
                refine zr_getr (b := 28) dX9_game_69 fX9_42 rfl rfl rfl (by decide) ?_
                obtain ⟨c9, W⟩ := W
                refine zt_callVi (As := []) (rest := []) dX9_game_72 kX9_game_222 rfl rfl rfl rfl (Nat.le_of_ble_eq_true rfl) (c_highestK (show zSd 28 by unfold zSd; decide) c9) (fun r10 N12 h11 => ?_)
                rw [h11.1, h11.2]
                exact zt_iret dX9_game_75 rfl W
              by_cases e1 : x3 = 1
              · have W := W.2.1 e1
                refine zr_tin (tgt := 76) dX9_game_42 c3 (by omega) (by omega) (by rw [e1]; rfl) (by decide) ?_
                refine zr_aload_n 0 dX9_game_76 rfl ?_
                refine zr_getr (b := 28) dX9_game_77 fX9_42 rfl rfl rfl (by decide) ?_
                refine zr_aload_n 0 dX9_game_80 rfl ?_
                refine zr_getr (b := 14) dX9_game_81 fX9_28 rfl rfl rfl (by decide) ?_
                refine zt_geti 2 rfl dX9_game_84 fX9_120 rfl (by decide) ?_
                obtain ⟨c13, W⟩ := W
                obtain ⟨c14, W⟩ := W
                obtain ⟨c15, W⟩ := W
                refine zt_callVi (As := [zI (M6 14 2)]) (rest := []) dX9_game_87 kX9_game_225 rfl rfl rfl rfl (Nat.le_of_ble_eq_true rfl) (c_bareC (show zSd 28 by unfold zSd; decide) c13 c14 c15) (fun r16 N18 h17 => ?_)
                rw [h17.1, h17.2]
                exact zt_iret dX9_game_90 rfl W
              by_cases e2 : x3 = 2
              · have W := W.2.2.1 e2
                refine zr_tin (tgt := 91) dX9_game_42 c3 (by omega) (by omega) (by rw [e2]; rfl) (by decide) ?_
                refine zr_aload_n 0 dX9_game_91 rfl ?_
                refine zr_getr (b := 127) dX9_game_92 fX9_78 rfl rfl rfl (by decide) ?_
                refine zr_aload_n 0 dX9_game_95 rfl ?_
                refine zr_getr (b := 28) dX9_game_96 fX9_42 rfl rfl rfl (by decide) ?_
                refine zr_getr (b := 29) dX9_game_99 fX9_152 rfl rfl rfl (by decide) ?_
                refine zr_iconst dX9_game_102 ?_
                obtain ⟨q19, k23, W⟩ := W
                refine zt_callVv (As := [zA g 29, zI 1]) (rest := []) dX9_game_103 kX9_game_274 rfl rfl rfl rfl (Nat.le_of_ble_eq_true rfl) k23 (fun M21 h22 => ?_)
                have W := W M21 h22
                refine zr_aload_n 0 dX9_game_106 rfl ?_
                refine zr_getr (b := 127) dX9_game_107 fX9_78 rfl rfl rfl (by decide) ?_
                refine zt_geti 5 rfl dX9_game_110 fX9_278 rfl (by decide) ?_
                exact zt_iret dX9_game_113 rfl W
              have W := W.2.2.2 (by omega)
              refine zr_tout (tgt := 114) dX9_game_42 c3 (by omega) (by decide) ?_
              refine zr_iload 2 dX9_game_114 rfl ?_
              exact zt_iret dX9_game_116 rfl W
            · have W := W.2 h
              refine zr_iconst dX9_game_31 ?_
              exact zt_iret dX9_game_32 rfl W
theorem dX9_lowestTerms_0 : decode cX9_lowestTerms 0 = .ok (.lload_n 0, 1) := by decide +kernel
theorem dX9_lowestTerms_1 : decode cX9_lowestTerms 1 = .ok (.lstore 5, 2) := by decide +kernel
theorem dX9_lowestTerms_3 : decode cX9_lowestTerms 3 = .ok (.lload_n 2, 1) := by decide +kernel
theorem dX9_lowestTerms_4 : decode cX9_lowestTerms 4 = .ok (.lstore 7, 2) := by decide +kernel
theorem dX9_lowestTerms_6 : decode cX9_lowestTerms 6 = .ok (.iconst 0, 1) := by decide +kernel
theorem dX9_lowestTerms_7 : decode cX9_lowestTerms 7 = .ok (.istore 9, 2) := by decide +kernel
theorem dX9_lowestTerms_9 : decode cX9_lowestTerms 9 = .ok (.iload 9, 2) := by decide +kernel
theorem dX9_lowestTerms_11 : decode cX9_lowestTerms 11 = .ok (.bipush 64, 2) := by decide +kernel
theorem dX9_lowestTerms_13 : decode cX9_lowestTerms 13 = .ok (.if_icmp .ge 41, 3) := by decide +kernel
theorem dX9_lowestTerms_16 : decode cX9_lowestTerms 16 = .ok (.lload 7, 2) := by decide +kernel
theorem dX9_lowestTerms_18 : decode cX9_lowestTerms 18 = .ok (.lconst 1, 1) := by decide +kernel
theorem dX9_lowestTerms_19 : decode cX9_lowestTerms 19 = .ok (.lcmp, 1) := by decide +kernel
theorem dX9_lowestTerms_20 : decode cX9_lowestTerms 20 = .ok (.ifCond .le 34, 3) := by decide +kernel
theorem dX9_lowestTerms_23 : decode cX9_lowestTerms 23 = .ok (.lload 5, 2) := by decide +kernel
theorem dX9_lowestTerms_25 : decode cX9_lowestTerms 25 = .ok (.lconst 1, 1) := by decide +kernel
theorem dX9_lowestTerms_26 : decode cX9_lowestTerms 26 = .ok (.land, 1) := by decide +kernel
theorem dX9_lowestTerms_27 : decode cX9_lowestTerms 27 = .ok (.lconst 0, 1) := by decide +kernel
theorem dX9_lowestTerms_28 : decode cX9_lowestTerms 28 = .ok (.lcmp, 1) := by decide +kernel
theorem dX9_lowestTerms_29 : decode cX9_lowestTerms 29 = .ok (.ifCond .ne 25, 3) := by decide +kernel
theorem dX9_lowestTerms_32 : decode cX9_lowestTerms 32 = .ok (.lload 5, 2) := by decide +kernel
theorem dX9_lowestTerms_34 : decode cX9_lowestTerms 34 = .ok (.ldc2_w 272, 3) := by decide +kernel
theorem dX9_lowestTerms_37 : decode cX9_lowestTerms 37 = .ok (.ldiv, 1) := by decide +kernel
theorem dX9_lowestTerms_38 : decode cX9_lowestTerms 38 = .ok (.lstore 5, 2) := by decide +kernel
theorem dX9_lowestTerms_40 : decode cX9_lowestTerms 40 = .ok (.lload 7, 2) := by decide +kernel
theorem dX9_lowestTerms_42 : decode cX9_lowestTerms 42 = .ok (.ldc2_w 272, 3) := by decide +kernel
theorem dX9_lowestTerms_45 : decode cX9_lowestTerms 45 = .ok (.ldiv, 1) := by decide +kernel
theorem dX9_lowestTerms_46 : decode cX9_lowestTerms 46 = .ok (.lstore 7, 2) := by decide +kernel
theorem dX9_lowestTerms_48 : decode cX9_lowestTerms 48 = .ok (.iinc 9 1, 3) := by decide +kernel
theorem dX9_lowestTerms_51 : decode cX9_lowestTerms 51 = .ok (.goto (-42), 3) := by decide +kernel
theorem dX9_lowestTerms_54 : decode cX9_lowestTerms 54 = .ok (.iload 4, 2) := by decide +kernel
theorem dX9_lowestTerms_56 : decode cX9_lowestTerms 56 = .ok (.ifCond .ne 8, 3) := by decide +kernel
theorem dX9_lowestTerms_59 : decode cX9_lowestTerms 59 = .ok (.lload 5, 2) := by decide +kernel
theorem dX9_lowestTerms_61 : decode cX9_lowestTerms 61 = .ok (.goto 5, 3) := by decide +kernel
theorem dX9_lowestTerms_64 : decode cX9_lowestTerms 64 = .ok (.lload 7, 2) := by decide +kernel
theorem dX9_lowestTerms_66 : decode cX9_lowestTerms 66 = .ok (.lreturn, 1) := by decide +kernel
set_option maxRecDepth 100000 in
theorem SX9_lowestTerms_0 {g : zG} {o : Bool} {M : zM} {q : Int → zM → Prop} {x0 x2 x4 : Int} (W : zT g (z1 o) mX9_lowestTerms (zQl (z1 o) q) 9 [(4, zI x4), (5, zL x0), (7, zL x2), (9, zI 0)] [] M) : zT g (z1 o) mX9_lowestTerms (zQl (z1 o) q) 0 [(0, zL x0), (2, zL x2), (4, zI x4)] [] M := by
  refine zr_lload_n 0 dX9_lowestTerms_0 rfl ?_
  refine zr_lstore (l' := [(2, zL x2), (4, zI x4), (5, zL x0)]) dX9_lowestTerms_1 (by decide) [2, 3, 0] rfl ?_
  refine zr_lload_n 0 dX9_lowestTerms_3 rfl ?_
  refine zr_lstore (l' := [(4, zI x4), (5, zL x0), (7, zL x2)]) dX9_lowestTerms_4 (by decide) [2, 3, 0] rfl ?_
  refine zr_iconst dX9_lowestTerms_6 ?_
  refine zr_istore (l' := [(4, zI x4), (5, zL x0), (7, zL x2), (9, zI 0)]) dX9_lowestTerms_7 (by decide) [1, 2, 3, 0] rfl ?_
  exact W
set_option maxRecDepth 100000 in
theorem SX9_lowestTerms_9 {g : zG} {o : Bool} {M : zM} {q : Int → zM → Prop} {x4 x5 x7 x9 : Int} (W : (-2147483648 ≤ x9 ∧ x9 ≤ 2147483647) ∧ ((64 ≤ x9) → (-2147483648 ≤ x4 ∧ x4 ≤ 2147483647) ∧ ((x4 ≠ 0) → q x7 M) ∧ ((x4 = 0) → q x5 M)) ∧ ((¬ (64 ≤ x9)) → (-9223372036854775808 ≤ x7 ∧ x7 ≤ 9223372036854775807) ∧ ((x7 ≤ 1) → (-2147483648 ≤ x4 ∧ x4 ≤ 2147483647) ∧ ((x4 ≠ 0) → q x7 M) ∧ ((x4 = 0) → q x5 M)) ∧ ((¬ (x7 ≤ 1)) → (0 ≤ x5 ∧ x5 ≤ 9223372036854775807) ∧ (-9223372036854775808 ≤ ((Int.toNat x5 &&& Int.toNat 1 : Nat) : Int) ∧ ((Int.toNat x5 &&& Int.toNat 1 : Nat) : Int) ≤ 9223372036854775807) ∧ ((((Int.toNat x5 &&& Int.toNat 1 : Nat) : Int) ≠ 0) → (-2147483648 ≤ x4 ∧ x4 ≤ 2147483647) ∧ ((x4 ≠ 0) → q x7 M) ∧ ((x4 = 0) → q x5 M)) ∧ ((((Int.toNat x5 &&& Int.toNat 1 : Nat) : Int) = 0) → (0 ≤ x7 ∧ x7 ≤ 9223372036854775807) ∧ zT g (z1 o) mX9_lowestTerms (zQl (z1 o) q) 9 [(4, zI x4), (5, zL (x5 / 2)), (7, zL (x7 / 2)), (9, zI (x9 + 1))] [] M)))) : zT g (z1 o) mX9_lowestTerms (zQl (z1 o) q) 9 [(4, zI x4), (5, zL x5), (7, zL x7), (9, zI x9)] [] M := by
  refine zr_iload 3 dX9_lowestTerms_9 rfl ?_
  refine zr_bipush dX9_lowestTerms_11 (by decide) ?_
  obtain ⟨c1, W⟩ := W
  refine zr_icmp_ge (tgt := 54) dX9_lowestTerms_13 (by decide) c1 ⟨by decide, by decide⟩ (fun h => ?_) (fun h => ?_)
  · have W := W.1 h
    refine zr_iload 0 dX9_lowestTerms_54 rfl ?_
    obtain ⟨c2, W⟩ := W
    refine zr_if_ne (tgt := 64) dX9_lowestTerms_56 (by decide) c2 (fun h => ?_) (fun h => ?_)
    · have W := W.1 h
      refine zr_lload 2 dX9_lowestTerms_64 rfl ?_
      exact zt_lret dX9_lowestTerms_66 rfl W
    · have W := W.2 h
      refine zr_lload 1 dX9_lowestTerms_59 rfl ?_
      refine zr_goto (tgt := 66) dX9_lowestTerms_61 (by decide) ?_
      exact zt_lret dX9_lowestTerms_66 rfl W
  · have W := W.2 h
    refine zr_lload 2 dX9_lowestTerms_16 rfl ?_
    refine zr_lconst (x := 1) dX9_lowestTerms_18 rfl ?_
    obtain ⟨c3, W⟩ := W
    refine zr_lcmp dX9_lowestTerms_19 c3 ⟨by decide, by decide⟩ ?_
    refine zr_if_le (tgt := 54) dX9_lowestTerms_20 (by decide) (zc_in _ _) (fun h => ?_) (fun h => ?_)
    · have W := W.1 (zc_le.mp h)
      refine zr_iload 0 dX9_lowestTerms_54 rfl ?_
      obtain ⟨c4, W⟩ := W
      refine zr_if_ne (tgt := 64) dX9_lowestTerms_56 (by decide) c4 (fun h => ?_) (fun h => ?_)
      · have W := W.1 h
        refine zr_lload 2 dX9_lowestTerms_64 rfl ?_
        exact zt_lret dX9_lowestTerms_66 rfl W
      · have W := W.2 h
        refine zr_lload 1 dX9_lowestTerms_59 rfl ?_
        refine zr_goto (tgt := 66) dX9_lowestTerms_61 (by decide) ?_
        exact zt_lret dX9_lowestTerms_66 rfl W
    · have W := W.2 (fun h9 => h (zc_le.mpr h9))
      refine zr_lload 1 dX9_lowestTerms_23 rfl ?_
      refine zr_lconst (x := 1) dX9_lowestTerms_25 rfl ?_
      obtain ⟨c5, W⟩ := W
      refine zr_land dX9_lowestTerms_26 c5 ⟨by decide, by decide⟩ ?_
      refine zr_lconst (x := 0) dX9_lowestTerms_27 rfl ?_
      obtain ⟨c6, W⟩ := W
      refine zr_lcmp dX9_lowestTerms_28 c6 ⟨by decide, by decide⟩ ?_
      refine zr_if_ne (tgt := 54) dX9_lowestTerms_29 (by decide) (zc_in _ _) (fun h => ?_) (fun h => ?_)
      · have W := W.1 (zc_ne.mp h)
        refine zr_iload 0 dX9_lowestTerms_54 rfl ?_
        obtain ⟨c7, W⟩ := W
        refine zr_if_ne (tgt := 64) dX9_lowestTerms_56 (by decide) c7 (fun h => ?_) (fun h => ?_)
        · have W := W.1 h
          refine zr_lload 2 dX9_lowestTerms_64 rfl ?_
          exact zt_lret dX9_lowestTerms_66 rfl W
        · have W := W.2 h
          refine zr_lload 1 dX9_lowestTerms_59 rfl ?_
          refine zr_goto (tgt := 66) dX9_lowestTerms_61 (by decide) ?_
          exact zt_lret dX9_lowestTerms_66 rfl W
      · have W := W.2 (zc_eq.mp h)
        refine zr_lload 1 dX9_lowestTerms_32 rfl ?_
        refine zr_ldc2 (x := 2) dX9_lowestTerms_34 (zc4 108 (by decide +kernel) rfl) ?_
        refine zr_ldiv dX9_lowestTerms_37 c5 ⟨by decide, by decide⟩ ?_
        refine zr_lstore (l' := [(4, zI x4), (5, zL (x5 / 2)), (7, zL x7), (9, zI x9)]) dX9_lowestTerms_38 (by decide) [1, 0, 2, 3] rfl ?_
        refine zr_lload 2 dX9_lowestTerms_40 rfl ?_
        refine zr_ldc2 (x := 2) dX9_lowestTerms_42 (zc4 108 (by decide +kernel) rfl) ?_
        obtain ⟨c8, W⟩ := W
        refine zr_ldiv dX9_lowestTerms_45 c8 ⟨by decide, by decide⟩ ?_
        refine zr_lstore (l' := [(4, zI x4), (5, zL (x5 / 2)), (7, zL (x7 / 2)), (9, zI x9)]) dX9_lowestTerms_46 (by decide) [1, 2, 0, 3] rfl ?_
        refine zr_iinc (q := 3) (l' := [(4, zI x4), (5, zL (x5 / 2)), (7, zL (x7 / 2)), (9, zI (x9 + 1))]) dX9_lowestTerms_48 rfl (by decide) [1, 2, 3, 0] rfl ?_
        refine zr_goto (tgt := 9) dX9_lowestTerms_51 (by decide) ?_
        exact W
theorem dX9_overlap_0 : decode cX9_overlap 0 = .ok (.iconst 0, 1) := by decide +kernel
theorem dX9_overlap_1 : decode cX9_overlap 1 = .ok (.istore 4, 2) := by decide +kernel
theorem dX9_overlap_3 : decode cX9_overlap 3 = .ok (.iconst 0, 1) := by decide +kernel
theorem dX9_overlap_4 : decode cX9_overlap 4 = .ok (.istore 5, 2) := by decide +kernel
theorem dX9_overlap_6 : decode cX9_overlap 6 = .ok (.iload 5, 2) := by decide +kernel
theorem dX9_overlap_8 : decode cX9_overlap 8 = .ok (.aload_n 0, 1) := by decide +kernel
theorem dX9_overlap_9 : decode cX9_overlap 9 = .ok (.getfield 28, 3) := by decide +kernel
theorem dX9_overlap_12 : decode cX9_overlap 12 = .ok (.getfield 120, 3) := by decide +kernel
theorem dX9_overlap_15 : decode cX9_overlap 15 = .ok (.if_icmp .ge 44, 3) := by decide +kernel
theorem dX9_overlap_18 : decode cX9_overlap 18 = .ok (.aload_n 0, 1) := by decide +kernel
theorem dX9_overlap_19 : decode cX9_overlap 19 = .ok (.getfield 28, 3) := by decide +kernel
theorem dX9_overlap_22 : decode cX9_overlap 22 = .ok (.iload 5, 2) := by decide +kernel
theorem dX9_overlap_24 : decode cX9_overlap 24 = .ok (.iload_n 2, 1) := by decide +kernel
theorem dX9_overlap_25 : decode cX9_overlap 25 = .ok (.iload_n 3, 1) := by decide +kernel
theorem dX9_overlap_26 : decode cX9_overlap 26 = .ok (.invokevirtual 334, 3) := by decide +kernel
theorem dX9_overlap_29 : decode cX9_overlap 29 = .ok (.istore 6, 2) := by decide +kernel
theorem dX9_overlap_31 : decode cX9_overlap 31 = .ok (.iload 4, 2) := by decide +kernel
theorem dX9_overlap_33 : decode cX9_overlap 33 = .ok (.aload_n 1, 1) := by decide +kernel
theorem dX9_overlap_34 : decode cX9_overlap 34 = .ok (.iload 5, 2) := by decide +kernel
theorem dX9_overlap_36 : decode cX9_overlap 36 = .ok (.iaload, 1) := by decide +kernel
theorem dX9_overlap_37 : decode cX9_overlap 37 = .ok (.aload_n 0, 1) := by decide +kernel
theorem dX9_overlap_38 : decode cX9_overlap 38 = .ok (.getfield 39, 3) := by decide +kernel
theorem dX9_overlap_41 : decode cX9_overlap 41 = .ok (.getfield 152, 3) := by decide +kernel
theorem dX9_overlap_44 : decode cX9_overlap 44 = .ok (.iload 6, 2) := by decide +kernel
theorem dX9_overlap_46 : decode cX9_overlap 46 = .ok (.iaload, 1) := by decide +kernel
theorem dX9_overlap_47 : decode cX9_overlap 47 = .ok (.invokestatic 306, 3) := by decide +kernel
theorem dX9_overlap_50 : decode cX9_overlap 50 = .ok (.iadd, 1) := by decide +kernel
theorem dX9_overlap_51 : decode cX9_overlap 51 = .ok (.istore 4, 2) := by decide +kernel
theorem dX9_overlap_53 : decode cX9_overlap 53 = .ok (.iinc 5 1, 3) := by decide +kernel
theorem dX9_overlap_56 : decode cX9_overlap 56 = .ok (.goto (-50), 3) := by decide +kernel
theorem dX9_overlap_59 : decode cX9_overlap 59 = .ok (.iload 4, 2) := by decide +kernel
theorem dX9_overlap_61 : decode cX9_overlap 61 = .ok (.ireturn, 1) := by decide +kernel
set_option maxRecDepth 100000 in
theorem SX9_overlap_0 {g : zG} {o : Bool} {h1 : Nat} (hh1 : zh (z1 o) h1 = (1, 96)) (hz1 : h1 ≠ 0) {M : zM} {q : Int → zM → Prop} {x2 x3 : Int} (W : zT g (z1 o) mX9_overlap (zQi (z1 o) q) 6 [(0, zA g 1), (1, zA g h1), (2, zI x2), (3, zI x3), (4, zI 0), (5, zI 0)] [] M) : zT g (z1 o) mX9_overlap (zQi (z1 o) q) 0 [(0, zA g 1), (1, zA g h1), (2, zI x2), (3, zI x3)] [] M := by
  refine zr_iconst dX9_overlap_0 ?_
  refine zr_istore (l' := [(0, zA g 1), (1, zA g h1), (2, zI x2), (3, zI x3), (4, zI 0)]) dX9_overlap_1 (by decide) [1, 2, 3, 4, 0] rfl ?_
  refine zr_iconst dX9_overlap_3 ?_
  refine zr_istore (l' := [(0, zA g 1), (1, zA g h1), (2, zI x2), (3, zI x3), (4, zI 0), (5, zI 0)]) dX9_overlap_4 (by decide) [1, 2, 3, 4, 5, 0] rfl ?_
  exact W
set_option maxRecDepth 100000 in
theorem SX9_overlap_6 {g : zG} {o : Bool} {h1 : Nat} (hh1 : zh (z1 o) h1 = (1, 96)) (hz1 : h1 ≠ 0) {M : zM} {q : Int → zM → Prop} {x2 x3 x4 x5 : Int} (W : (-2147483648 ≤ x5 ∧ x5 ≤ 2147483647) ∧ (-2147483648 ≤ (M 14 2) ∧ (M 14 2) ≤ 2147483647) ∧ (((M 14 2) ≤ x5) → q x4 M) ∧ ((¬ ((M 14 2) ≤ x5)) → ∃ q3 : Int → zM → Prop, zKi g (z1 o) mX2_moved [zA g 14, zI x5, zI x2, zI x3] M q3 ∧ ∀ (r4 : Int) (M5 : zM), q3 r4 M5 → (0 ≤ x5 ∧ x5 < 96) ∧ (0 ≤ r4 ∧ r4 < 96) ∧ (-2147483648 ≤ (M5 h1 x5) ∧ (M5 h1 x5) ≤ 2147483647) ∧ (-2147483648 ≤ (M5 25 r4) ∧ (M5 25 r4) ≤ 2147483647) ∧ zT g (z1 o) mX9_overlap (zQi (z1 o) q) 6 [(0, zA g 1), (1, zA g h1), (2, zI x2), (3, zI x3), (4, zI (x4 + (min (M5 h1 x5) (M5 25 r4)))), (5, zI (x5 + 1))] [] M5)) : zT g (z1 o) mX9_overlap (zQi (z1 o) q) 6 [(0, zA g 1), (1, zA g h1), (2, zI x2), (3, zI x3), (4, zI x4), (5, zI x5)] [] M := by
  refine zr_iload 5 dX9_overlap_6 rfl ?_
  refine zr_aload_n 0 dX9_overlap_8 rfl ?_
  refine zr_getr (b := 14) dX9_overlap_9 fX9_28 rfl rfl rfl (by decide) ?_
  refine zt_geti 2 rfl dX9_overlap_12 fX9_120 rfl (by decide) ?_
  obtain ⟨c1, W⟩ := W
  obtain ⟨c2, W⟩ := W
  refine zr_icmp_ge (tgt := 59) dX9_overlap_15 (by decide) c1 c2 (fun h => ?_) (fun h => ?_)
  · have W := W.1 h
    refine zr_iload 4 dX9_overlap_59 rfl ?_
    exact zt_iret dX9_overlap_61 rfl W
  · have W := W.2 h
    refine zr_aload_n 0 dX9_overlap_18 rfl ?_
    refine zr_getr (b := 14) dX9_overlap_19 fX9_28 rfl rfl rfl (by decide) ?_
    refine zr_iload 5 dX9_overlap_22 rfl ?_
    refine zr_iload_n 2 dX9_overlap_24 rfl ?_
    refine zr_iload_n 3 dX9_overlap_25 rfl ?_
    obtain ⟨q3, k7, W⟩ := W
    refine zt_callVi (As := [zI x5, zI x2, zI x3]) (rest := []) dX9_overlap_26 kX9_overlap_334 rfl rfl rfl rfl (Nat.le_of_ble_eq_true rfl) k7 (fun r4 M5 h6 => ?_)
    have W := W r4 M5 h6
    refine zr_istore (l' := [(0, zA g 1), (1, zA g h1), (2, zI x2), (3, zI x3), (4, zI x4), (5, zI x5), (6, zI r4)]) dX9_overlap_29 (by decide) [1, 2, 3, 4, 5, 6, 0] rfl ?_
    refine zr_iload 4 dX9_overlap_31 rfl ?_
    refine zr_aload_n 1 dX9_overlap_33 rfl ?_
    refine zr_iload 5 dX9_overlap_34 rfl ?_
    obtain ⟨c8, W⟩ := W
    refine zr_iald dX9_overlap_36 hh1 (by decide) c8 ?_
    refine zr_aload_n 0 dX9_overlap_37 rfl ?_
    refine zr_getr (b := 24) dX9_overlap_38 fX9_39 rfl rfl rfl (by decide) ?_
    refine zr_getr (b := 25) dX9_overlap_41 fX9_152 rfl rfl rfl (by decide) ?_
    refine zr_iload 6 dX9_overlap_44 rfl ?_
    obtain ⟨c9, W⟩ := W
    refine zr_iald dX9_overlap_46 rfl (by decide) c9 ?_
    obtain ⟨c10, W⟩ := W
    obtain ⟨c11, W⟩ := W
    refine zr_min dX9_overlap_47 kX9_overlap_306 c10 c11 (Nat.le_of_ble_eq_true rfl) ⟨Nat.le_refl _, Nat.le_refl _⟩ ?_
    refine zr_iadd dX9_overlap_50 ?_
    refine zr_istore (l' := [(0, zA g 1), (1, zA g h1), (2, zI x2), (3, zI x3), (4, zI (x4 + (min (M5 h1 x5) (M5 25 r4)))), (5, zI x5)]) dX9_overlap_51 (by decide) [1, 2, 3, 4, 0, 5] rfl ?_
    refine zr_iinc (q := 5) (l' := [(0, zA g 1), (1, zA g h1), (2, zI x2), (3, zI x3), (4, zI (x4 + (min (M5 h1 x5) (M5 25 r4)))), (5, zI (x5 + 1))]) dX9_overlap_53 rfl (by decide) [1, 2, 3, 4, 5, 0] rfl ?_
    refine zr_goto (tgt := 6) dX9_overlap_56 (by decide) ?_
    exact W
theorem dX10_parts_0 : decode cX10_parts 0 = .ok (.iload_n 1, 1) := by decide +kernel
theorem dX10_parts_1 : decode cX10_parts 1 = .ok (.iconst 1, 1) := by decide +kernel
theorem dX10_parts_2 : decode cX10_parts 2 = .ok (.if_icmp .ge 5, 3) := by decide +kernel
theorem dX10_parts_5 : decode cX10_parts 5 = .ok (.iconst (-1), 1) := by decide +kernel
theorem dX10_parts_6 : decode cX10_parts 6 = .ok (.ireturn, 1) := by decide +kernel
theorem dX10_parts_7 : decode cX10_parts 7 = .ok (.aload_n 0, 1) := by decide +kernel
theorem dX10_parts_8 : decode cX10_parts 8 = .ok (.invokevirtual 327, 3) := by decide +kernel
theorem dX10_parts_11 : decode cX10_parts 11 = .ok (.aload_n 0, 1) := by decide +kernel
theorem dX10_parts_12 : decode cX10_parts 12 = .ok (.invokevirtual 361, 3) := by decide +kernel
theorem dX10_parts_15 : decode cX10_parts 15 = .ok (.istore_n 2, 1) := by decide +kernel
theorem dX10_parts_16 : decode cX10_parts 16 = .ok (.iconst 1, 1) := by decide +kernel
theorem dX10_parts_17 : decode cX10_parts 17 = .ok (.istore_n 3, 1) := by decide +kernel
theorem dX10_parts_18 : decode cX10_parts 18 = .ok (.iload_n 3, 1) := by decide +kernel
theorem dX10_parts_19 : decode cX10_parts 19 = .ok (.iload_n 2, 1) := by decide +kernel
theorem dX10_parts_20 : decode cX10_parts 20 = .ok (.if_icmp .gt 20, 3) := by decide +kernel
theorem dX10_parts_23 : decode cX10_parts 23 = .ok (.aload_n 0, 1) := by decide +kernel
theorem dX10_parts_24 : decode cX10_parts 24 = .ok (.iload_n 3, 1) := by decide +kernel
theorem dX10_parts_25 : decode cX10_parts 25 = .ok (.invokevirtual 397, 3) := by decide +kernel
theorem dX10_parts_28 : decode cX10_parts 28 = .ok (.iload_n 1, 1) := by decide +kernel
theorem dX10_parts_29 : decode cX10_parts 29 = .ok (.if_icmp .lt 5, 3) := by decide +kernel
theorem dX10_parts_32 : decode cX10_parts 32 = .ok (.iload_n 3, 1) := by decide +kernel
theorem dX10_parts_33 : decode cX10_parts 33 = .ok (.ireturn, 1) := by decide +kernel
theorem dX10_parts_34 : decode cX10_parts 34 = .ok (.iinc 3 1, 3) := by decide +kernel
theorem dX10_parts_37 : decode cX10_parts 37 = .ok (.goto (-19), 3) := by decide +kernel
theorem dX10_parts_40 : decode cX10_parts 40 = .ok (.iconst (-1), 1) := by decide +kernel
theorem dX10_parts_41 : decode cX10_parts 41 = .ok (.ireturn, 1) := by decide +kernel
set_option maxRecDepth 100000 in
theorem SX10_parts_0 {g : zG} {o : Bool} {C R : Int} {M : zM} {q : Int → zM → Prop} {x1 : Int} (W : (-2147483648 ≤ x1 ∧ x1 ≤ 2147483647) ∧ ((1 ≤ x1) → ∃ q2 : zM → Prop, zKv g (z2 o) mX10_goesOn [zA g 1] M q2 ∧ ∀ M4 : zM, q2 M4 → (zRf M4 C R) ∧ (rOk M4) ∧ zT g (z2 o) mX10_parts (zQi (z2 o) q) 18 [(0, zA g 1), (1, zI x1), (2, zI (mxt (M4 11) (C * R).toNat)), (3, zI 1)] [] M4) ∧ ((¬ (1 ≤ x1)) → q (-1) M)) : zT g (z2 o) mX10_parts (zQi (z2 o) q) 0 [(0, zA g 1), (1, zI x1)] [] M := by
  refine zr_iload_n 1 dX10_parts_0 rfl ?_
  refine zr_iconst dX10_parts_1 ?_
  obtain ⟨c1, W⟩ := W
  refine zr_icmp_ge (tgt := 7) dX10_parts_2 (by decide) c1 ⟨by decide, by decide⟩ (fun h => ?_) (fun h => ?_)
  · have W := W.1 h
    refine zr_aload_n 0 dX10_parts_7 rfl ?_
    obtain ⟨q2, k6, W⟩ := W
    refine zt_callVv (As := []) (rest := []) dX10_parts_8 kX10_parts_327 rfl rfl rfl rfl (Nat.le_of_ble_eq_true rfl) k6 (fun M4 h5 => ?_)
    have W := W M4 h5
    refine zr_aload_n 0 dX10_parts_11 rfl ?_
    obtain ⟨c7, W⟩ := W
    obtain ⟨c8, W⟩ := W
    refine zt_callVi (As := []) (rest := []) dX10_parts_12 kX10_parts_361 rfl rfl rfl rfl (Nat.le_of_ble_eq_true rfl) (c_highestR c7 c8) (fun r9 N11 h10 => ?_)
    rw [h10.1, h10.2]
    refine zr_istore_n (l' := [(0, zA g 1), (1, zI x1), (2, zI (mxt (M4 11) (C * R).toNat))]) dX10_parts_15 (by decide) [1, 2, 0] rfl ?_
    refine zr_iconst dX10_parts_16 ?_
    refine zr_istore_n (l' := [(0, zA g 1), (1, zI x1), (2, zI (mxt (M4 11) (C * R).toNat)), (3, zI 1)]) dX10_parts_17 (by decide) [1, 2, 3, 0] rfl ?_
    exact W
  · have W := W.2 h
    refine zr_iconst dX10_parts_5 ?_
    exact zt_iret dX10_parts_6 rfl W
set_option maxRecDepth 100000 in
theorem SX10_parts_18 {g : zG} {o : Bool} {M : zM} {q : Int → zM → Prop} {x1 x2 x3 : Int} (W : (-2147483648 ≤ x3 ∧ x3 ≤ 2147483647) ∧ (-2147483648 ≤ x2 ∧ x2 ≤ 2147483647) ∧ ((x2 < x3) → q (-1) M) ∧ ((¬ (x2 < x3)) → ∃ q3 : Int → zM → Prop, zKi g (z2 o) mX10_dunesNow [zA g 1, zI x3] M q3 ∧ ∀ (r4 : Int) (M5 : zM), q3 r4 M5 → (-2147483648 ≤ r4 ∧ r4 ≤ 2147483647) ∧ (-2147483648 ≤ x1 ∧ x1 ≤ 2147483647) ∧ ((r4 < x1) → zT g (z2 o) mX10_parts (zQi (z2 o) q) 18 [(0, zA g 1), (1, zI x1), (2, zI x2), (3, zI (x3 + 1))] [] M5) ∧ ((¬ (r4 < x1)) → q x3 M5))) : zT g (z2 o) mX10_parts (zQi (z2 o) q) 18 [(0, zA g 1), (1, zI x1), (2, zI x2), (3, zI x3)] [] M := by
  refine zr_iload_n 3 dX10_parts_18 rfl ?_
  refine zr_iload_n 2 dX10_parts_19 rfl ?_
  obtain ⟨c1, W⟩ := W
  obtain ⟨c2, W⟩ := W
  refine zr_icmp_gt (tgt := 40) dX10_parts_20 (by decide) c1 c2 (fun h => ?_) (fun h => ?_)
  · have W := W.1 h
    refine zr_iconst dX10_parts_40 ?_
    exact zt_iret dX10_parts_41 rfl W
  · have W := W.2 h
    refine zr_aload_n 0 dX10_parts_23 rfl ?_
    refine zr_iload_n 3 dX10_parts_24 rfl ?_
    obtain ⟨q3, k7, W⟩ := W
    refine zt_callVi (As := [zI x3]) (rest := []) dX10_parts_25 kX10_parts_397 rfl rfl rfl rfl (Nat.le_of_ble_eq_true rfl) k7 (fun r4 M5 h6 => ?_)
    have W := W r4 M5 h6
    refine zr_iload_n 1 dX10_parts_28 rfl ?_
    obtain ⟨c8, W⟩ := W
    obtain ⟨c9, W⟩ := W
    refine zr_icmp_lt (tgt := 34) dX10_parts_29 (by decide) c8 c9 (fun h => ?_) (fun h => ?_)
    · have W := W.1 h
      refine zr_iinc (q := 3) (l' := [(0, zA g 1), (1, zI x1), (2, zI x2), (3, zI (x3 + 1))]) dX10_parts_34 rfl (by decide) [1, 2, 3, 0] rfl ?_
      refine zr_goto (tgt := 18) dX10_parts_37 (by decide) ?_
      exact W
    · have W := W.2 h
      refine zr_iload_n 3 dX10_parts_32 rfl ?_
      exact zt_iret dX10_parts_33 rfl W
theorem dX10_areOne_0 : decode cX10_areOne 0 = .ok (.aload_n 0, 1) := by decide +kernel
theorem dX10_areOne_1 : decode cX10_areOne 1 = .ok (.iload_n 1, 1) := by decide +kernel
theorem dX10_areOne_2 : decode cX10_areOne 2 = .ok (.invokevirtual 397, 3) := by decide +kernel
theorem dX10_areOne_5 : decode cX10_areOne 5 = .ok (.istore 4, 2) := by decide +kernel
theorem dX10_areOne_7 : decode cX10_areOne 7 = .ok (.aload_n 0, 1) := by decide +kernel
theorem dX10_areOne_8 : decode cX10_areOne 8 = .ok (.getfield 54, 3) := by decide +kernel
theorem dX10_areOne_11 : decode cX10_areOne 11 = .ok (.iload_n 2, 1) := by decide +kernel
theorem dX10_areOne_12 : decode cX10_areOne 12 = .ok (.iaload, 1) := by decide +kernel
theorem dX10_areOne_13 : decode cX10_areOne 13 = .ok (.iconst (-1), 1) := by decide +kernel
theorem dX10_areOne_14 : decode cX10_areOne 14 = .ok (.if_icmp .eq 22, 3) := by decide +kernel
theorem dX10_areOne_17 : decode cX10_areOne 17 = .ok (.aload_n 0, 1) := by decide +kernel
theorem dX10_areOne_18 : decode cX10_areOne 18 = .ok (.getfield 54, 3) := by decide +kernel
theorem dX10_areOne_21 : decode cX10_areOne 21 = .ok (.iload_n 2, 1) := by decide +kernel
theorem dX10_areOne_22 : decode cX10_areOne 22 = .ok (.iaload, 1) := by decide +kernel
theorem dX10_areOne_23 : decode cX10_areOne 23 = .ok (.aload_n 0, 1) := by decide +kernel
theorem dX10_areOne_24 : decode cX10_areOne 24 = .ok (.getfield 54, 3) := by decide +kernel
theorem dX10_areOne_27 : decode cX10_areOne 27 = .ok (.iload_n 3, 1) := by decide +kernel
theorem dX10_areOne_28 : decode cX10_areOne 28 = .ok (.iaload, 1) := by decide +kernel
theorem dX10_areOne_29 : decode cX10_areOne 29 = .ok (.if_icmp .ne 7, 3) := by decide +kernel
theorem dX10_areOne_32 : decode cX10_areOne 32 = .ok (.iconst 1, 1) := by decide +kernel
theorem dX10_areOne_33 : decode cX10_areOne 33 = .ok (.goto 4, 3) := by decide +kernel
theorem dX10_areOne_36 : decode cX10_areOne 36 = .ok (.iconst 0, 1) := by decide +kernel
theorem dX10_areOne_37 : decode cX10_areOne 37 = .ok (.ireturn, 1) := by decide +kernel
set_option maxRecDepth 100000 in
theorem SX10_areOne_0 {g : zG} {o : Bool} {M : zM} {q : Int → zM → Prop} {x1 x2 x3 : Int} (W : ∃ q1 : Int → zM → Prop, zKi g (z2 o) mX10_dunesNow [zA g 1, zI x1] M q1 ∧ ∀ (r2 : Int) (M3 : zM), q1 r2 M3 → (0 ≤ x2 ∧ x2 < 96) ∧ (-2147483648 ≤ (M3 13 x2) ∧ (M3 13 x2) ≤ 2147483647) ∧ (((M3 13 x2) = (-1)) → q 0 M3) ∧ ((¬ ((M3 13 x2) = (-1))) → (0 ≤ x3 ∧ x3 < 96) ∧ (-2147483648 ≤ (M3 13 x3) ∧ (M3 13 x3) ≤ 2147483647) ∧ (((M3 13 x2) ≠ (M3 13 x3)) → q 0 M3) ∧ (((M3 13 x2) = (M3 13 x3)) → q 1 M3))) : zT g (z2 o) mX10_areOne (zQi (z2 o) q) 0 [(0, zA g 1), (1, zI x1), (2, zI x2), (3, zI x3)] [] M := by
  refine zr_aload_n 0 dX10_areOne_0 rfl ?_
  refine zr_iload_n 1 dX10_areOne_1 rfl ?_
  obtain ⟨q1, k5, W⟩ := W
  refine zt_callVi (As := [zI x1]) (rest := []) dX10_areOne_2 kX10_areOne_397 rfl rfl rfl rfl (Nat.le_of_ble_eq_true rfl) k5 (fun r2 M3 h4 => ?_)
  have W := W r2 M3 h4
  refine zr_istore (l' := [(0, zA g 1), (2, zI x2), (3, zI x3)]) dX10_areOne_5 (by decide) [1, 3, 4] rfl ?_
  refine zr_aload_n 0 dX10_areOne_7 rfl ?_
  refine zr_getr (b := 13) dX10_areOne_8 fX10_54 rfl rfl rfl (by decide) ?_
  refine zr_iload_n 1 dX10_areOne_11 rfl ?_
  obtain ⟨c6, W⟩ := W
  refine zr_iald dX10_areOne_12 rfl (by decide) c6 ?_
  refine zr_iconst dX10_areOne_13 ?_
  obtain ⟨c7, W⟩ := W
  refine zr_icmp_eq (tgt := 36) dX10_areOne_14 (by decide) c7 ⟨by decide, by decide⟩ (fun h => ?_) (fun h => ?_)
  · have W := W.1 h
    refine zr_iconst dX10_areOne_36 ?_
    exact zt_zret dX10_areOne_37 rfl (by decide) W
  · have W := W.2 h
    refine zr_aload_n 0 dX10_areOne_17 rfl ?_
    refine zr_getr (b := 13) dX10_areOne_18 fX10_54 rfl rfl rfl (by decide) ?_
    refine zr_iload_n 1 dX10_areOne_21 rfl ?_
    refine zr_iald dX10_areOne_22 rfl (by decide) c6 ?_
    refine zr_aload_n 0 dX10_areOne_23 rfl ?_
    refine zr_getr (b := 13) dX10_areOne_24 fX10_54 rfl rfl rfl (by decide) ?_
    refine zr_iload_n 2 dX10_areOne_27 rfl ?_
    obtain ⟨c8, W⟩ := W
    refine zr_iald dX10_areOne_28 rfl (by decide) c8 ?_
    obtain ⟨c9, W⟩ := W
    refine zr_icmp_ne (tgt := 36) dX10_areOne_29 (by decide) c7 c9 (fun h => ?_) (fun h => ?_)
    · have W := W.1 h
      refine zr_iconst dX10_areOne_36 ?_
      exact zt_zret dX10_areOne_37 rfl (by decide) W
    · have W := W.2 h
      refine zr_iconst dX10_areOne_32 ?_
      refine zr_goto (tgt := 37) dX10_areOne_33 (by decide) ?_
      exact zt_zret dX10_areOne_37 rfl (by decide) W
theorem dX10_saddle_0 : decode cX10_saddle 0 = .ok (.aload_n 0, 1) := by decide +kernel
theorem dX10_saddle_1 : decode cX10_saddle 1 = .ok (.iload_n 1, 1) := by decide +kernel
theorem dX10_saddle_2 : decode cX10_saddle 2 = .ok (.invokevirtual 336, 3) := by decide +kernel
theorem dX10_saddle_5 : decode cX10_saddle 5 = .ok (.ifCond .eq 11, 3) := by decide +kernel
theorem dX10_saddle_8 : decode cX10_saddle 8 = .ok (.aload_n 0, 1) := by decide +kernel
theorem dX10_saddle_9 : decode cX10_saddle 9 = .ok (.iload_n 2, 1) := by decide +kernel
theorem dX10_saddle_10 : decode cX10_saddle 10 = .ok (.invokevirtual 336, 3) := by decide +kernel
theorem dX10_saddle_13 : decode cX10_saddle 13 = .ok (.ifCond .ne 5, 3) := by decide +kernel
theorem dX10_saddle_16 : decode cX10_saddle 16 = .ok (.iconst (-1), 1) := by decide +kernel
theorem dX10_saddle_17 : decode cX10_saddle 17 = .ok (.ireturn, 1) := by decide +kernel
theorem dX10_saddle_18 : decode cX10_saddle 18 = .ok (.aload_n 0, 1) := by decide +kernel
theorem dX10_saddle_19 : decode cX10_saddle 19 = .ok (.getfield 42, 3) := by decide +kernel
theorem dX10_saddle_22 : decode cX10_saddle 22 = .ok (.iload_n 1, 1) := by decide +kernel
theorem dX10_saddle_23 : decode cX10_saddle 23 = .ok (.iaload, 1) := by decide +kernel
theorem dX10_saddle_24 : decode cX10_saddle 24 = .ok (.aload_n 0, 1) := by decide +kernel
theorem dX10_saddle_25 : decode cX10_saddle 25 = .ok (.getfield 42, 3) := by decide +kernel
theorem dX10_saddle_28 : decode cX10_saddle 28 = .ok (.iload_n 2, 1) := by decide +kernel
theorem dX10_saddle_29 : decode cX10_saddle 29 = .ok (.iaload, 1) := by decide +kernel
theorem dX10_saddle_30 : decode cX10_saddle 30 = .ok (.invokestatic 407, 3) := by decide +kernel
theorem dX10_saddle_33 : decode cX10_saddle 33 = .ok (.istore_n 3, 1) := by decide +kernel
theorem dX10_saddle_34 : decode cX10_saddle 34 = .ok (.iload_n 3, 1) := by decide +kernel
theorem dX10_saddle_35 : decode cX10_saddle 35 = .ok (.ifCond .le 19, 3) := by decide +kernel
theorem dX10_saddle_38 : decode cX10_saddle 38 = .ok (.aload_n 0, 1) := by decide +kernel
theorem dX10_saddle_39 : decode cX10_saddle 39 = .ok (.iload_n 3, 1) := by decide +kernel
theorem dX10_saddle_40 : decode cX10_saddle 40 = .ok (.iload_n 1, 1) := by decide +kernel
theorem dX10_saddle_41 : decode cX10_saddle 41 = .ok (.iload_n 2, 1) := by decide +kernel
theorem dX10_saddle_42 : decode cX10_saddle 42 = .ok (.invokevirtual 410, 3) := by decide +kernel
theorem dX10_saddle_45 : decode cX10_saddle 45 = .ok (.ifCond .ne 9, 3) := by decide +kernel
theorem dX10_saddle_48 : decode cX10_saddle 48 = .ok (.iinc 3 (-1), 3) := by decide +kernel
theorem dX10_saddle_51 : decode cX10_saddle 51 = .ok (.goto (-17), 3) := by decide +kernel
theorem dX10_saddle_54 : decode cX10_saddle 54 = .ok (.iload_n 3, 1) := by decide +kernel
theorem dX10_saddle_55 : decode cX10_saddle 55 = .ok (.ireturn, 1) := by decide +kernel
set_option maxRecDepth 100000 in
theorem SX10_saddle_0 {g : zG} {o : Bool} {C R : Int} {M : zM} {q : Int → zM → Prop} {x1 x2 : Int} (W : (zRf M C R) ∧ (-2147483648 ≤ x1 ∧ x1 ≤ 2147483647) ∧ ((¬ (0 ≤ x1 ∧ x1 < C * R)) → q (-1) M) ∧ ((0 ≤ x1 ∧ x1 < C * R) → (-2147483648 ≤ x2 ∧ x2 ≤ 2147483647) ∧ ((0 ≤ x2 ∧ x2 < C * R) → (0 ≤ x1 ∧ x1 < 198) ∧ (0 ≤ x2 ∧ x2 < 198) ∧ (-2147483648 ≤ (M 10 x1) ∧ (M 10 x1) ≤ 2147483647) ∧ (-2147483648 ≤ (M 10 x2) ∧ (M 10 x2) ≤ 2147483647) ∧ zT g (z2 o) mX10_saddle (zQi (z2 o) q) 34 [(0, zA g 1), (1, zI x1), (2, zI x2), (3, zI (min (M 10 x1) (M 10 x2)))] [] M) ∧ ((¬ (0 ≤ x2 ∧ x2 < C * R)) → q (-1) M))) : zT g (z2 o) mX10_saddle (zQi (z2 o) q) 0 [(0, zA g 1), (1, zI x1), (2, zI x2)] [] M := by
  refine zr_aload_n 0 dX10_saddle_0 rfl ?_
  refine zr_iload_n 1 dX10_saddle_1 rfl ?_
  obtain ⟨c1, W⟩ := W
  obtain ⟨c2, W⟩ := W
  refine zt_callVi (As := [zI x1]) (rest := []) dX10_saddle_2 kX10_saddle_336 rfl rfl rfl rfl (Nat.le_of_ble_eq_true rfl) (c_isCell c1 c2) (fun r3 N5 h4 => ?_)
  rw [h4.1, h4.2]
  refine zt_ifeq_b (tgt := 16) dX10_saddle_5 (by decide) (fun h => ?_) (fun h => ?_)
  · have W := W.1 h
    refine zr_iconst dX10_saddle_16 ?_
    exact zt_iret dX10_saddle_17 rfl W
  · have W := W.2 h
    refine zr_aload_n 0 dX10_saddle_8 rfl ?_
    refine zr_iload_n 2 dX10_saddle_9 rfl ?_
    obtain ⟨c6, W⟩ := W
    refine zt_callVi (As := [zI x2]) (rest := []) dX10_saddle_10 kX10_saddle_336 rfl rfl rfl rfl (Nat.le_of_ble_eq_true rfl) (c_isCell c1 c6) (fun r7 N9 h8 => ?_)
    rw [h8.1, h8.2]
    refine zt_ifne_b (tgt := 18) dX10_saddle_13 (by decide) (fun h => ?_) (fun h => ?_)
    · have W := W.1 h
      refine zr_aload_n 0 dX10_saddle_18 rfl ?_
      refine zr_getr (b := 10) dX10_saddle_19 fX10_42 rfl rfl rfl (by decide) ?_
      refine zr_iload_n 1 dX10_saddle_22 rfl ?_
      obtain ⟨c10, W⟩ := W
      refine zr_iald dX10_saddle_23 rfl (by decide) c10 ?_
      refine zr_aload_n 0 dX10_saddle_24 rfl ?_
      refine zr_getr (b := 10) dX10_saddle_25 fX10_42 rfl rfl rfl (by decide) ?_
      refine zr_iload_n 2 dX10_saddle_28 rfl ?_
      obtain ⟨c11, W⟩ := W
      refine zr_iald dX10_saddle_29 rfl (by decide) c11 ?_
      obtain ⟨c12, W⟩ := W
      obtain ⟨c13, W⟩ := W
      refine zt_callSi (As := [zI (M 10 x1), zI (M 10 x2)]) (rest := []) dX10_saddle_30 kX10_saddle_407 rfl rfl (Nat.le_of_ble_eq_true rfl) (c_lesser c12 c13) (fun r14 N16 h15 => ?_)
      rw [h15.1, h15.2]
      refine zr_istore_n (l' := [(0, zA g 1), (1, zI x1), (2, zI x2), (3, zI (min (M 10 x1) (M 10 x2)))]) dX10_saddle_33 (by decide) [1, 2, 3, 0] rfl ?_
      exact W
    · have W := W.2 h
      refine zr_iconst dX10_saddle_16 ?_
      exact zt_iret dX10_saddle_17 rfl W
set_option maxRecDepth 100000 in
theorem SX10_saddle_34 {g : zG} {o : Bool} {M : zM} {q : Int → zM → Prop} {x1 x2 x3 : Int} (W : (-2147483648 ≤ x3 ∧ x3 ≤ 2147483647) ∧ ((x3 ≤ 0) → q x3 M) ∧ ((¬ (x3 ≤ 0)) → ∃ q2 : Int → zM → Prop, zKi g (z2 o) mX10_areOne [zA g 1, zI x3, zI x1, zI x2] M q2 ∧ ∀ (r3 : Int) (M4 : zM), q2 r3 M4 → (-2147483648 ≤ r3 ∧ r3 ≤ 2147483647) ∧ ((r3 ≠ 0) → q x3 M4) ∧ ((r3 = 0) → zT g (z2 o) mX10_saddle (zQi (z2 o) q) 34 [(0, zA g 1), (1, zI x1), (2, zI x2), (3, zI (x3 + (-1)))] [] M4))) : zT g (z2 o) mX10_saddle (zQi (z2 o) q) 34 [(0, zA g 1), (1, zI x1), (2, zI x2), (3, zI x3)] [] M := by
  refine zr_iload_n 3 dX10_saddle_34 rfl ?_
  obtain ⟨c1, W⟩ := W
  refine zr_if_le (tgt := 54) dX10_saddle_35 (by decide) c1 (fun h => ?_) (fun h => ?_)
  · have W := W.1 h
    refine zr_iload_n 3 dX10_saddle_54 rfl ?_
    exact zt_iret dX10_saddle_55 rfl W
  · have W := W.2 h
    refine zr_aload_n 0 dX10_saddle_38 rfl ?_
    refine zr_iload_n 3 dX10_saddle_39 rfl ?_
    refine zr_iload_n 1 dX10_saddle_40 rfl ?_
    refine zr_iload_n 2 dX10_saddle_41 rfl ?_
    obtain ⟨q2, k6, W⟩ := W
    refine zt_callVi (As := [zI x3, zI x1, zI x2]) (rest := []) dX10_saddle_42 kX10_saddle_410 rfl rfl rfl rfl (Nat.le_of_ble_eq_true rfl) k6 (fun r3 M4 h5 => ?_)
    have W := W r3 M4 h5
    obtain ⟨c7, W⟩ := W
    refine zr_if_ne (tgt := 54) dX10_saddle_45 (by decide) c7 (fun h => ?_) (fun h => ?_)
    · have W := W.1 h
      refine zr_iload_n 3 dX10_saddle_54 rfl ?_
      exact zt_iret dX10_saddle_55 rfl W
    · have W := W.2 h
      refine zr_iinc (q := 3) (l' := [(0, zA g 1), (1, zI x1), (2, zI x2), (3, zI (x3 + (-1)))]) dX10_saddle_48 rfl (by decide) [1, 2, 3, 0] rfl ?_
      refine zr_goto (tgt := 34) dX10_saddle_51 (by decide) ?_
      exact W
theorem dX10_laysCrests_0 : decode cX10_laysCrests 0 = .ok (.aload_n 0, 1) := by decide +kernel
theorem dX10_laysCrests_1 : decode cX10_laysCrests 1 = .ok (.invokevirtual 327, 3) := by decide +kernel
theorem dX10_laysCrests_4 : decode cX10_laysCrests 4 = .ok (.iconst 0, 1) := by decide +kernel
theorem dX10_laysCrests_5 : decode cX10_laysCrests 5 = .ok (.istore_n 1, 1) := by decide +kernel
theorem dX10_laysCrests_6 : decode cX10_laysCrests 6 = .ok (.iconst 0, 1) := by decide +kernel
theorem dX10_laysCrests_7 : decode cX10_laysCrests 7 = .ok (.istore_n 2, 1) := by decide +kernel
theorem dX10_laysCrests_8 : decode cX10_laysCrests 8 = .ok (.iload_n 2, 1) := by decide +kernel
theorem dX10_laysCrests_9 : decode cX10_laysCrests 9 = .ok (.aload_n 0, 1) := by decide +kernel
theorem dX10_laysCrests_10 : decode cX10_laysCrests 10 = .ok (.invokevirtual 226, 3) := by decide +kernel
theorem dX10_laysCrests_13 : decode cX10_laysCrests 13 = .ok (.if_icmp .ge 16, 3) := by decide +kernel
theorem dX10_laysCrests_16 : decode cX10_laysCrests 16 = .ok (.aload_n 0, 1) := by decide +kernel
theorem dX10_laysCrests_17 : decode cX10_laysCrests 17 = .ok (.getfield 54, 3) := by decide +kernel
theorem dX10_laysCrests_20 : decode cX10_laysCrests 20 = .ok (.iload_n 2, 1) := by decide +kernel
theorem dX10_laysCrests_21 : decode cX10_laysCrests 21 = .ok (.iconst (-1), 1) := by decide +kernel
theorem dX10_laysCrests_22 : decode cX10_laysCrests 22 = .ok (.iastore, 1) := by decide +kernel
theorem dX10_laysCrests_23 : decode cX10_laysCrests 23 = .ok (.iinc 2 1, 3) := by decide +kernel
theorem dX10_laysCrests_26 : decode cX10_laysCrests 26 = .ok (.goto (-18), 3) := by decide +kernel
theorem dX10_laysCrests_29 : decode cX10_laysCrests 29 = .ok (.iconst 0, 1) := by decide +kernel
theorem dX10_laysCrests_30 : decode cX10_laysCrests 30 = .ok (.istore_n 2, 1) := by decide +kernel
theorem dX10_laysCrests_31 : decode cX10_laysCrests 31 = .ok (.iload_n 2, 1) := by decide +kernel
theorem dX10_laysCrests_32 : decode cX10_laysCrests 32 = .ok (.aload_n 0, 1) := by decide +kernel
theorem dX10_laysCrests_33 : decode cX10_laysCrests 33 = .ok (.invokevirtual 226, 3) := by decide +kernel
theorem dX10_laysCrests_36 : decode cX10_laysCrests 36 = .ok (.if_icmp .ge 145, 3) := by decide +kernel
theorem dX10_laysCrests_39 : decode cX10_laysCrests 39 = .ok (.aload_n 0, 1) := by decide +kernel
theorem dX10_laysCrests_40 : decode cX10_laysCrests 40 = .ok (.iload_n 2, 1) := by decide +kernel
theorem dX10_laysCrests_41 : decode cX10_laysCrests 41 = .ok (.invokevirtual 352, 3) := by decide +kernel
theorem dX10_laysCrests_44 : decode cX10_laysCrests 44 = .ok (.ifCond .eq 131, 3) := by decide +kernel
theorem dX10_laysCrests_47 : decode cX10_laysCrests 47 = .ok (.aload_n 0, 1) := by decide +kernel
theorem dX10_laysCrests_48 : decode cX10_laysCrests 48 = .ok (.getfield 54, 3) := by decide +kernel
theorem dX10_laysCrests_51 : decode cX10_laysCrests 51 = .ok (.iload_n 2, 1) := by decide +kernel
theorem dX10_laysCrests_52 : decode cX10_laysCrests 52 = .ok (.iaload, 1) := by decide +kernel
theorem dX10_laysCrests_53 : decode cX10_laysCrests 53 = .ok (.iconst (-1), 1) := by decide +kernel
theorem dX10_laysCrests_54 : decode cX10_laysCrests 54 = .ok (.if_icmp .eq 6, 3) := by decide +kernel
theorem dX10_laysCrests_57 : decode cX10_laysCrests 57 = .ok (.goto 118, 3) := by decide +kernel
theorem dX10_laysCrests_60 : decode cX10_laysCrests 60 = .ok (.aload_n 0, 1) := by decide +kernel
theorem dX10_laysCrests_61 : decode cX10_laysCrests 61 = .ok (.iconst 0, 1) := by decide +kernel
theorem dX10_laysCrests_62 : decode cX10_laysCrests 62 = .ok (.putfield 387, 3) := by decide +kernel
theorem dX10_laysCrests_65 : decode cX10_laysCrests 65 = .ok (.aload_n 0, 1) := by decide +kernel
theorem dX10_laysCrests_66 : decode cX10_laysCrests 66 = .ok (.iload_n 2, 1) := by decide +kernel
theorem dX10_laysCrests_67 : decode cX10_laysCrests 67 = .ok (.iload_n 1, 1) := by decide +kernel
theorem dX10_laysCrests_68 : decode cX10_laysCrests 68 = .ok (.aload_n 0, 1) := by decide +kernel
theorem dX10_laysCrests_69 : decode cX10_laysCrests 69 = .ok (.getfield 54, 3) := by decide +kernel
theorem dX10_laysCrests_72 : decode cX10_laysCrests 72 = .ok (.invokevirtual 390, 3) := by decide +kernel
theorem dX10_laysCrests_75 : decode cX10_laysCrests 75 = .ok (.iconst 0, 1) := by decide +kernel
theorem dX10_laysCrests_76 : decode cX10_laysCrests 76 = .ok (.istore_n 3, 1) := by decide +kernel
theorem dX10_laysCrests_77 : decode cX10_laysCrests 77 = .ok (.iload_n 3, 1) := by decide +kernel
theorem dX10_laysCrests_78 : decode cX10_laysCrests 78 = .ok (.aload_n 0, 1) := by decide +kernel
theorem dX10_laysCrests_79 : decode cX10_laysCrests 79 = .ok (.getfield 387, 3) := by decide +kernel
theorem dX10_laysCrests_82 : decode cX10_laysCrests 82 = .ok (.if_icmp .ge 90, 3) := by decide +kernel
theorem dX10_laysCrests_85 : decode cX10_laysCrests 85 = .ok (.iconst 0, 1) := by decide +kernel
theorem dX10_laysCrests_86 : decode cX10_laysCrests 86 = .ok (.istore 4, 2) := by decide +kernel
theorem dX10_laysCrests_88 : decode cX10_laysCrests 88 = .ok (.iload 4, 2) := by decide +kernel
theorem dX10_laysCrests_90 : decode cX10_laysCrests 90 = .ok (.bipush 9, 2) := by decide +kernel
theorem dX10_laysCrests_92 : decode cX10_laysCrests 92 = .ok (.if_icmp .ge 74, 3) := by decide +kernel
theorem dX10_laysCrests_95 : decode cX10_laysCrests 95 = .ok (.aload_n 0, 1) := by decide +kernel
theorem dX10_laysCrests_96 : decode cX10_laysCrests 96 = .ok (.aload_n 0, 1) := by decide +kernel
theorem dX10_laysCrests_97 : decode cX10_laysCrests 97 = .ok (.getfield 60, 3) := by decide +kernel
theorem dX10_laysCrests_100 : decode cX10_laysCrests 100 = .ok (.iload_n 3, 1) := by decide +kernel
theorem dX10_laysCrests_101 : decode cX10_laysCrests 101 = .ok (.iaload, 1) := by decide +kernel
theorem dX10_laysCrests_102 : decode cX10_laysCrests 102 = .ok (.iload 4, 2) := by decide +kernel
theorem dX10_laysCrests_104 : decode cX10_laysCrests 104 = .ok (.iconst 3, 1) := by decide +kernel
theorem dX10_laysCrests_105 : decode cX10_laysCrests 105 = .ok (.irem, 1) := by decide +kernel
theorem dX10_laysCrests_106 : decode cX10_laysCrests 106 = .ok (.aload_n 0, 1) := by decide +kernel
theorem dX10_laysCrests_107 : decode cX10_laysCrests 107 = .ok (.invokevirtual 255, 3) := by decide +kernel
theorem dX10_laysCrests_110 : decode cX10_laysCrests 110 = .ok (.iadd, 1) := by decide +kernel
theorem dX10_laysCrests_111 : decode cX10_laysCrests 111 = .ok (.iconst 1, 1) := by decide +kernel
theorem dX10_laysCrests_112 : decode cX10_laysCrests 112 = .ok (.isub, 1) := by decide +kernel
theorem dX10_laysCrests_113 : decode cX10_laysCrests 113 = .ok (.iload 4, 2) := by decide +kernel
theorem dX10_laysCrests_115 : decode cX10_laysCrests 115 = .ok (.iconst 3, 1) := by decide +kernel
theorem dX10_laysCrests_116 : decode cX10_laysCrests 116 = .ok (.idiv, 1) := by decide +kernel
theorem dX10_laysCrests_117 : decode cX10_laysCrests 117 = .ok (.aload_n 0, 1) := by decide +kernel
theorem dX10_laysCrests_118 : decode cX10_laysCrests 118 = .ok (.invokevirtual 258, 3) := by decide +kernel
theorem dX10_laysCrests_121 : decode cX10_laysCrests 121 = .ok (.iadd, 1) := by decide +kernel
theorem dX10_laysCrests_122 : decode cX10_laysCrests 122 = .ok (.iconst 1, 1) := by decide +kernel
theorem dX10_laysCrests_123 : decode cX10_laysCrests 123 = .ok (.isub, 1) := by decide +kernel
theorem dX10_laysCrests_124 : decode cX10_laysCrests 124 = .ok (.invokevirtual 413, 3) := by decide +kernel
theorem dX10_laysCrests_127 : decode cX10_laysCrests 127 = .ok (.istore 5, 2) := by decide +kernel
theorem dX10_laysCrests_129 : decode cX10_laysCrests 129 = .ok (.aload_n 0, 1) := by decide +kernel
theorem dX10_laysCrests_130 : decode cX10_laysCrests 130 = .ok (.iload 5, 2) := by decide +kernel
theorem dX10_laysCrests_132 : decode cX10_laysCrests 132 = .ok (.invokevirtual 352, 3) := by decide +kernel
theorem dX10_laysCrests_135 : decode cX10_laysCrests 135 = .ok (.ifCond .eq 25, 3) := by decide +kernel
theorem dX10_laysCrests_138 : decode cX10_laysCrests 138 = .ok (.aload_n 0, 1) := by decide +kernel
theorem dX10_laysCrests_139 : decode cX10_laysCrests 139 = .ok (.getfield 54, 3) := by decide +kernel
theorem dX10_laysCrests_142 : decode cX10_laysCrests 142 = .ok (.iload 5, 2) := by decide +kernel
theorem dX10_laysCrests_144 : decode cX10_laysCrests 144 = .ok (.iaload, 1) := by decide +kernel
theorem dX10_laysCrests_145 : decode cX10_laysCrests 145 = .ok (.iconst (-1), 1) := by decide +kernel
theorem dX10_laysCrests_146 : decode cX10_laysCrests 146 = .ok (.if_icmp .ne 14, 3) := by decide +kernel
theorem dX10_laysCrests_149 : decode cX10_laysCrests 149 = .ok (.aload_n 0, 1) := by decide +kernel
theorem dX10_laysCrests_150 : decode cX10_laysCrests 150 = .ok (.iload 5, 2) := by decide +kernel
theorem dX10_laysCrests_152 : decode cX10_laysCrests 152 = .ok (.iload_n 1, 1) := by decide +kernel
theorem dX10_laysCrests_153 : decode cX10_laysCrests 153 = .ok (.aload_n 0, 1) := by decide +kernel
theorem dX10_laysCrests_154 : decode cX10_laysCrests 154 = .ok (.getfield 54, 3) := by decide +kernel
theorem dX10_laysCrests_157 : decode cX10_laysCrests 157 = .ok (.invokevirtual 390, 3) := by decide +kernel
theorem dX10_laysCrests_160 : decode cX10_laysCrests 160 = .ok (.iinc 4 1, 3) := by decide +kernel
theorem dX10_laysCrests_163 : decode cX10_laysCrests 163 = .ok (.goto (-75), 3) := by decide +kernel
theorem dX10_laysCrests_166 : decode cX10_laysCrests 166 = .ok (.iinc 3 1, 3) := by decide +kernel
theorem dX10_laysCrests_169 : decode cX10_laysCrests 169 = .ok (.goto (-92), 3) := by decide +kernel
theorem dX10_laysCrests_172 : decode cX10_laysCrests 172 = .ok (.iinc 1 1, 3) := by decide +kernel
theorem dX10_laysCrests_175 : decode cX10_laysCrests 175 = .ok (.iinc 2 1, 3) := by decide +kernel
theorem dX10_laysCrests_178 : decode cX10_laysCrests 178 = .ok (.goto (-147), 3) := by decide +kernel
theorem dX10_laysCrests_181 : decode cX10_laysCrests 181 = .ok (.iload_n 1, 1) := by decide +kernel
theorem dX10_laysCrests_182 : decode cX10_laysCrests 182 = .ok (.ireturn, 1) := by decide +kernel
set_option maxRecDepth 100000 in
theorem SX10_laysCrests_0 {g : zG} {o : Bool} {M : zM} {q : Int → zM → Prop} (W : ∃ q1 : zM → Prop, zKv g (z2 o) mX10_goesOn [zA g 1] M q1 ∧ ∀ M3 : zM, q1 M3 → zT g (z2 o) mX10_laysCrests (zQi (z2 o) q) 8 [(0, zA g 1), (1, zI 0), (2, zI 0)] [] M3) : zT g (z2 o) mX10_laysCrests (zQi (z2 o) q) 0 [(0, zA g 1)] [] M := by
  refine zr_aload_n 0 dX10_laysCrests_0 rfl ?_
  obtain ⟨q1, k5, W⟩ := W
  refine zt_callVv (As := []) (rest := []) dX10_laysCrests_1 kX10_laysCrests_327 rfl rfl rfl rfl (Nat.le_of_ble_eq_true rfl) k5 (fun M3 h4 => ?_)
  have W := W M3 h4
  refine zr_iconst dX10_laysCrests_4 ?_
  refine zr_istore_n (l' := [(0, zA g 1), (1, zI 0)]) dX10_laysCrests_5 (by decide) [1, 0] rfl ?_
  refine zr_iconst dX10_laysCrests_6 ?_
  refine zr_istore_n (l' := [(0, zA g 1), (1, zI 0), (2, zI 0)]) dX10_laysCrests_7 (by decide) [1, 2, 0] rfl ?_
  exact W
set_option maxRecDepth 100000 in
theorem SX10_laysCrests_8 {g : zG} {o : Bool} {C R : Int} {M : zM} {q : Int → zM → Prop} {x1 x2 : Int} (W : (zRf M C R) ∧ (-2147483648 ≤ x2 ∧ x2 ≤ 2147483647) ∧ (-2147483648 ≤ (C * R) ∧ (C * R) ≤ 2147483647) ∧ (((C * R) ≤ x2) → zT g (z2 o) mX10_laysCrests (zQi (z2 o) q) 31 [(0, zA g 1), (1, zI x1), (2, zI 0)] [] M) ∧ ((¬ ((C * R) ≤ x2)) → (0 ≤ x2 ∧ x2 < 96) ∧ zT g (z2 o) mX10_laysCrests (zQi (z2 o) q) 8 [(0, zA g 1), (1, zI x1), (2, zI (x2 + 1))] [] (zu M 13 x2 (-1)))) : zT g (z2 o) mX10_laysCrests (zQi (z2 o) q) 8 [(0, zA g 1), (1, zI x1), (2, zI x2)] [] M := by
  refine zr_iload_n 2 dX10_laysCrests_8 rfl ?_
  refine zr_aload_n 0 dX10_laysCrests_9 rfl ?_
  obtain ⟨c1, W⟩ := W
  refine zt_callVi (As := []) (rest := [zI x2]) dX10_laysCrests_10 kX10_laysCrests_226 rfl rfl rfl rfl (Nat.le_of_ble_eq_true rfl) (c_cells c1) (fun r2 N4 h3 => ?_)
  rw [h3.1, h3.2]
  obtain ⟨c5, W⟩ := W
  obtain ⟨c6, W⟩ := W
  refine zr_icmp_ge (tgt := 29) dX10_laysCrests_13 (by decide) c5 c6 (fun h => ?_) (fun h => ?_)
  · have W := W.1 h
    refine zr_iconst dX10_laysCrests_29 ?_
    refine zr_istore_n (l' := [(0, zA g 1), (1, zI x1), (2, zI 0)]) dX10_laysCrests_30 (by decide) [1, 2, 0] rfl ?_
    exact W
  · have W := W.2 h
    refine zr_aload_n 0 dX10_laysCrests_16 rfl ?_
    refine zr_getr (b := 13) dX10_laysCrests_17 fX10_54 rfl rfl rfl (by decide) ?_
    refine zr_iload_n 2 dX10_laysCrests_20 rfl ?_
    refine zr_iconst dX10_laysCrests_21 ?_
    obtain ⟨c7, W⟩ := W
    refine zr_iast dX10_laysCrests_22 rfl (by decide) c7 ?_
    refine zr_iinc (q := 2) (l' := [(0, zA g 1), (1, zI x1), (2, zI (x2 + 1))]) dX10_laysCrests_23 rfl (by decide) [1, 2, 0] rfl ?_
    refine zr_goto (tgt := 8) dX10_laysCrests_26 (by decide) ?_
    exact W
set_option maxRecDepth 100000 in
theorem SX10_laysCrests_31 {g : zG} {o : Bool} {C R : Int} {M : zM} {q : Int → zM → Prop} {x1 x2 : Int} (W : (zRf M C R) ∧ (-2147483648 ≤ x2 ∧ x2 ≤ 2147483647) ∧ (-2147483648 ≤ (C * R) ∧ (C * R) ≤ 2147483647) ∧ (((C * R) ≤ x2) → q x1 M) ∧ ((¬ ((C * R) ≤ x2)) → (rOk M) ∧ (0 ≤ x2 ∧ x2 < C * R) ∧ ((¬ (crest C R (M 11) x2 (wnr M (M 11 197)))) → zT g (z2 o) mX10_laysCrests (zQi (z2 o) q) 31 [(0, zA g 1), (1, zI x1), (2, zI (x2 + 1))] [] M) ∧ ((crest C R (M 11) x2 (wnr M (M 11 197))) → (0 ≤ x2 ∧ x2 < 96) ∧ (-2147483648 ≤ (M 13 x2) ∧ (M 13 x2) ≤ 2147483647) ∧ (((M 13 x2) = (-1)) → ∃ q14 : zM → Prop, zKv g (z2 o) mX10_piles [zA g 1, zI x2, zI x1, zA g 13] (zu M 1 33 0) q14 ∧ ∀ M16 : zM, q14 M16 → zT g (z2 o) mX10_laysCrests (zQi (z2 o) q) 77 [(0, zA g 1), (1, zI x1), (2, zI x2), (3, zI 0)] [] M16) ∧ ((¬ ((M 13 x2) = (-1))) → zT g (z2 o) mX10_laysCrests (zQi (z2 o) q) 31 [(0, zA g 1), (1, zI x1), (2, zI (x2 + 1))] [] M)))) : zT g (z2 o) mX10_laysCrests (zQi (z2 o) q) 31 [(0, zA g 1), (1, zI x1), (2, zI x2)] [] M := by
  refine zr_iload_n 2 dX10_laysCrests_31 rfl ?_
  refine zr_aload_n 0 dX10_laysCrests_32 rfl ?_
  obtain ⟨c1, W⟩ := W
  refine zt_callVi (As := []) (rest := [zI x2]) dX10_laysCrests_33 kX10_laysCrests_226 rfl rfl rfl rfl (Nat.le_of_ble_eq_true rfl) (c_cells c1) (fun r2 N4 h3 => ?_)
  rw [h3.1, h3.2]
  obtain ⟨c5, W⟩ := W
  obtain ⟨c6, W⟩ := W
  refine zr_icmp_ge (tgt := 181) dX10_laysCrests_36 (by decide) c5 c6 (fun h => ?_) (fun h => ?_)
  · have W := W.1 h
    refine zr_iload_n 1 dX10_laysCrests_181 rfl ?_
    exact zt_iret dX10_laysCrests_182 rfl W
  · have W := W.2 h
    refine zr_aload_n 0 dX10_laysCrests_39 rfl ?_
    refine zr_iload_n 2 dX10_laysCrests_40 rfl ?_
    obtain ⟨c7, W⟩ := W
    obtain ⟨c8, W⟩ := W
    refine zt_callVi (As := [zI x2]) (rest := []) dX10_laysCrests_41 kX10_laysCrests_352 rfl rfl rfl rfl (Nat.le_of_ble_eq_true rfl) (c_isCrest c1 c7 c8) (fun r9 N11 h10 => ?_)
    rw [h10.1, h10.2]
    refine zt_ifeq_b (tgt := 175) dX10_laysCrests_44 (by decide) (fun h => ?_) (fun h => ?_)
    · have W := W.1 h
      refine zr_iinc (q := 2) (l' := [(0, zA g 1), (1, zI x1), (2, zI (x2 + 1))]) dX10_laysCrests_175 rfl (by decide) [1, 2, 0] rfl ?_
      refine zr_goto (tgt := 31) dX10_laysCrests_178 (by decide) ?_
      exact W
    · have W := W.2 h
      refine zr_aload_n 0 dX10_laysCrests_47 rfl ?_
      refine zr_getr (b := 13) dX10_laysCrests_48 fX10_54 rfl rfl rfl (by decide) ?_
      refine zr_iload_n 2 dX10_laysCrests_51 rfl ?_
      obtain ⟨c12, W⟩ := W
      refine zr_iald dX10_laysCrests_52 rfl (by decide) c12 ?_
      refine zr_iconst dX10_laysCrests_53 ?_
      obtain ⟨c13, W⟩ := W
      refine zr_icmp_eq (tgt := 60) dX10_laysCrests_54 (by decide) c13 ⟨by decide, by decide⟩ (fun h => ?_) (fun h => ?_)
      · have W := W.1 h
        refine zr_aload_n 0 dX10_laysCrests_60 rfl ?_
        refine zr_iconst dX10_laysCrests_61 ?_
        refine zt_puti 33 rfl dX10_laysCrests_62 fX10_387 lcX10 ltX10_33 rfl rfl ?_
        refine zr_aload_n 0 dX10_laysCrests_65 rfl ?_
        refine zr_iload_n 2 dX10_laysCrests_66 rfl ?_
        refine zr_iload_n 1 dX10_laysCrests_67 rfl ?_
        refine zr_aload_n 0 dX10_laysCrests_68 rfl ?_
        refine zr_getr (b := 13) dX10_laysCrests_69 fX10_54 rfl rfl rfl (by decide) ?_
        obtain ⟨q14, k18, W⟩ := W
        refine zt_callVv (As := [zI x2, zI x1, zA g 13]) (rest := []) dX10_laysCrests_72 kX10_laysCrests_390 rfl rfl rfl rfl (Nat.le_of_ble_eq_true rfl) k18 (fun M16 h17 => ?_)
        have W := W M16 h17
        refine zr_iconst dX10_laysCrests_75 ?_
        refine zr_istore_n (l' := [(0, zA g 1), (1, zI x1), (2, zI x2), (3, zI 0)]) dX10_laysCrests_76 (by decide) [1, 2, 3, 0] rfl ?_
        exact W
      · have W := W.2 h
        refine zr_goto (tgt := 175) dX10_laysCrests_57 (by decide) ?_
        refine zr_iinc (q := 2) (l' := [(0, zA g 1), (1, zI x1), (2, zI (x2 + 1))]) dX10_laysCrests_175 rfl (by decide) [1, 2, 0] rfl ?_
        refine zr_goto (tgt := 31) dX10_laysCrests_178 (by decide) ?_
        exact W
set_option maxRecDepth 100000 in
theorem SX10_laysCrests_77 {g : zG} {o : Bool} {M : zM} {q : Int → zM → Prop} {x1 x2 x3 : Int} (W : (-2147483648 ≤ x3 ∧ x3 ≤ 2147483647) ∧ (-2147483648 ≤ (M 1 33) ∧ (M 1 33) ≤ 2147483647) ∧ (((M 1 33) ≤ x3) → zT g (z2 o) mX10_laysCrests (zQi (z2 o) q) 31 [(0, zA g 1), (1, zI (x1 + 1)), (2, zI (x2 + 1))] [] M) ∧ ((¬ ((M 1 33) ≤ x3)) → zT g (z2 o) mX10_laysCrests (zQi (z2 o) q) 88 [(0, zA g 1), (1, zI x1), (2, zI x2), (3, zI x3), (4, zI 0)] [] M)) : zT g (z2 o) mX10_laysCrests (zQi (z2 o) q) 77 [(0, zA g 1), (1, zI x1), (2, zI x2), (3, zI x3)] [] M := by
  refine zr_iload_n 3 dX10_laysCrests_77 rfl ?_
  refine zr_aload_n 0 dX10_laysCrests_78 rfl ?_
  refine zt_geti 33 rfl dX10_laysCrests_79 fX10_387 rfl (by decide) ?_
  obtain ⟨c1, W⟩ := W
  obtain ⟨c2, W⟩ := W
  refine zr_icmp_ge (tgt := 172) dX10_laysCrests_82 (by decide) c1 c2 (fun h => ?_) (fun h => ?_)
  · have W := W.1 h
    refine zr_iinc (q := 1) (l' := [(0, zA g 1), (1, zI (x1 + 1)), (2, zI x2)]) dX10_laysCrests_172 rfl (by decide) [1, 0, 2] rfl ?_
    refine zr_iinc (q := 2) (l' := [(0, zA g 1), (1, zI (x1 + 1)), (2, zI (x2 + 1))]) dX10_laysCrests_175 rfl (by decide) [1, 2, 0] rfl ?_
    refine zr_goto (tgt := 31) dX10_laysCrests_178 (by decide) ?_
    exact W
  · have W := W.2 h
    refine zr_iconst dX10_laysCrests_85 ?_
    refine zr_istore (l' := [(0, zA g 1), (1, zI x1), (2, zI x2), (3, zI x3), (4, zI 0)]) dX10_laysCrests_86 (by decide) [1, 2, 3, 4, 0] rfl ?_
    exact W
set_option maxRecDepth 100000 in
theorem SX10_laysCrests_88 {g : zG} {o : Bool} {C R : Int} {M : zM} {q : Int → zM → Prop} {x1 x2 x3 x4 : Int} (W : (-2147483648 ≤ x4 ∧ x4 ≤ 2147483647) ∧ ((9 ≤ x4) → zT g (z2 o) mX10_laysCrests (zQi (z2 o) q) 77 [(0, zA g 1), (1, zI x1), (2, zI x2), (3, zI (x3 + 1))] [] M) ∧ ((¬ (9 ≤ x4)) → (0 ≤ x3 ∧ x3 < 96) ∧ (0 ≤ x4 ∧ x4 ≤ 2147483647) ∧ (zRf M C R) ∧ (0 ≤ (M 15 x3) ∧ (M 15 x3) < C * R) ∧ (0 ≤ (((x4 % 3) + C) - 1) ∧ (((x4 % 3) + C) - 1) ≤ 10000) ∧ (0 ≤ (((x4 / 3) + R) - 1) ∧ (((x4 / 3) + R) - 1) ≤ 10000) ∧ (rOk M) ∧ (0 ≤ (alg C R (alg C R (M 15 x3) 0 (((x4 % 3) + C) - 1)) 1 (((x4 / 3) + R) - 1)) ∧ (alg C R (alg C R (M 15 x3) 0 (((x4 % 3) + C) - 1)) 1 (((x4 / 3) + R) - 1)) < C * R) ∧ ((¬ (crest C R (M 11) (alg C R (alg C R (M 15 x3) 0 (((x4 % 3) + C) - 1)) 1 (((x4 / 3) + R) - 1)) (wnr M (M 11 197)))) → zT g (z2 o) mX10_laysCrests (zQi (z2 o) q) 88 [(0, zA g 1), (1, zI x1), (2, zI x2), (3, zI x3), (4, zI (x4 + 1))] [] M) ∧ ((crest C R (M 11) (alg C R (alg C R (M 15 x3) 0 (((x4 % 3) + C) - 1)) 1 (((x4 / 3) + R) - 1)) (wnr M (M 11 197))) → (0 ≤ (alg C R (alg C R (M 15 x3) 0 (((x4 % 3) + C) - 1)) 1 (((x4 / 3) + R) - 1)) ∧ (alg C R (alg C R (M 15 x3) 0 (((x4 % 3) + C) - 1)) 1 (((x4 / 3) + R) - 1)) < 96) ∧ (-2147483648 ≤ (M 13 (alg C R (alg C R (M 15 x3) 0 (((x4 % 3) + C) - 1)) 1 (((x4 / 3) + R) - 1))) ∧ (M 13 (alg C R (alg C R (M 15 x3) 0 (((x4 % 3) + C) - 1)) 1 (((x4 / 3) + R) - 1))) ≤ 2147483647) ∧ (((M 13 (alg C R (alg C R (M 15 x3) 0 (((x4 % 3) + C) - 1)) 1 (((x4 / 3) + R) - 1))) ≠ (-1)) → zT g (z2 o) mX10_laysCrests (zQi (z2 o) q) 88 [(0, zA g 1), (1, zI x1), (2, zI x2), (3, zI x3), (4, zI (x4 + 1))] [] M) ∧ (((M 13 (alg C R (alg C R (M 15 x3) 0 (((x4 % 3) + C) - 1)) 1 (((x4 / 3) + R) - 1))) = (-1)) → ∃ q24 : zM → Prop, zKv g (z2 o) mX10_piles [zA g 1, zI (alg C R (alg C R (M 15 x3) 0 (((x4 % 3) + C) - 1)) 1 (((x4 / 3) + R) - 1)), zI x1, zA g 13] M q24 ∧ ∀ M26 : zM, q24 M26 → zT g (z2 o) mX10_laysCrests (zQi (z2 o) q) 88 [(0, zA g 1), (1, zI x1), (2, zI x2), (3, zI x3), (4, zI (x4 + 1))] [] M26)))) : zT g (z2 o) mX10_laysCrests (zQi (z2 o) q) 88 [(0, zA g 1), (1, zI x1), (2, zI x2), (3, zI x3), (4, zI x4)] [] M := by
  refine zr_iload 4 dX10_laysCrests_88 rfl ?_
  refine zr_bipush dX10_laysCrests_90 (by decide) ?_
  obtain ⟨c1, W⟩ := W
  refine zr_icmp_ge (tgt := 166) dX10_laysCrests_92 (by decide) c1 ⟨by decide, by decide⟩ (fun h => ?_) (fun h => ?_)
  · have W := W.1 h
    refine zr_iinc (q := 3) (l' := [(0, zA g 1), (1, zI x1), (2, zI x2), (3, zI (x3 + 1))]) dX10_laysCrests_166 rfl (by decide) [1, 2, 3, 0] rfl ?_
    refine zr_goto (tgt := 77) dX10_laysCrests_169 (by decide) ?_
    exact W
  · have W := W.2 h
    refine zr_aload_n 0 dX10_laysCrests_95 rfl ?_
    refine zr_aload_n 0 dX10_laysCrests_96 rfl ?_
    refine zr_getr (b := 15) dX10_laysCrests_97 fX10_60 rfl rfl rfl (by decide) ?_
    refine zr_iload_n 3 dX10_laysCrests_100 rfl ?_
    obtain ⟨c2, W⟩ := W
    refine zr_iald dX10_laysCrests_101 rfl (by decide) c2 ?_
    refine zr_iload 4 dX10_laysCrests_102 rfl ?_
    refine zr_iconst dX10_laysCrests_104 ?_
    obtain ⟨c3, W⟩ := W
    refine zr_irem dX10_laysCrests_105 c3 ⟨by decide, by decide⟩ ?_
    refine zr_aload_n 0 dX10_laysCrests_106 rfl ?_
    obtain ⟨c4, W⟩ := W
    refine zt_callVi (As := []) (rest := [zI (x4 % 3), zI (M 15 x3), zA g 1]) dX10_laysCrests_107 kX10_laysCrests_255 rfl rfl rfl rfl (Nat.le_of_ble_eq_true rfl) (c_columnsC c4) (fun r5 N7 h6 => ?_)
    rw [h6.1, h6.2]
    refine zr_iadd dX10_laysCrests_110 ?_
    refine zr_iconst dX10_laysCrests_111 ?_
    refine zr_isub dX10_laysCrests_112 ?_
    refine zr_iload 4 dX10_laysCrests_113 rfl ?_
    refine zr_iconst dX10_laysCrests_115 ?_
    refine zr_idiv dX10_laysCrests_116 c3 ⟨by decide, by decide⟩ ?_
    refine zr_aload_n 0 dX10_laysCrests_117 rfl ?_
    refine zt_callVi (As := []) (rest := [zI (x4 / 3), zI (((x4 % 3) + C) - 1), zI (M 15 x3), zA g 1]) dX10_laysCrests_118 kX10_laysCrests_258 rfl rfl rfl rfl (Nat.le_of_ble_eq_true rfl) (c_rowsR c4) (fun r8 N10 h9 => ?_)
    rw [h9.1, h9.2]
    refine zr_iadd dX10_laysCrests_121 ?_
    refine zr_iconst dX10_laysCrests_122 ?_
    refine zr_isub dX10_laysCrests_123 ?_
    obtain ⟨c11, W⟩ := W
    obtain ⟨c12, W⟩ := W
    obtain ⟨c13, W⟩ := W
    refine zt_callVi (As := [zI (M 15 x3), zI (((x4 % 3) + C) - 1), zI (((x4 / 3) + R) - 1)]) (rest := []) dX10_laysCrests_124 kX10_laysCrests_413 rfl rfl rfl rfl (Nat.le_of_ble_eq_true rfl) (c_sidled c4 c11 c12 c13) (fun r14 N16 h15 => ?_)
    rw [h15.1, h15.2]
    refine zr_istore (l' := [(0, zA g 1), (1, zI x1), (2, zI x2), (3, zI x3), (4, zI x4), (5, zI (alg C R (alg C R (M 15 x3) 0 (((x4 % 3) + C) - 1)) 1 (((x4 / 3) + R) - 1)))]) dX10_laysCrests_127 (by decide) [1, 2, 3, 4, 5, 0] rfl ?_
    refine zr_aload_n 0 dX10_laysCrests_129 rfl ?_
    refine zr_iload 5 dX10_laysCrests_130 rfl ?_
    obtain ⟨c17, W⟩ := W
    obtain ⟨c18, W⟩ := W
    refine zt_callVi (As := [zI (alg C R (alg C R (M 15 x3) 0 (((x4 % 3) + C) - 1)) 1 (((x4 / 3) + R) - 1))]) (rest := []) dX10_laysCrests_132 kX10_laysCrests_352 rfl rfl rfl rfl (Nat.le_of_ble_eq_true rfl) (c_isCrest c4 c17 c18) (fun r19 N21 h20 => ?_)
    rw [h20.1, h20.2]
    refine zt_ifeq_b (tgt := 160) dX10_laysCrests_135 (by decide) (fun h => ?_) (fun h => ?_)
    · have W := W.1 h
      refine zr_iinc (q := 4) (l' := [(0, zA g 1), (1, zI x1), (2, zI x2), (3, zI x3), (4, zI (x4 + 1))]) dX10_laysCrests_160 rfl (by decide) [1, 2, 3, 4, 0] rfl ?_
      refine zr_goto (tgt := 88) dX10_laysCrests_163 (by decide) ?_
      exact W
    · have W := W.2 h
      refine zr_aload_n 0 dX10_laysCrests_138 rfl ?_
      refine zr_getr (b := 13) dX10_laysCrests_139 fX10_54 rfl rfl rfl (by decide) ?_
      refine zr_iload 5 dX10_laysCrests_142 rfl ?_
      obtain ⟨c22, W⟩ := W
      refine zr_iald dX10_laysCrests_144 rfl (by decide) c22 ?_
      refine zr_iconst dX10_laysCrests_145 ?_
      obtain ⟨c23, W⟩ := W
      refine zr_icmp_ne (tgt := 160) dX10_laysCrests_146 (by decide) c23 ⟨by decide, by decide⟩ (fun h => ?_) (fun h => ?_)
      · have W := W.1 h
        refine zr_iinc (q := 4) (l' := [(0, zA g 1), (1, zI x1), (2, zI x2), (3, zI x3), (4, zI (x4 + 1))]) dX10_laysCrests_160 rfl (by decide) [1, 2, 3, 4, 0] rfl ?_
        refine zr_goto (tgt := 88) dX10_laysCrests_163 (by decide) ?_
        exact W
      · have W := W.2 h
        refine zr_aload_n 0 dX10_laysCrests_149 rfl ?_
        refine zr_iload 5 dX10_laysCrests_150 rfl ?_
        refine zr_iload_n 1 dX10_laysCrests_152 rfl ?_
        refine zr_aload_n 0 dX10_laysCrests_153 rfl ?_
        refine zr_getr (b := 13) dX10_laysCrests_154 fX10_54 rfl rfl rfl (by decide) ?_
        obtain ⟨q24, k28, W⟩ := W
        refine zt_callVv (As := [zI (alg C R (alg C R (M 15 x3) 0 (((x4 % 3) + C) - 1)) 1 (((x4 / 3) + R) - 1)), zI x1, zA g 13]) (rest := []) dX10_laysCrests_157 kX10_laysCrests_390 rfl rfl rfl rfl (Nat.le_of_ble_eq_true rfl) k28 (fun M26 h27 => ?_)
        have W := W M26 h27
        refine zr_iinc (q := 4) (l' := [(0, zA g 1), (1, zI x1), (2, zI x2), (3, zI x3), (4, zI (x4 + 1))]) dX10_laysCrests_160 rfl (by decide) [1, 2, 3, 4, 0] rfl ?_
        refine zr_goto (tgt := 88) dX10_laysCrests_163 (by decide) ?_
        exact W
theorem dX10_crests_0 : decode cX10_crests 0 = .ok (.iload_n 1, 1) := by decide +kernel
theorem dX10_crests_1 : decode cX10_crests 1 = .ok (.iconst 0, 1) := by decide +kernel
theorem dX10_crests_2 : decode cX10_crests 2 = .ok (.iconst 2, 1) := by decide +kernel
theorem dX10_crests_3 : decode cX10_crests 3 = .ok (.invokestatic 106, 3) := by decide +kernel
theorem dX10_crests_6 : decode cX10_crests 6 = .ok (.ifCond .ne 5, 3) := by decide +kernel
theorem dX10_crests_9 : decode cX10_crests 9 = .ok (.iconst (-1), 1) := by decide +kernel
theorem dX10_crests_10 : decode cX10_crests 10 = .ok (.ireturn, 1) := by decide +kernel
theorem dX10_crests_11 : decode cX10_crests 11 = .ok (.aload_n 0, 1) := by decide +kernel
theorem dX10_crests_12 : decode cX10_crests 12 = .ok (.invokevirtual 416, 3) := by decide +kernel
theorem dX10_crests_15 : decode cX10_crests 15 = .ok (.istore_n 2, 1) := by decide +kernel
theorem dX10_crests_16 : decode cX10_crests 16 = .ok (.iload_n 1, 1) := by decide +kernel
theorem dX10_crests_17 : decode cX10_crests 17 = .ok (.ifCond .ne 5, 3) := by decide +kernel
theorem dX10_crests_20 : decode cX10_crests 20 = .ok (.iload_n 2, 1) := by decide +kernel
theorem dX10_crests_21 : decode cX10_crests 21 = .ok (.ireturn, 1) := by decide +kernel
theorem dX10_crests_22 : decode cX10_crests 22 = .ok (.iconst 0, 1) := by decide +kernel
theorem dX10_crests_23 : decode cX10_crests 23 = .ok (.istore_n 3, 1) := by decide +kernel
theorem dX10_crests_24 : decode cX10_crests 24 = .ok (.iconst (-1), 1) := by decide +kernel
theorem dX10_crests_25 : decode cX10_crests 25 = .ok (.istore 4, 2) := by decide +kernel
theorem dX10_crests_27 : decode cX10_crests 27 = .ok (.iconst 0, 1) := by decide +kernel
theorem dX10_crests_28 : decode cX10_crests 28 = .ok (.istore 5, 2) := by decide +kernel
theorem dX10_crests_30 : decode cX10_crests 30 = .ok (.iload 5, 2) := by decide +kernel
theorem dX10_crests_32 : decode cX10_crests 32 = .ok (.iload_n 2, 1) := by decide +kernel
theorem dX10_crests_33 : decode cX10_crests 33 = .ok (.if_icmp .ge 72, 3) := by decide +kernel
theorem dX10_crests_36 : decode cX10_crests 36 = .ok (.iconst 0, 1) := by decide +kernel
theorem dX10_crests_37 : decode cX10_crests 37 = .ok (.istore 6, 2) := by decide +kernel
theorem dX10_crests_39 : decode cX10_crests 39 = .ok (.iconst (-1), 1) := by decide +kernel
theorem dX10_crests_40 : decode cX10_crests 40 = .ok (.istore 7, 2) := by decide +kernel
theorem dX10_crests_42 : decode cX10_crests 42 = .ok (.aload_n 0, 1) := by decide +kernel
theorem dX10_crests_43 : decode cX10_crests 43 = .ok (.invokevirtual 226, 3) := by decide +kernel
theorem dX10_crests_46 : decode cX10_crests 46 = .ok (.iconst 1, 1) := by decide +kernel
theorem dX10_crests_47 : decode cX10_crests 47 = .ok (.isub, 1) := by decide +kernel
theorem dX10_crests_48 : decode cX10_crests 48 = .ok (.istore 8, 2) := by decide +kernel
theorem dX10_crests_50 : decode cX10_crests 50 = .ok (.iload 8, 2) := by decide +kernel
theorem dX10_crests_52 : decode cX10_crests 52 = .ok (.ifCond .lt 31, 3) := by decide +kernel
theorem dX10_crests_55 : decode cX10_crests 55 = .ok (.aload_n 0, 1) := by decide +kernel
theorem dX10_crests_56 : decode cX10_crests 56 = .ok (.getfield 54, 3) := by decide +kernel
theorem dX10_crests_59 : decode cX10_crests 59 = .ok (.iload 8, 2) := by decide +kernel
theorem dX10_crests_61 : decode cX10_crests 61 = .ok (.iaload, 1) := by decide +kernel
theorem dX10_crests_62 : decode cX10_crests 62 = .ok (.iload 5, 2) := by decide +kernel
theorem dX10_crests_64 : decode cX10_crests 64 = .ok (.if_icmp .eq 6, 3) := by decide +kernel
theorem dX10_crests_67 : decode cX10_crests 67 = .ok (.goto 10, 3) := by decide +kernel
theorem dX10_crests_70 : decode cX10_crests 70 = .ok (.iinc 6 1, 3) := by decide +kernel
theorem dX10_crests_73 : decode cX10_crests 73 = .ok (.iload 8, 2) := by decide +kernel
theorem dX10_crests_75 : decode cX10_crests 75 = .ok (.istore 7, 2) := by decide +kernel
theorem dX10_crests_77 : decode cX10_crests 77 = .ok (.iinc 8 (-1), 3) := by decide +kernel
theorem dX10_crests_80 : decode cX10_crests 80 = .ok (.goto (-30), 3) := by decide +kernel
theorem dX10_crests_83 : decode cX10_crests 83 = .ok (.iload 6, 2) := by decide +kernel
theorem dX10_crests_85 : decode cX10_crests 85 = .ok (.iload_n 3, 1) := by decide +kernel
theorem dX10_crests_86 : decode cX10_crests 86 = .ok (.if_icmp .gt 6, 3) := by decide +kernel
theorem dX10_crests_89 : decode cX10_crests 89 = .ok (.goto 10, 3) := by decide +kernel
theorem dX10_crests_92 : decode cX10_crests 92 = .ok (.iload 6, 2) := by decide +kernel
theorem dX10_crests_94 : decode cX10_crests 94 = .ok (.istore_n 3, 1) := by decide +kernel
theorem dX10_crests_95 : decode cX10_crests 95 = .ok (.iload 7, 2) := by decide +kernel
theorem dX10_crests_97 : decode cX10_crests 97 = .ok (.istore 4, 2) := by decide +kernel
theorem dX10_crests_99 : decode cX10_crests 99 = .ok (.iinc 5 1, 3) := by decide +kernel
theorem dX10_crests_102 : decode cX10_crests 102 = .ok (.goto (-72), 3) := by decide +kernel
theorem dX10_crests_105 : decode cX10_crests 105 = .ok (.iload_n 1, 1) := by decide +kernel
theorem dX10_crests_106 : decode cX10_crests 106 = .ok (.iconst 1, 1) := by decide +kernel
theorem dX10_crests_107 : decode cX10_crests 107 = .ok (.if_icmp .ne 7, 3) := by decide +kernel
theorem dX10_crests_110 : decode cX10_crests 110 = .ok (.iload_n 3, 1) := by decide +kernel
theorem dX10_crests_111 : decode cX10_crests 111 = .ok (.goto 5, 3) := by decide +kernel
theorem dX10_crests_114 : decode cX10_crests 114 = .ok (.iload 4, 2) := by decide +kernel
theorem dX10_crests_116 : decode cX10_crests 116 = .ok (.ireturn, 1) := by decide +kernel
set_option maxRecDepth 100000 in
theorem SX10_crests_0 {g : zG} {o : Bool} {M : zM} {q : Int → zM → Prop} {x1 : Int} (W : (-2147483648 ≤ x1 ∧ x1 ≤ 2147483647) ∧ ((0 ≤ x1 ∧ x1 ≤ 2) → ∃ q5 : Int → zM → Prop, zKi g (z2 o) mX10_laysCrests [zA g 1] M q5 ∧ ∀ (r6 : Int) (M7 : zM), q5 r6 M7 → (-2147483648 ≤ x1 ∧ x1 ≤ 2147483647) ∧ ((x1 ≠ 0) → zT g (z2 o) mX10_crests (zQi (z2 o) q) 30 [(0, zA g 1), (1, zI x1), (2, zI r6), (3, zI 0), (4, zI (-1)), (5, zI 0)] [] M7) ∧ ((x1 = 0) → q r6 M7)) ∧ ((¬ (0 ≤ x1 ∧ x1 ≤ 2)) → q (-1) M)) : zT g (z2 o) mX10_crests (zQi (z2 o) q) 0 [(0, zA g 1), (1, zI x1)] [] M := by
  refine zr_iload_n 1 dX10_crests_0 rfl ?_
  refine zr_iconst dX10_crests_1 ?_
  refine zr_iconst dX10_crests_2 ?_
  obtain ⟨c1, W⟩ := W
  refine zt_callSi (As := [zI x1, zI 0, zI 2]) (rest := []) dX10_crests_3 kX10_crests_106 rfl rfl (Nat.le_of_ble_eq_true rfl) (c_isIn c1 ⟨by decide, by decide⟩ ⟨by decide, by decide⟩) (fun r2 N4 h3 => ?_)
  rw [h3.1, h3.2]
  refine zt_ifne_b (tgt := 11) dX10_crests_6 (by decide) (fun h => ?_) (fun h => ?_)
  · have W := W.1 h
    refine zr_aload_n 0 dX10_crests_11 rfl ?_
    obtain ⟨q5, k9, W⟩ := W
    refine zt_callVi (As := []) (rest := []) dX10_crests_12 kX10_crests_416 rfl rfl rfl rfl (Nat.le_of_ble_eq_true rfl) k9 (fun r6 M7 h8 => ?_)
    have W := W r6 M7 h8
    refine zr_istore_n (l' := [(0, zA g 1), (1, zI x1), (2, zI r6)]) dX10_crests_15 (by decide) [1, 2, 0] rfl ?_
    refine zr_iload_n 1 dX10_crests_16 rfl ?_
    obtain ⟨c10, W⟩ := W
    refine zr_if_ne (tgt := 22) dX10_crests_17 (by decide) c10 (fun h => ?_) (fun h => ?_)
    · have W := W.1 h
      refine zr_iconst dX10_crests_22 ?_
      refine zr_istore_n (l' := [(0, zA g 1), (1, zI x1), (2, zI r6), (3, zI 0)]) dX10_crests_23 (by decide) [1, 2, 3, 0] rfl ?_
      refine zr_iconst dX10_crests_24 ?_
      refine zr_istore (l' := [(0, zA g 1), (1, zI x1), (2, zI r6), (3, zI 0), (4, zI (-1))]) dX10_crests_25 (by decide) [1, 2, 3, 4, 0] rfl ?_
      refine zr_iconst dX10_crests_27 ?_
      refine zr_istore (l' := [(0, zA g 1), (1, zI x1), (2, zI r6), (3, zI 0), (4, zI (-1)), (5, zI 0)]) dX10_crests_28 (by decide) [1, 2, 3, 4, 5, 0] rfl ?_
      exact W
    · have W := W.2 h
      refine zr_iload_n 2 dX10_crests_20 rfl ?_
      exact zt_iret dX10_crests_21 rfl W
  · have W := W.2 h
    refine zr_iconst dX10_crests_9 ?_
    exact zt_iret dX10_crests_10 rfl W
set_option maxRecDepth 100000 in
theorem SX10_crests_30 {g : zG} {o : Bool} {C R : Int} {M : zM} {q : Int → zM → Prop} {x1 x2 x3 x4 x5 : Int} (W : (-2147483648 ≤ x5 ∧ x5 ≤ 2147483647) ∧ (-2147483648 ≤ x2 ∧ x2 ≤ 2147483647) ∧ ((x2 ≤ x5) → (-2147483648 ≤ x1 ∧ x1 ≤ 2147483647) ∧ ((x1 ≠ 1) → q x4 M) ∧ ((x1 = 1) → q x3 M)) ∧ ((¬ (x2 ≤ x5)) → (zRf M C R) ∧ zT g (z2 o) mX10_crests (zQi (z2 o) q) 50 [(0, zA g 1), (1, zI x1), (2, zI x2), (3, zI x3), (4, zI x4), (5, zI x5), (6, zI 0), (7, zI (-1)), (8, zI ((C * R) - 1))] [] M)) : zT g (z2 o) mX10_crests (zQi (z2 o) q) 30 [(0, zA g 1), (1, zI x1), (2, zI x2), (3, zI x3), (4, zI x4), (5, zI x5)] [] M := by
  refine zr_iload 5 dX10_crests_30 rfl ?_
  refine zr_iload_n 2 dX10_crests_32 rfl ?_
  obtain ⟨c1, W⟩ := W
  obtain ⟨c2, W⟩ := W
  refine zr_icmp_ge (tgt := 105) dX10_crests_33 (by decide) c1 c2 (fun h => ?_) (fun h => ?_)
  · have W := W.1 h
    refine zr_iload_n 1 dX10_crests_105 rfl ?_
    refine zr_iconst dX10_crests_106 ?_
    obtain ⟨c3, W⟩ := W
    refine zr_icmp_ne (tgt := 114) dX10_crests_107 (by decide) c3 ⟨by decide, by decide⟩ (fun h => ?_) (fun h => ?_)
    · have W := W.1 h
      refine zr_iload 4 dX10_crests_114 rfl ?_
      exact zt_iret dX10_crests_116 rfl W
    · have W := W.2 h
      refine zr_iload_n 3 dX10_crests_110 rfl ?_
      refine zr_goto (tgt := 116) dX10_crests_111 (by decide) ?_
      exact zt_iret dX10_crests_116 rfl W
  · have W := W.2 h
    refine zr_iconst dX10_crests_36 ?_
    refine zr_istore (l' := [(0, zA g 1), (1, zI x1), (2, zI x2), (3, zI x3), (4, zI x4), (5, zI x5), (6, zI 0)]) dX10_crests_37 (by decide) [1, 2, 3, 4, 5, 6, 0] rfl ?_
    refine zr_iconst dX10_crests_39 ?_
    refine zr_istore (l' := [(0, zA g 1), (1, zI x1), (2, zI x2), (3, zI x3), (4, zI x4), (5, zI x5), (6, zI 0), (7, zI (-1))]) dX10_crests_40 (by decide) [1, 2, 3, 4, 5, 6, 7, 0] rfl ?_
    refine zr_aload_n 0 dX10_crests_42 rfl ?_
    obtain ⟨c4, W⟩ := W
    refine zt_callVi (As := []) (rest := []) dX10_crests_43 kX10_crests_226 rfl rfl rfl rfl (Nat.le_of_ble_eq_true rfl) (c_cells c4) (fun r5 N7 h6 => ?_)
    rw [h6.1, h6.2]
    refine zr_iconst dX10_crests_46 ?_
    refine zr_isub dX10_crests_47 ?_
    refine zr_istore (l' := [(0, zA g 1), (1, zI x1), (2, zI x2), (3, zI x3), (4, zI x4), (5, zI x5), (6, zI 0), (7, zI (-1)), (8, zI ((C * R) - 1))]) dX10_crests_48 (by decide) [1, 2, 3, 4, 5, 6, 7, 8, 0] rfl ?_
    exact W
set_option maxRecDepth 100000 in
theorem SX10_crests_50 {g : zG} {o : Bool} {M : zM} {q : Int → zM → Prop} {x1 x2 x3 x4 x5 x6 x7 x8 : Int} (W : (-2147483648 ≤ x8 ∧ x8 ≤ 2147483647) ∧ ((x8 < 0) → (-2147483648 ≤ x6 ∧ x6 ≤ 2147483647) ∧ (-2147483648 ≤ x3 ∧ x3 ≤ 2147483647) ∧ ((x3 < x6) → zT g (z2 o) mX10_crests (zQi (z2 o) q) 30 [(0, zA g 1), (1, zI x1), (2, zI x2), (3, zI x6), (4, zI x7), (5, zI (x5 + 1))] [] M) ∧ ((¬ (x3 < x6)) → zT g (z2 o) mX10_crests (zQi (z2 o) q) 30 [(0, zA g 1), (1, zI x1), (2, zI x2), (3, zI x3), (4, zI x4), (5, zI (x5 + 1))] [] M)) ∧ ((¬ (x8 < 0)) → (0 ≤ x8 ∧ x8 < 96) ∧ (-2147483648 ≤ (M 13 x8) ∧ (M 13 x8) ≤ 2147483647) ∧ (-2147483648 ≤ x5 ∧ x5 ≤ 2147483647) ∧ (((M 13 x8) = x5) → zT g (z2 o) mX10_crests (zQi (z2 o) q) 50 [(0, zA g 1), (1, zI x1), (2, zI x2), (3, zI x3), (4, zI x4), (5, zI x5), (6, zI (x6 + 1)), (7, zI x8), (8, zI (x8 + (-1)))] [] M) ∧ ((¬ ((M 13 x8) = x5)) → zT g (z2 o) mX10_crests (zQi (z2 o) q) 50 [(0, zA g 1), (1, zI x1), (2, zI x2), (3, zI x3), (4, zI x4), (5, zI x5), (6, zI x6), (7, zI x7), (8, zI (x8 + (-1)))] [] M))) : zT g (z2 o) mX10_crests (zQi (z2 o) q) 50 [(0, zA g 1), (1, zI x1), (2, zI x2), (3, zI x3), (4, zI x4), (5, zI x5), (6, zI x6), (7, zI x7), (8, zI x8)] [] M := by
  refine zr_iload 8 dX10_crests_50 rfl ?_
  obtain ⟨c1, W⟩ := W
  refine zr_if_lt (tgt := 83) dX10_crests_52 (by decide) c1 (fun h => ?_) (fun h => ?_)
  · have W := W.1 h
    refine zr_iload 6 dX10_crests_83 rfl ?_
    refine zr_iload_n 3 dX10_crests_85 rfl ?_
    obtain ⟨c2, W⟩ := W
    obtain ⟨c3, W⟩ := W
    refine zr_icmp_gt (tgt := 92) dX10_crests_86 (by decide) c2 c3 (fun h => ?_) (fun h => ?_)
    · have W := W.1 h
      refine zr_iload 6 dX10_crests_92 rfl ?_
      refine zr_istore_n (l' := [(0, zA g 1), (1, zI x1), (2, zI x2), (3, zI x6), (5, zI x5), (7, zI x7)]) dX10_crests_94 (by decide) [1, 2, 3, 0, 5, 7] rfl ?_
      refine zr_iload 5 dX10_crests_95 rfl ?_
      refine zr_istore (l' := [(0, zA g 1), (1, zI x1), (2, zI x2), (3, zI x6), (4, zI x7), (5, zI x5)]) dX10_crests_97 (by decide) [1, 2, 3, 4, 0, 5] rfl ?_
      refine zr_iinc (q := 5) (l' := [(0, zA g 1), (1, zI x1), (2, zI x2), (3, zI x6), (4, zI x7), (5, zI (x5 + 1))]) dX10_crests_99 rfl (by decide) [1, 2, 3, 4, 5, 0] rfl ?_
      refine zr_goto (tgt := 30) dX10_crests_102 (by decide) ?_
      exact W
    · have W := W.2 h
      refine zr_goto (tgt := 99) dX10_crests_89 (by decide) ?_
      refine zr_iinc (q := 5) (l' := [(0, zA g 1), (1, zI x1), (2, zI x2), (3, zI x3), (4, zI x4), (5, zI (x5 + 1))]) dX10_crests_99 rfl (by decide) [1, 2, 3, 4, 5, 0] rfl ?_
      refine zr_goto (tgt := 30) dX10_crests_102 (by decide) ?_
      exact W
  · have W := W.2 h
    refine zr_aload_n 0 dX10_crests_55 rfl ?_
    refine zr_getr (b := 13) dX10_crests_56 fX10_54 rfl rfl rfl (by decide) ?_
    refine zr_iload 8 dX10_crests_59 rfl ?_
    obtain ⟨c4, W⟩ := W
    refine zr_iald dX10_crests_61 rfl (by decide) c4 ?_
    refine zr_iload 5 dX10_crests_62 rfl ?_
    obtain ⟨c5, W⟩ := W
    obtain ⟨c6, W⟩ := W
    refine zr_icmp_eq (tgt := 70) dX10_crests_64 (by decide) c5 c6 (fun h => ?_) (fun h => ?_)
    · have W := W.1 h
      refine zr_iinc (q := 6) (l' := [(0, zA g 1), (1, zI x1), (2, zI x2), (3, zI x3), (4, zI x4), (5, zI x5), (6, zI (x6 + 1)), (8, zI x8)]) dX10_crests_70 rfl (by decide) [1, 2, 3, 4, 5, 6, 0, 8] rfl ?_
      refine zr_iload 7 dX10_crests_73 rfl ?_
      refine zr_istore (l' := [(0, zA g 1), (1, zI x1), (2, zI x2), (3, zI x3), (4, zI x4), (5, zI x5), (6, zI (x6 + 1)), (7, zI x8), (8, zI x8)]) dX10_crests_75 (by decide) [1, 2, 3, 4, 5, 6, 7, 0, 8] rfl ?_
      refine zr_iinc (q := 8) (l' := [(0, zA g 1), (1, zI x1), (2, zI x2), (3, zI x3), (4, zI x4), (5, zI x5), (6, zI (x6 + 1)), (7, zI x8), (8, zI (x8 + (-1)))]) dX10_crests_77 rfl (by decide) [1, 2, 3, 4, 5, 6, 7, 8, 0] rfl ?_
      refine zr_goto (tgt := 50) dX10_crests_80 (by decide) ?_
      exact W
    · have W := W.2 h
      refine zr_goto (tgt := 77) dX10_crests_67 (by decide) ?_
      refine zr_iinc (q := 8) (l' := [(0, zA g 1), (1, zI x1), (2, zI x2), (3, zI x3), (4, zI x4), (5, zI x5), (6, zI x6), (7, zI x7), (8, zI (x8 + (-1)))]) dX10_crests_77 rfl (by decide) [1, 2, 3, 4, 5, 6, 7, 8, 0] rfl ?_
      refine zr_goto (tgt := 50) dX10_crests_80 (by decide) ?_
      exact W
theorem dX10_inCommon_0 : decode cX10_inCommon 0 = .ok (.iconst 0, 1) := by decide +kernel
theorem dX10_inCommon_1 : decode cX10_inCommon 1 = .ok (.istore_n 3, 1) := by decide +kernel
theorem dX10_inCommon_2 : decode cX10_inCommon 2 = .ok (.iconst 0, 1) := by decide +kernel
theorem dX10_inCommon_3 : decode cX10_inCommon 3 = .ok (.istore 4, 2) := by decide +kernel
theorem dX10_inCommon_5 : decode cX10_inCommon 5 = .ok (.iload 4, 2) := by decide +kernel
theorem dX10_inCommon_7 : decode cX10_inCommon 7 = .ok (.aload_n 0, 1) := by decide +kernel
theorem dX10_inCommon_8 : decode cX10_inCommon 8 = .ok (.invokevirtual 226, 3) := by decide +kernel
theorem dX10_inCommon_11 : decode cX10_inCommon 11 = .ok (.if_icmp .ge 42, 3) := by decide +kernel
theorem dX10_inCommon_14 : decode cX10_inCommon 14 = .ok (.iload_n 3, 1) := by decide +kernel
theorem dX10_inCommon_15 : decode cX10_inCommon 15 = .ok (.aload_n 0, 1) := by decide +kernel
theorem dX10_inCommon_16 : decode cX10_inCommon 16 = .ok (.getfield 54, 3) := by decide +kernel
theorem dX10_inCommon_19 : decode cX10_inCommon 19 = .ok (.iload 4, 2) := by decide +kernel
theorem dX10_inCommon_21 : decode cX10_inCommon 21 = .ok (.iaload, 1) := by decide +kernel
theorem dX10_inCommon_22 : decode cX10_inCommon 22 = .ok (.iload_n 1, 1) := by decide +kernel
theorem dX10_inCommon_23 : decode cX10_inCommon 23 = .ok (.if_icmp .ne 18, 3) := by decide +kernel
theorem dX10_inCommon_26 : decode cX10_inCommon 26 = .ok (.aload_n 0, 1) := by decide +kernel
theorem dX10_inCommon_27 : decode cX10_inCommon 27 = .ok (.getfield 57, 3) := by decide +kernel
theorem dX10_inCommon_30 : decode cX10_inCommon 30 = .ok (.iload 4, 2) := by decide +kernel
theorem dX10_inCommon_32 : decode cX10_inCommon 32 = .ok (.iaload, 1) := by decide +kernel
theorem dX10_inCommon_33 : decode cX10_inCommon 33 = .ok (.iload_n 2, 1) := by decide +kernel
theorem dX10_inCommon_34 : decode cX10_inCommon 34 = .ok (.if_icmp .ne 7, 3) := by decide +kernel
theorem dX10_inCommon_37 : decode cX10_inCommon 37 = .ok (.iconst 1, 1) := by decide +kernel
theorem dX10_inCommon_38 : decode cX10_inCommon 38 = .ok (.goto 4, 3) := by decide +kernel
theorem dX10_inCommon_41 : decode cX10_inCommon 41 = .ok (.iconst 0, 1) := by decide +kernel
theorem dX10_inCommon_42 : decode cX10_inCommon 42 = .ok (.invokestatic 317, 3) := by decide +kernel
theorem dX10_inCommon_45 : decode cX10_inCommon 45 = .ok (.iadd, 1) := by decide +kernel
theorem dX10_inCommon_46 : decode cX10_inCommon 46 = .ok (.istore_n 3, 1) := by decide +kernel
theorem dX10_inCommon_47 : decode cX10_inCommon 47 = .ok (.iinc 4 1, 3) := by decide +kernel
theorem dX10_inCommon_50 : decode cX10_inCommon 50 = .ok (.goto (-45), 3) := by decide +kernel
theorem dX10_inCommon_53 : decode cX10_inCommon 53 = .ok (.iload_n 3, 1) := by decide +kernel
theorem dX10_inCommon_54 : decode cX10_inCommon 54 = .ok (.ireturn, 1) := by decide +kernel
set_option maxRecDepth 100000 in
theorem SX10_inCommon_0 {g : zG} {o : Bool} {M : zM} {q : Int → zM → Prop} {x1 x2 : Int} (W : zT g (z2 o) mX10_inCommon (zQi (z2 o) q) 5 [(0, zA g 1), (1, zI x1), (2, zI x2), (3, zI 0), (4, zI 0)] [] M) : zT g (z2 o) mX10_inCommon (zQi (z2 o) q) 0 [(0, zA g 1), (1, zI x1), (2, zI x2)] [] M := by
  refine zr_iconst dX10_inCommon_0 ?_
  refine zr_istore_n (l' := [(0, zA g 1), (1, zI x1), (2, zI x2), (3, zI 0)]) dX10_inCommon_1 (by decide) [1, 2, 3, 0] rfl ?_
  refine zr_iconst dX10_inCommon_2 ?_
  refine zr_istore (l' := [(0, zA g 1), (1, zI x1), (2, zI x2), (3, zI 0), (4, zI 0)]) dX10_inCommon_3 (by decide) [1, 2, 3, 4, 0] rfl ?_
  exact W
set_option maxRecDepth 100000 in
theorem SX10_inCommon_5 {g : zG} {o : Bool} {C R : Int} {M : zM} {q : Int → zM → Prop} {x1 x2 x3 x4 : Int} (W : (zRf M C R) ∧ (-2147483648 ≤ x4 ∧ x4 ≤ 2147483647) ∧ (-2147483648 ≤ (C * R) ∧ (C * R) ≤ 2147483647) ∧ (((C * R) ≤ x4) → q x3 M) ∧ ((¬ ((C * R) ≤ x4)) → (0 ≤ x4 ∧ x4 < 96) ∧ (-2147483648 ≤ (M 13 x4) ∧ (M 13 x4) ≤ 2147483647) ∧ (-2147483648 ≤ x1 ∧ x1 ≤ 2147483647) ∧ (((M 13 x4) ≠ x1) → zT g (z2 o) mX10_inCommon (zQi (z2 o) q) 5 [(0, zA g 1), (1, zI x1), (2, zI x2), (3, zI (x3 + 0)), (4, zI (x4 + 1))] [] M) ∧ (((M 13 x4) = x1) → (-2147483648 ≤ (M 14 x4) ∧ (M 14 x4) ≤ 2147483647) ∧ (-2147483648 ≤ x2 ∧ x2 ≤ 2147483647) ∧ (((M 14 x4) ≠ x2) → zT g (z2 o) mX10_inCommon (zQi (z2 o) q) 5 [(0, zA g 1), (1, zI x1), (2, zI x2), (3, zI (x3 + 0)), (4, zI (x4 + 1))] [] M) ∧ (((M 14 x4) = x2) → zT g (z2 o) mX10_inCommon (zQi (z2 o) q) 5 [(0, zA g 1), (1, zI x1), (2, zI x2), (3, zI (x3 + 1)), (4, zI (x4 + 1))] [] M)))) : zT g (z2 o) mX10_inCommon (zQi (z2 o) q) 5 [(0, zA g 1), (1, zI x1), (2, zI x2), (3, zI x3), (4, zI x4)] [] M := by
  refine zr_iload 4 dX10_inCommon_5 rfl ?_
  refine zr_aload_n 0 dX10_inCommon_7 rfl ?_
  obtain ⟨c1, W⟩ := W
  refine zt_callVi (As := []) (rest := [zI x4]) dX10_inCommon_8 kX10_inCommon_226 rfl rfl rfl rfl (Nat.le_of_ble_eq_true rfl) (c_cells c1) (fun r2 N4 h3 => ?_)
  rw [h3.1, h3.2]
  obtain ⟨c5, W⟩ := W
  obtain ⟨c6, W⟩ := W
  refine zr_icmp_ge (tgt := 53) dX10_inCommon_11 (by decide) c5 c6 (fun h => ?_) (fun h => ?_)
  · have W := W.1 h
    refine zr_iload_n 3 dX10_inCommon_53 rfl ?_
    exact zt_iret dX10_inCommon_54 rfl W
  · have W := W.2 h
    refine zr_iload_n 3 dX10_inCommon_14 rfl ?_
    refine zr_aload_n 0 dX10_inCommon_15 rfl ?_
    refine zr_getr (b := 13) dX10_inCommon_16 fX10_54 rfl rfl rfl (by decide) ?_
    refine zr_iload 4 dX10_inCommon_19 rfl ?_
    obtain ⟨c7, W⟩ := W
    refine zr_iald dX10_inCommon_21 rfl (by decide) c7 ?_
    refine zr_iload_n 1 dX10_inCommon_22 rfl ?_
    obtain ⟨c8, W⟩ := W
    obtain ⟨c9, W⟩ := W
    refine zr_icmp_ne (tgt := 41) dX10_inCommon_23 (by decide) c8 c9 (fun h => ?_) (fun h => ?_)
    · have W := W.1 h
      refine zr_iconst dX10_inCommon_41 ?_
      refine zt_callSi (As := [zI 0]) (rest := [zI x3]) dX10_inCommon_42 kX10_inCommon_317 rfl rfl (Nat.le_of_ble_eq_true rfl) (c_truthi (by decide)) (fun r10 N12 h11 => ?_)
      rw [h11.1, h11.2]
      refine zr_iadd dX10_inCommon_45 ?_
      refine zr_istore_n (l' := [(0, zA g 1), (1, zI x1), (2, zI x2), (3, zI (x3 + 0)), (4, zI x4)]) dX10_inCommon_46 (by decide) [1, 2, 3, 0, 4] rfl ?_
      refine zr_iinc (q := 4) (l' := [(0, zA g 1), (1, zI x1), (2, zI x2), (3, zI (x3 + 0)), (4, zI (x4 + 1))]) dX10_inCommon_47 rfl (by decide) [1, 2, 3, 4, 0] rfl ?_
      refine zr_goto (tgt := 5) dX10_inCommon_50 (by decide) ?_
      exact W
    · have W := W.2 h
      refine zr_aload_n 0 dX10_inCommon_26 rfl ?_
      refine zr_getr (b := 14) dX10_inCommon_27 fX10_57 rfl rfl rfl (by decide) ?_
      refine zr_iload 4 dX10_inCommon_30 rfl ?_
      refine zr_iald dX10_inCommon_32 rfl (by decide) c7 ?_
      refine zr_iload_n 2 dX10_inCommon_33 rfl ?_
      obtain ⟨c13, W⟩ := W
      obtain ⟨c14, W⟩ := W
      refine zr_icmp_ne (tgt := 41) dX10_inCommon_34 (by decide) c13 c14 (fun h => ?_) (fun h => ?_)
      · have W := W.1 h
        refine zr_iconst dX10_inCommon_41 ?_
        refine zt_callSi (As := [zI 0]) (rest := [zI x3]) dX10_inCommon_42 kX10_inCommon_317 rfl rfl (Nat.le_of_ble_eq_true rfl) (c_truthi (by decide)) (fun r15 N17 h16 => ?_)
        rw [h16.1, h16.2]
        refine zr_iadd dX10_inCommon_45 ?_
        refine zr_istore_n (l' := [(0, zA g 1), (1, zI x1), (2, zI x2), (3, zI (x3 + 0)), (4, zI x4)]) dX10_inCommon_46 (by decide) [1, 2, 3, 0, 4] rfl ?_
        refine zr_iinc (q := 4) (l' := [(0, zA g 1), (1, zI x1), (2, zI x2), (3, zI (x3 + 0)), (4, zI (x4 + 1))]) dX10_inCommon_47 rfl (by decide) [1, 2, 3, 4, 0] rfl ?_
        refine zr_goto (tgt := 5) dX10_inCommon_50 (by decide) ?_
        exact W
      · have W := W.2 h
        refine zr_iconst dX10_inCommon_37 ?_
        refine zr_goto (tgt := 42) dX10_inCommon_38 (by decide) ?_
        refine zt_callSi (As := [zI 1]) (rest := [zI x3]) dX10_inCommon_42 kX10_inCommon_317 rfl rfl (Nat.le_of_ble_eq_true rfl) (c_truthi (by decide)) (fun r18 N20 h19 => ?_)
        rw [h19.1, h19.2]
        refine zr_iadd dX10_inCommon_45 ?_
        refine zr_istore_n (l' := [(0, zA g 1), (1, zI x1), (2, zI x2), (3, zI (x3 + 1)), (4, zI x4)]) dX10_inCommon_46 (by decide) [1, 2, 3, 0, 4] rfl ?_
        refine zr_iinc (q := 4) (l' := [(0, zA g 1), (1, zI x1), (2, zI x2), (3, zI (x3 + 1)), (4, zI (x4 + 1))]) dX10_inCommon_47 rfl (by decide) [1, 2, 3, 4, 0] rfl ?_
        refine zr_goto (tgt := 5) dX10_inCommon_50 (by decide) ?_
        exact W
theorem dX10_follows_0 : decode cX10_follows 0 = .ok (.aload_n 0, 1) := by decide +kernel
theorem dX10_follows_1 : decode cX10_follows 1 = .ok (.iload_n 1, 1) := by decide +kernel
theorem dX10_follows_2 : decode cX10_follows 2 = .ok (.invokevirtual 422, 3) := by decide +kernel
theorem dX10_follows_5 : decode cX10_follows 5 = .ok (.ifCond .eq 23, 3) := by decide +kernel
theorem dX10_follows_8 : decode cX10_follows 8 = .ok (.iload_n 2, 1) := by decide +kernel
theorem dX10_follows_9 : decode cX10_follows 9 = .ok (.iconst 1, 1) := by decide +kernel
theorem dX10_follows_10 : decode cX10_follows 10 = .ok (.if_icmp .lt 18, 3) := by decide +kernel
theorem dX10_follows_13 : decode cX10_follows 13 = .ok (.iload_n 3, 1) := by decide +kernel
theorem dX10_follows_14 : decode cX10_follows 14 = .ok (.iconst 0, 1) := by decide +kernel
theorem dX10_follows_15 : decode cX10_follows 15 = .ok (.aload_n 0, 1) := by decide +kernel
theorem dX10_follows_16 : decode cX10_follows 16 = .ok (.iload_n 2, 1) := by decide +kernel
theorem dX10_follows_17 : decode cX10_follows 17 = .ok (.invokevirtual 397, 3) := by decide +kernel
theorem dX10_follows_20 : decode cX10_follows 20 = .ok (.iconst 1, 1) := by decide +kernel
theorem dX10_follows_21 : decode cX10_follows 21 = .ok (.isub, 1) := by decide +kernel
theorem dX10_follows_22 : decode cX10_follows 22 = .ok (.invokestatic 106, 3) := by decide +kernel
theorem dX10_follows_25 : decode cX10_follows 25 = .ok (.ifCond .ne 5, 3) := by decide +kernel
theorem dX10_follows_28 : decode cX10_follows 28 = .ok (.iconst (-1), 1) := by decide +kernel
theorem dX10_follows_29 : decode cX10_follows 29 = .ok (.ireturn, 1) := by decide +kernel
theorem dX10_follows_30 : decode cX10_follows 30 = .ok (.aload_n 0, 1) := by decide +kernel
theorem dX10_follows_31 : decode cX10_follows 31 = .ok (.aload_n 0, 1) := by decide +kernel
theorem dX10_follows_32 : decode cX10_follows 32 = .ok (.getfield 63, 3) := by decide +kernel
theorem dX10_follows_35 : decode cX10_follows 35 = .ok (.sipush 198, 3) := by decide +kernel
theorem dX10_follows_38 : decode cX10_follows 38 = .ok (.iload_n 1, 1) := by decide +kernel
theorem dX10_follows_39 : decode cX10_follows 39 = .ok (.imul, 1) := by decide +kernel
theorem dX10_follows_40 : decode cX10_follows 40 = .ok (.iload_n 2, 1) := by decide +kernel
theorem dX10_follows_41 : decode cX10_follows 41 = .ok (.aload_n 0, 1) := by decide +kernel
theorem dX10_follows_42 : decode cX10_follows 42 = .ok (.getfield 57, 3) := by decide +kernel
theorem dX10_follows_45 : decode cX10_follows 45 = .ok (.invokevirtual 393, 3) := by decide +kernel
theorem dX10_follows_48 : decode cX10_follows 48 = .ok (.istore 4, 2) := by decide +kernel
theorem dX10_follows_50 : decode cX10_follows 50 = .ok (.iconst (-1), 1) := by decide +kernel
theorem dX10_follows_51 : decode cX10_follows 51 = .ok (.istore 5, 2) := by decide +kernel
theorem dX10_follows_53 : decode cX10_follows 53 = .ok (.iconst 0, 1) := by decide +kernel
theorem dX10_follows_54 : decode cX10_follows 54 = .ok (.istore 6, 2) := by decide +kernel
theorem dX10_follows_56 : decode cX10_follows 56 = .ok (.iconst 0, 1) := by decide +kernel
theorem dX10_follows_57 : decode cX10_follows 57 = .ok (.istore 7, 2) := by decide +kernel
theorem dX10_follows_59 : decode cX10_follows 59 = .ok (.iload 7, 2) := by decide +kernel
theorem dX10_follows_61 : decode cX10_follows 61 = .ok (.iload 4, 2) := by decide +kernel
theorem dX10_follows_63 : decode cX10_follows 63 = .ok (.if_icmp .ge 36, 3) := by decide +kernel
theorem dX10_follows_66 : decode cX10_follows 66 = .ok (.aload_n 0, 1) := by decide +kernel
theorem dX10_follows_67 : decode cX10_follows 67 = .ok (.iload_n 3, 1) := by decide +kernel
theorem dX10_follows_68 : decode cX10_follows 68 = .ok (.iload 7, 2) := by decide +kernel
theorem dX10_follows_70 : decode cX10_follows 70 = .ok (.invokevirtual 425, 3) := by decide +kernel
theorem dX10_follows_73 : decode cX10_follows 73 = .ok (.istore 8, 2) := by decide +kernel
theorem dX10_follows_75 : decode cX10_follows 75 = .ok (.iload 8, 2) := by decide +kernel
theorem dX10_follows_77 : decode cX10_follows 77 = .ok (.iload 6, 2) := by decide +kernel
theorem dX10_follows_79 : decode cX10_follows 79 = .ok (.if_icmp .gt 6, 3) := by decide +kernel
theorem dX10_follows_82 : decode cX10_follows 82 = .ok (.goto 11, 3) := by decide +kernel
theorem dX10_follows_85 : decode cX10_follows 85 = .ok (.iload 7, 2) := by decide +kernel
theorem dX10_follows_87 : decode cX10_follows 87 = .ok (.istore 5, 2) := by decide +kernel
theorem dX10_follows_89 : decode cX10_follows 89 = .ok (.iload 8, 2) := by decide +kernel
theorem dX10_follows_91 : decode cX10_follows 91 = .ok (.istore 6, 2) := by decide +kernel
theorem dX10_follows_93 : decode cX10_follows 93 = .ok (.iinc 7 1, 3) := by decide +kernel
theorem dX10_follows_96 : decode cX10_follows 96 = .ok (.goto (-37), 3) := by decide +kernel
theorem dX10_follows_99 : decode cX10_follows 99 = .ok (.iload 5, 2) := by decide +kernel
theorem dX10_follows_101 : decode cX10_follows 101 = .ok (.ireturn, 1) := by decide +kernel
set_option maxRecDepth 100000 in
theorem SX10_follows_0 {g : zG} {o : Bool} {M : zM} {q : Int → zM → Prop} {x1 x2 x3 : Int} (W : (-2147483648 ≤ x1 ∧ x1 ≤ 2147483647) ∧ (kOk (M 17)) ∧ ((¬ ((0 ≤ x1 ∧ x1 < 3) ∧ M 17 x1 = 1)) → q (-1) M) ∧ (((0 ≤ x1 ∧ x1 < 3) ∧ M 17 x1 = 1) → (-2147483648 ≤ x2 ∧ x2 ≤ 2147483647) ∧ ((x2 < 1) → q (-1) M) ∧ ((¬ (x2 < 1)) → ∃ q7 : Int → zM → Prop, zKi g (z2 o) mX10_dunesNow [zA g 1, zI x2] M q7 ∧ ∀ (r8 : Int) (M9 : zM), q7 r8 M9 → (-2147483648 ≤ x3 ∧ x3 ≤ 2147483647) ∧ (-2147483648 ≤ (r8 - 1) ∧ (r8 - 1) ≤ 2147483647) ∧ ((0 ≤ x3 ∧ x3 ≤ (r8 - 1)) → ∃ q17 : Int → zM → Prop, zKi g (z2 o) mX10_laysDunes [zA g 1, zA g 16, zI (198 * x1), zI x2, zA g 14] M9 q17 ∧ ∀ (r18 : Int) (M19 : zM), q17 r18 M19 → zT g (z2 o) mX10_follows (zQi (z2 o) q) 59 [(0, zA g 1), (3, zI x3), (4, zI r18), (5, zI (-1)), (6, zI 0), (7, zI 0)] [] M19) ∧ ((¬ (0 ≤ x3 ∧ x3 ≤ (r8 - 1))) → q (-1) M9)))) : zT g (z2 o) mX10_follows (zQi (z2 o) q) 0 [(0, zA g 1), (1, zI x1), (2, zI x2), (3, zI x3)] [] M := by
  refine zr_aload_n 0 dX10_follows_0 rfl ?_
  refine zr_iload_n 1 dX10_follows_1 rfl ?_
  obtain ⟨c1, W⟩ := W
  obtain ⟨c2, W⟩ := W
  refine zt_callVi (As := [zI x1]) (rest := []) dX10_follows_2 kX10_follows_422 rfl rfl rfl rfl (Nat.le_of_ble_eq_true rfl) (c_isKept2 c1 c2) (fun r3 N5 h4 => ?_)
  rw [h4.1, h4.2]
  refine zt_ifeq_b (tgt := 28) dX10_follows_5 (by decide) (fun h => ?_) (fun h => ?_)
  · have W := W.1 h
    refine zr_iconst dX10_follows_28 ?_
    exact zt_iret dX10_follows_29 rfl W
  · have W := W.2 h
    refine zr_iload_n 2 dX10_follows_8 rfl ?_
    refine zr_iconst dX10_follows_9 ?_
    obtain ⟨c6, W⟩ := W
    refine zr_icmp_lt (tgt := 28) dX10_follows_10 (by decide) c6 ⟨by decide, by decide⟩ (fun h => ?_) (fun h => ?_)
    · have W := W.1 h
      refine zr_iconst dX10_follows_28 ?_
      exact zt_iret dX10_follows_29 rfl W
    · have W := W.2 h
      refine zr_iload_n 3 dX10_follows_13 rfl ?_
      refine zr_iconst dX10_follows_14 ?_
      refine zr_aload_n 0 dX10_follows_15 rfl ?_
      refine zr_iload_n 2 dX10_follows_16 rfl ?_
      obtain ⟨q7, k11, W⟩ := W
      refine zt_callVi (As := [zI x2]) (rest := [zI 0, zI x3]) dX10_follows_17 kX10_follows_397 rfl rfl rfl rfl (Nat.le_of_ble_eq_true rfl) k11 (fun r8 M9 h10 => ?_)
      have W := W r8 M9 h10
      refine zr_iconst dX10_follows_20 ?_
      refine zr_isub dX10_follows_21 ?_
      obtain ⟨c12, W⟩ := W
      obtain ⟨c13, W⟩ := W
      refine zt_callSi (As := [zI x3, zI 0, zI (r8 - 1)]) (rest := []) dX10_follows_22 kX10_follows_106 rfl rfl (Nat.le_of_ble_eq_true rfl) (c_isIn c12 ⟨by decide, by decide⟩ c13) (fun r14 N16 h15 => ?_)
      rw [h15.1, h15.2]
      refine zt_ifne_b (tgt := 30) dX10_follows_25 (by decide) (fun h => ?_) (fun h => ?_)
      · have W := W.1 h
        refine zr_aload_n 0 dX10_follows_30 rfl ?_
        refine zr_aload_n 0 dX10_follows_31 rfl ?_
        refine zr_getr (b := 16) dX10_follows_32 fX10_63 rfl rfl rfl (by decide) ?_
        refine zr_sipush dX10_follows_35 (by decide) ?_
        refine zr_iload_n 1 dX10_follows_38 rfl ?_
        refine zr_imul dX10_follows_39 ?_
        refine zr_iload_n 2 dX10_follows_40 rfl ?_
        refine zr_aload_n 0 dX10_follows_41 rfl ?_
        refine zr_getr (b := 14) dX10_follows_42 fX10_57 rfl rfl rfl (by decide) ?_
        obtain ⟨q17, k21, W⟩ := W
        refine zt_callVi (As := [zA g 16, zI (198 * x1), zI x2, zA g 14]) (rest := []) dX10_follows_45 kX10_follows_393 rfl rfl rfl rfl (Nat.le_of_ble_eq_true rfl) k21 (fun r18 M19 h20 => ?_)
        have W := W r18 M19 h20
        refine zr_istore (l' := [(0, zA g 1), (3, zI x3), (4, zI r18)]) dX10_follows_48 (by decide) [1, 4, 0] rfl ?_
        refine zr_iconst dX10_follows_50 ?_
        refine zr_istore (l' := [(0, zA g 1), (3, zI x3), (4, zI r18), (5, zI (-1))]) dX10_follows_51 (by decide) [1, 2, 3, 0] rfl ?_
        refine zr_iconst dX10_follows_53 ?_
        refine zr_istore (l' := [(0, zA g 1), (3, zI x3), (4, zI r18), (5, zI (-1)), (6, zI 0)]) dX10_follows_54 (by decide) [1, 2, 3, 4, 0] rfl ?_
        refine zr_iconst dX10_follows_56 ?_
        refine zr_istore (l' := [(0, zA g 1), (3, zI x3), (4, zI r18), (5, zI (-1)), (6, zI 0), (7, zI 0)]) dX10_follows_57 (by decide) [1, 2, 3, 4, 5, 0] rfl ?_
        exact W
      · have W := W.2 h
        refine zr_iconst dX10_follows_28 ?_
        exact zt_iret dX10_follows_29 rfl W
set_option maxRecDepth 100000 in
theorem SX10_follows_59 {g : zG} {o : Bool} {M : zM} {q : Int → zM → Prop} {x3 x4 x5 x6 x7 : Int} (W : (-2147483648 ≤ x7 ∧ x7 ≤ 2147483647) ∧ (-2147483648 ≤ x4 ∧ x4 ≤ 2147483647) ∧ ((x4 ≤ x7) → q x5 M) ∧ ((¬ (x4 ≤ x7)) → ∃ q3 : Int → zM → Prop, zKi g (z2 o) mX10_inCommon [zA g 1, zI x3, zI x7] M q3 ∧ ∀ (r4 : Int) (M5 : zM), q3 r4 M5 → (-2147483648 ≤ r4 ∧ r4 ≤ 2147483647) ∧ (-2147483648 ≤ x6 ∧ x6 ≤ 2147483647) ∧ ((x6 < r4) → zT g (z2 o) mX10_follows (zQi (z2 o) q) 59 [(0, zA g 1), (3, zI x3), (4, zI x4), (5, zI x7), (6, zI r4), (7, zI (x7 + 1))] [] M5) ∧ ((¬ (x6 < r4)) → zT g (z2 o) mX10_follows (zQi (z2 o) q) 59 [(0, zA g 1), (3, zI x3), (4, zI x4), (5, zI x5), (6, zI x6), (7, zI (x7 + 1))] [] M5))) : zT g (z2 o) mX10_follows (zQi (z2 o) q) 59 [(0, zA g 1), (3, zI x3), (4, zI x4), (5, zI x5), (6, zI x6), (7, zI x7)] [] M := by
  refine zr_iload 5 dX10_follows_59 rfl ?_
  refine zr_iload 2 dX10_follows_61 rfl ?_
  obtain ⟨c1, W⟩ := W
  obtain ⟨c2, W⟩ := W
  refine zr_icmp_ge (tgt := 99) dX10_follows_63 (by decide) c1 c2 (fun h => ?_) (fun h => ?_)
  · have W := W.1 h
    refine zr_iload 3 dX10_follows_99 rfl ?_
    exact zt_iret dX10_follows_101 rfl W
  · have W := W.2 h
    refine zr_aload_n 0 dX10_follows_66 rfl ?_
    refine zr_iload_n 1 dX10_follows_67 rfl ?_
    refine zr_iload 5 dX10_follows_68 rfl ?_
    obtain ⟨q3, k7, W⟩ := W
    refine zt_callVi (As := [zI x3, zI x7]) (rest := []) dX10_follows_70 kX10_follows_425 rfl rfl rfl rfl (Nat.le_of_ble_eq_true rfl) k7 (fun r4 M5 h6 => ?_)
    have W := W r4 M5 h6
    refine zr_istore (l' := [(0, zA g 1), (3, zI x3), (4, zI x4), (5, zI x5), (6, zI x6), (7, zI x7), (8, zI r4)]) dX10_follows_73 (by decide) [1, 2, 3, 4, 5, 6, 0] rfl ?_
    refine zr_iload 6 dX10_follows_75 rfl ?_
    refine zr_iload 4 dX10_follows_77 rfl ?_
    obtain ⟨c8, W⟩ := W
    obtain ⟨c9, W⟩ := W
    refine zr_icmp_gt (tgt := 85) dX10_follows_79 (by decide) c8 c9 (fun h => ?_) (fun h => ?_)
    · have W := W.1 h
      refine zr_iload 5 dX10_follows_85 rfl ?_
      refine zr_istore (l' := [(0, zA g 1), (3, zI x3), (4, zI x4), (5, zI x7), (7, zI x7), (8, zI r4)]) dX10_follows_87 (by decide) [1, 2, 3, 0, 5, 6] rfl ?_
      refine zr_iload 5 dX10_follows_89 rfl ?_
      refine zr_istore (l' := [(0, zA g 1), (3, zI x3), (4, zI x4), (5, zI x7), (6, zI r4), (7, zI x7)]) dX10_follows_91 (by decide) [1, 2, 3, 4, 0, 5] rfl ?_
      refine zr_iinc (q := 5) (l' := [(0, zA g 1), (3, zI x3), (4, zI x4), (5, zI x7), (6, zI r4), (7, zI (x7 + 1))]) dX10_follows_93 rfl (by decide) [1, 2, 3, 4, 5, 0] rfl ?_
      refine zr_goto (tgt := 59) dX10_follows_96 (by decide) ?_
      exact W
    · have W := W.2 h
      refine zr_goto (tgt := 93) dX10_follows_82 (by decide) ?_
      refine zr_iinc (q := 5) (l' := [(0, zA g 1), (3, zI x3), (4, zI x4), (5, zI x5), (6, zI x6), (7, zI (x7 + 1))]) dX10_follows_93 rfl (by decide) [1, 2, 3, 4, 5, 0] rfl ?_
      refine zr_goto (tgt := 59) dX10_follows_96 (by decide) ?_
      exact W
theorem dX10_meets_0 : decode cX10_meets 0 = .ok (.iconst 0, 1) := by decide +kernel
theorem dX10_meets_1 : decode cX10_meets 1 = .ok (.istore 4, 2) := by decide +kernel
theorem dX10_meets_3 : decode cX10_meets 3 = .ok (.iconst 0, 1) := by decide +kernel
theorem dX10_meets_4 : decode cX10_meets 4 = .ok (.istore 5, 2) := by decide +kernel
theorem dX10_meets_6 : decode cX10_meets 6 = .ok (.iload 5, 2) := by decide +kernel
theorem dX10_meets_8 : decode cX10_meets 8 = .ok (.iload_n 2, 1) := by decide +kernel
theorem dX10_meets_9 : decode cX10_meets 9 = .ok (.if_icmp .ge 46, 3) := by decide +kernel
theorem dX10_meets_12 : decode cX10_meets 12 = .ok (.iload 4, 2) := by decide +kernel
theorem dX10_meets_14 : decode cX10_meets 14 = .ok (.iload_n 3, 1) := by decide +kernel
theorem dX10_meets_15 : decode cX10_meets 15 = .ok (.ifCond .eq 13, 3) := by decide +kernel
theorem dX10_meets_18 : decode cX10_meets 18 = .ok (.aload_n 0, 1) := by decide +kernel
theorem dX10_meets_19 : decode cX10_meets 19 = .ok (.iload_n 1, 1) := by decide +kernel
theorem dX10_meets_20 : decode cX10_meets 20 = .ok (.iload 5, 2) := by decide +kernel
theorem dX10_meets_22 : decode cX10_meets 22 = .ok (.invokevirtual 425, 3) := by decide +kernel
theorem dX10_meets_25 : decode cX10_meets 25 = .ok (.goto 10, 3) := by decide +kernel
theorem dX10_meets_28 : decode cX10_meets 28 = .ok (.aload_n 0, 1) := by decide +kernel
theorem dX10_meets_29 : decode cX10_meets 29 = .ok (.iload 5, 2) := by decide +kernel
theorem dX10_meets_31 : decode cX10_meets 31 = .ok (.iload_n 1, 1) := by decide +kernel
theorem dX10_meets_32 : decode cX10_meets 32 = .ok (.invokevirtual 425, 3) := by decide +kernel
theorem dX10_meets_35 : decode cX10_meets 35 = .ok (.ifCond .le 7, 3) := by decide +kernel
theorem dX10_meets_38 : decode cX10_meets 38 = .ok (.iconst 1, 1) := by decide +kernel
theorem dX10_meets_39 : decode cX10_meets 39 = .ok (.goto 4, 3) := by decide +kernel
theorem dX10_meets_42 : decode cX10_meets 42 = .ok (.iconst 0, 1) := by decide +kernel
theorem dX10_meets_43 : decode cX10_meets 43 = .ok (.invokestatic 317, 3) := by decide +kernel
theorem dX10_meets_46 : decode cX10_meets 46 = .ok (.iadd, 1) := by decide +kernel
theorem dX10_meets_47 : decode cX10_meets 47 = .ok (.istore 4, 2) := by decide +kernel
theorem dX10_meets_49 : decode cX10_meets 49 = .ok (.iinc 5 1, 3) := by decide +kernel
theorem dX10_meets_52 : decode cX10_meets 52 = .ok (.goto (-46), 3) := by decide +kernel
theorem dX10_meets_55 : decode cX10_meets 55 = .ok (.iload 4, 2) := by decide +kernel
theorem dX10_meets_57 : decode cX10_meets 57 = .ok (.ireturn, 1) := by decide +kernel
set_option maxRecDepth 100000 in
theorem SX10_meets_0 {g : zG} {o : Bool} {M : zM} {q : Int → zM → Prop} {x1 x2 x3 : Int} (W : zT g (z2 o) mX10_meets (zQi (z2 o) q) 6 [(0, zA g 1), (1, zI x1), (2, zI x2), (3, zI x3), (4, zI 0), (5, zI 0)] [] M) : zT g (z2 o) mX10_meets (zQi (z2 o) q) 0 [(0, zA g 1), (1, zI x1), (2, zI x2), (3, zI x3)] [] M := by
  refine zr_iconst dX10_meets_0 ?_
  refine zr_istore (l' := [(0, zA g 1), (1, zI x1), (2, zI x2), (3, zI x3), (4, zI 0)]) dX10_meets_1 (by decide) [1, 2, 3, 4, 0] rfl ?_
  refine zr_iconst dX10_meets_3 ?_
  refine zr_istore (l' := [(0, zA g 1), (1, zI x1), (2, zI x2), (3, zI x3), (4, zI 0), (5, zI 0)]) dX10_meets_4 (by decide) [1, 2, 3, 4, 5, 0] rfl ?_
  exact W
set_option maxRecDepth 100000 in
theorem SX10_meets_6 {g : zG} {o : Bool} {M : zM} {q : Int → zM → Prop} {x1 x2 x3 x4 x5 : Int} (W : (-2147483648 ≤ x5 ∧ x5 ≤ 2147483647) ∧ (-2147483648 ≤ x2 ∧ x2 ≤ 2147483647) ∧ ((x2 ≤ x5) → q x4 M) ∧ ((¬ (x2 ≤ x5)) → (-2147483648 ≤ x3 ∧ x3 ≤ 2147483647) ∧ ((x3 = 0) → ∃ q4 : Int → zM → Prop, zKi g (z2 o) mX10_inCommon [zA g 1, zI x5, zI x1] M q4 ∧ ∀ (r5 : Int) (M6 : zM), q4 r5 M6 → (-2147483648 ≤ r5 ∧ r5 ≤ 2147483647) ∧ ((r5 ≤ 0) → zT g (z2 o) mX10_meets (zQi (z2 o) q) 6 [(0, zA g 1), (1, zI x1), (2, zI x2), (3, zI x3), (4, zI (x4 + 0)), (5, zI (x5 + 1))] [] M6) ∧ ((¬ (r5 ≤ 0)) → zT g (z2 o) mX10_meets (zQi (z2 o) q) 6 [(0, zA g 1), (1, zI x1), (2, zI x2), (3, zI x3), (4, zI (x4 + 1)), (5, zI (x5 + 1))] [] M6)) ∧ ((¬ (x3 = 0)) → ∃ q16 : Int → zM → Prop, zKi g (z2 o) mX10_inCommon [zA g 1, zI x1, zI x5] M q16 ∧ ∀ (r17 : Int) (M18 : zM), q16 r17 M18 → (-2147483648 ≤ r17 ∧ r17 ≤ 2147483647) ∧ ((r17 ≤ 0) → zT g (z2 o) mX10_meets (zQi (z2 o) q) 6 [(0, zA g 1), (1, zI x1), (2, zI x2), (3, zI x3), (4, zI (x4 + 0)), (5, zI (x5 + 1))] [] M18) ∧ ((¬ (r17 ≤ 0)) → zT g (z2 o) mX10_meets (zQi (z2 o) q) 6 [(0, zA g 1), (1, zI x1), (2, zI x2), (3, zI x3), (4, zI (x4 + 1)), (5, zI (x5 + 1))] [] M18)))) : zT g (z2 o) mX10_meets (zQi (z2 o) q) 6 [(0, zA g 1), (1, zI x1), (2, zI x2), (3, zI x3), (4, zI x4), (5, zI x5)] [] M := by
  refine zr_iload 5 dX10_meets_6 rfl ?_
  refine zr_iload_n 2 dX10_meets_8 rfl ?_
  obtain ⟨c1, W⟩ := W
  obtain ⟨c2, W⟩ := W
  refine zr_icmp_ge (tgt := 55) dX10_meets_9 (by decide) c1 c2 (fun h => ?_) (fun h => ?_)
  · have W := W.1 h
    refine zr_iload 4 dX10_meets_55 rfl ?_
    exact zt_iret dX10_meets_57 rfl W
  · have W := W.2 h
    refine zr_iload 4 dX10_meets_12 rfl ?_
    refine zr_iload_n 3 dX10_meets_14 rfl ?_
    obtain ⟨c3, W⟩ := W
    refine zr_if_eq (tgt := 28) dX10_meets_15 (by decide) c3 (fun h => ?_) (fun h => ?_)
    · have W := W.1 h
      refine zr_aload_n 0 dX10_meets_28 rfl ?_
      refine zr_iload 5 dX10_meets_29 rfl ?_
      refine zr_iload_n 1 dX10_meets_31 rfl ?_
      obtain ⟨q4, k8, W⟩ := W
      refine zt_callVi (As := [zI x5, zI x1]) (rest := [zI x4]) dX10_meets_32 kX10_meets_425 rfl rfl rfl rfl (Nat.le_of_ble_eq_true rfl) k8 (fun r5 M6 h7 => ?_)
      have W := W r5 M6 h7
      obtain ⟨c9, W⟩ := W
      refine zr_if_le (tgt := 42) dX10_meets_35 (by decide) c9 (fun h => ?_) (fun h => ?_)
      · have W := W.1 h
        refine zr_iconst dX10_meets_42 ?_
        refine zt_callSi (As := [zI 0]) (rest := [zI x4]) dX10_meets_43 kX10_meets_317 rfl rfl (Nat.le_of_ble_eq_true rfl) (c_truthi (by decide)) (fun r10 N12 h11 => ?_)
        rw [h11.1, h11.2]
        refine zr_iadd dX10_meets_46 ?_
        refine zr_istore (l' := [(0, zA g 1), (1, zI x1), (2, zI x2), (3, zI x3), (4, zI (x4 + 0)), (5, zI x5)]) dX10_meets_47 (by decide) [1, 2, 3, 4, 0, 5] rfl ?_
        refine zr_iinc (q := 5) (l' := [(0, zA g 1), (1, zI x1), (2, zI x2), (3, zI x3), (4, zI (x4 + 0)), (5, zI (x5 + 1))]) dX10_meets_49 rfl (by decide) [1, 2, 3, 4, 5, 0] rfl ?_
        refine zr_goto (tgt := 6) dX10_meets_52 (by decide) ?_
        exact W
      · have W := W.2 h
        refine zr_iconst dX10_meets_38 ?_
        refine zr_goto (tgt := 43) dX10_meets_39 (by decide) ?_
        refine zt_callSi (As := [zI 1]) (rest := [zI x4]) dX10_meets_43 kX10_meets_317 rfl rfl (Nat.le_of_ble_eq_true rfl) (c_truthi (by decide)) (fun r13 N15 h14 => ?_)
        rw [h14.1, h14.2]
        refine zr_iadd dX10_meets_46 ?_
        refine zr_istore (l' := [(0, zA g 1), (1, zI x1), (2, zI x2), (3, zI x3), (4, zI (x4 + 1)), (5, zI x5)]) dX10_meets_47 (by decide) [1, 2, 3, 4, 0, 5] rfl ?_
        refine zr_iinc (q := 5) (l' := [(0, zA g 1), (1, zI x1), (2, zI x2), (3, zI x3), (4, zI (x4 + 1)), (5, zI (x5 + 1))]) dX10_meets_49 rfl (by decide) [1, 2, 3, 4, 5, 0] rfl ?_
        refine zr_goto (tgt := 6) dX10_meets_52 (by decide) ?_
        exact W
    · have W := W.2 h
      refine zr_aload_n 0 dX10_meets_18 rfl ?_
      refine zr_iload_n 1 dX10_meets_19 rfl ?_
      refine zr_iload 5 dX10_meets_20 rfl ?_
      obtain ⟨q16, k20, W⟩ := W
      refine zt_callVi (As := [zI x1, zI x5]) (rest := [zI x4]) dX10_meets_22 kX10_meets_425 rfl rfl rfl rfl (Nat.le_of_ble_eq_true rfl) k20 (fun r17 M18 h19 => ?_)
      have W := W r17 M18 h19
      refine zr_goto (tgt := 35) dX10_meets_25 (by decide) ?_
      obtain ⟨c21, W⟩ := W
      refine zr_if_le (tgt := 42) dX10_meets_35 (by decide) c21 (fun h => ?_) (fun h => ?_)
      · have W := W.1 h
        refine zr_iconst dX10_meets_42 ?_
        refine zt_callSi (As := [zI 0]) (rest := [zI x4]) dX10_meets_43 kX10_meets_317 rfl rfl (Nat.le_of_ble_eq_true rfl) (c_truthi (by decide)) (fun r22 N24 h23 => ?_)
        rw [h23.1, h23.2]
        refine zr_iadd dX10_meets_46 ?_
        refine zr_istore (l' := [(0, zA g 1), (1, zI x1), (2, zI x2), (3, zI x3), (4, zI (x4 + 0)), (5, zI x5)]) dX10_meets_47 (by decide) [1, 2, 3, 4, 0, 5] rfl ?_
        refine zr_iinc (q := 5) (l' := [(0, zA g 1), (1, zI x1), (2, zI x2), (3, zI x3), (4, zI (x4 + 0)), (5, zI (x5 + 1))]) dX10_meets_49 rfl (by decide) [1, 2, 3, 4, 5, 0] rfl ?_
        refine zr_goto (tgt := 6) dX10_meets_52 (by decide) ?_
        exact W
      · have W := W.2 h
        refine zr_iconst dX10_meets_38 ?_
        refine zr_goto (tgt := 43) dX10_meets_39 (by decide) ?_
        refine zt_callSi (As := [zI 1]) (rest := [zI x4]) dX10_meets_43 kX10_meets_317 rfl rfl (Nat.le_of_ble_eq_true rfl) (c_truthi (by decide)) (fun r25 N27 h26 => ?_)
        rw [h26.1, h26.2]
        refine zr_iadd dX10_meets_46 ?_
        refine zr_istore (l' := [(0, zA g 1), (1, zI x1), (2, zI x2), (3, zI x3), (4, zI (x4 + 1)), (5, zI x5)]) dX10_meets_47 (by decide) [1, 2, 3, 4, 0, 5] rfl ?_
        refine zr_iinc (q := 5) (l' := [(0, zA g 1), (1, zI x1), (2, zI x2), (3, zI x3), (4, zI (x4 + 1)), (5, zI (x5 + 1))]) dX10_meets_49 rfl (by decide) [1, 2, 3, 4, 5, 0] rfl ?_
        refine zr_goto (tgt := 6) dX10_meets_52 (by decide) ?_
        exact W
theorem dX10_fates_0 : decode cX10_fates 0 = .ok (.aload_n 0, 1) := by decide +kernel
theorem dX10_fates_1 : decode cX10_fates 1 = .ok (.iload_n 1, 1) := by decide +kernel
theorem dX10_fates_2 : decode cX10_fates 2 = .ok (.invokevirtual 422, 3) := by decide +kernel
theorem dX10_fates_5 : decode cX10_fates 5 = .ok (.ifCond .eq 17, 3) := by decide +kernel
theorem dX10_fates_8 : decode cX10_fates 8 = .ok (.iload_n 2, 1) := by decide +kernel
theorem dX10_fates_9 : decode cX10_fates 9 = .ok (.iconst 1, 1) := by decide +kernel
theorem dX10_fates_10 : decode cX10_fates 10 = .ok (.if_icmp .lt 12, 3) := by decide +kernel
theorem dX10_fates_13 : decode cX10_fates 13 = .ok (.iload_n 3, 1) := by decide +kernel
theorem dX10_fates_14 : decode cX10_fates 14 = .ok (.iconst 0, 1) := by decide +kernel
theorem dX10_fates_15 : decode cX10_fates 15 = .ok (.iconst 3, 1) := by decide +kernel
theorem dX10_fates_16 : decode cX10_fates 16 = .ok (.invokestatic 106, 3) := by decide +kernel
theorem dX10_fates_19 : decode cX10_fates 19 = .ok (.ifCond .ne 5, 3) := by decide +kernel
theorem dX10_fates_22 : decode cX10_fates 22 = .ok (.iconst (-1), 1) := by decide +kernel
theorem dX10_fates_23 : decode cX10_fates 23 = .ok (.ireturn, 1) := by decide +kernel
theorem dX10_fates_24 : decode cX10_fates 24 = .ok (.aload_n 0, 1) := by decide +kernel
theorem dX10_fates_25 : decode cX10_fates 25 = .ok (.iload_n 2, 1) := by decide +kernel
theorem dX10_fates_26 : decode cX10_fates 26 = .ok (.invokevirtual 397, 3) := by decide +kernel
theorem dX10_fates_29 : decode cX10_fates 29 = .ok (.istore 4, 2) := by decide +kernel
theorem dX10_fates_31 : decode cX10_fates 31 = .ok (.aload_n 0, 1) := by decide +kernel
theorem dX10_fates_32 : decode cX10_fates 32 = .ok (.aload_n 0, 1) := by decide +kernel
theorem dX10_fates_33 : decode cX10_fates 33 = .ok (.getfield 63, 3) := by decide +kernel
theorem dX10_fates_36 : decode cX10_fates 36 = .ok (.sipush 198, 3) := by decide +kernel
theorem dX10_fates_39 : decode cX10_fates 39 = .ok (.iload_n 1, 1) := by decide +kernel
theorem dX10_fates_40 : decode cX10_fates 40 = .ok (.imul, 1) := by decide +kernel
theorem dX10_fates_41 : decode cX10_fates 41 = .ok (.iload_n 2, 1) := by decide +kernel
theorem dX10_fates_42 : decode cX10_fates 42 = .ok (.aload_n 0, 1) := by decide +kernel
theorem dX10_fates_43 : decode cX10_fates 43 = .ok (.getfield 57, 3) := by decide +kernel
theorem dX10_fates_46 : decode cX10_fates 46 = .ok (.invokevirtual 393, 3) := by decide +kernel
theorem dX10_fates_49 : decode cX10_fates 49 = .ok (.istore 5, 2) := by decide +kernel
theorem dX10_fates_51 : decode cX10_fates 51 = .ok (.iload_n 3, 1) := by decide +kernel
theorem dX10_fates_52 : decode cX10_fates 52 = .ok (.ifCond .eq 8, 3) := by decide +kernel
theorem dX10_fates_55 : decode cX10_fates 55 = .ok (.iload_n 3, 1) := by decide +kernel
theorem dX10_fates_56 : decode cX10_fates 56 = .ok (.iconst 3, 1) := by decide +kernel
theorem dX10_fates_57 : decode cX10_fates 57 = .ok (.if_icmp .ne 7, 3) := by decide +kernel
theorem dX10_fates_60 : decode cX10_fates 60 = .ok (.iconst 1, 1) := by decide +kernel
theorem dX10_fates_61 : decode cX10_fates 61 = .ok (.goto 4, 3) := by decide +kernel
theorem dX10_fates_64 : decode cX10_fates 64 = .ok (.iconst 0, 1) := by decide +kernel
theorem dX10_fates_65 : decode cX10_fates 65 = .ok (.istore 6, 2) := by decide +kernel
theorem dX10_fates_67 : decode cX10_fates 67 = .ok (.iconst 0, 1) := by decide +kernel
theorem dX10_fates_68 : decode cX10_fates 68 = .ok (.istore 7, 2) := by decide +kernel
theorem dX10_fates_70 : decode cX10_fates 70 = .ok (.iconst 0, 1) := by decide +kernel
theorem dX10_fates_71 : decode cX10_fates 71 = .ok (.istore 8, 2) := by decide +kernel
theorem dX10_fates_73 : decode cX10_fates 73 = .ok (.iload 8, 2) := by decide +kernel
theorem dX10_fates_75 : decode cX10_fates 75 = .ok (.iload 6, 2) := by decide +kernel
theorem dX10_fates_77 : decode cX10_fates 77 = .ok (.ifCond .eq 8, 3) := by decide +kernel
theorem dX10_fates_80 : decode cX10_fates 80 = .ok (.iload 4, 2) := by decide +kernel
theorem dX10_fates_82 : decode cX10_fates 82 = .ok (.goto 5, 3) := by decide +kernel
theorem dX10_fates_85 : decode cX10_fates 85 = .ok (.iload 5, 2) := by decide +kernel
theorem dX10_fates_87 : decode cX10_fates 87 = .ok (.if_icmp .ge 68, 3) := by decide +kernel
theorem dX10_fates_90 : decode cX10_fates 90 = .ok (.aload_n 0, 1) := by decide +kernel
theorem dX10_fates_91 : decode cX10_fates 91 = .ok (.iload 8, 2) := by decide +kernel
theorem dX10_fates_93 : decode cX10_fates 93 = .ok (.iload 6, 2) := by decide +kernel
theorem dX10_fates_95 : decode cX10_fates 95 = .ok (.ifCond .eq 8, 3) := by decide +kernel
theorem dX10_fates_98 : decode cX10_fates 98 = .ok (.iload 5, 2) := by decide +kernel
theorem dX10_fates_100 : decode cX10_fates 100 = .ok (.goto 5, 3) := by decide +kernel
theorem dX10_fates_103 : decode cX10_fates 103 = .ok (.iload 4, 2) := by decide +kernel
theorem dX10_fates_105 : decode cX10_fates 105 = .ok (.iload 6, 2) := by decide +kernel
theorem dX10_fates_107 : decode cX10_fates 107 = .ok (.invokevirtual 428, 3) := by decide +kernel
theorem dX10_fates_110 : decode cX10_fates 110 = .ok (.istore 9, 2) := by decide +kernel
theorem dX10_fates_112 : decode cX10_fates 112 = .ok (.iload 7, 2) := by decide +kernel
theorem dX10_fates_114 : decode cX10_fates 114 = .ok (.iload_n 3, 1) := by decide +kernel
theorem dX10_fates_115 : decode cX10_fates 115 = .ok (.iconst 2, 1) := by decide +kernel
theorem dX10_fates_116 : decode cX10_fates 116 = .ok (.if_icmp .ge 17, 3) := by decide +kernel
theorem dX10_fates_119 : decode cX10_fates 119 = .ok (.iload 9, 2) := by decide +kernel
theorem dX10_fates_121 : decode cX10_fates 121 = .ok (.iconst 1, 1) := by decide +kernel
theorem dX10_fates_122 : decode cX10_fates 122 = .ok (.if_icmp .le 7, 3) := by decide +kernel
theorem dX10_fates_125 : decode cX10_fates 125 = .ok (.iconst 1, 1) := by decide +kernel
theorem dX10_fates_126 : decode cX10_fates 126 = .ok (.goto 17, 3) := by decide +kernel
theorem dX10_fates_129 : decode cX10_fates 129 = .ok (.iconst 0, 1) := by decide +kernel
theorem dX10_fates_130 : decode cX10_fates 130 = .ok (.goto 13, 3) := by decide +kernel
theorem dX10_fates_133 : decode cX10_fates 133 = .ok (.iload 9, 2) := by decide +kernel
theorem dX10_fates_135 : decode cX10_fates 135 = .ok (.ifCond .ne 7, 3) := by decide +kernel
theorem dX10_fates_138 : decode cX10_fates 138 = .ok (.iconst 1, 1) := by decide +kernel
theorem dX10_fates_139 : decode cX10_fates 139 = .ok (.goto 4, 3) := by decide +kernel
theorem dX10_fates_142 : decode cX10_fates 142 = .ok (.iconst 0, 1) := by decide +kernel
theorem dX10_fates_143 : decode cX10_fates 143 = .ok (.invokestatic 317, 3) := by decide +kernel
theorem dX10_fates_146 : decode cX10_fates 146 = .ok (.iadd, 1) := by decide +kernel
theorem dX10_fates_147 : decode cX10_fates 147 = .ok (.istore 7, 2) := by decide +kernel
theorem dX10_fates_149 : decode cX10_fates 149 = .ok (.iinc 8 1, 3) := by decide +kernel
theorem dX10_fates_152 : decode cX10_fates 152 = .ok (.goto (-79), 3) := by decide +kernel
theorem dX10_fates_155 : decode cX10_fates 155 = .ok (.iload 7, 2) := by decide +kernel
theorem dX10_fates_157 : decode cX10_fates 157 = .ok (.ireturn, 1) := by decide +kernel
set_option maxRecDepth 100000 in
theorem SX10_fates_0 {g : zG} {o : Bool} {M : zM} {q : Int → zM → Prop} {x1 x2 x3 : Int} (W : (-2147483648 ≤ x1 ∧ x1 ≤ 2147483647) ∧ (kOk (M 17)) ∧ ((¬ ((0 ≤ x1 ∧ x1 < 3) ∧ M 17 x1 = 1)) → q (-1) M) ∧ (((0 ≤ x1 ∧ x1 < 3) ∧ M 17 x1 = 1) → (-2147483648 ≤ x2 ∧ x2 ≤ 2147483647) ∧ ((x2 < 1) → q (-1) M) ∧ ((¬ (x2 < 1)) → (-2147483648 ≤ x3 ∧ x3 ≤ 2147483647) ∧ ((0 ≤ x3 ∧ x3 ≤ 3) → ∃ q11 : Int → zM → Prop, zKi g (z2 o) mX10_dunesNow [zA g 1, zI x2] M q11 ∧ ∀ (r12 : Int) (M13 : zM), q11 r12 M13 → ∃ q16 : Int → zM → Prop, zKi g (z2 o) mX10_laysDunes [zA g 1, zA g 16, zI (198 * x1), zI x2, zA g 14] M13 q16 ∧ ∀ (r17 : Int) (M18 : zM), q16 r17 M18 → (-2147483648 ≤ x3 ∧ x3 ≤ 2147483647) ∧ ((x3 = 0) → zT g (z2 o) mX10_fates (zQi (z2 o) q) 73 [(0, zA g 1), (3, zI x3), (4, zI r12), (5, zI r17), (6, zI 1), (7, zI 0), (8, zI 0)] [] M18) ∧ ((¬ (x3 = 0)) → ((x3 ≠ 3) → zT g (z2 o) mX10_fates (zQi (z2 o) q) 73 [(0, zA g 1), (3, zI x3), (4, zI r12), (5, zI r17), (6, zI 0), (7, zI 0), (8, zI 0)] [] M18) ∧ ((x3 = 3) → zT g (z2 o) mX10_fates (zQi (z2 o) q) 73 [(0, zA g 1), (3, zI x3), (4, zI r12), (5, zI r17), (6, zI 1), (7, zI 0), (8, zI 0)] [] M18))) ∧ ((¬ (0 ≤ x3 ∧ x3 ≤ 3)) → q (-1) M)))) : zT g (z2 o) mX10_fates (zQi (z2 o) q) 0 [(0, zA g 1), (1, zI x1), (2, zI x2), (3, zI x3)] [] M := by
  refine zr_aload_n 0 dX10_fates_0 rfl ?_
  refine zr_iload_n 1 dX10_fates_1 rfl ?_
  obtain ⟨c1, W⟩ := W
  obtain ⟨c2, W⟩ := W
  refine zt_callVi (As := [zI x1]) (rest := []) dX10_fates_2 kX10_fates_422 rfl rfl rfl rfl (Nat.le_of_ble_eq_true rfl) (c_isKept2 c1 c2) (fun r3 N5 h4 => ?_)
  rw [h4.1, h4.2]
  refine zt_ifeq_b (tgt := 22) dX10_fates_5 (by decide) (fun h => ?_) (fun h => ?_)
  · have W := W.1 h
    refine zr_iconst dX10_fates_22 ?_
    exact zt_iret dX10_fates_23 rfl W
  · have W := W.2 h
    refine zr_iload_n 2 dX10_fates_8 rfl ?_
    refine zr_iconst dX10_fates_9 ?_
    obtain ⟨c6, W⟩ := W
    refine zr_icmp_lt (tgt := 22) dX10_fates_10 (by decide) c6 ⟨by decide, by decide⟩ (fun h => ?_) (fun h => ?_)
    · have W := W.1 h
      refine zr_iconst dX10_fates_22 ?_
      exact zt_iret dX10_fates_23 rfl W
    · have W := W.2 h
      refine zr_iload_n 3 dX10_fates_13 rfl ?_
      refine zr_iconst dX10_fates_14 ?_
      refine zr_iconst dX10_fates_15 ?_
      obtain ⟨c7, W⟩ := W
      refine zt_callSi (As := [zI x3, zI 0, zI 3]) (rest := []) dX10_fates_16 kX10_fates_106 rfl rfl (Nat.le_of_ble_eq_true rfl) (c_isIn c7 ⟨by decide, by decide⟩ ⟨by decide, by decide⟩) (fun r8 N10 h9 => ?_)
      rw [h9.1, h9.2]
      refine zt_ifne_b (tgt := 24) dX10_fates_19 (by decide) (fun h => ?_) (fun h => ?_)
      · have W := W.1 h
        refine zr_aload_n 0 dX10_fates_24 rfl ?_
        refine zr_iload_n 2 dX10_fates_25 rfl ?_
        obtain ⟨q11, k15, W⟩ := W
        refine zt_callVi (As := [zI x2]) (rest := []) dX10_fates_26 kX10_fates_397 rfl rfl rfl rfl (Nat.le_of_ble_eq_true rfl) k15 (fun r12 M13 h14 => ?_)
        have W := W r12 M13 h14
        refine zr_istore (l' := [(0, zA g 1), (1, zI x1), (2, zI x2), (3, zI x3), (4, zI r12)]) dX10_fates_29 (by decide) [1, 2, 3, 4, 0] rfl ?_
        refine zr_aload_n 0 dX10_fates_31 rfl ?_
        refine zr_aload_n 0 dX10_fates_32 rfl ?_
        refine zr_getr (b := 16) dX10_fates_33 fX10_63 rfl rfl rfl (by decide) ?_
        refine zr_sipush dX10_fates_36 (by decide) ?_
        refine zr_iload_n 1 dX10_fates_39 rfl ?_
        refine zr_imul dX10_fates_40 ?_
        refine zr_iload_n 2 dX10_fates_41 rfl ?_
        refine zr_aload_n 0 dX10_fates_42 rfl ?_
        refine zr_getr (b := 14) dX10_fates_43 fX10_57 rfl rfl rfl (by decide) ?_
        obtain ⟨q16, k20, W⟩ := W
        refine zt_callVi (As := [zA g 16, zI (198 * x1), zI x2, zA g 14]) (rest := []) dX10_fates_46 kX10_fates_393 rfl rfl rfl rfl (Nat.le_of_ble_eq_true rfl) k20 (fun r17 M18 h19 => ?_)
        have W := W r17 M18 h19
        refine zr_istore (l' := [(0, zA g 1), (3, zI x3), (4, zI r12), (5, zI r17)]) dX10_fates_49 (by decide) [1, 4, 5, 0] rfl ?_
        refine zr_iload_n 1 dX10_fates_51 rfl ?_
        obtain ⟨c21, W⟩ := W
        refine zr_if_eq (tgt := 60) dX10_fates_52 (by decide) c21 (fun h => ?_) (fun h => ?_)
        · have W := W.1 h
          refine zr_iconst dX10_fates_60 ?_
          refine zr_goto (tgt := 65) dX10_fates_61 (by decide) ?_
          refine zr_istore (l' := [(0, zA g 1), (3, zI x3), (4, zI r12), (5, zI r17), (6, zI 1)]) dX10_fates_65 (by decide) [1, 2, 3, 4, 0] rfl ?_
          refine zr_iconst dX10_fates_67 ?_
          refine zr_istore (l' := [(0, zA g 1), (3, zI x3), (4, zI r12), (5, zI r17), (6, zI 1), (7, zI 0)]) dX10_fates_68 (by decide) [1, 2, 3, 4, 5, 0] rfl ?_
          refine zr_iconst dX10_fates_70 ?_
          refine zr_istore (l' := [(0, zA g 1), (3, zI x3), (4, zI r12), (5, zI r17), (6, zI 1), (7, zI 0), (8, zI 0)]) dX10_fates_71 (by decide) [1, 2, 3, 4, 5, 6, 0] rfl ?_
          exact W
        · have W := W.2 h
          refine zr_iload_n 1 dX10_fates_55 rfl ?_
          refine zr_iconst dX10_fates_56 ?_
          refine zr_icmp_ne (tgt := 64) dX10_fates_57 (by decide) c21 ⟨by decide, by decide⟩ (fun h => ?_) (fun h => ?_)
          · have W := W.1 h
            refine zr_iconst dX10_fates_64 ?_
            refine zr_istore (l' := [(0, zA g 1), (3, zI x3), (4, zI r12), (5, zI r17), (6, zI 0)]) dX10_fates_65 (by decide) [1, 2, 3, 4, 0] rfl ?_
            refine zr_iconst dX10_fates_67 ?_
            refine zr_istore (l' := [(0, zA g 1), (3, zI x3), (4, zI r12), (5, zI r17), (6, zI 0), (7, zI 0)]) dX10_fates_68 (by decide) [1, 2, 3, 4, 5, 0] rfl ?_
            refine zr_iconst dX10_fates_70 ?_
            refine zr_istore (l' := [(0, zA g 1), (3, zI x3), (4, zI r12), (5, zI r17), (6, zI 0), (7, zI 0), (8, zI 0)]) dX10_fates_71 (by decide) [1, 2, 3, 4, 5, 6, 0] rfl ?_
            exact W
          · have W := W.2 h
            refine zr_iconst dX10_fates_60 ?_
            refine zr_goto (tgt := 65) dX10_fates_61 (by decide) ?_
            refine zr_istore (l' := [(0, zA g 1), (3, zI x3), (4, zI r12), (5, zI r17), (6, zI 1)]) dX10_fates_65 (by decide) [1, 2, 3, 4, 0] rfl ?_
            refine zr_iconst dX10_fates_67 ?_
            refine zr_istore (l' := [(0, zA g 1), (3, zI x3), (4, zI r12), (5, zI r17), (6, zI 1), (7, zI 0)]) dX10_fates_68 (by decide) [1, 2, 3, 4, 5, 0] rfl ?_
            refine zr_iconst dX10_fates_70 ?_
            refine zr_istore (l' := [(0, zA g 1), (3, zI x3), (4, zI r12), (5, zI r17), (6, zI 1), (7, zI 0), (8, zI 0)]) dX10_fates_71 (by decide) [1, 2, 3, 4, 5, 6, 0] rfl ?_
            exact W
      · have W := W.2 h
        refine zr_iconst dX10_fates_22 ?_
        exact zt_iret dX10_fates_23 rfl W
set_option maxRecDepth 100000 in
theorem SX10_fates_73 {g : zG} {o : Bool} {M : zM} {q : Int → zM → Prop} {x3 x4 x5 x6 x7 x8 : Int} (W : (-2147483648 ≤ x6 ∧ x6 ≤ 2147483647) ∧ ((x6 = 0) → (-2147483648 ≤ x8 ∧ x8 ≤ 2147483647) ∧ (-2147483648 ≤ x5 ∧ x5 ≤ 2147483647) ∧ ((x5 ≤ x8) → q x7 M) ∧ ((¬ (x5 ≤ x8)) → ((x6 = 0) → ∃ q4 : Int → zM → Prop, zKi g (z2 o) mX10_meets [zA g 1, zI x8, zI x4, zI x6] M q4 ∧ ∀ (r5 : Int) (M6 : zM), q4 r5 M6 → (-2147483648 ≤ x3 ∧ x3 ≤ 2147483647) ∧ ((2 ≤ x3) → (-2147483648 ≤ r5 ∧ r5 ≤ 2147483647) ∧ ((r5 ≠ 0) → zT g (z2 o) mX10_fates (zQi (z2 o) q) 73 [(0, zA g 1), (3, zI x3), (4, zI x4), (5, zI x5), (6, zI x6), (7, zI (x7 + 0)), (8, zI (x8 + 1))] [] M6) ∧ ((r5 = 0) → zT g (z2 o) mX10_fates (zQi (z2 o) q) 73 [(0, zA g 1), (3, zI x3), (4, zI x4), (5, zI x5), (6, zI x6), (7, zI (x7 + 1)), (8, zI (x8 + 1))] [] M6)) ∧ ((¬ (2 ≤ x3)) → (-2147483648 ≤ r5 ∧ r5 ≤ 2147483647) ∧ ((r5 ≤ 1) → zT g (z2 o) mX10_fates (zQi (z2 o) q) 73 [(0, zA g 1), (3, zI x3), (4, zI x4), (5, zI x5), (6, zI x6), (7, zI (x7 + 0)), (8, zI (x8 + 1))] [] M6) ∧ ((¬ (r5 ≤ 1)) → zT g (z2 o) mX10_fates (zQi (z2 o) q) 73 [(0, zA g 1), (3, zI x3), (4, zI x4), (5, zI x5), (6, zI x6), (7, zI (x7 + 1)), (8, zI (x8 + 1))] [] M6))) ∧ ((¬ (x6 = 0)) → ∃ q24 : Int → zM → Prop, zKi g (z2 o) mX10_meets [zA g 1, zI x8, zI x5, zI x6] M q24 ∧ ∀ (r25 : Int) (M26 : zM), q24 r25 M26 → (-2147483648 ≤ x3 ∧ x3 ≤ 2147483647) ∧ ((2 ≤ x3) → (-2147483648 ≤ r25 ∧ r25 ≤ 2147483647) ∧ ((r25 ≠ 0) → zT g (z2 o) mX10_fates (zQi (z2 o) q) 73 [(0, zA g 1), (3, zI x3), (4, zI x4), (5, zI x5), (6, zI x6), (7, zI (x7 + 0)), (8, zI (x8 + 1))] [] M26) ∧ ((r25 = 0) → zT g (z2 o) mX10_fates (zQi (z2 o) q) 73 [(0, zA g 1), (3, zI x3), (4, zI x4), (5, zI x5), (6, zI x6), (7, zI (x7 + 1)), (8, zI (x8 + 1))] [] M26)) ∧ ((¬ (2 ≤ x3)) → (-2147483648 ≤ r25 ∧ r25 ≤ 2147483647) ∧ ((r25 ≤ 1) → zT g (z2 o) mX10_fates (zQi (z2 o) q) 73 [(0, zA g 1), (3, zI x3), (4, zI x4), (5, zI x5), (6, zI x6), (7, zI (x7 + 0)), (8, zI (x8 + 1))] [] M26) ∧ ((¬ (r25 ≤ 1)) → zT g (z2 o) mX10_fates (zQi (z2 o) q) 73 [(0, zA g 1), (3, zI x3), (4, zI x4), (5, zI x5), (6, zI x6), (7, zI (x7 + 1)), (8, zI (x8 + 1))] [] M26))))) ∧ ((¬ (x6 = 0)) → (-2147483648 ≤ x8 ∧ x8 ≤ 2147483647) ∧ (-2147483648 ≤ x4 ∧ x4 ≤ 2147483647) ∧ ((x4 ≤ x8) → q x7 M) ∧ ((¬ (x4 ≤ x8)) → ((x6 = 0) → ∃ q46 : Int → zM → Prop, zKi g (z2 o) mX10_meets [zA g 1, zI x8, zI x4, zI x6] M q46 ∧ ∀ (r47 : Int) (M48 : zM), q46 r47 M48 → (-2147483648 ≤ x3 ∧ x3 ≤ 2147483647) ∧ ((2 ≤ x3) → (-2147483648 ≤ r47 ∧ r47 ≤ 2147483647) ∧ ((r47 ≠ 0) → zT g (z2 o) mX10_fates (zQi (z2 o) q) 73 [(0, zA g 1), (3, zI x3), (4, zI x4), (5, zI x5), (6, zI x6), (7, zI (x7 + 0)), (8, zI (x8 + 1))] [] M48) ∧ ((r47 = 0) → zT g (z2 o) mX10_fates (zQi (z2 o) q) 73 [(0, zA g 1), (3, zI x3), (4, zI x4), (5, zI x5), (6, zI x6), (7, zI (x7 + 1)), (8, zI (x8 + 1))] [] M48)) ∧ ((¬ (2 ≤ x3)) → (-2147483648 ≤ r47 ∧ r47 ≤ 2147483647) ∧ ((r47 ≤ 1) → zT g (z2 o) mX10_fates (zQi (z2 o) q) 73 [(0, zA g 1), (3, zI x3), (4, zI x4), (5, zI x5), (6, zI x6), (7, zI (x7 + 0)), (8, zI (x8 + 1))] [] M48) ∧ ((¬ (r47 ≤ 1)) → zT g (z2 o) mX10_fates (zQi (z2 o) q) 73 [(0, zA g 1), (3, zI x3), (4, zI x4), (5, zI x5), (6, zI x6), (7, zI (x7 + 1)), (8, zI (x8 + 1))] [] M48))) ∧ ((¬ (x6 = 0)) → ∃ q66 : Int → zM → Prop, zKi g (z2 o) mX10_meets [zA g 1, zI x8, zI x5, zI x6] M q66 ∧ ∀ (r67 : Int) (M68 : zM), q66 r67 M68 → (-2147483648 ≤ x3 ∧ x3 ≤ 2147483647) ∧ ((2 ≤ x3) → (-2147483648 ≤ r67 ∧ r67 ≤ 2147483647) ∧ ((r67 ≠ 0) → zT g (z2 o) mX10_fates (zQi (z2 o) q) 73 [(0, zA g 1), (3, zI x3), (4, zI x4), (5, zI x5), (6, zI x6), (7, zI (x7 + 0)), (8, zI (x8 + 1))] [] M68) ∧ ((r67 = 0) → zT g (z2 o) mX10_fates (zQi (z2 o) q) 73 [(0, zA g 1), (3, zI x3), (4, zI x4), (5, zI x5), (6, zI x6), (7, zI (x7 + 1)), (8, zI (x8 + 1))] [] M68)) ∧ ((¬ (2 ≤ x3)) → (-2147483648 ≤ r67 ∧ r67 ≤ 2147483647) ∧ ((r67 ≤ 1) → zT g (z2 o) mX10_fates (zQi (z2 o) q) 73 [(0, zA g 1), (3, zI x3), (4, zI x4), (5, zI x5), (6, zI x6), (7, zI (x7 + 0)), (8, zI (x8 + 1))] [] M68) ∧ ((¬ (r67 ≤ 1)) → zT g (z2 o) mX10_fates (zQi (z2 o) q) 73 [(0, zA g 1), (3, zI x3), (4, zI x4), (5, zI x5), (6, zI x6), (7, zI (x7 + 1)), (8, zI (x8 + 1))] [] M68)))))) : zT g (z2 o) mX10_fates (zQi (z2 o) q) 73 [(0, zA g 1), (3, zI x3), (4, zI x4), (5, zI x5), (6, zI x6), (7, zI x7), (8, zI x8)] [] M := by
  refine zr_iload 6 dX10_fates_73 rfl ?_
  refine zr_iload 4 dX10_fates_75 rfl ?_
  obtain ⟨c1, W⟩ := W
  refine zr_if_eq (tgt := 85) dX10_fates_77 (by decide) c1 (fun h => ?_) (fun h => ?_)
  · have W := W.1 h
    refine zr_iload 3 dX10_fates_85 rfl ?_
    obtain ⟨c2, W⟩ := W
    obtain ⟨c3, W⟩ := W
    refine zr_icmp_ge (tgt := 155) dX10_fates_87 (by decide) c2 c3 (fun h => ?_) (fun h => ?_)
    · have W := W.1 h
      refine zr_iload 5 dX10_fates_155 rfl ?_
      exact zt_iret dX10_fates_157 rfl W
    · have W := W.2 h
      refine zr_aload_n 0 dX10_fates_90 rfl ?_
      refine zr_iload 6 dX10_fates_91 rfl ?_
      refine zr_iload 4 dX10_fates_93 rfl ?_
      refine zr_if_eq (tgt := 103) dX10_fates_95 (by decide) c1 (fun h => ?_) (fun h => ?_)
      · have W := W.1 h
        refine zr_iload 2 dX10_fates_103 rfl ?_
        refine zr_iload 4 dX10_fates_105 rfl ?_
        obtain ⟨q4, k8, W⟩ := W
        refine zt_callVi (As := [zI x8, zI x4, zI x6]) (rest := []) dX10_fates_107 kX10_fates_428 rfl rfl rfl rfl (Nat.le_of_ble_eq_true rfl) k8 (fun r5 M6 h7 => ?_)
        have W := W r5 M6 h7
        refine zr_istore (l' := [(0, zA g 1), (3, zI x3), (4, zI x4), (5, zI x5), (6, zI x6), (7, zI x7), (8, zI x8), (9, zI r5)]) dX10_fates_110 (by decide) [1, 2, 3, 4, 5, 6, 7, 0] rfl ?_
        refine zr_iload 5 dX10_fates_112 rfl ?_
        refine zr_iload_n 1 dX10_fates_114 rfl ?_
        refine zr_iconst dX10_fates_115 ?_
        obtain ⟨c9, W⟩ := W
        refine zr_icmp_ge (tgt := 133) dX10_fates_116 (by decide) c9 ⟨by decide, by decide⟩ (fun h => ?_) (fun h => ?_)
        · have W := W.1 h
          refine zr_iload 7 dX10_fates_133 rfl ?_
          obtain ⟨c10, W⟩ := W
          refine zr_if_ne (tgt := 142) dX10_fates_135 (by decide) c10 (fun h => ?_) (fun h => ?_)
          · have W := W.1 h
            refine zr_iconst dX10_fates_142 ?_
            refine zt_callSi (As := [zI 0]) (rest := [zI x7]) dX10_fates_143 kX10_fates_317 rfl rfl (Nat.le_of_ble_eq_true rfl) (c_truthi (by decide)) (fun r11 N13 h12 => ?_)
            rw [h12.1, h12.2]
            refine zr_iadd dX10_fates_146 ?_
            refine zr_istore (l' := [(0, zA g 1), (3, zI x3), (4, zI x4), (5, zI x5), (6, zI x6), (7, zI (x7 + 0)), (8, zI x8)]) dX10_fates_147 (by decide) [1, 2, 3, 4, 5, 0, 6] rfl ?_
            refine zr_iinc (q := 6) (l' := [(0, zA g 1), (3, zI x3), (4, zI x4), (5, zI x5), (6, zI x6), (7, zI (x7 + 0)), (8, zI (x8 + 1))]) dX10_fates_149 rfl (by decide) [1, 2, 3, 4, 5, 6, 0] rfl ?_
            refine zr_goto (tgt := 73) dX10_fates_152 (by decide) ?_
            exact W
          · have W := W.2 h
            refine zr_iconst dX10_fates_138 ?_
            refine zr_goto (tgt := 143) dX10_fates_139 (by decide) ?_
            refine zt_callSi (As := [zI 1]) (rest := [zI x7]) dX10_fates_143 kX10_fates_317 rfl rfl (Nat.le_of_ble_eq_true rfl) (c_truthi (by decide)) (fun r14 N16 h15 => ?_)
            rw [h15.1, h15.2]
            refine zr_iadd dX10_fates_146 ?_
            refine zr_istore (l' := [(0, zA g 1), (3, zI x3), (4, zI x4), (5, zI x5), (6, zI x6), (7, zI (x7 + 1)), (8, zI x8)]) dX10_fates_147 (by decide) [1, 2, 3, 4, 5, 0, 6] rfl ?_
            refine zr_iinc (q := 6) (l' := [(0, zA g 1), (3, zI x3), (4, zI x4), (5, zI x5), (6, zI x6), (7, zI (x7 + 1)), (8, zI (x8 + 1))]) dX10_fates_149 rfl (by decide) [1, 2, 3, 4, 5, 6, 0] rfl ?_
            refine zr_goto (tgt := 73) dX10_fates_152 (by decide) ?_
            exact W
        · have W := W.2 h
          refine zr_iload 7 dX10_fates_119 rfl ?_
          refine zr_iconst dX10_fates_121 ?_
          obtain ⟨c17, W⟩ := W
          refine zr_icmp_le (tgt := 129) dX10_fates_122 (by decide) c17 ⟨by decide, by decide⟩ (fun h => ?_) (fun h => ?_)
          · have W := W.1 h
            refine zr_iconst dX10_fates_129 ?_
            refine zr_goto (tgt := 143) dX10_fates_130 (by decide) ?_
            refine zt_callSi (As := [zI 0]) (rest := [zI x7]) dX10_fates_143 kX10_fates_317 rfl rfl (Nat.le_of_ble_eq_true rfl) (c_truthi (by decide)) (fun r18 N20 h19 => ?_)
            rw [h19.1, h19.2]
            refine zr_iadd dX10_fates_146 ?_
            refine zr_istore (l' := [(0, zA g 1), (3, zI x3), (4, zI x4), (5, zI x5), (6, zI x6), (7, zI (x7 + 0)), (8, zI x8)]) dX10_fates_147 (by decide) [1, 2, 3, 4, 5, 0, 6] rfl ?_
            refine zr_iinc (q := 6) (l' := [(0, zA g 1), (3, zI x3), (4, zI x4), (5, zI x5), (6, zI x6), (7, zI (x7 + 0)), (8, zI (x8 + 1))]) dX10_fates_149 rfl (by decide) [1, 2, 3, 4, 5, 6, 0] rfl ?_
            refine zr_goto (tgt := 73) dX10_fates_152 (by decide) ?_
            exact W
          · have W := W.2 h
            refine zr_iconst dX10_fates_125 ?_
            refine zr_goto (tgt := 143) dX10_fates_126 (by decide) ?_
            refine zt_callSi (As := [zI 1]) (rest := [zI x7]) dX10_fates_143 kX10_fates_317 rfl rfl (Nat.le_of_ble_eq_true rfl) (c_truthi (by decide)) (fun r21 N23 h22 => ?_)
            rw [h22.1, h22.2]
            refine zr_iadd dX10_fates_146 ?_
            refine zr_istore (l' := [(0, zA g 1), (3, zI x3), (4, zI x4), (5, zI x5), (6, zI x6), (7, zI (x7 + 1)), (8, zI x8)]) dX10_fates_147 (by decide) [1, 2, 3, 4, 5, 0, 6] rfl ?_
            refine zr_iinc (q := 6) (l' := [(0, zA g 1), (3, zI x3), (4, zI x4), (5, zI x5), (6, zI x6), (7, zI (x7 + 1)), (8, zI (x8 + 1))]) dX10_fates_149 rfl (by decide) [1, 2, 3, 4, 5, 6, 0] rfl ?_
            refine zr_goto (tgt := 73) dX10_fates_152 (by decide) ?_
            exact W
      · have W := W.2 h
        refine zr_iload 3 dX10_fates_98 rfl ?_
        refine zr_goto (tgt := 105) dX10_fates_100 (by decide) ?_
        refine zr_iload 4 dX10_fates_105 rfl ?_
        obtain ⟨q24, k28, W⟩ := W
        refine zt_callVi (As := [zI x8, zI x5, zI x6]) (rest := []) dX10_fates_107 kX10_fates_428 rfl rfl rfl rfl (Nat.le_of_ble_eq_true rfl) k28 (fun r25 M26 h27 => ?_)
        have W := W r25 M26 h27
        refine zr_istore (l' := [(0, zA g 1), (3, zI x3), (4, zI x4), (5, zI x5), (6, zI x6), (7, zI x7), (8, zI x8), (9, zI r25)]) dX10_fates_110 (by decide) [1, 2, 3, 4, 5, 6, 7, 0] rfl ?_
        refine zr_iload 5 dX10_fates_112 rfl ?_
        refine zr_iload_n 1 dX10_fates_114 rfl ?_
        refine zr_iconst dX10_fates_115 ?_
        obtain ⟨c29, W⟩ := W
        refine zr_icmp_ge (tgt := 133) dX10_fates_116 (by decide) c29 ⟨by decide, by decide⟩ (fun h => ?_) (fun h => ?_)
        · have W := W.1 h
          refine zr_iload 7 dX10_fates_133 rfl ?_
          obtain ⟨c30, W⟩ := W
          refine zr_if_ne (tgt := 142) dX10_fates_135 (by decide) c30 (fun h => ?_) (fun h => ?_)
          · have W := W.1 h
            refine zr_iconst dX10_fates_142 ?_
            refine zt_callSi (As := [zI 0]) (rest := [zI x7]) dX10_fates_143 kX10_fates_317 rfl rfl (Nat.le_of_ble_eq_true rfl) (c_truthi (by decide)) (fun r31 N33 h32 => ?_)
            rw [h32.1, h32.2]
            refine zr_iadd dX10_fates_146 ?_
            refine zr_istore (l' := [(0, zA g 1), (3, zI x3), (4, zI x4), (5, zI x5), (6, zI x6), (7, zI (x7 + 0)), (8, zI x8)]) dX10_fates_147 (by decide) [1, 2, 3, 4, 5, 0, 6] rfl ?_
            refine zr_iinc (q := 6) (l' := [(0, zA g 1), (3, zI x3), (4, zI x4), (5, zI x5), (6, zI x6), (7, zI (x7 + 0)), (8, zI (x8 + 1))]) dX10_fates_149 rfl (by decide) [1, 2, 3, 4, 5, 6, 0] rfl ?_
            refine zr_goto (tgt := 73) dX10_fates_152 (by decide) ?_
            exact W
          · have W := W.2 h
            refine zr_iconst dX10_fates_138 ?_
            refine zr_goto (tgt := 143) dX10_fates_139 (by decide) ?_
            refine zt_callSi (As := [zI 1]) (rest := [zI x7]) dX10_fates_143 kX10_fates_317 rfl rfl (Nat.le_of_ble_eq_true rfl) (c_truthi (by decide)) (fun r34 N36 h35 => ?_)
            rw [h35.1, h35.2]
            refine zr_iadd dX10_fates_146 ?_
            refine zr_istore (l' := [(0, zA g 1), (3, zI x3), (4, zI x4), (5, zI x5), (6, zI x6), (7, zI (x7 + 1)), (8, zI x8)]) dX10_fates_147 (by decide) [1, 2, 3, 4, 5, 0, 6] rfl ?_
            refine zr_iinc (q := 6) (l' := [(0, zA g 1), (3, zI x3), (4, zI x4), (5, zI x5), (6, zI x6), (7, zI (x7 + 1)), (8, zI (x8 + 1))]) dX10_fates_149 rfl (by decide) [1, 2, 3, 4, 5, 6, 0] rfl ?_
            refine zr_goto (tgt := 73) dX10_fates_152 (by decide) ?_
            exact W
        · have W := W.2 h
          refine zr_iload 7 dX10_fates_119 rfl ?_
          refine zr_iconst dX10_fates_121 ?_
          obtain ⟨c37, W⟩ := W
          refine zr_icmp_le (tgt := 129) dX10_fates_122 (by decide) c37 ⟨by decide, by decide⟩ (fun h => ?_) (fun h => ?_)
          · have W := W.1 h
            refine zr_iconst dX10_fates_129 ?_
            refine zr_goto (tgt := 143) dX10_fates_130 (by decide) ?_
            refine zt_callSi (As := [zI 0]) (rest := [zI x7]) dX10_fates_143 kX10_fates_317 rfl rfl (Nat.le_of_ble_eq_true rfl) (c_truthi (by decide)) (fun r38 N40 h39 => ?_)
            rw [h39.1, h39.2]
            refine zr_iadd dX10_fates_146 ?_
            refine zr_istore (l' := [(0, zA g 1), (3, zI x3), (4, zI x4), (5, zI x5), (6, zI x6), (7, zI (x7 + 0)), (8, zI x8)]) dX10_fates_147 (by decide) [1, 2, 3, 4, 5, 0, 6] rfl ?_
            refine zr_iinc (q := 6) (l' := [(0, zA g 1), (3, zI x3), (4, zI x4), (5, zI x5), (6, zI x6), (7, zI (x7 + 0)), (8, zI (x8 + 1))]) dX10_fates_149 rfl (by decide) [1, 2, 3, 4, 5, 6, 0] rfl ?_
            refine zr_goto (tgt := 73) dX10_fates_152 (by decide) ?_
            exact W
          · have W := W.2 h
            refine zr_iconst dX10_fates_125 ?_
            refine zr_goto (tgt := 143) dX10_fates_126 (by decide) ?_
            refine zt_callSi (As := [zI 1]) (rest := [zI x7]) dX10_fates_143 kX10_fates_317 rfl rfl (Nat.le_of_ble_eq_true rfl) (c_truthi (by decide)) (fun r41 N43 h42 => ?_)
            rw [h42.1, h42.2]
            refine zr_iadd dX10_fates_146 ?_
            refine zr_istore (l' := [(0, zA g 1), (3, zI x3), (4, zI x4), (5, zI x5), (6, zI x6), (7, zI (x7 + 1)), (8, zI x8)]) dX10_fates_147 (by decide) [1, 2, 3, 4, 5, 0, 6] rfl ?_
            refine zr_iinc (q := 6) (l' := [(0, zA g 1), (3, zI x3), (4, zI x4), (5, zI x5), (6, zI x6), (7, zI (x7 + 1)), (8, zI (x8 + 1))]) dX10_fates_149 rfl (by decide) [1, 2, 3, 4, 5, 6, 0] rfl ?_
            refine zr_goto (tgt := 73) dX10_fates_152 (by decide) ?_
            exact W
  · have W := W.2 h
    refine zr_iload 2 dX10_fates_80 rfl ?_
    refine zr_goto (tgt := 87) dX10_fates_82 (by decide) ?_
    obtain ⟨c44, W⟩ := W
    obtain ⟨c45, W⟩ := W
    refine zr_icmp_ge (tgt := 155) dX10_fates_87 (by decide) c44 c45 (fun h => ?_) (fun h => ?_)
    · have W := W.1 h
      refine zr_iload 5 dX10_fates_155 rfl ?_
      exact zt_iret dX10_fates_157 rfl W
    · have W := W.2 h
      refine zr_aload_n 0 dX10_fates_90 rfl ?_
      refine zr_iload 6 dX10_fates_91 rfl ?_
      refine zr_iload 4 dX10_fates_93 rfl ?_
      refine zr_if_eq (tgt := 103) dX10_fates_95 (by decide) c1 (fun h => ?_) (fun h => ?_)
      · have W := W.1 h
        refine zr_iload 2 dX10_fates_103 rfl ?_
        refine zr_iload 4 dX10_fates_105 rfl ?_
        obtain ⟨q46, k50, W⟩ := W
        refine zt_callVi (As := [zI x8, zI x4, zI x6]) (rest := []) dX10_fates_107 kX10_fates_428 rfl rfl rfl rfl (Nat.le_of_ble_eq_true rfl) k50 (fun r47 M48 h49 => ?_)
        have W := W r47 M48 h49
        refine zr_istore (l' := [(0, zA g 1), (3, zI x3), (4, zI x4), (5, zI x5), (6, zI x6), (7, zI x7), (8, zI x8), (9, zI r47)]) dX10_fates_110 (by decide) [1, 2, 3, 4, 5, 6, 7, 0] rfl ?_
        refine zr_iload 5 dX10_fates_112 rfl ?_
        refine zr_iload_n 1 dX10_fates_114 rfl ?_
        refine zr_iconst dX10_fates_115 ?_
        obtain ⟨c51, W⟩ := W
        refine zr_icmp_ge (tgt := 133) dX10_fates_116 (by decide) c51 ⟨by decide, by decide⟩ (fun h => ?_) (fun h => ?_)
        · have W := W.1 h
          refine zr_iload 7 dX10_fates_133 rfl ?_
          obtain ⟨c52, W⟩ := W
          refine zr_if_ne (tgt := 142) dX10_fates_135 (by decide) c52 (fun h => ?_) (fun h => ?_)
          · have W := W.1 h
            refine zr_iconst dX10_fates_142 ?_
            refine zt_callSi (As := [zI 0]) (rest := [zI x7]) dX10_fates_143 kX10_fates_317 rfl rfl (Nat.le_of_ble_eq_true rfl) (c_truthi (by decide)) (fun r53 N55 h54 => ?_)
            rw [h54.1, h54.2]
            refine zr_iadd dX10_fates_146 ?_
            refine zr_istore (l' := [(0, zA g 1), (3, zI x3), (4, zI x4), (5, zI x5), (6, zI x6), (7, zI (x7 + 0)), (8, zI x8)]) dX10_fates_147 (by decide) [1, 2, 3, 4, 5, 0, 6] rfl ?_
            refine zr_iinc (q := 6) (l' := [(0, zA g 1), (3, zI x3), (4, zI x4), (5, zI x5), (6, zI x6), (7, zI (x7 + 0)), (8, zI (x8 + 1))]) dX10_fates_149 rfl (by decide) [1, 2, 3, 4, 5, 6, 0] rfl ?_
            refine zr_goto (tgt := 73) dX10_fates_152 (by decide) ?_
            exact W
          · have W := W.2 h
            refine zr_iconst dX10_fates_138 ?_
            refine zr_goto (tgt := 143) dX10_fates_139 (by decide) ?_
            refine zt_callSi (As := [zI 1]) (rest := [zI x7]) dX10_fates_143 kX10_fates_317 rfl rfl (Nat.le_of_ble_eq_true rfl) (c_truthi (by decide)) (fun r56 N58 h57 => ?_)
            rw [h57.1, h57.2]
            refine zr_iadd dX10_fates_146 ?_
            refine zr_istore (l' := [(0, zA g 1), (3, zI x3), (4, zI x4), (5, zI x5), (6, zI x6), (7, zI (x7 + 1)), (8, zI x8)]) dX10_fates_147 (by decide) [1, 2, 3, 4, 5, 0, 6] rfl ?_
            refine zr_iinc (q := 6) (l' := [(0, zA g 1), (3, zI x3), (4, zI x4), (5, zI x5), (6, zI x6), (7, zI (x7 + 1)), (8, zI (x8 + 1))]) dX10_fates_149 rfl (by decide) [1, 2, 3, 4, 5, 6, 0] rfl ?_
            refine zr_goto (tgt := 73) dX10_fates_152 (by decide) ?_
            exact W
        · have W := W.2 h
          refine zr_iload 7 dX10_fates_119 rfl ?_
          refine zr_iconst dX10_fates_121 ?_
          obtain ⟨c59, W⟩ := W
          refine zr_icmp_le (tgt := 129) dX10_fates_122 (by decide) c59 ⟨by decide, by decide⟩ (fun h => ?_) (fun h => ?_)
          · have W := W.1 h
            refine zr_iconst dX10_fates_129 ?_
            refine zr_goto (tgt := 143) dX10_fates_130 (by decide) ?_
            refine zt_callSi (As := [zI 0]) (rest := [zI x7]) dX10_fates_143 kX10_fates_317 rfl rfl (Nat.le_of_ble_eq_true rfl) (c_truthi (by decide)) (fun r60 N62 h61 => ?_)
            rw [h61.1, h61.2]
            refine zr_iadd dX10_fates_146 ?_
            refine zr_istore (l' := [(0, zA g 1), (3, zI x3), (4, zI x4), (5, zI x5), (6, zI x6), (7, zI (x7 + 0)), (8, zI x8)]) dX10_fates_147 (by decide) [1, 2, 3, 4, 5, 0, 6] rfl ?_
            refine zr_iinc (q := 6) (l' := [(0, zA g 1), (3, zI x3), (4, zI x4), (5, zI x5), (6, zI x6), (7, zI (x7 + 0)), (8, zI (x8 + 1))]) dX10_fates_149 rfl (by decide) [1, 2, 3, 4, 5, 6, 0] rfl ?_
            refine zr_goto (tgt := 73) dX10_fates_152 (by decide) ?_
            exact W
          · have W := W.2 h
            refine zr_iconst dX10_fates_125 ?_
            refine zr_goto (tgt := 143) dX10_fates_126 (by decide) ?_
            refine zt_callSi (As := [zI 1]) (rest := [zI x7]) dX10_fates_143 kX10_fates_317 rfl rfl (Nat.le_of_ble_eq_true rfl) (c_truthi (by decide)) (fun r63 N65 h64 => ?_)
            rw [h64.1, h64.2]
            refine zr_iadd dX10_fates_146 ?_
            refine zr_istore (l' := [(0, zA g 1), (3, zI x3), (4, zI x4), (5, zI x5), (6, zI x6), (7, zI (x7 + 1)), (8, zI x8)]) dX10_fates_147 (by decide) [1, 2, 3, 4, 5, 0, 6] rfl ?_
            refine zr_iinc (q := 6) (l' := [(0, zA g 1), (3, zI x3), (4, zI x4), (5, zI x5), (6, zI x6), (7, zI (x7 + 1)), (8, zI (x8 + 1))]) dX10_fates_149 rfl (by decide) [1, 2, 3, 4, 5, 6, 0] rfl ?_
            refine zr_goto (tgt := 73) dX10_fates_152 (by decide) ?_
            exact W
      · have W := W.2 h
        refine zr_iload 3 dX10_fates_98 rfl ?_
        refine zr_goto (tgt := 105) dX10_fates_100 (by decide) ?_
        refine zr_iload 4 dX10_fates_105 rfl ?_
        obtain ⟨q66, k70, W⟩ := W
        refine zt_callVi (As := [zI x8, zI x5, zI x6]) (rest := []) dX10_fates_107 kX10_fates_428 rfl rfl rfl rfl (Nat.le_of_ble_eq_true rfl) k70 (fun r67 M68 h69 => ?_)
        have W := W r67 M68 h69
        refine zr_istore (l' := [(0, zA g 1), (3, zI x3), (4, zI x4), (5, zI x5), (6, zI x6), (7, zI x7), (8, zI x8), (9, zI r67)]) dX10_fates_110 (by decide) [1, 2, 3, 4, 5, 6, 7, 0] rfl ?_
        refine zr_iload 5 dX10_fates_112 rfl ?_
        refine zr_iload_n 1 dX10_fates_114 rfl ?_
        refine zr_iconst dX10_fates_115 ?_
        obtain ⟨c71, W⟩ := W
        refine zr_icmp_ge (tgt := 133) dX10_fates_116 (by decide) c71 ⟨by decide, by decide⟩ (fun h => ?_) (fun h => ?_)
        · have W := W.1 h
          refine zr_iload 7 dX10_fates_133 rfl ?_
          obtain ⟨c72, W⟩ := W
          refine zr_if_ne (tgt := 142) dX10_fates_135 (by decide) c72 (fun h => ?_) (fun h => ?_)
          · have W := W.1 h
            refine zr_iconst dX10_fates_142 ?_
            refine zt_callSi (As := [zI 0]) (rest := [zI x7]) dX10_fates_143 kX10_fates_317 rfl rfl (Nat.le_of_ble_eq_true rfl) (c_truthi (by decide)) (fun r73 N75 h74 => ?_)
            rw [h74.1, h74.2]
            refine zr_iadd dX10_fates_146 ?_
            refine zr_istore (l' := [(0, zA g 1), (3, zI x3), (4, zI x4), (5, zI x5), (6, zI x6), (7, zI (x7 + 0)), (8, zI x8)]) dX10_fates_147 (by decide) [1, 2, 3, 4, 5, 0, 6] rfl ?_
            refine zr_iinc (q := 6) (l' := [(0, zA g 1), (3, zI x3), (4, zI x4), (5, zI x5), (6, zI x6), (7, zI (x7 + 0)), (8, zI (x8 + 1))]) dX10_fates_149 rfl (by decide) [1, 2, 3, 4, 5, 6, 0] rfl ?_
            refine zr_goto (tgt := 73) dX10_fates_152 (by decide) ?_
            exact W
          · have W := W.2 h
            refine zr_iconst dX10_fates_138 ?_
            refine zr_goto (tgt := 143) dX10_fates_139 (by decide) ?_
            refine zt_callSi (As := [zI 1]) (rest := [zI x7]) dX10_fates_143 kX10_fates_317 rfl rfl (Nat.le_of_ble_eq_true rfl) (c_truthi (by decide)) (fun r76 N78 h77 => ?_)
            rw [h77.1, h77.2]
            refine zr_iadd dX10_fates_146 ?_
            refine zr_istore (l' := [(0, zA g 1), (3, zI x3), (4, zI x4), (5, zI x5), (6, zI x6), (7, zI (x7 + 1)), (8, zI x8)]) dX10_fates_147 (by decide) [1, 2, 3, 4, 5, 0, 6] rfl ?_
            refine zr_iinc (q := 6) (l' := [(0, zA g 1), (3, zI x3), (4, zI x4), (5, zI x5), (6, zI x6), (7, zI (x7 + 1)), (8, zI (x8 + 1))]) dX10_fates_149 rfl (by decide) [1, 2, 3, 4, 5, 6, 0] rfl ?_
            refine zr_goto (tgt := 73) dX10_fates_152 (by decide) ?_
            exact W
        · have W := W.2 h
          refine zr_iload 7 dX10_fates_119 rfl ?_
          refine zr_iconst dX10_fates_121 ?_
          obtain ⟨c79, W⟩ := W
          refine zr_icmp_le (tgt := 129) dX10_fates_122 (by decide) c79 ⟨by decide, by decide⟩ (fun h => ?_) (fun h => ?_)
          · have W := W.1 h
            refine zr_iconst dX10_fates_129 ?_
            refine zr_goto (tgt := 143) dX10_fates_130 (by decide) ?_
            refine zt_callSi (As := [zI 0]) (rest := [zI x7]) dX10_fates_143 kX10_fates_317 rfl rfl (Nat.le_of_ble_eq_true rfl) (c_truthi (by decide)) (fun r80 N82 h81 => ?_)
            rw [h81.1, h81.2]
            refine zr_iadd dX10_fates_146 ?_
            refine zr_istore (l' := [(0, zA g 1), (3, zI x3), (4, zI x4), (5, zI x5), (6, zI x6), (7, zI (x7 + 0)), (8, zI x8)]) dX10_fates_147 (by decide) [1, 2, 3, 4, 5, 0, 6] rfl ?_
            refine zr_iinc (q := 6) (l' := [(0, zA g 1), (3, zI x3), (4, zI x4), (5, zI x5), (6, zI x6), (7, zI (x7 + 0)), (8, zI (x8 + 1))]) dX10_fates_149 rfl (by decide) [1, 2, 3, 4, 5, 6, 0] rfl ?_
            refine zr_goto (tgt := 73) dX10_fates_152 (by decide) ?_
            exact W
          · have W := W.2 h
            refine zr_iconst dX10_fates_125 ?_
            refine zr_goto (tgt := 143) dX10_fates_126 (by decide) ?_
            refine zt_callSi (As := [zI 1]) (rest := [zI x7]) dX10_fates_143 kX10_fates_317 rfl rfl (Nat.le_of_ble_eq_true rfl) (c_truthi (by decide)) (fun r83 N85 h84 => ?_)
            rw [h84.1, h84.2]
            refine zr_iadd dX10_fates_146 ?_
            refine zr_istore (l' := [(0, zA g 1), (3, zI x3), (4, zI x4), (5, zI x5), (6, zI x6), (7, zI (x7 + 1)), (8, zI x8)]) dX10_fates_147 (by decide) [1, 2, 3, 4, 5, 0, 6] rfl ?_
            refine zr_iinc (q := 6) (l' := [(0, zA g 1), (3, zI x3), (4, zI x4), (5, zI x5), (6, zI x6), (7, zI (x7 + 1)), (8, zI (x8 + 1))]) dX10_fates_149 rfl (by decide) [1, 2, 3, 4, 5, 6, 0] rfl ?_
            refine zr_goto (tgt := 73) dX10_fates_152 (by decide) ?_
            exact W
theorem dX10_overlap_0 : decode cX10_overlap 0 = .ok (.iconst 0, 1) := by decide +kernel
theorem dX10_overlap_1 : decode cX10_overlap 1 = .ok (.istore 4, 2) := by decide +kernel
theorem dX10_overlap_3 : decode cX10_overlap 3 = .ok (.iconst 0, 1) := by decide +kernel
theorem dX10_overlap_4 : decode cX10_overlap 4 = .ok (.istore 5, 2) := by decide +kernel
theorem dX10_overlap_6 : decode cX10_overlap 6 = .ok (.iload 5, 2) := by decide +kernel
theorem dX10_overlap_8 : decode cX10_overlap 8 = .ok (.aload_n 0, 1) := by decide +kernel
theorem dX10_overlap_9 : decode cX10_overlap 9 = .ok (.invokevirtual 226, 3) := by decide +kernel
theorem dX10_overlap_12 : decode cX10_overlap 12 = .ok (.if_icmp .ge 43, 3) := by decide +kernel
theorem dX10_overlap_15 : decode cX10_overlap 15 = .ok (.iload 4, 2) := by decide +kernel
theorem dX10_overlap_17 : decode cX10_overlap 17 = .ok (.aload_n 0, 1) := by decide +kernel
theorem dX10_overlap_18 : decode cX10_overlap 18 = .ok (.getfield 63, 3) := by decide +kernel
theorem dX10_overlap_21 : decode cX10_overlap 21 = .ok (.sipush 198, 3) := by decide +kernel
theorem dX10_overlap_24 : decode cX10_overlap 24 = .ok (.iload_n 1, 1) := by decide +kernel
theorem dX10_overlap_25 : decode cX10_overlap 25 = .ok (.imul, 1) := by decide +kernel
theorem dX10_overlap_26 : decode cX10_overlap 26 = .ok (.iload 5, 2) := by decide +kernel
theorem dX10_overlap_28 : decode cX10_overlap 28 = .ok (.iadd, 1) := by decide +kernel
theorem dX10_overlap_29 : decode cX10_overlap 29 = .ok (.iaload, 1) := by decide +kernel
theorem dX10_overlap_30 : decode cX10_overlap 30 = .ok (.aload_n 0, 1) := by decide +kernel
theorem dX10_overlap_31 : decode cX10_overlap 31 = .ok (.getfield 42, 3) := by decide +kernel
theorem dX10_overlap_34 : decode cX10_overlap 34 = .ok (.aload_n 0, 1) := by decide +kernel
theorem dX10_overlap_35 : decode cX10_overlap 35 = .ok (.iload 5, 2) := by decide +kernel
theorem dX10_overlap_37 : decode cX10_overlap 37 = .ok (.iload_n 2, 1) := by decide +kernel
theorem dX10_overlap_38 : decode cX10_overlap 38 = .ok (.iload_n 3, 1) := by decide +kernel
theorem dX10_overlap_39 : decode cX10_overlap 39 = .ok (.invokevirtual 413, 3) := by decide +kernel
theorem dX10_overlap_42 : decode cX10_overlap 42 = .ok (.iaload, 1) := by decide +kernel
theorem dX10_overlap_43 : decode cX10_overlap 43 = .ok (.invokestatic 407, 3) := by decide +kernel
theorem dX10_overlap_46 : decode cX10_overlap 46 = .ok (.iadd, 1) := by decide +kernel
theorem dX10_overlap_47 : decode cX10_overlap 47 = .ok (.istore 4, 2) := by decide +kernel
theorem dX10_overlap_49 : decode cX10_overlap 49 = .ok (.iinc 5 1, 3) := by decide +kernel
theorem dX10_overlap_52 : decode cX10_overlap 52 = .ok (.goto (-46), 3) := by decide +kernel
theorem dX10_overlap_55 : decode cX10_overlap 55 = .ok (.iload 4, 2) := by decide +kernel
theorem dX10_overlap_57 : decode cX10_overlap 57 = .ok (.ireturn, 1) := by decide +kernel
set_option maxRecDepth 100000 in
theorem SX10_overlap_0 {g : zG} {o : Bool} {M : zM} {q : Int → zM → Prop} {x1 x2 x3 : Int} (W : zT g (z2 o) mX10_overlap (zQi (z2 o) q) 6 [(0, zA g 1), (1, zI x1), (2, zI x2), (3, zI x3), (4, zI 0), (5, zI 0)] [] M) : zT g (z2 o) mX10_overlap (zQi (z2 o) q) 0 [(0, zA g 1), (1, zI x1), (2, zI x2), (3, zI x3)] [] M := by
  refine zr_iconst dX10_overlap_0 ?_
  refine zr_istore (l' := [(0, zA g 1), (1, zI x1), (2, zI x2), (3, zI x3), (4, zI 0)]) dX10_overlap_1 (by decide) [1, 2, 3, 4, 0] rfl ?_
  refine zr_iconst dX10_overlap_3 ?_
  refine zr_istore (l' := [(0, zA g 1), (1, zI x1), (2, zI x2), (3, zI x3), (4, zI 0), (5, zI 0)]) dX10_overlap_4 (by decide) [1, 2, 3, 4, 5, 0] rfl ?_
  exact W
set_option maxRecDepth 100000 in
theorem SX10_overlap_6 {g : zG} {o : Bool} {C R : Int} {M : zM} {q : Int → zM → Prop} {x1 x2 x3 x4 x5 : Int} (W : (zRf M C R) ∧ (-2147483648 ≤ x5 ∧ x5 ≤ 2147483647) ∧ (-2147483648 ≤ (C * R) ∧ (C * R) ≤ 2147483647) ∧ (((C * R) ≤ x5) → q x4 M) ∧ ((¬ ((C * R) ≤ x5)) → (0 ≤ ((198 * x1) + x5) ∧ ((198 * x1) + x5) < 594) ∧ (0 ≤ x5 ∧ x5 < C * R) ∧ (0 ≤ x2 ∧ x2 ≤ 10000) ∧ (0 ≤ x3 ∧ x3 ≤ 10000) ∧ (0 ≤ (alg C R (alg C R x5 0 x2) 1 x3) ∧ (alg C R (alg C R x5 0 x2) 1 x3) < 198) ∧ (-2147483648 ≤ (M 16 ((198 * x1) + x5)) ∧ (M 16 ((198 * x1) + x5)) ≤ 2147483647) ∧ (-2147483648 ≤ (M 10 (alg C R (alg C R x5 0 x2) 1 x3)) ∧ (M 10 (alg C R (alg C R x5 0 x2) 1 x3)) ≤ 2147483647) ∧ zT g (z2 o) mX10_overlap (zQi (z2 o) q) 6 [(0, zA g 1), (1, zI x1), (2, zI x2), (3, zI x3), (4, zI (x4 + (min (M 16 ((198 * x1) + x5)) (M 10 (alg C R (alg C R x5 0 x2) 1 x3))))), (5, zI (x5 + 1))] [] M)) : zT g (z2 o) mX10_overlap (zQi (z2 o) q) 6 [(0, zA g 1), (1, zI x1), (2, zI x2), (3, zI x3), (4, zI x4), (5, zI x5)] [] M := by
  refine zr_iload 5 dX10_overlap_6 rfl ?_
  refine zr_aload_n 0 dX10_overlap_8 rfl ?_
  obtain ⟨c1, W⟩ := W
  refine zt_callVi (As := []) (rest := [zI x5]) dX10_overlap_9 kX10_overlap_226 rfl rfl rfl rfl (Nat.le_of_ble_eq_true rfl) (c_cells c1) (fun r2 N4 h3 => ?_)
  rw [h3.1, h3.2]
  obtain ⟨c5, W⟩ := W
  obtain ⟨c6, W⟩ := W
  refine zr_icmp_ge (tgt := 55) dX10_overlap_12 (by decide) c5 c6 (fun h => ?_) (fun h => ?_)
  · have W := W.1 h
    refine zr_iload 4 dX10_overlap_55 rfl ?_
    exact zt_iret dX10_overlap_57 rfl W
  · have W := W.2 h
    refine zr_iload 4 dX10_overlap_15 rfl ?_
    refine zr_aload_n 0 dX10_overlap_17 rfl ?_
    refine zr_getr (b := 16) dX10_overlap_18 fX10_63 rfl rfl rfl (by decide) ?_
    refine zr_sipush dX10_overlap_21 (by decide) ?_
    refine zr_iload_n 1 dX10_overlap_24 rfl ?_
    refine zr_imul dX10_overlap_25 ?_
    refine zr_iload 5 dX10_overlap_26 rfl ?_
    refine zr_iadd dX10_overlap_28 ?_
    obtain ⟨c7, W⟩ := W
    refine zr_iald dX10_overlap_29 rfl (by decide) c7 ?_
    refine zr_aload_n 0 dX10_overlap_30 rfl ?_
    refine zr_getr (b := 10) dX10_overlap_31 fX10_42 rfl rfl rfl (by decide) ?_
    refine zr_aload_n 0 dX10_overlap_34 rfl ?_
    refine zr_iload 5 dX10_overlap_35 rfl ?_
    refine zr_iload_n 2 dX10_overlap_37 rfl ?_
    refine zr_iload_n 3 dX10_overlap_38 rfl ?_
    obtain ⟨c8, W⟩ := W
    obtain ⟨c9, W⟩ := W
    obtain ⟨c10, W⟩ := W
    refine zt_callVi (As := [zI x5, zI x2, zI x3]) (rest := [zA g 10, zI (M 16 ((198 * x1) + x5)), zI x4]) dX10_overlap_39 kX10_overlap_413 rfl rfl rfl rfl (Nat.le_of_ble_eq_true rfl) (c_sidled c1 c8 c9 c10) (fun r11 N13 h12 => ?_)
    rw [h12.1, h12.2]
    obtain ⟨c14, W⟩ := W
    refine zr_iald dX10_overlap_42 rfl (by decide) c14 ?_
    obtain ⟨c15, W⟩ := W
    obtain ⟨c16, W⟩ := W
    refine zt_callSi (As := [zI (M 16 ((198 * x1) + x5)), zI (M 10 (alg C R (alg C R x5 0 x2) 1 x3))]) (rest := [zI x4]) dX10_overlap_43 kX10_overlap_407 rfl rfl (Nat.le_of_ble_eq_true rfl) (c_lesser c15 c16) (fun r17 N19 h18 => ?_)
    rw [h18.1, h18.2]
    refine zr_iadd dX10_overlap_46 ?_
    refine zr_istore (l' := [(0, zA g 1), (1, zI x1), (2, zI x2), (3, zI x3), (4, zI (x4 + (min (M 16 ((198 * x1) + x5)) (M 10 (alg C R (alg C R x5 0 x2) 1 x3))))), (5, zI x5)]) dX10_overlap_47 (by decide) [1, 2, 3, 4, 0, 5] rfl ?_
    refine zr_iinc (q := 5) (l' := [(0, zA g 1), (1, zI x1), (2, zI x2), (3, zI x3), (4, zI (x4 + (min (M 16 ((198 * x1) + x5)) (M 10 (alg C R (alg C R x5 0 x2) 1 x3))))), (5, zI (x5 + 1))]) dX10_overlap_49 rfl (by decide) [1, 2, 3, 4, 5, 0] rfl ?_
    refine zr_goto (tgt := 6) dX10_overlap_52 (by decide) ?_
    exact W
theorem dX10_shift_0 : decode cX10_shift 0 = .ok (.aload_n 0, 1) := by decide +kernel
theorem dX10_shift_1 : decode cX10_shift 1 = .ok (.iload_n 1, 1) := by decide +kernel
theorem dX10_shift_2 : decode cX10_shift 2 = .ok (.invokevirtual 422, 3) := by decide +kernel
theorem dX10_shift_5 : decode cX10_shift 5 = .ok (.ifCond .eq 12, 3) := by decide +kernel
theorem dX10_shift_8 : decode cX10_shift 8 = .ok (.iload_n 2, 1) := by decide +kernel
theorem dX10_shift_9 : decode cX10_shift 9 = .ok (.iconst 0, 1) := by decide +kernel
theorem dX10_shift_10 : decode cX10_shift 10 = .ok (.iconst 2, 1) := by decide +kernel
theorem dX10_shift_11 : decode cX10_shift 11 = .ok (.invokestatic 106, 3) := by decide +kernel
theorem dX10_shift_14 : decode cX10_shift 14 = .ok (.ifCond .ne 5, 3) := by decide +kernel
theorem dX10_shift_17 : decode cX10_shift 17 = .ok (.iconst (-1), 1) := by decide +kernel
theorem dX10_shift_18 : decode cX10_shift 18 = .ok (.ireturn, 1) := by decide +kernel
theorem dX10_shift_19 : decode cX10_shift 19 = .ok (.iconst 0, 1) := by decide +kernel
theorem dX10_shift_20 : decode cX10_shift 20 = .ok (.istore_n 3, 1) := by decide +kernel
theorem dX10_shift_21 : decode cX10_shift 21 = .ok (.iconst (-1), 1) := by decide +kernel
theorem dX10_shift_22 : decode cX10_shift 22 = .ok (.istore 4, 2) := by decide +kernel
theorem dX10_shift_24 : decode cX10_shift 24 = .ok (.iconst 0, 1) := by decide +kernel
theorem dX10_shift_25 : decode cX10_shift 25 = .ok (.istore 5, 2) := by decide +kernel
theorem dX10_shift_27 : decode cX10_shift 27 = .ok (.iload 5, 2) := by decide +kernel
theorem dX10_shift_29 : decode cX10_shift 29 = .ok (.aload_n 0, 1) := by decide +kernel
theorem dX10_shift_30 : decode cX10_shift 30 = .ok (.invokevirtual 258, 3) := by decide +kernel
theorem dX10_shift_33 : decode cX10_shift 33 = .ok (.if_icmp .ge 63, 3) := by decide +kernel
theorem dX10_shift_36 : decode cX10_shift 36 = .ok (.iconst 0, 1) := by decide +kernel
theorem dX10_shift_37 : decode cX10_shift 37 = .ok (.istore 6, 2) := by decide +kernel
theorem dX10_shift_39 : decode cX10_shift 39 = .ok (.iload 6, 2) := by decide +kernel
theorem dX10_shift_41 : decode cX10_shift 41 = .ok (.aload_n 0, 1) := by decide +kernel
theorem dX10_shift_42 : decode cX10_shift 42 = .ok (.invokevirtual 255, 3) := by decide +kernel
theorem dX10_shift_45 : decode cX10_shift 45 = .ok (.if_icmp .ge 45, 3) := by decide +kernel
theorem dX10_shift_48 : decode cX10_shift 48 = .ok (.aload_n 0, 1) := by decide +kernel
theorem dX10_shift_49 : decode cX10_shift 49 = .ok (.iload_n 1, 1) := by decide +kernel
theorem dX10_shift_50 : decode cX10_shift 50 = .ok (.iload 6, 2) := by decide +kernel
theorem dX10_shift_52 : decode cX10_shift 52 = .ok (.iload 5, 2) := by decide +kernel
theorem dX10_shift_54 : decode cX10_shift 54 = .ok (.invokevirtual 432, 3) := by decide +kernel
theorem dX10_shift_57 : decode cX10_shift 57 = .ok (.istore 7, 2) := by decide +kernel
theorem dX10_shift_59 : decode cX10_shift 59 = .ok (.iload 7, 2) := by decide +kernel
theorem dX10_shift_61 : decode cX10_shift 61 = .ok (.iload 4, 2) := by decide +kernel
theorem dX10_shift_63 : decode cX10_shift 63 = .ok (.if_icmp .gt 6, 3) := by decide +kernel
theorem dX10_shift_66 : decode cX10_shift 66 = .ok (.goto 18, 3) := by decide +kernel
theorem dX10_shift_69 : decode cX10_shift 69 = .ok (.aload_n 0, 1) := by decide +kernel
theorem dX10_shift_70 : decode cX10_shift 70 = .ok (.invokevirtual 255, 3) := by decide +kernel
theorem dX10_shift_73 : decode cX10_shift 73 = .ok (.iload 5, 2) := by decide +kernel
theorem dX10_shift_75 : decode cX10_shift 75 = .ok (.imul, 1) := by decide +kernel
theorem dX10_shift_76 : decode cX10_shift 76 = .ok (.iload 6, 2) := by decide +kernel
theorem dX10_shift_78 : decode cX10_shift 78 = .ok (.iadd, 1) := by decide +kernel
theorem dX10_shift_79 : decode cX10_shift 79 = .ok (.istore_n 3, 1) := by decide +kernel
theorem dX10_shift_80 : decode cX10_shift 80 = .ok (.iload 7, 2) := by decide +kernel
theorem dX10_shift_82 : decode cX10_shift 82 = .ok (.istore 4, 2) := by decide +kernel
theorem dX10_shift_84 : decode cX10_shift 84 = .ok (.iinc 6 1, 3) := by decide +kernel
theorem dX10_shift_87 : decode cX10_shift 87 = .ok (.goto (-48), 3) := by decide +kernel
theorem dX10_shift_90 : decode cX10_shift 90 = .ok (.iinc 5 1, 3) := by decide +kernel
theorem dX10_shift_93 : decode cX10_shift 93 = .ok (.goto (-66), 3) := by decide +kernel
theorem dX10_shift_96 : decode cX10_shift 96 = .ok (.iload_n 2, 1) := by decide +kernel
theorem dX10_shift_97 : decode cX10_shift 97 = .ok (.ifCond .ne 12, 3) := by decide +kernel
theorem dX10_shift_100 : decode cX10_shift 100 = .ok (.iload_n 3, 1) := by decide +kernel
theorem dX10_shift_101 : decode cX10_shift 101 = .ok (.aload_n 0, 1) := by decide +kernel
theorem dX10_shift_102 : decode cX10_shift 102 = .ok (.invokevirtual 255, 3) := by decide +kernel
theorem dX10_shift_105 : decode cX10_shift 105 = .ok (.irem, 1) := by decide +kernel
theorem dX10_shift_106 : decode cX10_shift 106 = .ok (.goto 19, 3) := by decide +kernel
theorem dX10_shift_109 : decode cX10_shift 109 = .ok (.iload_n 2, 1) := by decide +kernel
theorem dX10_shift_110 : decode cX10_shift 110 = .ok (.iconst 1, 1) := by decide +kernel
theorem dX10_shift_111 : decode cX10_shift 111 = .ok (.if_icmp .ne 12, 3) := by decide +kernel
theorem dX10_shift_114 : decode cX10_shift 114 = .ok (.iload_n 3, 1) := by decide +kernel
theorem dX10_shift_115 : decode cX10_shift 115 = .ok (.aload_n 0, 1) := by decide +kernel
theorem dX10_shift_116 : decode cX10_shift 116 = .ok (.invokevirtual 255, 3) := by decide +kernel
theorem dX10_shift_119 : decode cX10_shift 119 = .ok (.idiv, 1) := by decide +kernel
theorem dX10_shift_120 : decode cX10_shift 120 = .ok (.goto 5, 3) := by decide +kernel
theorem dX10_shift_123 : decode cX10_shift 123 = .ok (.iload 4, 2) := by decide +kernel
theorem dX10_shift_125 : decode cX10_shift 125 = .ok (.ireturn, 1) := by decide +kernel
set_option maxRecDepth 100000 in
theorem SX10_shift_0 {g : zG} {o : Bool} {M : zM} {q : Int → zM → Prop} {x1 x2 : Int} (W : (-2147483648 ≤ x1 ∧ x1 ≤ 2147483647) ∧ (kOk (M 17)) ∧ ((¬ ((0 ≤ x1 ∧ x1 < 3) ∧ M 17 x1 = 1)) → q (-1) M) ∧ (((0 ≤ x1 ∧ x1 < 3) ∧ M 17 x1 = 1) → (-2147483648 ≤ x2 ∧ x2 ≤ 2147483647) ∧ ((0 ≤ x2 ∧ x2 ≤ 2) → zT g (z2 o) mX10_shift (zQi (z2 o) q) 27 [(0, zA g 1), (1, zI x1), (2, zI x2), (3, zI 0), (4, zI (-1)), (5, zI 0)] [] M) ∧ ((¬ (0 ≤ x2 ∧ x2 ≤ 2)) → q (-1) M))) : zT g (z2 o) mX10_shift (zQi (z2 o) q) 0 [(0, zA g 1), (1, zI x1), (2, zI x2)] [] M := by
  refine zr_aload_n 0 dX10_shift_0 rfl ?_
  refine zr_iload_n 1 dX10_shift_1 rfl ?_
  obtain ⟨c1, W⟩ := W
  obtain ⟨c2, W⟩ := W
  refine zt_callVi (As := [zI x1]) (rest := []) dX10_shift_2 kX10_shift_422 rfl rfl rfl rfl (Nat.le_of_ble_eq_true rfl) (c_isKept2 c1 c2) (fun r3 N5 h4 => ?_)
  rw [h4.1, h4.2]
  refine zt_ifeq_b (tgt := 17) dX10_shift_5 (by decide) (fun h => ?_) (fun h => ?_)
  · have W := W.1 h
    refine zr_iconst dX10_shift_17 ?_
    exact zt_iret dX10_shift_18 rfl W
  · have W := W.2 h
    refine zr_iload_n 2 dX10_shift_8 rfl ?_
    refine zr_iconst dX10_shift_9 ?_
    refine zr_iconst dX10_shift_10 ?_
    obtain ⟨c6, W⟩ := W
    refine zt_callSi (As := [zI x2, zI 0, zI 2]) (rest := []) dX10_shift_11 kX10_shift_106 rfl rfl (Nat.le_of_ble_eq_true rfl) (c_isIn c6 ⟨by decide, by decide⟩ ⟨by decide, by decide⟩) (fun r7 N9 h8 => ?_)
    rw [h8.1, h8.2]
    refine zt_ifne_b (tgt := 19) dX10_shift_14 (by decide) (fun h => ?_) (fun h => ?_)
    · have W := W.1 h
      refine zr_iconst dX10_shift_19 ?_
      refine zr_istore_n (l' := [(0, zA g 1), (1, zI x1), (2, zI x2), (3, zI 0)]) dX10_shift_20 (by decide) [1, 2, 3, 0] rfl ?_
      refine zr_iconst dX10_shift_21 ?_
      refine zr_istore (l' := [(0, zA g 1), (1, zI x1), (2, zI x2), (3, zI 0), (4, zI (-1))]) dX10_shift_22 (by decide) [1, 2, 3, 4, 0] rfl ?_
      refine zr_iconst dX10_shift_24 ?_
      refine zr_istore (l' := [(0, zA g 1), (1, zI x1), (2, zI x2), (3, zI 0), (4, zI (-1)), (5, zI 0)]) dX10_shift_25 (by decide) [1, 2, 3, 4, 5, 0] rfl ?_
      exact W
    · have W := W.2 h
      refine zr_iconst dX10_shift_17 ?_
      exact zt_iret dX10_shift_18 rfl W
set_option maxRecDepth 100000 in
theorem SX10_shift_27 {g : zG} {o : Bool} {C R : Int} {M : zM} {q : Int → zM → Prop} {x1 x2 x3 x4 x5 : Int} (W : (zRf M C R) ∧ (-2147483648 ≤ x5 ∧ x5 ≤ 2147483647) ∧ (-2147483648 ≤ R ∧ R ≤ 2147483647) ∧ ((R ≤ x5) → (-2147483648 ≤ x2 ∧ x2 ≤ 2147483647) ∧ ((x2 ≠ 0) → ((x2 ≠ 1) → q x4 M) ∧ ((x2 = 1) → (0 ≤ x3 ∧ x3 ≤ 2147483647) ∧ (0 < C ∧ C ≤ 2147483647) ∧ q (x3 / C) M)) ∧ ((x2 = 0) → (0 ≤ x3 ∧ x3 ≤ 2147483647) ∧ (0 < C ∧ C ≤ 2147483647) ∧ q (x3 % C) M)) ∧ ((¬ (R ≤ x5)) → zT g (z2 o) mX10_shift (zQi (z2 o) q) 39 [(0, zA g 1), (1, zI x1), (2, zI x2), (3, zI x3), (4, zI x4), (5, zI x5), (6, zI 0)] [] M)) : zT g (z2 o) mX10_shift (zQi (z2 o) q) 27 [(0, zA g 1), (1, zI x1), (2, zI x2), (3, zI x3), (4, zI x4), (5, zI x5)] [] M := by
  refine zr_iload 5 dX10_shift_27 rfl ?_
  refine zr_aload_n 0 dX10_shift_29 rfl ?_
  obtain ⟨c1, W⟩ := W
  refine zt_callVi (As := []) (rest := [zI x5]) dX10_shift_30 kX10_shift_258 rfl rfl rfl rfl (Nat.le_of_ble_eq_true rfl) (c_rowsR c1) (fun r2 N4 h3 => ?_)
  rw [h3.1, h3.2]
  obtain ⟨c5, W⟩ := W
  obtain ⟨c6, W⟩ := W
  refine zr_icmp_ge (tgt := 96) dX10_shift_33 (by decide) c5 c6 (fun h => ?_) (fun h => ?_)
  · have W := W.1 h
    refine zr_iload_n 2 dX10_shift_96 rfl ?_
    obtain ⟨c7, W⟩ := W
    refine zr_if_ne (tgt := 109) dX10_shift_97 (by decide) c7 (fun h => ?_) (fun h => ?_)
    · have W := W.1 h
      refine zr_iload_n 2 dX10_shift_109 rfl ?_
      refine zr_iconst dX10_shift_110 ?_
      refine zr_icmp_ne (tgt := 123) dX10_shift_111 (by decide) c7 ⟨by decide, by decide⟩ (fun h => ?_) (fun h => ?_)
      · have W := W.1 h
        refine zr_iload 4 dX10_shift_123 rfl ?_
        exact zt_iret dX10_shift_125 rfl W
      · have W := W.2 h
        refine zr_iload_n 3 dX10_shift_114 rfl ?_
        refine zr_aload_n 0 dX10_shift_115 rfl ?_
        refine zt_callVi (As := []) (rest := [zI x3]) dX10_shift_116 kX10_shift_255 rfl rfl rfl rfl (Nat.le_of_ble_eq_true rfl) (c_columnsC c1) (fun r8 N10 h9 => ?_)
        rw [h9.1, h9.2]
        obtain ⟨c11, W⟩ := W
        obtain ⟨c12, W⟩ := W
        refine zr_idiv dX10_shift_119 c11 c12 ?_
        refine zr_goto (tgt := 125) dX10_shift_120 (by decide) ?_
        exact zt_iret dX10_shift_125 rfl W
    · have W := W.2 h
      refine zr_iload_n 3 dX10_shift_100 rfl ?_
      refine zr_aload_n 0 dX10_shift_101 rfl ?_
      refine zt_callVi (As := []) (rest := [zI x3]) dX10_shift_102 kX10_shift_255 rfl rfl rfl rfl (Nat.le_of_ble_eq_true rfl) (c_columnsC c1) (fun r13 N15 h14 => ?_)
      rw [h14.1, h14.2]
      obtain ⟨c16, W⟩ := W
      obtain ⟨c17, W⟩ := W
      refine zr_irem dX10_shift_105 c16 c17 ?_
      refine zr_goto (tgt := 125) dX10_shift_106 (by decide) ?_
      exact zt_iret dX10_shift_125 rfl W
  · have W := W.2 h
    refine zr_iconst dX10_shift_36 ?_
    refine zr_istore (l' := [(0, zA g 1), (1, zI x1), (2, zI x2), (3, zI x3), (4, zI x4), (5, zI x5), (6, zI 0)]) dX10_shift_37 (by decide) [1, 2, 3, 4, 5, 6, 0] rfl ?_
    exact W
set_option maxRecDepth 100000 in
theorem SX10_shift_39 {g : zG} {o : Bool} {C R : Int} {M : zM} {q : Int → zM → Prop} {x1 x2 x3 x4 x5 x6 : Int} (W : (zRf M C R) ∧ (-2147483648 ≤ x6 ∧ x6 ≤ 2147483647) ∧ (-2147483648 ≤ C ∧ C ≤ 2147483647) ∧ ((C ≤ x6) → zT g (z2 o) mX10_shift (zQi (z2 o) q) 27 [(0, zA g 1), (1, zI x1), (2, zI x2), (3, zI x3), (4, zI x4), (5, zI (x5 + 1))] [] M) ∧ ((¬ (C ≤ x6)) → ∃ q7 : Int → zM → Prop, zKi g (z2 o) mX10_overlap [zA g 1, zI x1, zI x6, zI x5] M q7 ∧ ∀ (r8 : Int) (M9 : zM), q7 r8 M9 → (-2147483648 ≤ r8 ∧ r8 ≤ 2147483647) ∧ (-2147483648 ≤ x4 ∧ x4 ≤ 2147483647) ∧ ((x4 < r8) → (zRf M9 C R) ∧ zT g (z2 o) mX10_shift (zQi (z2 o) q) 39 [(0, zA g 1), (1, zI x1), (2, zI x2), (3, zI ((C * x5) + x6)), (4, zI r8), (5, zI x5), (6, zI (x6 + 1))] [] M9) ∧ ((¬ (x4 < r8)) → zT g (z2 o) mX10_shift (zQi (z2 o) q) 39 [(0, zA g 1), (1, zI x1), (2, zI x2), (3, zI x3), (4, zI x4), (5, zI x5), (6, zI (x6 + 1))] [] M9))) : zT g (z2 o) mX10_shift (zQi (z2 o) q) 39 [(0, zA g 1), (1, zI x1), (2, zI x2), (3, zI x3), (4, zI x4), (5, zI x5), (6, zI x6)] [] M := by
  refine zr_iload 6 dX10_shift_39 rfl ?_
  refine zr_aload_n 0 dX10_shift_41 rfl ?_
  obtain ⟨c1, W⟩ := W
  refine zt_callVi (As := []) (rest := [zI x6]) dX10_shift_42 kX10_shift_255 rfl rfl rfl rfl (Nat.le_of_ble_eq_true rfl) (c_columnsC c1) (fun r2 N4 h3 => ?_)
  rw [h3.1, h3.2]
  obtain ⟨c5, W⟩ := W
  obtain ⟨c6, W⟩ := W
  refine zr_icmp_ge (tgt := 90) dX10_shift_45 (by decide) c5 c6 (fun h => ?_) (fun h => ?_)
  · have W := W.1 h
    refine zr_iinc (q := 5) (l' := [(0, zA g 1), (1, zI x1), (2, zI x2), (3, zI x3), (4, zI x4), (5, zI (x5 + 1))]) dX10_shift_90 rfl (by decide) [1, 2, 3, 4, 5, 0] rfl ?_
    refine zr_goto (tgt := 27) dX10_shift_93 (by decide) ?_
    exact W
  · have W := W.2 h
    refine zr_aload_n 0 dX10_shift_48 rfl ?_
    refine zr_iload_n 1 dX10_shift_49 rfl ?_
    refine zr_iload 6 dX10_shift_50 rfl ?_
    refine zr_iload 5 dX10_shift_52 rfl ?_
    obtain ⟨q7, k11, W⟩ := W
    refine zt_callVi (As := [zI x1, zI x6, zI x5]) (rest := []) dX10_shift_54 kX10_shift_432 rfl rfl rfl rfl (Nat.le_of_ble_eq_true rfl) k11 (fun r8 M9 h10 => ?_)
    have W := W r8 M9 h10
    refine zr_istore (l' := [(0, zA g 1), (1, zI x1), (2, zI x2), (3, zI x3), (4, zI x4), (5, zI x5), (6, zI x6), (7, zI r8)]) dX10_shift_57 (by decide) [1, 2, 3, 4, 5, 6, 7, 0] rfl ?_
    refine zr_iload 7 dX10_shift_59 rfl ?_
    refine zr_iload 4 dX10_shift_61 rfl ?_
    obtain ⟨c12, W⟩ := W
    obtain ⟨c13, W⟩ := W
    refine zr_icmp_gt (tgt := 69) dX10_shift_63 (by decide) c12 c13 (fun h => ?_) (fun h => ?_)
    · have W := W.1 h
      refine zr_aload_n 0 dX10_shift_69 rfl ?_
      obtain ⟨c14, W⟩ := W
      refine zt_callVi (As := []) (rest := []) dX10_shift_70 kX10_shift_255 rfl rfl rfl rfl (Nat.le_of_ble_eq_true rfl) (c_columnsC c14) (fun r15 N17 h16 => ?_)
      rw [h16.1, h16.2]
      refine zr_iload 5 dX10_shift_73 rfl ?_
      refine zr_imul dX10_shift_75 ?_
      refine zr_iload 6 dX10_shift_76 rfl ?_
      refine zr_iadd dX10_shift_78 ?_
      refine zr_istore_n (l' := [(0, zA g 1), (1, zI x1), (2, zI x2), (3, zI ((C * x5) + x6)), (5, zI x5), (6, zI x6), (7, zI r8)]) dX10_shift_79 (by decide) [1, 2, 3, 0, 5, 6, 7] rfl ?_
      refine zr_iload 6 dX10_shift_80 rfl ?_
      refine zr_istore (l' := [(0, zA g 1), (1, zI x1), (2, zI x2), (3, zI ((C * x5) + x6)), (4, zI r8), (5, zI x5), (6, zI x6)]) dX10_shift_82 (by decide) [1, 2, 3, 4, 0, 5, 6] rfl ?_
      refine zr_iinc (q := 6) (l' := [(0, zA g 1), (1, zI x1), (2, zI x2), (3, zI ((C * x5) + x6)), (4, zI r8), (5, zI x5), (6, zI (x6 + 1))]) dX10_shift_84 rfl (by decide) [1, 2, 3, 4, 5, 6, 0] rfl ?_
      refine zr_goto (tgt := 39) dX10_shift_87 (by decide) ?_
      exact W
    · have W := W.2 h
      refine zr_goto (tgt := 84) dX10_shift_66 (by decide) ?_
      refine zr_iinc (q := 6) (l' := [(0, zA g 1), (1, zI x1), (2, zI x2), (3, zI x3), (4, zI x4), (5, zI x5), (6, zI (x6 + 1))]) dX10_shift_84 rfl (by decide) [1, 2, 3, 4, 5, 6, 0] rfl ?_
      refine zr_goto (tgt := 39) dX10_shift_87 (by decide) ?_
      exact W
theorem dX10_game_0 : decode cX10_game 0 = .ok (.iload_n 1, 1) := by decide +kernel
theorem dX10_game_1 : decode cX10_game 1 = .ok (.iconst 0, 1) := by decide +kernel
theorem dX10_game_2 : decode cX10_game 2 = .ok (.sipush 9999, 3) := by decide +kernel
theorem dX10_game_5 : decode cX10_game 5 = .ok (.invokestatic 106, 3) := by decide +kernel
theorem dX10_game_8 : decode cX10_game 8 = .ok (.ifCond .eq 23, 3) := by decide +kernel
theorem dX10_game_11 : decode cX10_game 11 = .ok (.iload_n 2, 1) := by decide +kernel
theorem dX10_game_12 : decode cX10_game 12 = .ok (.iconst 0, 1) := by decide +kernel
theorem dX10_game_13 : decode cX10_game 13 = .ok (.sipush 500, 3) := by decide +kernel
theorem dX10_game_16 : decode cX10_game 16 = .ok (.invokestatic 106, 3) := by decide +kernel
theorem dX10_game_19 : decode cX10_game 19 = .ok (.ifCond .eq 12, 3) := by decide +kernel
theorem dX10_game_22 : decode cX10_game 22 = .ok (.iload_n 3, 1) := by decide +kernel
theorem dX10_game_23 : decode cX10_game 23 = .ok (.iconst 0, 1) := by decide +kernel
theorem dX10_game_24 : decode cX10_game 24 = .ok (.iconst 3, 1) := by decide +kernel
theorem dX10_game_25 : decode cX10_game 25 = .ok (.invokestatic 106, 3) := by decide +kernel
theorem dX10_game_28 : decode cX10_game 28 = .ok (.ifCond .ne 5, 3) := by decide +kernel
theorem dX10_game_31 : decode cX10_game 31 = .ok (.iconst (-1), 1) := by decide +kernel
theorem dX10_game_32 : decode cX10_game 32 = .ok (.ireturn, 1) := by decide +kernel
theorem dX10_game_33 : decode cX10_game 33 = .ok (.aload_n 0, 1) := by decide +kernel
theorem dX10_game_34 : decode cX10_game 34 = .ok (.invokevirtual 327, 3) := by decide +kernel
theorem dX10_game_37 : decode cX10_game 37 = .ok (.aload_n 0, 1) := by decide +kernel
theorem dX10_game_38 : decode cX10_game 38 = .ok (.getfield 45, 3) := by decide +kernel
theorem dX10_game_41 : decode cX10_game 41 = .ok (.sipush 196, 3) := by decide +kernel
theorem dX10_game_44 : decode cX10_game 44 = .ok (.iload_n 1, 1) := by decide +kernel
theorem dX10_game_45 : decode cX10_game 45 = .ok (.iastore, 1) := by decide +kernel
theorem dX10_game_46 : decode cX10_game 46 = .ok (.aload_n 0, 1) := by decide +kernel
theorem dX10_game_47 : decode cX10_game 47 = .ok (.iload_n 2, 1) := by decide +kernel
theorem dX10_game_48 : decode cX10_game 48 = .ok (.invokevirtual 330, 3) := by decide +kernel
theorem dX10_game_51 : decode cX10_game 51 = .ok (.istore 4, 2) := by decide +kernel
theorem dX10_game_53 : decode cX10_game 53 = .ok (.iload_n 3, 1) := by decide +kernel
theorem dX10_game_54 : decode cX10_game 54 = .ok (.ifCond .ne 10, 3) := by decide +kernel
theorem dX10_game_57 : decode cX10_game 57 = .ok (.aload_n 0, 1) := by decide +kernel
theorem dX10_game_58 : decode cX10_game 58 = .ok (.invokevirtual 361, 3) := by decide +kernel
theorem dX10_game_61 : decode cX10_game 61 = .ok (.goto 39, 3) := by decide +kernel
theorem dX10_game_64 : decode cX10_game 64 = .ok (.iload_n 3, 1) := by decide +kernel
theorem dX10_game_65 : decode cX10_game 65 = .ok (.iconst 1, 1) := by decide +kernel
theorem dX10_game_66 : decode cX10_game 66 = .ok (.if_icmp .ne 10, 3) := by decide +kernel
theorem dX10_game_69 : decode cX10_game 69 = .ok (.aload_n 0, 1) := by decide +kernel
theorem dX10_game_70 : decode cX10_game 70 = .ok (.invokevirtual 364, 3) := by decide +kernel
theorem dX10_game_73 : decode cX10_game 73 = .ok (.goto 27, 3) := by decide +kernel
theorem dX10_game_76 : decode cX10_game 76 = .ok (.iload_n 3, 1) := by decide +kernel
theorem dX10_game_77 : decode cX10_game 77 = .ok (.iconst 2, 1) := by decide +kernel
theorem dX10_game_78 : decode cX10_game 78 = .ok (.if_icmp .ne 20, 3) := by decide +kernel
theorem dX10_game_81 : decode cX10_game 81 = .ok (.aload_n 0, 1) := by decide +kernel
theorem dX10_game_82 : decode cX10_game 82 = .ok (.aload_n 0, 1) := by decide +kernel
theorem dX10_game_83 : decode cX10_game 83 = .ok (.getfield 45, 3) := by decide +kernel
theorem dX10_game_86 : decode cX10_game 86 = .ok (.iconst 0, 1) := by decide +kernel
theorem dX10_game_87 : decode cX10_game 87 = .ok (.iconst 1, 1) := by decide +kernel
theorem dX10_game_88 : decode cX10_game 88 = .ok (.aload_n 0, 1) := by decide +kernel
theorem dX10_game_89 : decode cX10_game 89 = .ok (.getfield 54, 3) := by decide +kernel
theorem dX10_game_92 : decode cX10_game 92 = .ok (.invokevirtual 393, 3) := by decide +kernel
theorem dX10_game_95 : decode cX10_game 95 = .ok (.goto 5, 3) := by decide +kernel
theorem dX10_game_98 : decode cX10_game 98 = .ok (.iload 4, 2) := by decide +kernel
theorem dX10_game_100 : decode cX10_game 100 = .ok (.ireturn, 1) := by decide +kernel
set_option maxRecDepth 100000 in
theorem SX10_game_0 {g : zG} {o : Bool} {C R : Int} {M : zM} {q : Int → zM → Prop} {x1 x2 x3 : Int} (W : (-2147483648 ≤ x1 ∧ x1 ≤ 2147483647) ∧ ((¬ (0 ≤ x1 ∧ x1 ≤ 9999)) → q (-1) M) ∧ ((0 ≤ x1 ∧ x1 ≤ 9999) → (-2147483648 ≤ x2 ∧ x2 ≤ 2147483647) ∧ ((¬ (0 ≤ x2 ∧ x2 ≤ 500)) → q (-1) M) ∧ ((0 ≤ x2 ∧ x2 ≤ 500) → (-2147483648 ≤ x3 ∧ x3 ≤ 2147483647) ∧ ((0 ≤ x3 ∧ x3 ≤ 3) → ∃ q13 : zM → Prop, zKv g (z2 o) mX10_goesOn [zA g 1] M q13 ∧ ∀ M15 : zM, q13 M15 → ∃ q18 : Int → zM → Prop, zKi g (z2 o) mX10_blows [zA g 1, zI x2] (zu M15 11 196 x1) q18 ∧ ∀ (r19 : Int) (M20 : zM), q18 r19 M20 → (-2147483648 ≤ x3 ∧ x3 ≤ 2147483647) ∧ ((x3 ≠ 0) → ((x3 ≠ 1) → ((x3 ≠ 2) → q r19 M20) ∧ ((x3 = 2) → ∃ q24 : Int → zM → Prop, zKi g (z2 o) mX10_laysDunes [zA g 1, zA g 11, zI 0, zI 1, zA g 13] M20 q24 ∧ ∀ (r25 : Int) (M26 : zM), q24 r25 M26 → q r25 M26)) ∧ ((x3 = 1) → (zRf M20 C R) ∧ (rOk M20) ∧ q (cnt (fun i => M20 11 i = 0) (C * R).toNat) M20)) ∧ ((x3 = 0) → (zRf M20 C R) ∧ (rOk M20) ∧ q (mxt (M20 11) (C * R).toNat) M20)) ∧ ((¬ (0 ≤ x3 ∧ x3 ≤ 3)) → q (-1) M)))) : zT g (z2 o) mX10_game (zQi (z2 o) q) 0 [(0, zA g 1), (1, zI x1), (2, zI x2), (3, zI x3)] [] M := by
  refine zr_iload_n 1 dX10_game_0 rfl ?_
  refine zr_iconst dX10_game_1 ?_
  refine zr_sipush dX10_game_2 (by decide) ?_
  obtain ⟨c1, W⟩ := W
  refine zt_callSi (As := [zI x1, zI 0, zI 9999]) (rest := []) dX10_game_5 kX10_game_106 rfl rfl (Nat.le_of_ble_eq_true rfl) (c_isIn c1 ⟨by decide, by decide⟩ ⟨by decide, by decide⟩) (fun r2 N4 h3 => ?_)
  rw [h3.1, h3.2]
  refine zt_ifeq_b (tgt := 31) dX10_game_8 (by decide) (fun h => ?_) (fun h => ?_)
  · have W := W.1 h
    refine zr_iconst dX10_game_31 ?_
    exact zt_iret dX10_game_32 rfl W
  · have W := W.2 h
    refine zr_iload_n 2 dX10_game_11 rfl ?_
    refine zr_iconst dX10_game_12 ?_
    refine zr_sipush dX10_game_13 (by decide) ?_
    obtain ⟨c5, W⟩ := W
    refine zt_callSi (As := [zI x2, zI 0, zI 500]) (rest := []) dX10_game_16 kX10_game_106 rfl rfl (Nat.le_of_ble_eq_true rfl) (c_isIn c5 ⟨by decide, by decide⟩ ⟨by decide, by decide⟩) (fun r6 N8 h7 => ?_)
    rw [h7.1, h7.2]
    refine zt_ifeq_b (tgt := 31) dX10_game_19 (by decide) (fun h => ?_) (fun h => ?_)
    · have W := W.1 h
      refine zr_iconst dX10_game_31 ?_
      exact zt_iret dX10_game_32 rfl W
    · have W := W.2 h
      refine zr_iload_n 3 dX10_game_22 rfl ?_
      refine zr_iconst dX10_game_23 ?_
      refine zr_iconst dX10_game_24 ?_
      obtain ⟨c9, W⟩ := W
      refine zt_callSi (As := [zI x3, zI 0, zI 3]) (rest := []) dX10_game_25 kX10_game_106 rfl rfl (Nat.le_of_ble_eq_true rfl) (c_isIn c9 ⟨by decide, by decide⟩ ⟨by decide, by decide⟩) (fun r10 N12 h11 => ?_)
      rw [h11.1, h11.2]
      refine zt_ifne_b (tgt := 33) dX10_game_28 (by decide) (fun h => ?_) (fun h => ?_)
      · have W := W.1 h
        refine zr_aload_n 0 dX10_game_33 rfl ?_
        obtain ⟨q13, k17, W⟩ := W
        refine zt_callVv (As := []) (rest := []) dX10_game_34 kX10_game_327 rfl rfl rfl rfl (Nat.le_of_ble_eq_true rfl) k17 (fun M15 h16 => ?_)
        have W := W M15 h16
        refine zr_aload_n 0 dX10_game_37 rfl ?_
        refine zr_getr (b := 11) dX10_game_38 fX10_45 rfl rfl rfl (by decide) ?_
        refine zr_sipush dX10_game_41 (by decide) ?_
        refine zr_iload_n 1 dX10_game_44 rfl ?_
        refine zr_iast dX10_game_45 rfl (by decide) ⟨by decide, by decide⟩ ?_
        refine zr_aload_n 0 dX10_game_46 rfl ?_
        refine zr_iload_n 2 dX10_game_47 rfl ?_
        obtain ⟨q18, k22, W⟩ := W
        refine zt_callVi (As := [zI x2]) (rest := []) dX10_game_48 kX10_game_330 rfl rfl rfl rfl (Nat.le_of_ble_eq_true rfl) k22 (fun r19 M20 h21 => ?_)
        have W := W r19 M20 h21
        refine zr_istore (l' := [(0, zA g 1), (3, zI x3), (4, zI r19)]) dX10_game_51 (by decide) [1, 4, 0] rfl ?_
        refine zr_iload_n 1 dX10_game_53 rfl ?_
        obtain ⟨c23, W⟩ := W
        refine zr_if_ne (tgt := 64) dX10_game_54 (by decide) c23 (fun h => ?_) (fun h => ?_)
        · have W := W.1 h
          refine zr_iload_n 1 dX10_game_64 rfl ?_
          refine zr_iconst dX10_game_65 ?_
          refine zr_icmp_ne (tgt := 76) dX10_game_66 (by decide) c23 ⟨by decide, by decide⟩ (fun h => ?_) (fun h => ?_)
          · have W := W.1 h
            refine zr_iload_n 1 dX10_game_76 rfl ?_
            refine zr_iconst dX10_game_77 ?_
            refine zr_icmp_ne (tgt := 98) dX10_game_78 (by decide) c23 ⟨by decide, by decide⟩ (fun h => ?_) (fun h => ?_)
            · have W := W.1 h
              refine zr_iload 2 dX10_game_98 rfl ?_
              exact zt_iret dX10_game_100 rfl W
            · have W := W.2 h
              refine zr_aload_n 0 dX10_game_81 rfl ?_
              refine zr_aload_n 0 dX10_game_82 rfl ?_
              refine zr_getr (b := 11) dX10_game_83 fX10_45 rfl rfl rfl (by decide) ?_
              refine zr_iconst dX10_game_86 ?_
              refine zr_iconst dX10_game_87 ?_
              refine zr_aload_n 0 dX10_game_88 rfl ?_
              refine zr_getr (b := 13) dX10_game_89 fX10_54 rfl rfl rfl (by decide) ?_
              obtain ⟨q24, k28, W⟩ := W
              refine zt_callVi (As := [zA g 11, zI 0, zI 1, zA g 13]) (rest := []) dX10_game_92 kX10_game_393 rfl rfl rfl rfl (Nat.le_of_ble_eq_true rfl) k28 (fun r25 M26 h27 => ?_)
              have W := W r25 M26 h27
              refine zr_goto (tgt := 100) dX10_game_95 (by decide) ?_
              exact zt_iret dX10_game_100 rfl W
          · have W := W.2 h
            refine zr_aload_n 0 dX10_game_69 rfl ?_
            obtain ⟨c29, W⟩ := W
            obtain ⟨c30, W⟩ := W
            refine zt_callVi (As := []) (rest := []) dX10_game_70 kX10_game_364 rfl rfl rfl rfl (Nat.le_of_ble_eq_true rfl) (c_bareR c29 c30) (fun r31 N33 h32 => ?_)
            rw [h32.1, h32.2]
            refine zr_goto (tgt := 100) dX10_game_73 (by decide) ?_
            exact zt_iret dX10_game_100 rfl W
        · have W := W.2 h
          refine zr_aload_n 0 dX10_game_57 rfl ?_
          obtain ⟨c34, W⟩ := W
          obtain ⟨c35, W⟩ := W
          refine zt_callVi (As := []) (rest := []) dX10_game_58 kX10_game_361 rfl rfl rfl rfl (Nat.le_of_ble_eq_true rfl) (c_highestR c34 c35) (fun r36 N38 h37 => ?_)
          rw [h37.1, h37.2]
          refine zr_goto (tgt := 100) dX10_game_61 (by decide) ?_
          exact zt_iret dX10_game_100 rfl W
      · have W := W.2 h
        refine zr_iconst dX10_game_31 ?_
        exact zt_iret dX10_game_32 rfl W
theorem dX10_common_0 : decode cX10_common 0 = .ok (.lload_n 0, 1) := by decide +kernel
theorem dX10_common_1 : decode cX10_common 1 = .ok (.lstore 4, 2) := by decide +kernel
theorem dX10_common_3 : decode cX10_common 3 = .ok (.lload_n 2, 1) := by decide +kernel
theorem dX10_common_4 : decode cX10_common 4 = .ok (.lstore 6, 2) := by decide +kernel
theorem dX10_common_6 : decode cX10_common 6 = .ok (.lload 6, 2) := by decide +kernel
theorem dX10_common_8 : decode cX10_common 8 = .ok (.lconst 0, 1) := by decide +kernel
theorem dX10_common_9 : decode cX10_common 9 = .ok (.lcmp, 1) := by decide +kernel
theorem dX10_common_10 : decode cX10_common 10 = .ok (.ifCond .eq 21, 3) := by decide +kernel
theorem dX10_common_13 : decode cX10_common 13 = .ok (.lload 4, 2) := by decide +kernel
theorem dX10_common_15 : decode cX10_common 15 = .ok (.lload 6, 2) := by decide +kernel
theorem dX10_common_17 : decode cX10_common 17 = .ok (.lrem, 1) := by decide +kernel
theorem dX10_common_18 : decode cX10_common 18 = .ok (.lstore 8, 2) := by decide +kernel
theorem dX10_common_20 : decode cX10_common 20 = .ok (.lload 6, 2) := by decide +kernel
theorem dX10_common_22 : decode cX10_common 22 = .ok (.lstore 4, 2) := by decide +kernel
theorem dX10_common_24 : decode cX10_common 24 = .ok (.lload 8, 2) := by decide +kernel
theorem dX10_common_26 : decode cX10_common 26 = .ok (.lstore 6, 2) := by decide +kernel
theorem dX10_common_28 : decode cX10_common 28 = .ok (.goto (-22), 3) := by decide +kernel
theorem dX10_common_31 : decode cX10_common 31 = .ok (.lload 4, 2) := by decide +kernel
theorem dX10_common_33 : decode cX10_common 33 = .ok (.lreturn, 1) := by decide +kernel
set_option maxRecDepth 100000 in
theorem SX10_common_0 {g : zG} {o : Bool} {M : zM} {q : Int → zM → Prop} {x0 x2 : Int} (W : zT g (z2 o) mX10_common (zQl (z2 o) q) 6 [(4, zL x0), (6, zL x2)] [] M) : zT g (z2 o) mX10_common (zQl (z2 o) q) 0 [(0, zL x0), (2, zL x2)] [] M := by
  refine zr_lload_n 0 dX10_common_0 rfl ?_
  refine zr_lstore (l' := [(2, zL x2), (4, zL x0)]) dX10_common_1 (by decide) [2, 0] rfl ?_
  refine zr_lload_n 0 dX10_common_3 rfl ?_
  refine zr_lstore (l' := [(4, zL x0), (6, zL x2)]) dX10_common_4 (by decide) [2, 0] rfl ?_
  exact W
set_option maxRecDepth 100000 in
theorem SX10_common_6 {g : zG} {o : Bool} {M : zM} {q : Int → zM → Prop} {x4 x6 : Int} (W : (-9223372036854775808 ≤ x6 ∧ x6 ≤ 9223372036854775807) ∧ ((x6 = 0) → q x4 M) ∧ ((¬ (x6 = 0)) → (0 ≤ x4 ∧ x4 ≤ 9223372036854775807) ∧ (0 < x6 ∧ x6 ≤ 9223372036854775807) ∧ zT g (z2 o) mX10_common (zQl (z2 o) q) 6 [(4, zL x6), (6, zL (x4 % x6))] [] M)) : zT g (z2 o) mX10_common (zQl (z2 o) q) 6 [(4, zL x4), (6, zL x6)] [] M := by
  refine zr_lload 1 dX10_common_6 rfl ?_
  refine zr_lconst (x := 0) dX10_common_8 rfl ?_
  obtain ⟨c1, W⟩ := W
  refine zr_lcmp dX10_common_9 c1 ⟨by decide, by decide⟩ ?_
  refine zr_if_eq (tgt := 31) dX10_common_10 (by decide) (zc_in _ _) (fun h => ?_) (fun h => ?_)
  · have W := W.1 (zc_eq.mp h)
    refine zr_lload 0 dX10_common_31 rfl ?_
    exact zt_lret dX10_common_33 rfl W
  · have W := W.2 (fun h9 => h (zc_eq.mpr h9))
    refine zr_lload 0 dX10_common_13 rfl ?_
    refine zr_lload 1 dX10_common_15 rfl ?_
    obtain ⟨c2, W⟩ := W
    obtain ⟨c3, W⟩ := W
    refine zr_lrem dX10_common_17 c2 c3 ?_
    refine zr_lstore (l' := [(6, zL x6), (8, zL (x4 % x6))]) dX10_common_18 (by decide) [2, 0] rfl ?_
    refine zr_lload 0 dX10_common_20 rfl ?_
    refine zr_lstore (l' := [(4, zL x6), (8, zL (x4 % x6))]) dX10_common_22 (by decide) [0, 2] rfl ?_
    refine zr_lload 1 dX10_common_24 rfl ?_
    refine zr_lstore (l' := [(4, zL x6), (6, zL (x4 % x6))]) dX10_common_26 (by decide) [1, 0] rfl ?_
    refine zr_goto (tgt := 6) dX10_common_28 (by decide) ?_
    exact W
