theorem dX2_has_0 : decode cX2_has 0 = .ok (.iload_n 1, 1) := by decide +kernel
theorem dX2_has_1 : decode cX2_has 1 = .ok (.ifCond .lt 15, 3) := by decide +kernel
theorem dX2_has_4 : decode cX2_has 4 = .ok (.iload_n 1, 1) := by decide +kernel
theorem dX2_has_5 : decode cX2_has 5 = .ok (.aload_n 0, 1) := by decide +kernel
theorem dX2_has_6 : decode cX2_has 6 = .ok (.getfield 38, 3) := by decide +kernel
theorem dX2_has_9 : decode cX2_has 9 = .ok (.if_icmp .ge 7, 3) := by decide +kernel
theorem dX2_has_12 : decode cX2_has 12 = .ok (.iconst 1, 1) := by decide +kernel
theorem dX2_has_13 : decode cX2_has 13 = .ok (.goto 4, 3) := by decide +kernel
theorem dX2_has_16 : decode cX2_has 16 = .ok (.iconst 0, 1) := by decide +kernel
theorem dX2_has_17 : decode cX2_has 17 = .ok (.ireturn, 1) := by decide +kernel
set_option maxRecDepth 100000 in
theorem SX2_has_0 {g : zG} {o : Bool} {M : zM} {q : Int → zM → Prop} {x1 : Int} (W : (-2147483648 ≤ x1 ∧ x1 ≤ 2147483647) ∧ ((x1 < 0) → q 0 M) ∧ ((¬ (x1 < 0)) → (-2147483648 ≤ (M 14 2) ∧ (M 14 2) ≤ 2147483647) ∧ (((M 14 2) ≤ x1) → q 0 M) ∧ ((¬ ((M 14 2) ≤ x1)) → q 1 M))) : zT g (z1 o) mX2_has (zQi (z1 o) q) 0 [(0, zA g 14), (1, zI x1)] [] M := by
  refine zr_iload_n 1 dX2_has_0 rfl ?_
  obtain ⟨c1, W⟩ := W
  refine zr_if_lt (tgt := 16) dX2_has_1 (by decide) c1 (fun h => ?_) (fun h => ?_)
  · have W := W.1 h
    refine zr_iconst dX2_has_16 ?_
    exact zt_zret dX2_has_17 rfl (by decide) W
  · have W := W.2 h
    refine zr_iload_n 1 dX2_has_4 rfl ?_
    refine zr_aload_n 0 dX2_has_5 rfl ?_
    refine zt_geti 2 rfl dX2_has_6 fX2_38 rfl (by decide) ?_
    obtain ⟨c2, W⟩ := W
    refine zr_icmp_ge (tgt := 16) dX2_has_9 (by decide) c1 c2 (fun h => ?_) (fun h => ?_)
    · have W := W.1 h
      refine zr_iconst dX2_has_16 ?_
      exact zt_zret dX2_has_17 rfl (by decide) W
    · have W := W.2 h
      refine zr_iconst dX2_has_12 ?_
      refine zr_goto (tgt := 17) dX2_has_13 (by decide) ?_
      exact zt_zret dX2_has_17 rfl (by decide) W
theorem dX2_neighbour_0 : decode cX2_neighbour 0 = .ok (.aload_n 0, 1) := by decide +kernel
theorem dX2_neighbour_1 : decode cX2_neighbour 1 = .ok (.getfield 18, 3) := by decide +kernel
theorem dX2_neighbour_4 : decode cX2_neighbour 4 = .ok (.iload_n 1, 1) := by decide +kernel
theorem dX2_neighbour_5 : decode cX2_neighbour 5 = .ok (.iconst 4, 1) := by decide +kernel
theorem dX2_neighbour_6 : decode cX2_neighbour 6 = .ok (.imul, 1) := by decide +kernel
theorem dX2_neighbour_7 : decode cX2_neighbour 7 = .ok (.iload_n 2, 1) := by decide +kernel
theorem dX2_neighbour_8 : decode cX2_neighbour 8 = .ok (.iadd, 1) := by decide +kernel
theorem dX2_neighbour_9 : decode cX2_neighbour 9 = .ok (.iaload, 1) := by decide +kernel
theorem dX2_neighbour_10 : decode cX2_neighbour 10 = .ok (.ireturn, 1) := by decide +kernel
set_option maxRecDepth 100000 in
theorem SX2_neighbour_0 {g : zG} {o : Bool} {M : zM} {q : Int → zM → Prop} {x1 x2 : Int} (W : (0 ≤ ((x1 * 4) + x2) ∧ ((x1 * 4) + x2) < 384) ∧ q (M 17 ((x1 * 4) + x2)) M) : zT g (z1 o) mX2_neighbour (zQi (z1 o) q) 0 [(0, zA g 14), (1, zI x1), (2, zI x2)] [] M := by
  refine zr_aload_n 0 dX2_neighbour_0 rfl ?_
  refine zr_getr (b := 17) dX2_neighbour_1 fX2_18 rfl rfl rfl (by decide) ?_
  refine zr_iload_n 1 dX2_neighbour_4 rfl ?_
  refine zr_iconst dX2_neighbour_5 ?_
  refine zr_imul dX2_neighbour_6 ?_
  refine zr_iload_n 2 dX2_neighbour_7 rfl ?_
  refine zr_iadd dX2_neighbour_8 ?_
  obtain ⟨c1, W⟩ := W
  refine zr_iald dX2_neighbour_9 rfl (by decide) c1 ?_
  exact zt_iret dX2_neighbour_10 rfl W
theorem dX2_roundOf_0 : decode cX2_roundOf 0 = .ok (.iload_n 1, 1) := by decide +kernel
theorem dX2_roundOf_1 : decode cX2_roundOf 1 = .ok (.ifCond .eq 8, 3) := by decide +kernel
theorem dX2_roundOf_4 : decode cX2_roundOf 4 = .ok (.iload_n 1, 1) := by decide +kernel
theorem dX2_roundOf_5 : decode cX2_roundOf 5 = .ok (.iconst 2, 1) := by decide +kernel
theorem dX2_roundOf_6 : decode cX2_roundOf 6 = .ok (.if_icmp .ne 10, 3) := by decide +kernel
theorem dX2_roundOf_9 : decode cX2_roundOf 9 = .ok (.aload_n 0, 1) := by decide +kernel
theorem dX2_roundOf_10 : decode cX2_roundOf 10 = .ok (.getfield 33, 3) := by decide +kernel
theorem dX2_roundOf_13 : decode cX2_roundOf 13 = .ok (.goto 7, 3) := by decide +kernel
theorem dX2_roundOf_16 : decode cX2_roundOf 16 = .ok (.aload_n 0, 1) := by decide +kernel
theorem dX2_roundOf_17 : decode cX2_roundOf 17 = .ok (.getfield 37, 3) := by decide +kernel
theorem dX2_roundOf_20 : decode cX2_roundOf 20 = .ok (.ireturn, 1) := by decide +kernel
set_option maxRecDepth 100000 in
theorem SX2_roundOf_0 {g : zG} {o : Bool} {M : zM} {q : Int → zM → Prop} {x1 : Int} (W : (-2147483648 ≤ x1 ∧ x1 ≤ 2147483647) ∧ ((x1 = 0) → q (M 14 0) M) ∧ ((¬ (x1 = 0)) → ((x1 ≠ 2) → q (M 14 1) M) ∧ ((x1 = 2) → q (M 14 0) M))) : zT g (z1 o) mX2_roundOf (zQi (z1 o) q) 0 [(0, zA g 14), (1, zI x1)] [] M := by
  refine zr_iload_n 1 dX2_roundOf_0 rfl ?_
  obtain ⟨c1, W⟩ := W
  refine zr_if_eq (tgt := 9) dX2_roundOf_1 (by decide) c1 (fun h => ?_) (fun h => ?_)
  · have W := W.1 h
    refine zr_aload_n 0 dX2_roundOf_9 rfl ?_
    refine zt_geti 0 rfl dX2_roundOf_10 fX2_33 rfl (by decide) ?_
    refine zr_goto (tgt := 20) dX2_roundOf_13 (by decide) ?_
    exact zt_iret dX2_roundOf_20 rfl W
  · have W := W.2 h
    refine zr_iload_n 1 dX2_roundOf_4 rfl ?_
    refine zr_iconst dX2_roundOf_5 ?_
    refine zr_icmp_ne (tgt := 16) dX2_roundOf_6 (by decide) c1 ⟨by decide, by decide⟩ (fun h => ?_) (fun h => ?_)
    · have W := W.1 h
      refine zr_aload_n 0 dX2_roundOf_16 rfl ?_
      refine zt_geti 1 rfl dX2_roundOf_17 fX2_37 rfl (by decide) ?_
      exact zt_iret dX2_roundOf_20 rfl W
    · have W := W.2 h
      refine zr_aload_n 0 dX2_roundOf_9 rfl ?_
      refine zt_geti 0 rfl dX2_roundOf_10 fX2_33 rfl (by decide) ?_
      refine zr_goto (tgt := 20) dX2_roundOf_13 (by decide) ?_
      exact zt_iret dX2_roundOf_20 rfl W
theorem dX2_windAt_0 : decode cX2_windAt 0 = .ok (.aload_n 0, 1) := by decide +kernel
theorem dX2_windAt_1 : decode cX2_windAt 1 = .ok (.getfield 49, 3) := by decide +kernel
theorem dX2_windAt_4 : decode cX2_windAt 4 = .ok (.ifCond .le 12, 3) := by decide +kernel
theorem dX2_windAt_7 : decode cX2_windAt 7 = .ok (.iload_n 1, 1) := by decide +kernel
theorem dX2_windAt_8 : decode cX2_windAt 8 = .ok (.aload_n 0, 1) := by decide +kernel
theorem dX2_windAt_9 : decode cX2_windAt 9 = .ok (.getfield 49, 3) := by decide +kernel
theorem dX2_windAt_12 : decode cX2_windAt 12 = .ok (.irem, 1) := by decide +kernel
theorem dX2_windAt_13 : decode cX2_windAt 13 = .ok (.goto 4, 3) := by decide +kernel
theorem dX2_windAt_16 : decode cX2_windAt 16 = .ok (.iconst 0, 1) := by decide +kernel
theorem dX2_windAt_17 : decode cX2_windAt 17 = .ok (.istore_n 2, 1) := by decide +kernel
theorem dX2_windAt_18 : decode cX2_windAt 18 = .ok (.iconst 0, 1) := by decide +kernel
theorem dX2_windAt_19 : decode cX2_windAt 19 = .ok (.istore_n 3, 1) := by decide +kernel
theorem dX2_windAt_20 : decode cX2_windAt 20 = .ok (.iload_n 3, 1) := by decide +kernel
theorem dX2_windAt_21 : decode cX2_windAt 21 = .ok (.aload_n 0, 1) := by decide +kernel
theorem dX2_windAt_22 : decode cX2_windAt 22 = .ok (.getfield 48, 3) := by decide +kernel
theorem dX2_windAt_25 : decode cX2_windAt 25 = .ok (.if_icmp .ge 35, 3) := by decide +kernel
theorem dX2_windAt_28 : decode cX2_windAt 28 = .ok (.iload_n 2, 1) := by decide +kernel
theorem dX2_windAt_29 : decode cX2_windAt 29 = .ok (.aload_n 0, 1) := by decide +kernel
theorem dX2_windAt_30 : decode cX2_windAt 30 = .ok (.getfield 24, 3) := by decide +kernel
theorem dX2_windAt_33 : decode cX2_windAt 33 = .ok (.iload_n 3, 1) := by decide +kernel
theorem dX2_windAt_34 : decode cX2_windAt 34 = .ok (.iaload, 1) := by decide +kernel
theorem dX2_windAt_35 : decode cX2_windAt 35 = .ok (.if_icmp .ge 10, 3) := by decide +kernel
theorem dX2_windAt_38 : decode cX2_windAt 38 = .ok (.aload_n 0, 1) := by decide +kernel
theorem dX2_windAt_39 : decode cX2_windAt 39 = .ok (.getfield 21, 3) := by decide +kernel
theorem dX2_windAt_42 : decode cX2_windAt 42 = .ok (.iload_n 3, 1) := by decide +kernel
theorem dX2_windAt_43 : decode cX2_windAt 43 = .ok (.iaload, 1) := by decide +kernel
theorem dX2_windAt_44 : decode cX2_windAt 44 = .ok (.ireturn, 1) := by decide +kernel
theorem dX2_windAt_45 : decode cX2_windAt 45 = .ok (.iload_n 2, 1) := by decide +kernel
theorem dX2_windAt_46 : decode cX2_windAt 46 = .ok (.aload_n 0, 1) := by decide +kernel
theorem dX2_windAt_47 : decode cX2_windAt 47 = .ok (.getfield 24, 3) := by decide +kernel
theorem dX2_windAt_50 : decode cX2_windAt 50 = .ok (.iload_n 3, 1) := by decide +kernel
theorem dX2_windAt_51 : decode cX2_windAt 51 = .ok (.iaload, 1) := by decide +kernel
theorem dX2_windAt_52 : decode cX2_windAt 52 = .ok (.isub, 1) := by decide +kernel
theorem dX2_windAt_53 : decode cX2_windAt 53 = .ok (.istore_n 2, 1) := by decide +kernel
theorem dX2_windAt_54 : decode cX2_windAt 54 = .ok (.iinc 3 1, 3) := by decide +kernel
theorem dX2_windAt_57 : decode cX2_windAt 57 = .ok (.goto (-37), 3) := by decide +kernel
theorem dX2_windAt_60 : decode cX2_windAt 60 = .ok (.iconst 0, 1) := by decide +kernel
theorem dX2_windAt_61 : decode cX2_windAt 61 = .ok (.ireturn, 1) := by decide +kernel
set_option maxRecDepth 100000 in
theorem SX2_windAt_0 {g : zG} {o : Bool} {M : zM} {q : Int → zM → Prop} {x1 : Int} (W : (-2147483648 ≤ (M 14 5) ∧ (M 14 5) ≤ 2147483647) ∧ (((M 14 5) ≤ 0) → zT g (z1 o) mX2_windAt (zQi (z1 o) q) 20 [(0, zA g 14), (2, zI 0), (3, zI 0)] [] M) ∧ ((¬ ((M 14 5) ≤ 0)) → (0 ≤ x1 ∧ x1 ≤ 2147483647) ∧ (0 < (M 14 5) ∧ (M 14 5) ≤ 2147483647) ∧ zT g (z1 o) mX2_windAt (zQi (z1 o) q) 20 [(0, zA g 14), (2, zI (x1 % (M 14 5))), (3, zI 0)] [] M)) : zT g (z1 o) mX2_windAt (zQi (z1 o) q) 0 [(0, zA g 14), (1, zI x1)] [] M := by
  refine zr_aload_n 0 dX2_windAt_0 rfl ?_
  refine zt_geti 5 rfl dX2_windAt_1 fX2_49 rfl (by decide) ?_
  obtain ⟨c1, W⟩ := W
  refine zr_if_le (tgt := 16) dX2_windAt_4 (by decide) c1 (fun h => ?_) (fun h => ?_)
  · have W := W.1 h
    refine zr_iconst dX2_windAt_16 ?_
    refine zr_istore_n (l' := [(0, zA g 14), (2, zI 0)]) dX2_windAt_17 (by decide) [1, 0] rfl ?_
    refine zr_iconst dX2_windAt_18 ?_
    refine zr_istore_n (l' := [(0, zA g 14), (2, zI 0), (3, zI 0)]) dX2_windAt_19 (by decide) [1, 2, 0] rfl ?_
    exact W
  · have W := W.2 h
    refine zr_iload_n 1 dX2_windAt_7 rfl ?_
    refine zr_aload_n 0 dX2_windAt_8 rfl ?_
    refine zt_geti 5 rfl dX2_windAt_9 fX2_49 rfl (by decide) ?_
    obtain ⟨c2, W⟩ := W
    obtain ⟨c3, W⟩ := W
    refine zr_irem dX2_windAt_12 c2 c3 ?_
    refine zr_goto (tgt := 17) dX2_windAt_13 (by decide) ?_
    refine zr_istore_n (l' := [(0, zA g 14), (2, zI (x1 % (M 14 5)))]) dX2_windAt_17 (by decide) [1, 0] rfl ?_
    refine zr_iconst dX2_windAt_18 ?_
    refine zr_istore_n (l' := [(0, zA g 14), (2, zI (x1 % (M 14 5))), (3, zI 0)]) dX2_windAt_19 (by decide) [1, 2, 0] rfl ?_
    exact W
set_option maxRecDepth 100000 in
theorem SX2_windAt_20 {g : zG} {o : Bool} {M : zM} {q : Int → zM → Prop} {x2 x3 : Int} (W : (-2147483648 ≤ x3 ∧ x3 ≤ 2147483647) ∧ (-2147483648 ≤ (M 14 4) ∧ (M 14 4) ≤ 2147483647) ∧ (((M 14 4) ≤ x3) → q 0 M) ∧ ((¬ ((M 14 4) ≤ x3)) → (0 ≤ x3 ∧ x3 < 8) ∧ (-2147483648 ≤ x2 ∧ x2 ≤ 2147483647) ∧ (-2147483648 ≤ (M 19 x3) ∧ (M 19 x3) ≤ 2147483647) ∧ (((M 19 x3) ≤ x2) → zT g (z1 o) mX2_windAt (zQi (z1 o) q) 20 [(0, zA g 14), (2, zI (x2 - (M 19 x3))), (3, zI (x3 + 1))] [] M) ∧ ((¬ ((M 19 x3) ≤ x2)) → q (M 18 x3) M))) : zT g (z1 o) mX2_windAt (zQi (z1 o) q) 20 [(0, zA g 14), (2, zI x2), (3, zI x3)] [] M := by
  refine zr_iload_n 2 dX2_windAt_20 rfl ?_
  refine zr_aload_n 0 dX2_windAt_21 rfl ?_
  refine zt_geti 4 rfl dX2_windAt_22 fX2_48 rfl (by decide) ?_
  obtain ⟨c1, W⟩ := W
  obtain ⟨c2, W⟩ := W
  refine zr_icmp_ge (tgt := 60) dX2_windAt_25 (by decide) c1 c2 (fun h => ?_) (fun h => ?_)
  · have W := W.1 h
    refine zr_iconst dX2_windAt_60 ?_
    exact zt_iret dX2_windAt_61 rfl W
  · have W := W.2 h
    refine zr_iload_n 1 dX2_windAt_28 rfl ?_
    refine zr_aload_n 0 dX2_windAt_29 rfl ?_
    refine zr_getr (b := 19) dX2_windAt_30 fX2_24 rfl rfl rfl (by decide) ?_
    refine zr_iload_n 2 dX2_windAt_33 rfl ?_
    obtain ⟨c3, W⟩ := W
    refine zr_iald dX2_windAt_34 rfl (by decide) c3 ?_
    obtain ⟨c4, W⟩ := W
    obtain ⟨c5, W⟩ := W
    refine zr_icmp_ge (tgt := 45) dX2_windAt_35 (by decide) c4 c5 (fun h => ?_) (fun h => ?_)
    · have W := W.1 h
      refine zr_iload_n 1 dX2_windAt_45 rfl ?_
      refine zr_aload_n 0 dX2_windAt_46 rfl ?_
      refine zr_getr (b := 19) dX2_windAt_47 fX2_24 rfl rfl rfl (by decide) ?_
      refine zr_iload_n 2 dX2_windAt_50 rfl ?_
      refine zr_iald dX2_windAt_51 rfl (by decide) c3 ?_
      refine zr_isub dX2_windAt_52 ?_
      refine zr_istore_n (l' := [(0, zA g 14), (2, zI (x2 - (M 19 x3))), (3, zI x3)]) dX2_windAt_53 (by decide) [1, 0, 2] rfl ?_
      refine zr_iinc (q := 2) (l' := [(0, zA g 14), (2, zI (x2 - (M 19 x3))), (3, zI (x3 + 1))]) dX2_windAt_54 rfl (by decide) [1, 2, 0] rfl ?_
      refine zr_goto (tgt := 20) dX2_windAt_57 (by decide) ?_
      exact W
    · have W := W.2 h
      refine zr_aload_n 0 dX2_windAt_38 rfl ?_
      refine zr_getr (b := 18) dX2_windAt_39 fX2_21 rfl rfl rfl (by decide) ?_
      refine zr_iload_n 2 dX2_windAt_42 rfl ?_
      refine zr_iald dX2_windAt_43 rfl (by decide) c3 ?_
      exact zt_iret dX2_windAt_44 rfl W
theorem dX2_moved_0 : decode cX2_moved 0 = .ok (.aload_n 0, 1) := by decide +kernel
theorem dX2_moved_1 : decode cX2_moved 1 = .ok (.getfield 9, 3) := by decide +kernel
theorem dX2_moved_4 : decode cX2_moved 4 = .ok (.iload_n 1, 1) := by decide +kernel
theorem dX2_moved_5 : decode cX2_moved 5 = .ok (.iaload, 1) := by decide +kernel
theorem dX2_moved_6 : decode cX2_moved 6 = .ok (.iload_n 2, 1) := by decide +kernel
theorem dX2_moved_7 : decode cX2_moved 7 = .ok (.iadd, 1) := by decide +kernel
theorem dX2_moved_8 : decode cX2_moved 8 = .ok (.istore 4, 2) := by decide +kernel
theorem dX2_moved_10 : decode cX2_moved 10 = .ok (.aload_n 0, 1) := by decide +kernel
theorem dX2_moved_11 : decode cX2_moved 11 = .ok (.getfield 15, 3) := by decide +kernel
theorem dX2_moved_14 : decode cX2_moved 14 = .ok (.iload_n 1, 1) := by decide +kernel
theorem dX2_moved_15 : decode cX2_moved 15 = .ok (.iaload, 1) := by decide +kernel
theorem dX2_moved_16 : decode cX2_moved 16 = .ok (.iload_n 3, 1) := by decide +kernel
theorem dX2_moved_17 : decode cX2_moved 17 = .ok (.iadd, 1) := by decide +kernel
theorem dX2_moved_18 : decode cX2_moved 18 = .ok (.istore 5, 2) := by decide +kernel
theorem dX2_moved_20 : decode cX2_moved 20 = .ok (.iload 5, 2) := by decide +kernel
theorem dX2_moved_22 : decode cX2_moved 22 = .ok (.aload_n 0, 1) := by decide +kernel
theorem dX2_moved_23 : decode cX2_moved 23 = .ok (.getfield 37, 3) := by decide +kernel
theorem dX2_moved_26 : decode cX2_moved 26 = .ok (.if_icmp .lt 13, 3) := by decide +kernel
theorem dX2_moved_29 : decode cX2_moved 29 = .ok (.iload 5, 2) := by decide +kernel
theorem dX2_moved_31 : decode cX2_moved 31 = .ok (.aload_n 0, 1) := by decide +kernel
theorem dX2_moved_32 : decode cX2_moved 32 = .ok (.getfield 37, 3) := by decide +kernel
theorem dX2_moved_35 : decode cX2_moved 35 = .ok (.isub, 1) := by decide +kernel
theorem dX2_moved_36 : decode cX2_moved 36 = .ok (.goto 5, 3) := by decide +kernel
theorem dX2_moved_39 : decode cX2_moved 39 = .ok (.iload 5, 2) := by decide +kernel
theorem dX2_moved_41 : decode cX2_moved 41 = .ok (.aload_n 0, 1) := by decide +kernel
theorem dX2_moved_42 : decode cX2_moved 42 = .ok (.getfield 33, 3) := by decide +kernel
theorem dX2_moved_45 : decode cX2_moved 45 = .ok (.imul, 1) := by decide +kernel
theorem dX2_moved_46 : decode cX2_moved 46 = .ok (.iload 4, 2) := by decide +kernel
theorem dX2_moved_48 : decode cX2_moved 48 = .ok (.aload_n 0, 1) := by decide +kernel
theorem dX2_moved_49 : decode cX2_moved 49 = .ok (.getfield 33, 3) := by decide +kernel
theorem dX2_moved_52 : decode cX2_moved 52 = .ok (.if_icmp .lt 13, 3) := by decide +kernel
theorem dX2_moved_55 : decode cX2_moved 55 = .ok (.iload 4, 2) := by decide +kernel
theorem dX2_moved_57 : decode cX2_moved 57 = .ok (.aload_n 0, 1) := by decide +kernel
theorem dX2_moved_58 : decode cX2_moved 58 = .ok (.getfield 33, 3) := by decide +kernel
theorem dX2_moved_61 : decode cX2_moved 61 = .ok (.isub, 1) := by decide +kernel
theorem dX2_moved_62 : decode cX2_moved 62 = .ok (.goto 5, 3) := by decide +kernel
theorem dX2_moved_65 : decode cX2_moved 65 = .ok (.iload 4, 2) := by decide +kernel
theorem dX2_moved_67 : decode cX2_moved 67 = .ok (.iadd, 1) := by decide +kernel
theorem dX2_moved_68 : decode cX2_moved 68 = .ok (.ireturn, 1) := by decide +kernel
set_option maxRecDepth 100000 in
theorem SX2_moved_0 {g : zG} {o : Bool} {M : zM} {q : Int → zM → Prop} {x1 x2 x3 : Int} (W : (0 ≤ x1 ∧ x1 < 96) ∧ (-2147483648 ≤ ((M 16 x1) + x3) ∧ ((M 16 x1) + x3) ≤ 2147483647) ∧ (-2147483648 ≤ (M 14 1) ∧ (M 14 1) ≤ 2147483647) ∧ ((((M 16 x1) + x3) < (M 14 1)) → (-2147483648 ≤ ((M 15 x1) + x2) ∧ ((M 15 x1) + x2) ≤ 2147483647) ∧ (-2147483648 ≤ (M 14 0) ∧ (M 14 0) ≤ 2147483647) ∧ ((((M 15 x1) + x2) < (M 14 0)) → q ((((M 16 x1) + x3) * (M 14 0)) + ((M 15 x1) + x2)) M) ∧ ((¬ (((M 15 x1) + x2) < (M 14 0))) → q ((((M 16 x1) + x3) * (M 14 0)) + (((M 15 x1) + x2) - (M 14 0))) M)) ∧ ((¬ (((M 16 x1) + x3) < (M 14 1))) → (-2147483648 ≤ ((M 15 x1) + x2) ∧ ((M 15 x1) + x2) ≤ 2147483647) ∧ (-2147483648 ≤ (M 14 0) ∧ (M 14 0) ≤ 2147483647) ∧ ((((M 15 x1) + x2) < (M 14 0)) → q (((((M 16 x1) + x3) - (M 14 1)) * (M 14 0)) + ((M 15 x1) + x2)) M) ∧ ((¬ (((M 15 x1) + x2) < (M 14 0))) → q (((((M 16 x1) + x3) - (M 14 1)) * (M 14 0)) + (((M 15 x1) + x2) - (M 14 0))) M))) : zT g (z1 o) mX2_moved (zQi (z1 o) q) 0 [(0, zA g 14), (1, zI x1), (2, zI x2), (3, zI x3)] [] M := by
  refine zr_aload_n 0 dX2_moved_0 rfl ?_
  refine zr_getr (b := 15) dX2_moved_1 fX2_9 rfl rfl rfl (by decide) ?_
  refine zr_iload_n 1 dX2_moved_4 rfl ?_
  obtain ⟨c1, W⟩ := W
  refine zr_iald dX2_moved_5 rfl (by decide) c1 ?_
  refine zr_iload_n 2 dX2_moved_6 rfl ?_
  refine zr_iadd dX2_moved_7 ?_
  refine zr_istore (l' := [(0, zA g 14), (1, zI x1), (3, zI x3), (4, zI ((M 15 x1) + x2))]) dX2_moved_8 (by decide) [1, 2, 4, 0] rfl ?_
  refine zr_aload_n 0 dX2_moved_10 rfl ?_
  refine zr_getr (b := 16) dX2_moved_11 fX2_15 rfl rfl rfl (by decide) ?_
  refine zr_iload_n 1 dX2_moved_14 rfl ?_
  refine zr_iald dX2_moved_15 rfl (by decide) c1 ?_
  refine zr_iload_n 2 dX2_moved_16 rfl ?_
  refine zr_iadd dX2_moved_17 ?_
  refine zr_istore (l' := [(0, zA g 14), (4, zI ((M 15 x1) + x2)), (5, zI ((M 16 x1) + x3))]) dX2_moved_18 (by decide) [1, 4, 0] rfl ?_
  refine zr_iload 2 dX2_moved_20 rfl ?_
  refine zr_aload_n 0 dX2_moved_22 rfl ?_
  refine zt_geti 1 rfl dX2_moved_23 fX2_37 rfl (by decide) ?_
  obtain ⟨c2, W⟩ := W
  obtain ⟨c3, W⟩ := W
  refine zr_icmp_lt (tgt := 39) dX2_moved_26 (by decide) c2 c3 (fun h => ?_) (fun h => ?_)
  · have W := W.1 h
    refine zr_iload 2 dX2_moved_39 rfl ?_
    refine zr_aload_n 0 dX2_moved_41 rfl ?_
    refine zt_geti 0 rfl dX2_moved_42 fX2_33 rfl (by decide) ?_
    refine zr_imul dX2_moved_45 ?_
    refine zr_iload 1 dX2_moved_46 rfl ?_
    refine zr_aload_n 0 dX2_moved_48 rfl ?_
    refine zt_geti 0 rfl dX2_moved_49 fX2_33 rfl (by decide) ?_
    obtain ⟨c4, W⟩ := W
    obtain ⟨c5, W⟩ := W
    refine zr_icmp_lt (tgt := 65) dX2_moved_52 (by decide) c4 c5 (fun h => ?_) (fun h => ?_)
    · have W := W.1 h
      refine zr_iload 1 dX2_moved_65 rfl ?_
      refine zr_iadd dX2_moved_67 ?_
      exact zt_iret dX2_moved_68 rfl W
    · have W := W.2 h
      refine zr_iload 1 dX2_moved_55 rfl ?_
      refine zr_aload_n 0 dX2_moved_57 rfl ?_
      refine zt_geti 0 rfl dX2_moved_58 fX2_33 rfl (by decide) ?_
      refine zr_isub dX2_moved_61 ?_
      refine zr_goto (tgt := 67) dX2_moved_62 (by decide) ?_
      refine zr_iadd dX2_moved_67 ?_
      exact zt_iret dX2_moved_68 rfl W
  · have W := W.2 h
    refine zr_iload 2 dX2_moved_29 rfl ?_
    refine zr_aload_n 0 dX2_moved_31 rfl ?_
    refine zt_geti 1 rfl dX2_moved_32 fX2_37 rfl (by decide) ?_
    refine zr_isub dX2_moved_35 ?_
    refine zr_goto (tgt := 41) dX2_moved_36 (by decide) ?_
    refine zr_aload_n 0 dX2_moved_41 rfl ?_
    refine zt_geti 0 rfl dX2_moved_42 fX2_33 rfl (by decide) ?_
    refine zr_imul dX2_moved_45 ?_
    refine zr_iload 1 dX2_moved_46 rfl ?_
    refine zr_aload_n 0 dX2_moved_48 rfl ?_
    refine zt_geti 0 rfl dX2_moved_49 fX2_33 rfl (by decide) ?_
    obtain ⟨c6, W⟩ := W
    obtain ⟨c7, W⟩ := W
    refine zr_icmp_lt (tgt := 65) dX2_moved_52 (by decide) c6 c7 (fun h => ?_) (fun h => ?_)
    · have W := W.1 h
      refine zr_iload 1 dX2_moved_65 rfl ?_
      refine zr_iadd dX2_moved_67 ?_
      exact zt_iret dX2_moved_68 rfl W
    · have W := W.2 h
      refine zr_iload 1 dX2_moved_55 rfl ?_
      refine zr_aload_n 0 dX2_moved_57 rfl ?_
      refine zt_geti 0 rfl dX2_moved_58 fX2_33 rfl (by decide) ?_
      refine zr_isub dX2_moved_61 ?_
      refine zr_goto (tgt := 67) dX2_moved_62 (by decide) ?_
      refine zr_iadd dX2_moved_67 ?_
      exact zt_iret dX2_moved_68 rfl W
theorem dX5_slabs_0 : decode cX5_slabs 0 = .ok (.iconst 0, 1) := by decide +kernel
theorem dX5_slabs_1 : decode cX5_slabs 1 = .ok (.istore_n 1, 1) := by decide +kernel
theorem dX5_slabs_2 : decode cX5_slabs 2 = .ok (.iconst 0, 1) := by decide +kernel
theorem dX5_slabs_3 : decode cX5_slabs 3 = .ok (.istore_n 2, 1) := by decide +kernel
theorem dX5_slabs_4 : decode cX5_slabs 4 = .ok (.iload_n 2, 1) := by decide +kernel
theorem dX5_slabs_5 : decode cX5_slabs 5 = .ok (.bipush 96, 2) := by decide +kernel
theorem dX5_slabs_7 : decode cX5_slabs 7 = .ok (.if_icmp .ge 18, 3) := by decide +kernel
theorem dX5_slabs_10 : decode cX5_slabs 10 = .ok (.iload_n 1, 1) := by decide +kernel
theorem dX5_slabs_11 : decode cX5_slabs 11 = .ok (.aload_n 0, 1) := by decide +kernel
theorem dX5_slabs_12 : decode cX5_slabs 12 = .ok (.getfield 9, 3) := by decide +kernel
theorem dX5_slabs_15 : decode cX5_slabs 15 = .ok (.iload_n 2, 1) := by decide +kernel
theorem dX5_slabs_16 : decode cX5_slabs 16 = .ok (.iaload, 1) := by decide +kernel
theorem dX5_slabs_17 : decode cX5_slabs 17 = .ok (.iadd, 1) := by decide +kernel
theorem dX5_slabs_18 : decode cX5_slabs 18 = .ok (.istore_n 1, 1) := by decide +kernel
theorem dX5_slabs_19 : decode cX5_slabs 19 = .ok (.iinc 2 1, 3) := by decide +kernel
theorem dX5_slabs_22 : decode cX5_slabs 22 = .ok (.goto (-18), 3) := by decide +kernel
theorem dX5_slabs_25 : decode cX5_slabs 25 = .ok (.iload_n 1, 1) := by decide +kernel
theorem dX5_slabs_26 : decode cX5_slabs 26 = .ok (.ireturn, 1) := by decide +kernel
set_option maxRecDepth 100000 in
theorem SX5_slabs_0 {g : zG} {o : Bool} {s : Nat} (hs : zSd s) {M : zM} {q : Int → zM → Prop} (W : zT g (z1 o) mX5_slabs (zQi (z1 o) q) 4 [(0, zA g s), (1, zI 0), (2, zI 0)] [] M) : zT g (z1 o) mX5_slabs (zQi (z1 o) q) 0 [(0, zA g s)] [] M := by
  refine zr_iconst dX5_slabs_0 ?_
  refine zr_istore_n (l' := [(0, zA g s), (1, zI 0)]) dX5_slabs_1 (by decide) [1, 0] rfl ?_
  refine zr_iconst dX5_slabs_2 ?_
  refine zr_istore_n (l' := [(0, zA g s), (1, zI 0), (2, zI 0)]) dX5_slabs_3 (by decide) [1, 2, 0] rfl ?_
  exact W
set_option maxRecDepth 100000 in
theorem SX5_slabs_4 {g : zG} {o : Bool} {s : Nat} (hs : zSd s) {M : zM} {q : Int → zM → Prop} {x1 x2 : Int} (W : (-2147483648 ≤ x2 ∧ x2 ≤ 2147483647) ∧ ((96 ≤ x2) → q x1 M) ∧ ((¬ (96 ≤ x2)) → (0 ≤ x2 ∧ x2 < 96) ∧ zT g (z1 o) mX5_slabs (zQi (z1 o) q) 4 [(0, zA g s), (1, zI (x1 + (M (s + 1) x2))), (2, zI (x2 + 1))] [] M)) : zT g (z1 o) mX5_slabs (zQi (z1 o) q) 4 [(0, zA g s), (1, zI x1), (2, zI x2)] [] M := by
  refine zr_iload_n 2 dX5_slabs_4 rfl ?_
  refine zr_bipush dX5_slabs_5 (by decide) ?_
  obtain ⟨c1, W⟩ := W
  refine zr_icmp_ge (tgt := 25) dX5_slabs_7 (by decide) c1 ⟨by decide, by decide⟩ (fun h => ?_) (fun h => ?_)
  · have W := W.1 h
    refine zr_iload_n 1 dX5_slabs_25 rfl ?_
    exact zt_iret dX5_slabs_26 rfl W
  · have W := W.2 h
    refine zr_iload_n 1 dX5_slabs_10 rfl ?_
    refine zr_aload_n 0 dX5_slabs_11 rfl ?_
    refine zr_getr (b := (s + 1)) dX5_slabs_12 fX5_9 (zsd_0 hs) rfl (zsd_f0 hs) (Nat.succ_ne_zero _) ?_
    refine zr_iload_n 2 dX5_slabs_15 rfl ?_
    obtain ⟨c2, W⟩ := W
    refine zr_iald dX5_slabs_16 (zsd_1 hs) (by decide) c2 ?_
    refine zr_iadd dX5_slabs_17 ?_
    refine zr_istore_n (l' := [(0, zA g s), (1, zI (x1 + (M (s + 1) x2))), (2, zI x2)]) dX5_slabs_18 (by decide) [1, 0, 2] rfl ?_
    refine zr_iinc (q := 2) (l' := [(0, zA g s), (1, zI (x1 + (M (s + 1) x2))), (2, zI (x2 + 1))]) dX5_slabs_19 rfl (by decide) [1, 2, 0] rfl ?_
    refine zr_goto (tgt := 4) dX5_slabs_22 (by decide) ?_
    exact W
theorem dX5_highest_0 : decode cX5_highest 0 = .ok (.iconst 0, 1) := by decide +kernel
theorem dX5_highest_1 : decode cX5_highest 1 = .ok (.istore_n 1, 1) := by decide +kernel
theorem dX5_highest_2 : decode cX5_highest 2 = .ok (.iconst 0, 1) := by decide +kernel
theorem dX5_highest_3 : decode cX5_highest 3 = .ok (.istore_n 2, 1) := by decide +kernel
theorem dX5_highest_4 : decode cX5_highest 4 = .ok (.iload_n 2, 1) := by decide +kernel
theorem dX5_highest_5 : decode cX5_highest 5 = .ok (.bipush 96, 2) := by decide +kernel
theorem dX5_highest_7 : decode cX5_highest 7 = .ok (.if_icmp .ge 20, 3) := by decide +kernel
theorem dX5_highest_10 : decode cX5_highest 10 = .ok (.iload_n 1, 1) := by decide +kernel
theorem dX5_highest_11 : decode cX5_highest 11 = .ok (.aload_n 0, 1) := by decide +kernel
theorem dX5_highest_12 : decode cX5_highest 12 = .ok (.getfield 9, 3) := by decide +kernel
theorem dX5_highest_15 : decode cX5_highest 15 = .ok (.iload_n 2, 1) := by decide +kernel
theorem dX5_highest_16 : decode cX5_highest 16 = .ok (.iaload, 1) := by decide +kernel
theorem dX5_highest_17 : decode cX5_highest 17 = .ok (.invokestatic 51, 3) := by decide +kernel
theorem dX5_highest_20 : decode cX5_highest 20 = .ok (.istore_n 1, 1) := by decide +kernel
theorem dX5_highest_21 : decode cX5_highest 21 = .ok (.iinc 2 1, 3) := by decide +kernel
theorem dX5_highest_24 : decode cX5_highest 24 = .ok (.goto (-20), 3) := by decide +kernel
theorem dX5_highest_27 : decode cX5_highest 27 = .ok (.iload_n 1, 1) := by decide +kernel
theorem dX5_highest_28 : decode cX5_highest 28 = .ok (.ireturn, 1) := by decide +kernel
set_option maxRecDepth 100000 in
theorem SX5_highest_0 {g : zG} {o : Bool} {s : Nat} (hs : zSd s) {M : zM} {q : Int → zM → Prop} (W : zT g (z1 o) mX5_highest (zQi (z1 o) q) 4 [(0, zA g s), (1, zI 0), (2, zI 0)] [] M) : zT g (z1 o) mX5_highest (zQi (z1 o) q) 0 [(0, zA g s)] [] M := by
  refine zr_iconst dX5_highest_0 ?_
  refine zr_istore_n (l' := [(0, zA g s), (1, zI 0)]) dX5_highest_1 (by decide) [1, 0] rfl ?_
  refine zr_iconst dX5_highest_2 ?_
  refine zr_istore_n (l' := [(0, zA g s), (1, zI 0), (2, zI 0)]) dX5_highest_3 (by decide) [1, 2, 0] rfl ?_
  exact W
set_option maxRecDepth 100000 in
theorem SX5_highest_4 {g : zG} {o : Bool} {s : Nat} (hs : zSd s) {M : zM} {q : Int → zM → Prop} {x1 x2 : Int} (W : (-2147483648 ≤ x2 ∧ x2 ≤ 2147483647) ∧ ((96 ≤ x2) → q x1 M) ∧ ((¬ (96 ≤ x2)) → (0 ≤ x2 ∧ x2 < 96) ∧ (-2147483648 ≤ x1 ∧ x1 ≤ 2147483647) ∧ (-2147483648 ≤ (M (s + 1) x2) ∧ (M (s + 1) x2) ≤ 2147483647) ∧ zT g (z1 o) mX5_highest (zQi (z1 o) q) 4 [(0, zA g s), (1, zI (max x1 (M (s + 1) x2))), (2, zI (x2 + 1))] [] M)) : zT g (z1 o) mX5_highest (zQi (z1 o) q) 4 [(0, zA g s), (1, zI x1), (2, zI x2)] [] M := by
  refine zr_iload_n 2 dX5_highest_4 rfl ?_
  refine zr_bipush dX5_highest_5 (by decide) ?_
  obtain ⟨c1, W⟩ := W
  refine zr_icmp_ge (tgt := 27) dX5_highest_7 (by decide) c1 ⟨by decide, by decide⟩ (fun h => ?_) (fun h => ?_)
  · have W := W.1 h
    refine zr_iload_n 1 dX5_highest_27 rfl ?_
    exact zt_iret dX5_highest_28 rfl W
  · have W := W.2 h
    refine zr_iload_n 1 dX5_highest_10 rfl ?_
    refine zr_aload_n 0 dX5_highest_11 rfl ?_
    refine zr_getr (b := (s + 1)) dX5_highest_12 fX5_9 (zsd_0 hs) rfl (zsd_f0 hs) (Nat.succ_ne_zero _) ?_
    refine zr_iload_n 2 dX5_highest_15 rfl ?_
    obtain ⟨c2, W⟩ := W
    refine zr_iald dX5_highest_16 (zsd_1 hs) (by decide) c2 ?_
    obtain ⟨c3, W⟩ := W
    obtain ⟨c4, W⟩ := W
    refine zr_max dX5_highest_17 kX5_highest_51 c3 c4 (Nat.le_of_ble_eq_true rfl) ⟨Nat.le_refl _, Nat.le_refl _⟩ ?_
    refine zr_istore_n (l' := [(0, zA g s), (1, zI (max x1 (M (s + 1) x2))), (2, zI x2)]) dX5_highest_20 (by decide) [1, 0, 2] rfl ?_
    refine zr_iinc (q := 2) (l' := [(0, zA g s), (1, zI (max x1 (M (s + 1) x2))), (2, zI (x2 + 1))]) dX5_highest_21 rfl (by decide) [1, 2, 0] rfl ?_
    refine zr_goto (tgt := 4) dX5_highest_24 (by decide) ?_
    exact W
theorem dX5_bareCells_0 : decode cX5_bareCells 0 = .ok (.iconst 0, 1) := by decide +kernel
theorem dX5_bareCells_1 : decode cX5_bareCells 1 = .ok (.istore_n 2, 1) := by decide +kernel
theorem dX5_bareCells_2 : decode cX5_bareCells 2 = .ok (.iconst 0, 1) := by decide +kernel
theorem dX5_bareCells_3 : decode cX5_bareCells 3 = .ok (.istore_n 3, 1) := by decide +kernel
theorem dX5_bareCells_4 : decode cX5_bareCells 4 = .ok (.iload_n 3, 1) := by decide +kernel
theorem dX5_bareCells_5 : decode cX5_bareCells 5 = .ok (.iload_n 1, 1) := by decide +kernel
theorem dX5_bareCells_6 : decode cX5_bareCells 6 = .ok (.if_icmp .ge 21, 3) := by decide +kernel
theorem dX5_bareCells_9 : decode cX5_bareCells 9 = .ok (.aload_n 0, 1) := by decide +kernel
theorem dX5_bareCells_10 : decode cX5_bareCells 10 = .ok (.getfield 9, 3) := by decide +kernel
theorem dX5_bareCells_13 : decode cX5_bareCells 13 = .ok (.iload_n 3, 1) := by decide +kernel
theorem dX5_bareCells_14 : decode cX5_bareCells 14 = .ok (.iaload, 1) := by decide +kernel
theorem dX5_bareCells_15 : decode cX5_bareCells 15 = .ok (.ifCond .ne 6, 3) := by decide +kernel
theorem dX5_bareCells_18 : decode cX5_bareCells 18 = .ok (.iinc 2 1, 3) := by decide +kernel
theorem dX5_bareCells_21 : decode cX5_bareCells 21 = .ok (.iinc 3 1, 3) := by decide +kernel
theorem dX5_bareCells_24 : decode cX5_bareCells 24 = .ok (.goto (-20), 3) := by decide +kernel
theorem dX5_bareCells_27 : decode cX5_bareCells 27 = .ok (.iload_n 2, 1) := by decide +kernel
theorem dX5_bareCells_28 : decode cX5_bareCells 28 = .ok (.ireturn, 1) := by decide +kernel
set_option maxRecDepth 100000 in
theorem SX5_bareCells_0 {g : zG} {o : Bool} {s : Nat} (hs : zSd s) {M : zM} {q : Int → zM → Prop} {x1 : Int} (W : zT g (z1 o) mX5_bareCells (zQi (z1 o) q) 4 [(0, zA g s), (1, zI x1), (2, zI 0), (3, zI 0)] [] M) : zT g (z1 o) mX5_bareCells (zQi (z1 o) q) 0 [(0, zA g s), (1, zI x1)] [] M := by
  refine zr_iconst dX5_bareCells_0 ?_
  refine zr_istore_n (l' := [(0, zA g s), (1, zI x1), (2, zI 0)]) dX5_bareCells_1 (by decide) [1, 2, 0] rfl ?_
  refine zr_iconst dX5_bareCells_2 ?_
  refine zr_istore_n (l' := [(0, zA g s), (1, zI x1), (2, zI 0), (3, zI 0)]) dX5_bareCells_3 (by decide) [1, 2, 3, 0] rfl ?_
  exact W
set_option maxRecDepth 100000 in
theorem SX5_bareCells_4 {g : zG} {o : Bool} {s : Nat} (hs : zSd s) {M : zM} {q : Int → zM → Prop} {x1 x2 x3 : Int} (W : (-2147483648 ≤ x3 ∧ x3 ≤ 2147483647) ∧ (-2147483648 ≤ x1 ∧ x1 ≤ 2147483647) ∧ ((x1 ≤ x3) → q x2 M) ∧ ((¬ (x1 ≤ x3)) → (0 ≤ x3 ∧ x3 < 96) ∧ (-2147483648 ≤ (M (s + 1) x3) ∧ (M (s + 1) x3) ≤ 2147483647) ∧ (((M (s + 1) x3) ≠ 0) → zT g (z1 o) mX5_bareCells (zQi (z1 o) q) 4 [(0, zA g s), (1, zI x1), (2, zI x2), (3, zI (x3 + 1))] [] M) ∧ (((M (s + 1) x3) = 0) → zT g (z1 o) mX5_bareCells (zQi (z1 o) q) 4 [(0, zA g s), (1, zI x1), (2, zI (x2 + 1)), (3, zI (x3 + 1))] [] M))) : zT g (z1 o) mX5_bareCells (zQi (z1 o) q) 4 [(0, zA g s), (1, zI x1), (2, zI x2), (3, zI x3)] [] M := by
  refine zr_iload_n 3 dX5_bareCells_4 rfl ?_
  refine zr_iload_n 1 dX5_bareCells_5 rfl ?_
  obtain ⟨c1, W⟩ := W
  obtain ⟨c2, W⟩ := W
  refine zr_icmp_ge (tgt := 27) dX5_bareCells_6 (by decide) c1 c2 (fun h => ?_) (fun h => ?_)
  · have W := W.1 h
    refine zr_iload_n 2 dX5_bareCells_27 rfl ?_
    exact zt_iret dX5_bareCells_28 rfl W
  · have W := W.2 h
    refine zr_aload_n 0 dX5_bareCells_9 rfl ?_
    refine zr_getr (b := (s + 1)) dX5_bareCells_10 fX5_9 (zsd_0 hs) rfl (zsd_f0 hs) (Nat.succ_ne_zero _) ?_
    refine zr_iload_n 3 dX5_bareCells_13 rfl ?_
    obtain ⟨c3, W⟩ := W
    refine zr_iald dX5_bareCells_14 (zsd_1 hs) (by decide) c3 ?_
    obtain ⟨c4, W⟩ := W
    refine zr_if_ne (tgt := 21) dX5_bareCells_15 (by decide) c4 (fun h => ?_) (fun h => ?_)
    · have W := W.1 h
      refine zr_iinc (q := 3) (l' := [(0, zA g s), (1, zI x1), (2, zI x2), (3, zI (x3 + 1))]) dX5_bareCells_21 rfl (by decide) [1, 2, 3, 0] rfl ?_
      refine zr_goto (tgt := 4) dX5_bareCells_24 (by decide) ?_
      exact W
    · have W := W.2 h
      refine zr_iinc (q := 2) (l' := [(0, zA g s), (1, zI x1), (2, zI (x2 + 1)), (3, zI x3)]) dX5_bareCells_18 rfl (by decide) [1, 2, 0, 3] rfl ?_
      refine zr_iinc (q := 3) (l' := [(0, zA g s), (1, zI x1), (2, zI (x2 + 1)), (3, zI (x3 + 1))]) dX5_bareCells_21 rfl (by decide) [1, 2, 3, 0] rfl ?_
      refine zr_goto (tgt := 4) dX5_bareCells_24 (by decide) ?_
      exact W
theorem dX5_stickAt_0 : decode cX5_stickAt 0 = .ok (.aload_n 0, 1) := by decide +kernel
theorem dX5_stickAt_1 : decode cX5_stickAt 1 = .ok (.getfield 18, 3) := by decide +kernel
theorem dX5_stickAt_4 : decode cX5_stickAt 4 = .ok (.aload_n 0, 1) := by decide +kernel
theorem dX5_stickAt_5 : decode cX5_stickAt 5 = .ok (.getfield 9, 3) := by decide +kernel
theorem dX5_stickAt_8 : decode cX5_stickAt 8 = .ok (.iload_n 1, 1) := by decide +kernel
theorem dX5_stickAt_9 : decode cX5_stickAt 9 = .ok (.iaload, 1) := by decide +kernel
theorem dX5_stickAt_10 : decode cX5_stickAt 10 = .ok (.ifCond .le 7, 3) := by decide +kernel
theorem dX5_stickAt_13 : decode cX5_stickAt 13 = .ok (.iconst 2, 1) := by decide +kernel
theorem dX5_stickAt_14 : decode cX5_stickAt 14 = .ok (.goto 4, 3) := by decide +kernel
theorem dX5_stickAt_17 : decode cX5_stickAt 17 = .ok (.iconst 3, 1) := by decide +kernel
theorem dX5_stickAt_18 : decode cX5_stickAt 18 = .ok (.iaload, 1) := by decide +kernel
theorem dX5_stickAt_19 : decode cX5_stickAt 19 = .ok (.ireturn, 1) := by decide +kernel
set_option maxRecDepth 100000 in
theorem SX5_stickAt_0 {g : zG} {o : Bool} {s : Nat} (hs : zSd s) {M : zM} {q : Int → zM → Prop} {x1 : Int} (W : (0 ≤ x1 ∧ x1 < 96) ∧ (-2147483648 ≤ (M (s + 1) x1) ∧ (M (s + 1) x1) ≤ 2147483647) ∧ (((M (s + 1) x1) ≤ 0) → q (M (s + 3) 3) M) ∧ ((¬ ((M (s + 1) x1) ≤ 0)) → q (M (s + 3) 2) M)) : zT g (z1 o) mX5_stickAt (zQi (z1 o) q) 0 [(0, zA g s), (1, zI x1)] [] M := by
  refine zr_aload_n 0 dX5_stickAt_0 rfl ?_
  refine zr_getr (b := (s + 3)) dX5_stickAt_1 fX5_18 (zsd_0 hs) rfl (zsd_f2 hs) (Nat.succ_ne_zero _) ?_
  refine zr_aload_n 0 dX5_stickAt_4 rfl ?_
  refine zr_getr (b := (s + 1)) dX5_stickAt_5 fX5_9 (zsd_0 hs) rfl (zsd_f0 hs) (Nat.succ_ne_zero _) ?_
  refine zr_iload_n 1 dX5_stickAt_8 rfl ?_
  obtain ⟨c1, W⟩ := W
  refine zr_iald dX5_stickAt_9 (zsd_1 hs) (by decide) c1 ?_
  obtain ⟨c2, W⟩ := W
  refine zr_if_le (tgt := 17) dX5_stickAt_10 (by decide) c2 (fun h => ?_) (fun h => ?_)
  · have W := W.1 h
    refine zr_iconst dX5_stickAt_17 ?_
    refine zr_iald dX5_stickAt_18 (zsd_3 hs) (by decide) ⟨by decide, by decide⟩ ?_
    exact zt_iret dX5_stickAt_19 rfl W
  · have W := W.2 h
    refine zr_iconst dX5_stickAt_13 ?_
    refine zr_goto (tgt := 18) dX5_stickAt_14 (by decide) ?_
    refine zr_iald dX5_stickAt_18 (zsd_3 hs) (by decide) ⟨by decide, by decide⟩ ?_
    exact zt_iret dX5_stickAt_19 rfl W
theorem dX5_drawOf_0 : decode cX5_drawOf 0 = .ok (.aload_n 0, 1) := by decide +kernel
theorem dX5_drawOf_1 : decode cX5_drawOf 1 = .ok (.aload_n 0, 1) := by decide +kernel
theorem dX5_drawOf_2 : decode cX5_drawOf 2 = .ok (.getfield 47, 3) := by decide +kernel
theorem dX5_drawOf_5 : decode cX5_drawOf 5 = .ok (.sipush 137, 3) := by decide +kernel
theorem dX5_drawOf_8 : decode cX5_drawOf 8 = .ok (.imul, 1) := by decide +kernel
theorem dX5_drawOf_9 : decode cX5_drawOf 9 = .ok (.bipush 71, 2) := by decide +kernel
theorem dX5_drawOf_11 : decode cX5_drawOf 11 = .ok (.iadd, 1) := by decide +kernel
theorem dX5_drawOf_12 : decode cX5_drawOf 12 = .ok (.sipush 10007, 3) := by decide +kernel
theorem dX5_drawOf_15 : decode cX5_drawOf 15 = .ok (.irem, 1) := by decide +kernel
theorem dX5_drawOf_16 : decode cX5_drawOf 16 = .ok (.putfield 47, 3) := by decide +kernel
theorem dX5_drawOf_19 : decode cX5_drawOf 19 = .ok (.iload_n 1, 1) := by decide +kernel
theorem dX5_drawOf_20 : decode cX5_drawOf 20 = .ok (.ifCond .le 12, 3) := by decide +kernel
theorem dX5_drawOf_23 : decode cX5_drawOf 23 = .ok (.aload_n 0, 1) := by decide +kernel
theorem dX5_drawOf_24 : decode cX5_drawOf 24 = .ok (.getfield 47, 3) := by decide +kernel
theorem dX5_drawOf_27 : decode cX5_drawOf 27 = .ok (.iload_n 1, 1) := by decide +kernel
theorem dX5_drawOf_28 : decode cX5_drawOf 28 = .ok (.irem, 1) := by decide +kernel
theorem dX5_drawOf_29 : decode cX5_drawOf 29 = .ok (.goto 4, 3) := by decide +kernel
theorem dX5_drawOf_32 : decode cX5_drawOf 32 = .ok (.iconst 0, 1) := by decide +kernel
theorem dX5_drawOf_33 : decode cX5_drawOf 33 = .ok (.ireturn, 1) := by decide +kernel
set_option maxRecDepth 100000 in
theorem SX5_drawOf_0 {g : zG} {o : Bool} {s : Nat} (hs : zSd s) {M : zM} {q : Int → zM → Prop} {x1 : Int} (W : (0 ≤ (((M s 3) * 137) + 71) ∧ (((M s 3) * 137) + 71) ≤ 2147483647) ∧ (-2147483648 ≤ x1 ∧ x1 ≤ 2147483647) ∧ ((x1 ≤ 0) → q 0 (zu M s 3 ((((M s 3) * 137) + 71) % 10007))) ∧ ((¬ (x1 ≤ 0)) → (0 ≤ ((zu M s 3 ((((M s 3) * 137) + 71) % 10007)) s 3) ∧ ((zu M s 3 ((((M s 3) * 137) + 71) % 10007)) s 3) ≤ 2147483647) ∧ (0 < x1 ∧ x1 ≤ 2147483647) ∧ q (((zu M s 3 ((((M s 3) * 137) + 71) % 10007)) s 3) % x1) (zu M s 3 ((((M s 3) * 137) + 71) % 10007)))) : zT g (z1 o) mX5_drawOf (zQi (z1 o) q) 0 [(0, zA g s), (1, zI x1)] [] M := by
  refine zr_aload_n 0 dX5_drawOf_0 rfl ?_
  refine zr_aload_n 0 dX5_drawOf_1 rfl ?_
  refine zt_geti 3 rfl dX5_drawOf_2 fX5_47 (zsd_0 hs) (by decide) ?_
  refine zr_sipush dX5_drawOf_5 (by decide) ?_
  refine zr_imul dX5_drawOf_8 ?_
  refine zr_bipush dX5_drawOf_9 (by decide) ?_
  refine zr_iadd dX5_drawOf_11 ?_
  refine zr_sipush dX5_drawOf_12 (by decide) ?_
  obtain ⟨c1, W⟩ := W
  refine zr_irem dX5_drawOf_15 c1 ⟨by decide, by decide⟩ ?_
  refine zt_puti 3 rfl dX5_drawOf_16 fX5_47 lcX5 ltX5_3 rfl (zsd_0 hs) ?_
  refine zr_iload_n 1 dX5_drawOf_19 rfl ?_
  obtain ⟨c2, W⟩ := W
  refine zr_if_le (tgt := 32) dX5_drawOf_20 (by decide) c2 (fun h => ?_) (fun h => ?_)
  · have W := W.1 h
    refine zr_iconst dX5_drawOf_32 ?_
    exact zt_iret dX5_drawOf_33 rfl W
  · have W := W.2 h
    refine zr_aload_n 0 dX5_drawOf_23 rfl ?_
    refine zt_geti 3 rfl dX5_drawOf_24 fX5_47 (zsd_0 hs) (by decide) ?_
    refine zr_iload_n 1 dX5_drawOf_27 rfl ?_
    obtain ⟨c3, W⟩ := W
    obtain ⟨c4, W⟩ := W
    refine zr_irem dX5_drawOf_28 c3 c4 ?_
    refine zr_goto (tgt := 33) dX5_drawOf_29 (by decide) ?_
    exact zt_iret dX5_drawOf_33 rfl W
theorem dX5_copy_0 : decode cX5_copy 0 = .ok (.aload_n 1, 1) := by decide +kernel
theorem dX5_copy_1 : decode cX5_copy 1 = .ok (.getfield 9, 3) := by decide +kernel
theorem dX5_copy_4 : decode cX5_copy 4 = .ok (.iconst 0, 1) := by decide +kernel
theorem dX5_copy_5 : decode cX5_copy 5 = .ok (.aload_n 0, 1) := by decide +kernel
theorem dX5_copy_6 : decode cX5_copy 6 = .ok (.getfield 9, 3) := by decide +kernel
theorem dX5_copy_9 : decode cX5_copy 9 = .ok (.iconst 0, 1) := by decide +kernel
theorem dX5_copy_10 : decode cX5_copy 10 = .ok (.bipush 96, 2) := by decide +kernel
theorem dX5_copy_12 : decode cX5_copy 12 = .ok (.invokestatic 37, 3) := by decide +kernel
theorem dX5_copy_15 : decode cX5_copy 15 = .ok (.aload_n 1, 1) := by decide +kernel
theorem dX5_copy_16 : decode cX5_copy 16 = .ok (.getfield 15, 3) := by decide +kernel
theorem dX5_copy_19 : decode cX5_copy 19 = .ok (.iconst 0, 1) := by decide +kernel
theorem dX5_copy_20 : decode cX5_copy 20 = .ok (.aload_n 0, 1) := by decide +kernel
theorem dX5_copy_21 : decode cX5_copy 21 = .ok (.getfield 15, 3) := by decide +kernel
theorem dX5_copy_24 : decode cX5_copy 24 = .ok (.iconst 0, 1) := by decide +kernel
theorem dX5_copy_25 : decode cX5_copy 25 = .ok (.bipush 96, 2) := by decide +kernel
theorem dX5_copy_27 : decode cX5_copy 27 = .ok (.invokestatic 37, 3) := by decide +kernel
theorem dX5_copy_30 : decode cX5_copy 30 = .ok (.aload_n 1, 1) := by decide +kernel
theorem dX5_copy_31 : decode cX5_copy 31 = .ok (.getfield 18, 3) := by decide +kernel
theorem dX5_copy_34 : decode cX5_copy 34 = .ok (.iconst 0, 1) := by decide +kernel
theorem dX5_copy_35 : decode cX5_copy 35 = .ok (.aload_n 0, 1) := by decide +kernel
theorem dX5_copy_36 : decode cX5_copy 36 = .ok (.getfield 18, 3) := by decide +kernel
theorem dX5_copy_39 : decode cX5_copy 39 = .ok (.iconst 0, 1) := by decide +kernel
theorem dX5_copy_40 : decode cX5_copy 40 = .ok (.iconst 4, 1) := by decide +kernel
theorem dX5_copy_41 : decode cX5_copy 41 = .ok (.invokestatic 37, 3) := by decide +kernel
theorem dX5_copy_44 : decode cX5_copy 44 = .ok (.aload_n 0, 1) := by decide +kernel
theorem dX5_copy_45 : decode cX5_copy 45 = .ok (.aload_n 1, 1) := by decide +kernel
theorem dX5_copy_46 : decode cX5_copy 46 = .ok (.getfield 47, 3) := by decide +kernel
theorem dX5_copy_49 : decode cX5_copy 49 = .ok (.putfield 47, 3) := by decide +kernel
theorem dX5_copy_52 : decode cX5_copy 52 = .ok (.aload_n 0, 1) := by decide +kernel
theorem dX5_copy_53 : decode cX5_copy 53 = .ok (.aload_n 1, 1) := by decide +kernel
theorem dX5_copy_54 : decode cX5_copy 54 = .ok (.getfield 48, 3) := by decide +kernel
theorem dX5_copy_57 : decode cX5_copy 57 = .ok (.putfield 48, 3) := by decide +kernel
theorem dX5_copy_60 : decode cX5_copy 60 = .ok (.return_, 1) := by decide +kernel
set_option maxRecDepth 100000 in
theorem SX5_copy_0 {g : zG} {o : Bool} {s : Nat} (hs : zSd s) {t : Nat} (ht : zSd t) {M : zM} {q : zM → Prop} (W : ∀ N1 : zM, N1 = zrw M (s + 1) (zcpy (M (t + 1)) (M (s + 1)) 0 0 96) → ∀ N3 : zM, N3 = zrw N1 (s + 2) (zcpy (N1 (t + 2)) (N1 (s + 2)) 0 0 96) → ∀ N5 : zM, N5 = zrw N3 (s + 3) (zcpy (N3 (t + 3)) (N3 (s + 3)) 0 0 4) → ∀ N7 : zM, N7 = zu N5 s 3 (N5 t 3) → q (zu N7 s 4 (N7 t 4))) : zT g (z1 o) mX5_copy (zQv (z1 o) q) 0 [(0, zA g s), (1, zA g t)] [] M := by
  refine zr_aload_n 1 dX5_copy_0 rfl ?_
  refine zr_getr (b := (t + 1)) dX5_copy_1 fX5_9 (zsd_0 ht) rfl (zsd_f0 ht) (Nat.succ_ne_zero _) ?_
  refine zr_iconst dX5_copy_4 ?_
  refine zr_aload_n 0 dX5_copy_5 rfl ?_
  refine zr_getr (b := (s + 1)) dX5_copy_6 fX5_9 (zsd_0 hs) rfl (zsd_f0 hs) (Nat.succ_ne_zero _) ?_
  refine zr_iconst dX5_copy_9 ?_
  refine zr_bipush dX5_copy_10 (by decide) ?_
  refine zr_copy dX5_copy_12 kX5_copy_37 (zsd_1 ht) (zsd_1 hs) (by decide) (by decide) (by decide) (by decide) (by decide) ⟨by decide, by decide⟩ (Nat.le_of_ble_eq_true rfl) ?_
  refine zr_aload_n 1 dX5_copy_15 rfl ?_
  refine zr_getr (b := (t + 2)) dX5_copy_16 fX5_15 (zsd_0 ht) rfl (zsd_f1 ht) (Nat.succ_ne_zero _) ?_
  refine zr_iconst dX5_copy_19 ?_
  refine zr_aload_n 0 dX5_copy_20 rfl ?_
  refine zr_getr (b := (s + 2)) dX5_copy_21 fX5_15 (zsd_0 hs) rfl (zsd_f1 hs) (Nat.succ_ne_zero _) ?_
  refine zr_iconst dX5_copy_24 ?_
  refine zr_bipush dX5_copy_25 (by decide) ?_
  obtain ⟨N1, e2⟩ : ∃ N : zM, N = zrw M (s + 1) (zcpy (M (t + 1)) (M (s + 1)) 0 0 96) := ⟨_, rfl⟩
  rw [← e2]
  have W := W N1 e2
  refine zr_copy dX5_copy_27 kX5_copy_37 (zsd_2 ht) (zsd_2 hs) (by decide) (by decide) (by decide) (by decide) (by decide) ⟨by decide, by decide⟩ (Nat.le_of_ble_eq_true rfl) ?_
  refine zr_aload_n 1 dX5_copy_30 rfl ?_
  refine zr_getr (b := (t + 3)) dX5_copy_31 fX5_18 (zsd_0 ht) rfl (zsd_f2 ht) (Nat.succ_ne_zero _) ?_
  refine zr_iconst dX5_copy_34 ?_
  refine zr_aload_n 0 dX5_copy_35 rfl ?_
  refine zr_getr (b := (s + 3)) dX5_copy_36 fX5_18 (zsd_0 hs) rfl (zsd_f2 hs) (Nat.succ_ne_zero _) ?_
  refine zr_iconst dX5_copy_39 ?_
  refine zr_iconst dX5_copy_40 ?_
  obtain ⟨N3, e4⟩ : ∃ N : zM, N = zrw N1 (s + 2) (zcpy (N1 (t + 2)) (N1 (s + 2)) 0 0 96) := ⟨_, rfl⟩
  rw [← e4]
  have W := W N3 e4
  refine zr_copy dX5_copy_41 kX5_copy_37 (zsd_3 ht) (zsd_3 hs) (by decide) (by decide) (by decide) (by decide) (by decide) ⟨by decide, by decide⟩ (Nat.le_of_ble_eq_true rfl) ?_
  refine zr_aload_n 0 dX5_copy_44 rfl ?_
  refine zr_aload_n 1 dX5_copy_45 rfl ?_
  refine zt_geti 3 rfl dX5_copy_46 fX5_47 (zsd_0 ht) (by decide) ?_
  obtain ⟨N5, e6⟩ : ∃ N : zM, N = zrw N3 (s + 3) (zcpy (N3 (t + 3)) (N3 (s + 3)) 0 0 4) := ⟨_, rfl⟩
  rw [← e6]
  have W := W N5 e6
  refine zt_puti 3 rfl dX5_copy_49 fX5_47 lcX5 ltX5_3 rfl (zsd_0 hs) ?_
  refine zr_aload_n 0 dX5_copy_52 rfl ?_
  refine zr_aload_n 1 dX5_copy_53 rfl ?_
  refine zt_geti 4 rfl dX5_copy_54 fX5_48 (zsd_0 ht) (by decide) ?_
  obtain ⟨N7, e8⟩ : ∃ N : zM, N = zu N5 s 3 (N5 t 3) := ⟨_, rfl⟩
  rw [← e8]
  have W := W N7 e8
  refine zt_puti 4 rfl dX5_copy_57 fX5_48 lcX5 ltX5_4 rfl (zsd_0 hs) ?_
  exact zt_ret dX5_copy_60 rfl W
theorem dX5_begin_0 : decode cX5_begin 0 = .ok (.aload_n 1, 1) := by decide +kernel
theorem dX5_begin_1 : decode cX5_begin 1 = .ok (.getfield 21, 3) := by decide +kernel
theorem dX5_begin_4 : decode cX5_begin 4 = .ok (.aload_n 1, 1) := by decide +kernel
theorem dX5_begin_5 : decode cX5_begin 5 = .ok (.getfield 27, 3) := by decide +kernel
theorem dX5_begin_8 : decode cX5_begin 8 = .ok (.imul, 1) := by decide +kernel
theorem dX5_begin_9 : decode cX5_begin 9 = .ok (.istore_n 2, 1) := by decide +kernel
theorem dX5_begin_10 : decode cX5_begin 10 = .ok (.iconst 0, 1) := by decide +kernel
theorem dX5_begin_11 : decode cX5_begin 11 = .ok (.istore_n 3, 1) := by decide +kernel
theorem dX5_begin_12 : decode cX5_begin 12 = .ok (.iload_n 3, 1) := by decide +kernel
theorem dX5_begin_13 : decode cX5_begin 13 = .ok (.bipush 96, 2) := by decide +kernel
theorem dX5_begin_15 : decode cX5_begin 15 = .ok (.if_icmp .ge 35, 3) := by decide +kernel
theorem dX5_begin_18 : decode cX5_begin 18 = .ok (.aload_n 0, 1) := by decide +kernel
theorem dX5_begin_19 : decode cX5_begin 19 = .ok (.getfield 9, 3) := by decide +kernel
theorem dX5_begin_22 : decode cX5_begin 22 = .ok (.iload_n 3, 1) := by decide +kernel
theorem dX5_begin_23 : decode cX5_begin 23 = .ok (.iload_n 3, 1) := by decide +kernel
theorem dX5_begin_24 : decode cX5_begin 24 = .ok (.iload_n 2, 1) := by decide +kernel
theorem dX5_begin_25 : decode cX5_begin 25 = .ok (.if_icmp .ge 17, 3) := by decide +kernel
theorem dX5_begin_28 : decode cX5_begin 28 = .ok (.aload_n 1, 1) := by decide +kernel
theorem dX5_begin_29 : decode cX5_begin 29 = .ok (.getfield 30, 3) := by decide +kernel
theorem dX5_begin_32 : decode cX5_begin 32 = .ok (.aload_n 1, 1) := by decide +kernel
theorem dX5_begin_33 : decode cX5_begin 33 = .ok (.getfield 33, 3) := by decide +kernel
theorem dX5_begin_36 : decode cX5_begin 36 = .ok (.iload_n 3, 1) := by decide +kernel
theorem dX5_begin_37 : decode cX5_begin 37 = .ok (.iaload, 1) := by decide +kernel
theorem dX5_begin_38 : decode cX5_begin 38 = .ok (.iadd, 1) := by decide +kernel
theorem dX5_begin_39 : decode cX5_begin 39 = .ok (.goto 4, 3) := by decide +kernel
theorem dX5_begin_42 : decode cX5_begin 42 = .ok (.iconst 0, 1) := by decide +kernel
theorem dX5_begin_43 : decode cX5_begin 43 = .ok (.iastore, 1) := by decide +kernel
theorem dX5_begin_44 : decode cX5_begin 44 = .ok (.iinc 3 1, 3) := by decide +kernel
theorem dX5_begin_47 : decode cX5_begin 47 = .ok (.goto (-35), 3) := by decide +kernel
theorem dX5_begin_50 : decode cX5_begin 50 = .ok (.aload_n 1, 1) := by decide +kernel
theorem dX5_begin_51 : decode cX5_begin 51 = .ok (.getfield 36, 3) := by decide +kernel
theorem dX5_begin_54 : decode cX5_begin 54 = .ok (.iconst 0, 1) := by decide +kernel
theorem dX5_begin_55 : decode cX5_begin 55 = .ok (.aload_n 0, 1) := by decide +kernel
theorem dX5_begin_56 : decode cX5_begin 56 = .ok (.getfield 15, 3) := by decide +kernel
theorem dX5_begin_59 : decode cX5_begin 59 = .ok (.iconst 0, 1) := by decide +kernel
theorem dX5_begin_60 : decode cX5_begin 60 = .ok (.bipush 96, 2) := by decide +kernel
theorem dX5_begin_62 : decode cX5_begin 62 = .ok (.invokestatic 37, 3) := by decide +kernel
theorem dX5_begin_65 : decode cX5_begin 65 = .ok (.aload_n 1, 1) := by decide +kernel
theorem dX5_begin_66 : decode cX5_begin 66 = .ok (.getfield 43, 3) := by decide +kernel
theorem dX5_begin_69 : decode cX5_begin 69 = .ok (.iconst 0, 1) := by decide +kernel
theorem dX5_begin_70 : decode cX5_begin 70 = .ok (.aload_n 0, 1) := by decide +kernel
theorem dX5_begin_71 : decode cX5_begin 71 = .ok (.getfield 18, 3) := by decide +kernel
theorem dX5_begin_74 : decode cX5_begin 74 = .ok (.iconst 0, 1) := by decide +kernel
theorem dX5_begin_75 : decode cX5_begin 75 = .ok (.iconst 4, 1) := by decide +kernel
theorem dX5_begin_76 : decode cX5_begin 76 = .ok (.invokestatic 37, 3) := by decide +kernel
theorem dX5_begin_79 : decode cX5_begin 79 = .ok (.aload_n 0, 1) := by decide +kernel
theorem dX5_begin_80 : decode cX5_begin 80 = .ok (.aload_n 1, 1) := by decide +kernel
theorem dX5_begin_81 : decode cX5_begin 81 = .ok (.getfield 44, 3) := by decide +kernel
theorem dX5_begin_84 : decode cX5_begin 84 = .ok (.putfield 47, 3) := by decide +kernel
theorem dX5_begin_87 : decode cX5_begin 87 = .ok (.aload_n 0, 1) := by decide +kernel
theorem dX5_begin_88 : decode cX5_begin 88 = .ok (.iconst 0, 1) := by decide +kernel
theorem dX5_begin_89 : decode cX5_begin 89 = .ok (.putfield 48, 3) := by decide +kernel
theorem dX5_begin_92 : decode cX5_begin 92 = .ok (.return_, 1) := by decide +kernel
set_option maxRecDepth 100000 in
theorem SX5_begin_0 {g : zG} {o : Bool} {s : Nat} (hs : zSd s) {M : zM} {q : zM → Prop} (W : zT g (z1 o) mX5_begin (zQv (z1 o) q) 12 [(0, zA g s), (1, zA g 8), (2, zI ((M 8 0) * (M 8 1))), (3, zI 0)] [] M) : zT g (z1 o) mX5_begin (zQv (z1 o) q) 0 [(0, zA g s), (1, zA g 8)] [] M := by
  refine zr_aload_n 1 dX5_begin_0 rfl ?_
  refine zt_geti 0 rfl dX5_begin_1 fX5_21 rfl (by decide) ?_
  refine zr_aload_n 1 dX5_begin_4 rfl ?_
  refine zt_geti 1 rfl dX5_begin_5 fX5_27 rfl (by decide) ?_
  refine zr_imul dX5_begin_8 ?_
  refine zr_istore_n (l' := [(0, zA g s), (1, zA g 8), (2, zI ((M 8 0) * (M 8 1)))]) dX5_begin_9 (by decide) [1, 2, 0] rfl ?_
  refine zr_iconst dX5_begin_10 ?_
  refine zr_istore_n (l' := [(0, zA g s), (1, zA g 8), (2, zI ((M 8 0) * (M 8 1))), (3, zI 0)]) dX5_begin_11 (by decide) [1, 2, 3, 0] rfl ?_
  exact W
set_option maxRecDepth 100000 in
theorem SX5_begin_12 {g : zG} {o : Bool} {s : Nat} (hs : zSd s) {M : zM} {q : zM → Prop} {x2 x3 : Int} (W : (-2147483648 ≤ x3 ∧ x3 ≤ 2147483647) ∧ ((96 ≤ x3) → ∀ N2 : zM, N2 = zrw M (s + 2) (zcpy (M 11) (M (s + 2)) 0 0 96) → ∀ N4 : zM, N4 = zrw N2 (s + 3) (zcpy (N2 9) (N2 (s + 3)) 0 0 4) → ∀ N6 : zM, N6 = zu N4 s 3 (N4 8 4) → q (zu N6 s 4 0)) ∧ ((¬ (96 ≤ x3)) → (-2147483648 ≤ x2 ∧ x2 ≤ 2147483647) ∧ ((x2 ≤ x3) → (0 ≤ x3 ∧ x3 < 96) ∧ zT g (z1 o) mX5_begin (zQv (z1 o) q) 12 [(0, zA g s), (1, zA g 8), (2, zI x2), (3, zI (x3 + 1))] [] (zu M (s + 1) x3 0)) ∧ ((¬ (x2 ≤ x3)) → (0 ≤ x3 ∧ x3 < 96) ∧ zT g (z1 o) mX5_begin (zQv (z1 o) q) 12 [(0, zA g s), (1, zA g 8), (2, zI x2), (3, zI (x3 + 1))] [] (zu M (s + 1) x3 ((M 8 2) + (M 10 x3)))))) : zT g (z1 o) mX5_begin (zQv (z1 o) q) 12 [(0, zA g s), (1, zA g 8), (2, zI x2), (3, zI x3)] [] M := by
  refine zr_iload_n 3 dX5_begin_12 rfl ?_
  refine zr_bipush dX5_begin_13 (by decide) ?_
  obtain ⟨c1, W⟩ := W
  refine zr_icmp_ge (tgt := 50) dX5_begin_15 (by decide) c1 ⟨by decide, by decide⟩ (fun h => ?_) (fun h => ?_)
  · have W := W.1 h
    refine zr_aload_n 1 dX5_begin_50 rfl ?_
    refine zr_getr (b := 11) dX5_begin_51 fX5_36 rfl rfl rfl (by decide) ?_
    refine zr_iconst dX5_begin_54 ?_
    refine zr_aload_n 0 dX5_begin_55 rfl ?_
    refine zr_getr (b := (s + 2)) dX5_begin_56 fX5_15 (zsd_0 hs) rfl (zsd_f1 hs) (Nat.succ_ne_zero _) ?_
    refine zr_iconst dX5_begin_59 ?_
    refine zr_bipush dX5_begin_60 (by decide) ?_
    refine zr_copy dX5_begin_62 kX5_begin_37 rfl (zsd_2 hs) (by decide) (by decide) (by decide) (by decide) (by decide) ⟨by decide, by decide⟩ (Nat.le_of_ble_eq_true rfl) ?_
    refine zr_aload_n 1 dX5_begin_65 rfl ?_
    refine zr_getr (b := 9) dX5_begin_66 fX5_43 rfl rfl rfl (by decide) ?_
    refine zr_iconst dX5_begin_69 ?_
    refine zr_aload_n 0 dX5_begin_70 rfl ?_
    refine zr_getr (b := (s + 3)) dX5_begin_71 fX5_18 (zsd_0 hs) rfl (zsd_f2 hs) (Nat.succ_ne_zero _) ?_
    refine zr_iconst dX5_begin_74 ?_
    refine zr_iconst dX5_begin_75 ?_
    obtain ⟨N2, e3⟩ : ∃ N : zM, N = zrw M (s + 2) (zcpy (M 11) (M (s + 2)) 0 0 96) := ⟨_, rfl⟩
    rw [← e3]
    have W := W N2 e3
    refine zr_copy dX5_begin_76 kX5_begin_37 rfl (zsd_3 hs) (by decide) (by decide) (by decide) (by decide) (by decide) ⟨by decide, by decide⟩ (Nat.le_of_ble_eq_true rfl) ?_
    refine zr_aload_n 0 dX5_begin_79 rfl ?_
    refine zr_aload_n 1 dX5_begin_80 rfl ?_
    refine zt_geti 4 rfl dX5_begin_81 fX5_44 rfl (by decide) ?_
    obtain ⟨N4, e5⟩ : ∃ N : zM, N = zrw N2 (s + 3) (zcpy (N2 9) (N2 (s + 3)) 0 0 4) := ⟨_, rfl⟩
    rw [← e5]
    have W := W N4 e5
    refine zt_puti 3 rfl dX5_begin_84 fX5_47 lcX5 ltX5_3 rfl (zsd_0 hs) ?_
    refine zr_aload_n 0 dX5_begin_87 rfl ?_
    refine zr_iconst dX5_begin_88 ?_
    obtain ⟨N6, e7⟩ : ∃ N : zM, N = zu N4 s 3 (N4 8 4) := ⟨_, rfl⟩
    rw [← e7]
    have W := W N6 e7
    refine zt_puti 4 rfl dX5_begin_89 fX5_48 lcX5 ltX5_4 rfl (zsd_0 hs) ?_
    exact zt_ret dX5_begin_92 rfl W
  · have W := W.2 h
    refine zr_aload_n 0 dX5_begin_18 rfl ?_
    refine zr_getr (b := (s + 1)) dX5_begin_19 fX5_9 (zsd_0 hs) rfl (zsd_f0 hs) (Nat.succ_ne_zero _) ?_
    refine zr_iload_n 3 dX5_begin_22 rfl ?_
    refine zr_iload_n 3 dX5_begin_23 rfl ?_
    refine zr_iload_n 2 dX5_begin_24 rfl ?_
    obtain ⟨c8, W⟩ := W
    refine zr_icmp_ge (tgt := 42) dX5_begin_25 (by decide) c1 c8 (fun h => ?_) (fun h => ?_)
    · have W := W.1 h
      refine zr_iconst dX5_begin_42 ?_
      obtain ⟨c9, W⟩ := W
      refine zr_iast dX5_begin_43 (zsd_1 hs) (by decide) c9 ?_
      refine zr_iinc (q := 3) (l' := [(0, zA g s), (1, zA g 8), (2, zI x2), (3, zI (x3 + 1))]) dX5_begin_44 rfl (by decide) [1, 2, 3, 0] rfl ?_
      refine zr_goto (tgt := 12) dX5_begin_47 (by decide) ?_
      exact W
    · have W := W.2 h
      refine zr_aload_n 1 dX5_begin_28 rfl ?_
      refine zt_geti 2 rfl dX5_begin_29 fX5_30 rfl (by decide) ?_
      refine zr_aload_n 1 dX5_begin_32 rfl ?_
      refine zr_getr (b := 10) dX5_begin_33 fX5_33 rfl rfl rfl (by decide) ?_
      refine zr_iload_n 3 dX5_begin_36 rfl ?_
      obtain ⟨c10, W⟩ := W
      refine zr_iald dX5_begin_37 rfl (by decide) c10 ?_
      refine zr_iadd dX5_begin_38 ?_
      refine zr_goto (tgt := 43) dX5_begin_39 (by decide) ?_
      refine zr_iast dX5_begin_43 (zsd_1 hs) (by decide) c10 ?_
      refine zr_iinc (q := 3) (l' := [(0, zA g s), (1, zA g 8), (2, zI x2), (3, zI (x3 + 1))]) dX5_begin_44 rfl (by decide) [1, 2, 3, 0] rfl ?_
      refine zr_goto (tgt := 12) dX5_begin_47 (by decide) ?_
      exact W
theorem dJ7_fill_53178_0 : decode cJ7_fill_53178 0 = .ok (.iconst 0, 1) := by decide +kernel
theorem dJ7_fill_53178_1 : decode cJ7_fill_53178 1 = .ok (.istore_n 2, 1) := by decide +kernel
theorem dJ7_fill_53178_2 : decode cJ7_fill_53178 2 = .ok (.aload_n 0, 1) := by decide +kernel
theorem dJ7_fill_53178_3 : decode cJ7_fill_53178 3 = .ok (.arraylength, 1) := by decide +kernel
theorem dJ7_fill_53178_4 : decode cJ7_fill_53178 4 = .ok (.istore_n 3, 1) := by decide +kernel
theorem dJ7_fill_53178_5 : decode cJ7_fill_53178 5 = .ok (.iload_n 2, 1) := by decide +kernel
theorem dJ7_fill_53178_6 : decode cJ7_fill_53178 6 = .ok (.iload_n 3, 1) := by decide +kernel
theorem dJ7_fill_53178_7 : decode cJ7_fill_53178 7 = .ok (.if_icmp .ge 13, 3) := by decide +kernel
theorem dJ7_fill_53178_10 : decode cJ7_fill_53178 10 = .ok (.aload_n 0, 1) := by decide +kernel
theorem dJ7_fill_53178_11 : decode cJ7_fill_53178 11 = .ok (.iload_n 2, 1) := by decide +kernel
theorem dJ7_fill_53178_12 : decode cJ7_fill_53178 12 = .ok (.iload_n 1, 1) := by decide +kernel
theorem dJ7_fill_53178_13 : decode cJ7_fill_53178 13 = .ok (.iastore, 1) := by decide +kernel
theorem dJ7_fill_53178_14 : decode cJ7_fill_53178 14 = .ok (.iinc 2 1, 3) := by decide +kernel
theorem dJ7_fill_53178_17 : decode cJ7_fill_53178 17 = .ok (.goto (-12), 3) := by decide +kernel
theorem dJ7_fill_53178_20 : decode cJ7_fill_53178 20 = .ok (.return_, 1) := by decide +kernel
set_option maxRecDepth 100000 in
theorem SJ7_fill_53178_0 {g : zG} {o : Bool} {h0 n0 : Nat} (hh0 : zh (z1 o) h0 = (1, n0)) (hz0 : h0 ≠ 0) (hn0 : n0 ≤ 100000) {M : zM} {q : zM → Prop} {x1 : Int} (W : zT g (z1 o) mJ7_fill_53178 (zQv (z1 o) q) 5 [(0, zA g h0), (1, zI x1), (2, zI 0), (3, zI (n0 : Int))] [] M) : zT g (z1 o) mJ7_fill_53178 (zQv (z1 o) q) 0 [(0, zA g h0), (1, zI x1)] [] M := by
  refine zr_iconst dJ7_fill_53178_0 ?_
  refine zr_istore_n (l' := [(0, zA g h0), (1, zI x1), (2, zI 0)]) dJ7_fill_53178_1 (by decide) [1, 2, 0] rfl ?_
  refine zr_aload_n 0 dJ7_fill_53178_2 rfl ?_
  refine zr_alen dJ7_fill_53178_3 hh0 (by decide) ?_
  refine zr_istore_n (l' := [(0, zA g h0), (1, zI x1), (2, zI 0), (3, zI (n0 : Int))]) dJ7_fill_53178_4 (by decide) [1, 2, 3, 0] rfl ?_
  exact W
set_option maxRecDepth 100000 in
theorem SJ7_fill_53178_5 {g : zG} {o : Bool} {h0 n0 : Nat} (hh0 : zh (z1 o) h0 = (1, n0)) (hz0 : h0 ≠ 0) (hn0 : n0 ≤ 100000) {M : zM} {q : zM → Prop} {x1 x2 x3 : Int} (W : (-2147483648 ≤ x2 ∧ x2 ≤ 2147483647) ∧ (-2147483648 ≤ x3 ∧ x3 ≤ 2147483647) ∧ ((x3 ≤ x2) → q M) ∧ ((¬ (x3 ≤ x2)) → (0 ≤ x2 ∧ x2 < n0) ∧ zT g (z1 o) mJ7_fill_53178 (zQv (z1 o) q) 5 [(0, zA g h0), (1, zI x1), (2, zI (x2 + 1)), (3, zI x3)] [] (zu M h0 x2 x1))) : zT g (z1 o) mJ7_fill_53178 (zQv (z1 o) q) 5 [(0, zA g h0), (1, zI x1), (2, zI x2), (3, zI x3)] [] M := by
  refine zr_iload_n 2 dJ7_fill_53178_5 rfl ?_
  refine zr_iload_n 3 dJ7_fill_53178_6 rfl ?_
  obtain ⟨c1, W⟩ := W
  obtain ⟨c2, W⟩ := W
  refine zr_icmp_ge (tgt := 20) dJ7_fill_53178_7 (by decide) c1 c2 (fun h => ?_) (fun h => ?_)
  · have W := W.1 h
    exact zt_ret dJ7_fill_53178_20 rfl W
  · have W := W.2 h
    refine zr_aload_n 0 dJ7_fill_53178_10 rfl ?_
    refine zr_iload_n 2 dJ7_fill_53178_11 rfl ?_
    refine zr_iload_n 1 dJ7_fill_53178_12 rfl ?_
    obtain ⟨c3, W⟩ := W
    refine zr_iast dJ7_fill_53178_13 hh0 hn0 c3 ?_
    refine zr_iinc (q := 2) (l' := [(0, zA g h0), (1, zI x1), (2, zI (x2 + 1)), (3, zI x3)]) dJ7_fill_53178_14 rfl (by decide) [1, 2, 0, 3] rfl ?_
    refine zr_goto (tgt := 5) dJ7_fill_53178_17 (by decide) ?_
    exact W
