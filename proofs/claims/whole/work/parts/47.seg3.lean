theorem dX9_dunes_0 : decode cX9_dunes 0 = .ok (.iload_n 1, 1) := by decide +kernel
theorem dX9_dunes_1 : decode cX9_dunes 1 = .ok (.iconst 1, 1) := by decide +kernel
theorem dX9_dunes_2 : decode cX9_dunes 2 = .ok (.if_icmp .ge 5, 3) := by decide +kernel
theorem dX9_dunes_5 : decode cX9_dunes 5 = .ok (.iconst (-1), 1) := by decide +kernel
theorem dX9_dunes_6 : decode cX9_dunes 6 = .ok (.ireturn, 1) := by decide +kernel
theorem dX9_dunes_7 : decode cX9_dunes 7 = .ok (.aload_n 0, 1) := by decide +kernel
theorem dX9_dunes_8 : decode cX9_dunes 8 = .ok (.getfield 78, 3) := by decide +kernel
theorem dX9_dunes_11 : decode cX9_dunes 11 = .ok (.aload_n 0, 1) := by decide +kernel
theorem dX9_dunes_12 : decode cX9_dunes 12 = .ok (.getfield 39, 3) := by decide +kernel
theorem dX9_dunes_15 : decode cX9_dunes 15 = .ok (.getfield 152, 3) := by decide +kernel
theorem dX9_dunes_18 : decode cX9_dunes 18 = .ok (.iload_n 1, 1) := by decide +kernel
theorem dX9_dunes_19 : decode cX9_dunes 19 = .ok (.invokevirtual 274, 3) := by decide +kernel
theorem dX9_dunes_22 : decode cX9_dunes 22 = .ok (.aload_n 0, 1) := by decide +kernel
theorem dX9_dunes_23 : decode cX9_dunes 23 = .ok (.getfield 78, 3) := by decide +kernel
theorem dX9_dunes_26 : decode cX9_dunes 26 = .ok (.getfield 278, 3) := by decide +kernel
theorem dX9_dunes_29 : decode cX9_dunes 29 = .ok (.ireturn, 1) := by decide +kernel
set_option maxRecDepth 100000 in
theorem SX9_dunes_0 {g : zG} {o : Bool} {M : zM} {q : Int → zM → Prop} {x1 : Int} (W : (-2147483648 ≤ x1 ∧ x1 ≤ 2147483647) ∧ ((1 ≤ x1) → ∃ q2 : zM → Prop, zKv g (z1 o) mX3_joinLevel [zA g 127, zA g 25, zI x1] M q2 ∧ ∀ M4 : zM, q2 M4 → q (M4 127 5) M4) ∧ ((¬ (1 ≤ x1)) → q (-1) M)) : zT g (z1 o) mX9_dunes (zQi (z1 o) q) 0 [(0, zA g 1), (1, zI x1)] [] M := by
  refine zr_iload_n 1 dX9_dunes_0 rfl ?_
  refine zr_iconst dX9_dunes_1 ?_
  obtain ⟨c1, W⟩ := W
  refine zr_icmp_ge (tgt := 7) dX9_dunes_2 (by decide) c1 ⟨by decide, by decide⟩ (fun h => ?_) (fun h => ?_)
  · have W := W.1 h
    refine zr_aload_n 0 dX9_dunes_7 rfl ?_
    refine zr_getr (b := 127) dX9_dunes_8 fX9_78 rfl rfl rfl (by decide) ?_
    refine zr_aload_n 0 dX9_dunes_11 rfl ?_
    refine zr_getr (b := 24) dX9_dunes_12 fX9_39 rfl rfl rfl (by decide) ?_
    refine zr_getr (b := 25) dX9_dunes_15 fX9_152 rfl rfl rfl (by decide) ?_
    refine zr_iload_n 1 dX9_dunes_18 rfl ?_
    obtain ⟨q2, k6, W⟩ := W
    refine zt_callVv (As := [zA g 25, zI x1]) (rest := []) dX9_dunes_19 kX9_dunes_274 rfl rfl rfl rfl (Nat.le_of_ble_eq_true rfl) k6 (fun M4 h5 => ?_)
    have W := W M4 h5
    refine zr_aload_n 0 dX9_dunes_22 rfl ?_
    refine zr_getr (b := 127) dX9_dunes_23 fX9_78 rfl rfl rfl (by decide) ?_
    refine zt_geti 5 rfl dX9_dunes_26 fX9_278 rfl (by decide) ?_
    exact zt_iret dX9_dunes_29 rfl W
  · have W := W.2 h
    refine zr_iconst dX9_dunes_5 ?_
    exact zt_iret dX9_dunes_6 rfl W
theorem dX9_duneOf_0 : decode cX9_duneOf 0 = .ok (.iload_n 1, 1) := by decide +kernel
theorem dX9_duneOf_1 : decode cX9_duneOf 1 = .ok (.iconst 1, 1) := by decide +kernel
theorem dX9_duneOf_2 : decode cX9_duneOf 2 = .ok (.if_icmp .lt 14, 3) := by decide +kernel
theorem dX9_duneOf_5 : decode cX9_duneOf 5 = .ok (.aload_n 0, 1) := by decide +kernel
theorem dX9_duneOf_6 : decode cX9_duneOf 6 = .ok (.getfield 28, 3) := by decide +kernel
theorem dX9_duneOf_9 : decode cX9_duneOf 9 = .ok (.iload_n 2, 1) := by decide +kernel
theorem dX9_duneOf_10 : decode cX9_duneOf 10 = .ok (.invokevirtual 148, 3) := by decide +kernel
theorem dX9_duneOf_13 : decode cX9_duneOf 13 = .ok (.ifCond .ne 5, 3) := by decide +kernel
theorem dX9_duneOf_16 : decode cX9_duneOf 16 = .ok (.iconst (-1), 1) := by decide +kernel
theorem dX9_duneOf_17 : decode cX9_duneOf 17 = .ok (.ireturn, 1) := by decide +kernel
theorem dX9_duneOf_18 : decode cX9_duneOf 18 = .ok (.aload_n 0, 1) := by decide +kernel
theorem dX9_duneOf_19 : decode cX9_duneOf 19 = .ok (.getfield 78, 3) := by decide +kernel
theorem dX9_duneOf_22 : decode cX9_duneOf 22 = .ok (.aload_n 0, 1) := by decide +kernel
theorem dX9_duneOf_23 : decode cX9_duneOf 23 = .ok (.getfield 39, 3) := by decide +kernel
theorem dX9_duneOf_26 : decode cX9_duneOf 26 = .ok (.getfield 152, 3) := by decide +kernel
theorem dX9_duneOf_29 : decode cX9_duneOf 29 = .ok (.iload_n 1, 1) := by decide +kernel
theorem dX9_duneOf_30 : decode cX9_duneOf 30 = .ok (.invokevirtual 274, 3) := by decide +kernel
theorem dX9_duneOf_33 : decode cX9_duneOf 33 = .ok (.aload_n 0, 1) := by decide +kernel
theorem dX9_duneOf_34 : decode cX9_duneOf 34 = .ok (.getfield 78, 3) := by decide +kernel
theorem dX9_duneOf_37 : decode cX9_duneOf 37 = .ok (.getfield 295, 3) := by decide +kernel
theorem dX9_duneOf_40 : decode cX9_duneOf 40 = .ok (.iload_n 2, 1) := by decide +kernel
theorem dX9_duneOf_41 : decode cX9_duneOf 41 = .ok (.iaload, 1) := by decide +kernel
theorem dX9_duneOf_42 : decode cX9_duneOf 42 = .ok (.ireturn, 1) := by decide +kernel
set_option maxRecDepth 100000 in
theorem SX9_duneOf_0 {g : zG} {o : Bool} {C R : Int} {M : zM} {q : Int → zM → Prop} {x1 x2 : Int} (W : (-2147483648 ≤ x1 ∧ x1 ≤ 2147483647) ∧ ((x1 < 1) → q (-1) M) ∧ ((¬ (x1 < 1)) → (-2147483648 ≤ x2 ∧ x2 ≤ 2147483647) ∧ (zLand M C R) ∧ ((0 ≤ x2 ∧ x2 < C * R) → ∃ q7 : zM → Prop, zKv g (z1 o) mX3_joinLevel [zA g 127, zA g 25, zI x1] M q7 ∧ ∀ M9 : zM, q7 M9 → (0 ≤ x2 ∧ x2 < 96) ∧ q (M9 130 x2) M9) ∧ ((¬ (0 ≤ x2 ∧ x2 < C * R)) → q (-1) M))) : zT g (z1 o) mX9_duneOf (zQi (z1 o) q) 0 [(0, zA g 1), (1, zI x1), (2, zI x2)] [] M := by
  refine zr_iload_n 1 dX9_duneOf_0 rfl ?_
  refine zr_iconst dX9_duneOf_1 ?_
  obtain ⟨c1, W⟩ := W
  refine zr_icmp_lt (tgt := 16) dX9_duneOf_2 (by decide) c1 ⟨by decide, by decide⟩ (fun h => ?_) (fun h => ?_)
  · have W := W.1 h
    refine zr_iconst dX9_duneOf_16 ?_
    exact zt_iret dX9_duneOf_17 rfl W
  · have W := W.2 h
    refine zr_aload_n 0 dX9_duneOf_5 rfl ?_
    refine zr_getr (b := 14) dX9_duneOf_6 fX9_28 rfl rfl rfl (by decide) ?_
    refine zr_iload_n 2 dX9_duneOf_9 rfl ?_
    obtain ⟨c2, W⟩ := W
    obtain ⟨c3, W⟩ := W
    refine zt_callVi (As := [zI x2]) (rest := []) dX9_duneOf_10 kX9_duneOf_148 rfl rfl rfl rfl (Nat.le_of_ble_eq_true rfl) (c_has c2 c3) (fun r4 N6 h5 => ?_)
    rw [h5.1, h5.2]
    refine zt_ifne_b (tgt := 18) dX9_duneOf_13 (by decide) (fun h => ?_) (fun h => ?_)
    · have W := W.1 h
      refine zr_aload_n 0 dX9_duneOf_18 rfl ?_
      refine zr_getr (b := 127) dX9_duneOf_19 fX9_78 rfl rfl rfl (by decide) ?_
      refine zr_aload_n 0 dX9_duneOf_22 rfl ?_
      refine zr_getr (b := 24) dX9_duneOf_23 fX9_39 rfl rfl rfl (by decide) ?_
      refine zr_getr (b := 25) dX9_duneOf_26 fX9_152 rfl rfl rfl (by decide) ?_
      refine zr_iload_n 1 dX9_duneOf_29 rfl ?_
      obtain ⟨q7, k11, W⟩ := W
      refine zt_callVv (As := [zA g 25, zI x1]) (rest := []) dX9_duneOf_30 kX9_duneOf_274 rfl rfl rfl rfl (Nat.le_of_ble_eq_true rfl) k11 (fun M9 h10 => ?_)
      have W := W M9 h10
      refine zr_aload_n 0 dX9_duneOf_33 rfl ?_
      refine zr_getr (b := 127) dX9_duneOf_34 fX9_78 rfl rfl rfl (by decide) ?_
      refine zr_getr (b := 130) dX9_duneOf_37 fX9_295 rfl rfl rfl (by decide) ?_
      refine zr_iload_n 2 dX9_duneOf_40 rfl ?_
      obtain ⟨c12, W⟩ := W
      refine zr_iald dX9_duneOf_41 rfl (by decide) c12 ?_
      exact zt_iret dX9_duneOf_42 rfl W
    · have W := W.2 h
      refine zr_iconst dX9_duneOf_16 ?_
      exact zt_iret dX9_duneOf_17 rfl W
theorem dX9_slabsOf_0 : decode cX9_slabsOf 0 = .ok (.iconst 0, 1) := by decide +kernel
theorem dX9_slabsOf_1 : decode cX9_slabsOf 1 = .ok (.istore_n 2, 1) := by decide +kernel
theorem dX9_slabsOf_2 : decode cX9_slabsOf 2 = .ok (.iconst 0, 1) := by decide +kernel
theorem dX9_slabsOf_3 : decode cX9_slabsOf 3 = .ok (.istore_n 3, 1) := by decide +kernel
theorem dX9_slabsOf_4 : decode cX9_slabsOf 4 = .ok (.iload_n 3, 1) := by decide +kernel
theorem dX9_slabsOf_5 : decode cX9_slabsOf 5 = .ok (.aload_n 0, 1) := by decide +kernel
theorem dX9_slabsOf_6 : decode cX9_slabsOf 6 = .ok (.getfield 28, 3) := by decide +kernel
theorem dX9_slabsOf_9 : decode cX9_slabsOf 9 = .ok (.getfield 120, 3) := by decide +kernel
theorem dX9_slabsOf_12 : decode cX9_slabsOf 12 = .ok (.if_icmp .ge 34, 3) := by decide +kernel
theorem dX9_slabsOf_15 : decode cX9_slabsOf 15 = .ok (.aload_n 0, 1) := by decide +kernel
theorem dX9_slabsOf_16 : decode cX9_slabsOf 16 = .ok (.getfield 78, 3) := by decide +kernel
theorem dX9_slabsOf_19 : decode cX9_slabsOf 19 = .ok (.getfield 295, 3) := by decide +kernel
theorem dX9_slabsOf_22 : decode cX9_slabsOf 22 = .ok (.iload_n 3, 1) := by decide +kernel
theorem dX9_slabsOf_23 : decode cX9_slabsOf 23 = .ok (.iaload, 1) := by decide +kernel
theorem dX9_slabsOf_24 : decode cX9_slabsOf 24 = .ok (.iload_n 1, 1) := by decide +kernel
theorem dX9_slabsOf_25 : decode cX9_slabsOf 25 = .ok (.if_icmp .ne 15, 3) := by decide +kernel
theorem dX9_slabsOf_28 : decode cX9_slabsOf 28 = .ok (.iload_n 2, 1) := by decide +kernel
theorem dX9_slabsOf_29 : decode cX9_slabsOf 29 = .ok (.aload_n 0, 1) := by decide +kernel
theorem dX9_slabsOf_30 : decode cX9_slabsOf 30 = .ok (.getfield 39, 3) := by decide +kernel
theorem dX9_slabsOf_33 : decode cX9_slabsOf 33 = .ok (.getfield 152, 3) := by decide +kernel
theorem dX9_slabsOf_36 : decode cX9_slabsOf 36 = .ok (.iload_n 3, 1) := by decide +kernel
theorem dX9_slabsOf_37 : decode cX9_slabsOf 37 = .ok (.iaload, 1) := by decide +kernel
theorem dX9_slabsOf_38 : decode cX9_slabsOf 38 = .ok (.iadd, 1) := by decide +kernel
theorem dX9_slabsOf_39 : decode cX9_slabsOf 39 = .ok (.istore_n 2, 1) := by decide +kernel
theorem dX9_slabsOf_40 : decode cX9_slabsOf 40 = .ok (.iinc 3 1, 3) := by decide +kernel
theorem dX9_slabsOf_43 : decode cX9_slabsOf 43 = .ok (.goto (-39), 3) := by decide +kernel
theorem dX9_slabsOf_46 : decode cX9_slabsOf 46 = .ok (.iload_n 2, 1) := by decide +kernel
theorem dX9_slabsOf_47 : decode cX9_slabsOf 47 = .ok (.ireturn, 1) := by decide +kernel
set_option maxRecDepth 100000 in
theorem SX9_slabsOf_0 {g : zG} {o : Bool} {M : zM} {q : Int → zM → Prop} {x1 : Int} (W : zT g (z1 o) mX9_slabsOf (zQi (z1 o) q) 4 [(0, zA g 1), (1, zI x1), (2, zI 0), (3, zI 0)] [] M) : zT g (z1 o) mX9_slabsOf (zQi (z1 o) q) 0 [(0, zA g 1), (1, zI x1)] [] M := by
  refine zr_iconst dX9_slabsOf_0 ?_
  refine zr_istore_n (l' := [(0, zA g 1), (1, zI x1), (2, zI 0)]) dX9_slabsOf_1 (by decide) [1, 2, 0] rfl ?_
  refine zr_iconst dX9_slabsOf_2 ?_
  refine zr_istore_n (l' := [(0, zA g 1), (1, zI x1), (2, zI 0), (3, zI 0)]) dX9_slabsOf_3 (by decide) [1, 2, 3, 0] rfl ?_
  exact W
set_option maxRecDepth 100000 in
theorem SX9_slabsOf_4 {g : zG} {o : Bool} {M : zM} {q : Int → zM → Prop} {x1 x2 x3 : Int} (W : (-2147483648 ≤ x3 ∧ x3 ≤ 2147483647) ∧ (-2147483648 ≤ (M 14 2) ∧ (M 14 2) ≤ 2147483647) ∧ (((M 14 2) ≤ x3) → q x2 M) ∧ ((¬ ((M 14 2) ≤ x3)) → (0 ≤ x3 ∧ x3 < 96) ∧ (-2147483648 ≤ (M 130 x3) ∧ (M 130 x3) ≤ 2147483647) ∧ (-2147483648 ≤ x1 ∧ x1 ≤ 2147483647) ∧ (((M 130 x3) ≠ x1) → zT g (z1 o) mX9_slabsOf (zQi (z1 o) q) 4 [(0, zA g 1), (1, zI x1), (2, zI x2), (3, zI (x3 + 1))] [] M) ∧ (((M 130 x3) = x1) → zT g (z1 o) mX9_slabsOf (zQi (z1 o) q) 4 [(0, zA g 1), (1, zI x1), (2, zI (x2 + (M 25 x3))), (3, zI (x3 + 1))] [] M))) : zT g (z1 o) mX9_slabsOf (zQi (z1 o) q) 4 [(0, zA g 1), (1, zI x1), (2, zI x2), (3, zI x3)] [] M := by
  refine zr_iload_n 3 dX9_slabsOf_4 rfl ?_
  refine zr_aload_n 0 dX9_slabsOf_5 rfl ?_
  refine zr_getr (b := 14) dX9_slabsOf_6 fX9_28 rfl rfl rfl (by decide) ?_
  refine zt_geti 2 rfl dX9_slabsOf_9 fX9_120 rfl (by decide) ?_
  obtain ⟨c1, W⟩ := W
  obtain ⟨c2, W⟩ := W
  refine zr_icmp_ge (tgt := 46) dX9_slabsOf_12 (by decide) c1 c2 (fun h => ?_) (fun h => ?_)
  · have W := W.1 h
    refine zr_iload_n 2 dX9_slabsOf_46 rfl ?_
    exact zt_iret dX9_slabsOf_47 rfl W
  · have W := W.2 h
    refine zr_aload_n 0 dX9_slabsOf_15 rfl ?_
    refine zr_getr (b := 127) dX9_slabsOf_16 fX9_78 rfl rfl rfl (by decide) ?_
    refine zr_getr (b := 130) dX9_slabsOf_19 fX9_295 rfl rfl rfl (by decide) ?_
    refine zr_iload_n 3 dX9_slabsOf_22 rfl ?_
    obtain ⟨c3, W⟩ := W
    refine zr_iald dX9_slabsOf_23 rfl (by decide) c3 ?_
    refine zr_iload_n 1 dX9_slabsOf_24 rfl ?_
    obtain ⟨c4, W⟩ := W
    obtain ⟨c5, W⟩ := W
    refine zr_icmp_ne (tgt := 40) dX9_slabsOf_25 (by decide) c4 c5 (fun h => ?_) (fun h => ?_)
    · have W := W.1 h
      refine zr_iinc (q := 3) (l' := [(0, zA g 1), (1, zI x1), (2, zI x2), (3, zI (x3 + 1))]) dX9_slabsOf_40 rfl (by decide) [1, 2, 3, 0] rfl ?_
      refine zr_goto (tgt := 4) dX9_slabsOf_43 (by decide) ?_
      exact W
    · have W := W.2 h
      refine zr_iload_n 2 dX9_slabsOf_28 rfl ?_
      refine zr_aload_n 0 dX9_slabsOf_29 rfl ?_
      refine zr_getr (b := 24) dX9_slabsOf_30 fX9_39 rfl rfl rfl (by decide) ?_
      refine zr_getr (b := 25) dX9_slabsOf_33 fX9_152 rfl rfl rfl (by decide) ?_
      refine zr_iload_n 3 dX9_slabsOf_36 rfl ?_
      refine zr_iald dX9_slabsOf_37 rfl (by decide) c3 ?_
      refine zr_iadd dX9_slabsOf_38 ?_
      refine zr_istore_n (l' := [(0, zA g 1), (1, zI x1), (2, zI (x2 + (M 25 x3))), (3, zI x3)]) dX9_slabsOf_39 (by decide) [1, 2, 0, 3] rfl ?_
      refine zr_iinc (q := 3) (l' := [(0, zA g 1), (1, zI x1), (2, zI (x2 + (M 25 x3))), (3, zI (x3 + 1))]) dX9_slabsOf_40 rfl (by decide) [1, 2, 3, 0] rfl ?_
      refine zr_goto (tgt := 4) dX9_slabsOf_43 (by decide) ?_
      exact W
theorem dX9_peakOf_0 : decode cX9_peakOf 0 = .ok (.iconst 0, 1) := by decide +kernel
theorem dX9_peakOf_1 : decode cX9_peakOf 1 = .ok (.istore_n 2, 1) := by decide +kernel
theorem dX9_peakOf_2 : decode cX9_peakOf 2 = .ok (.iconst 0, 1) := by decide +kernel
theorem dX9_peakOf_3 : decode cX9_peakOf 3 = .ok (.istore_n 3, 1) := by decide +kernel
theorem dX9_peakOf_4 : decode cX9_peakOf 4 = .ok (.iconst 0, 1) := by decide +kernel
theorem dX9_peakOf_5 : decode cX9_peakOf 5 = .ok (.istore 4, 2) := by decide +kernel
theorem dX9_peakOf_7 : decode cX9_peakOf 7 = .ok (.iload 4, 2) := by decide +kernel
theorem dX9_peakOf_9 : decode cX9_peakOf 9 = .ok (.aload_n 0, 1) := by decide +kernel
theorem dX9_peakOf_10 : decode cX9_peakOf 10 = .ok (.getfield 28, 3) := by decide +kernel
theorem dX9_peakOf_13 : decode cX9_peakOf 13 = .ok (.getfield 120, 3) := by decide +kernel
theorem dX9_peakOf_16 : decode cX9_peakOf 16 = .ok (.if_icmp .ge 51, 3) := by decide +kernel
theorem dX9_peakOf_19 : decode cX9_peakOf 19 = .ok (.aload_n 0, 1) := by decide +kernel
theorem dX9_peakOf_20 : decode cX9_peakOf 20 = .ok (.getfield 78, 3) := by decide +kernel
theorem dX9_peakOf_23 : decode cX9_peakOf 23 = .ok (.getfield 295, 3) := by decide +kernel
theorem dX9_peakOf_26 : decode cX9_peakOf 26 = .ok (.iload 4, 2) := by decide +kernel
theorem dX9_peakOf_28 : decode cX9_peakOf 28 = .ok (.iaload, 1) := by decide +kernel
theorem dX9_peakOf_29 : decode cX9_peakOf 29 = .ok (.iload_n 1, 1) := by decide +kernel
theorem dX9_peakOf_30 : decode cX9_peakOf 30 = .ok (.if_icmp .ne 31, 3) := by decide +kernel
theorem dX9_peakOf_33 : decode cX9_peakOf 33 = .ok (.aload_n 0, 1) := by decide +kernel
theorem dX9_peakOf_34 : decode cX9_peakOf 34 = .ok (.getfield 39, 3) := by decide +kernel
theorem dX9_peakOf_37 : decode cX9_peakOf 37 = .ok (.getfield 152, 3) := by decide +kernel
theorem dX9_peakOf_40 : decode cX9_peakOf 40 = .ok (.iload 4, 2) := by decide +kernel
theorem dX9_peakOf_42 : decode cX9_peakOf 42 = .ok (.iaload, 1) := by decide +kernel
theorem dX9_peakOf_43 : decode cX9_peakOf 43 = .ok (.iload_n 3, 1) := by decide +kernel
theorem dX9_peakOf_44 : decode cX9_peakOf 44 = .ok (.if_icmp .le 17, 3) := by decide +kernel
theorem dX9_peakOf_47 : decode cX9_peakOf 47 = .ok (.aload_n 0, 1) := by decide +kernel
theorem dX9_peakOf_48 : decode cX9_peakOf 48 = .ok (.getfield 39, 3) := by decide +kernel
theorem dX9_peakOf_51 : decode cX9_peakOf 51 = .ok (.getfield 152, 3) := by decide +kernel
theorem dX9_peakOf_54 : decode cX9_peakOf 54 = .ok (.iload 4, 2) := by decide +kernel
theorem dX9_peakOf_56 : decode cX9_peakOf 56 = .ok (.iaload, 1) := by decide +kernel
theorem dX9_peakOf_57 : decode cX9_peakOf 57 = .ok (.istore_n 3, 1) := by decide +kernel
theorem dX9_peakOf_58 : decode cX9_peakOf 58 = .ok (.iload 4, 2) := by decide +kernel
theorem dX9_peakOf_60 : decode cX9_peakOf 60 = .ok (.istore_n 2, 1) := by decide +kernel
theorem dX9_peakOf_61 : decode cX9_peakOf 61 = .ok (.iinc 4 1, 3) := by decide +kernel
theorem dX9_peakOf_64 : decode cX9_peakOf 64 = .ok (.goto (-57), 3) := by decide +kernel
theorem dX9_peakOf_67 : decode cX9_peakOf 67 = .ok (.iload_n 2, 1) := by decide +kernel
theorem dX9_peakOf_68 : decode cX9_peakOf 68 = .ok (.ireturn, 1) := by decide +kernel
set_option maxRecDepth 100000 in
theorem SX9_peakOf_0 {g : zG} {o : Bool} {M : zM} {q : Int → zM → Prop} {x1 : Int} (W : zT g (z1 o) mX9_peakOf (zQi (z1 o) q) 7 [(0, zA g 1), (1, zI x1), (2, zI 0), (3, zI 0), (4, zI 0)] [] M) : zT g (z1 o) mX9_peakOf (zQi (z1 o) q) 0 [(0, zA g 1), (1, zI x1)] [] M := by
  refine zr_iconst dX9_peakOf_0 ?_
  refine zr_istore_n (l' := [(0, zA g 1), (1, zI x1), (2, zI 0)]) dX9_peakOf_1 (by decide) [1, 2, 0] rfl ?_
  refine zr_iconst dX9_peakOf_2 ?_
  refine zr_istore_n (l' := [(0, zA g 1), (1, zI x1), (2, zI 0), (3, zI 0)]) dX9_peakOf_3 (by decide) [1, 2, 3, 0] rfl ?_
  refine zr_iconst dX9_peakOf_4 ?_
  refine zr_istore (l' := [(0, zA g 1), (1, zI x1), (2, zI 0), (3, zI 0), (4, zI 0)]) dX9_peakOf_5 (by decide) [1, 2, 3, 4, 0] rfl ?_
  exact W
set_option maxRecDepth 100000 in
theorem SX9_peakOf_7 {g : zG} {o : Bool} {M : zM} {q : Int → zM → Prop} {x1 x2 x3 x4 : Int} (W : (-2147483648 ≤ x4 ∧ x4 ≤ 2147483647) ∧ (-2147483648 ≤ (M 14 2) ∧ (M 14 2) ≤ 2147483647) ∧ (((M 14 2) ≤ x4) → q x2 M) ∧ ((¬ ((M 14 2) ≤ x4)) → (0 ≤ x4 ∧ x4 < 96) ∧ (-2147483648 ≤ (M 130 x4) ∧ (M 130 x4) ≤ 2147483647) ∧ (-2147483648 ≤ x1 ∧ x1 ≤ 2147483647) ∧ (((M 130 x4) ≠ x1) → zT g (z1 o) mX9_peakOf (zQi (z1 o) q) 7 [(0, zA g 1), (1, zI x1), (2, zI x2), (3, zI x3), (4, zI (x4 + 1))] [] M) ∧ (((M 130 x4) = x1) → (-2147483648 ≤ (M 25 x4) ∧ (M 25 x4) ≤ 2147483647) ∧ (-2147483648 ≤ x3 ∧ x3 ≤ 2147483647) ∧ (((M 25 x4) ≤ x3) → zT g (z1 o) mX9_peakOf (zQi (z1 o) q) 7 [(0, zA g 1), (1, zI x1), (2, zI x2), (3, zI x3), (4, zI (x4 + 1))] [] M) ∧ ((¬ ((M 25 x4) ≤ x3)) → zT g (z1 o) mX9_peakOf (zQi (z1 o) q) 7 [(0, zA g 1), (1, zI x1), (2, zI x4), (3, zI (M 25 x4)), (4, zI (x4 + 1))] [] M)))) : zT g (z1 o) mX9_peakOf (zQi (z1 o) q) 7 [(0, zA g 1), (1, zI x1), (2, zI x2), (3, zI x3), (4, zI x4)] [] M := by
  refine zr_iload 4 dX9_peakOf_7 rfl ?_
  refine zr_aload_n 0 dX9_peakOf_9 rfl ?_
  refine zr_getr (b := 14) dX9_peakOf_10 fX9_28 rfl rfl rfl (by decide) ?_
  refine zt_geti 2 rfl dX9_peakOf_13 fX9_120 rfl (by decide) ?_
  obtain ⟨c1, W⟩ := W
  obtain ⟨c2, W⟩ := W
  refine zr_icmp_ge (tgt := 67) dX9_peakOf_16 (by decide) c1 c2 (fun h => ?_) (fun h => ?_)
  · have W := W.1 h
    refine zr_iload_n 2 dX9_peakOf_67 rfl ?_
    exact zt_iret dX9_peakOf_68 rfl W
  · have W := W.2 h
    refine zr_aload_n 0 dX9_peakOf_19 rfl ?_
    refine zr_getr (b := 127) dX9_peakOf_20 fX9_78 rfl rfl rfl (by decide) ?_
    refine zr_getr (b := 130) dX9_peakOf_23 fX9_295 rfl rfl rfl (by decide) ?_
    refine zr_iload 4 dX9_peakOf_26 rfl ?_
    obtain ⟨c3, W⟩ := W
    refine zr_iald dX9_peakOf_28 rfl (by decide) c3 ?_
    refine zr_iload_n 1 dX9_peakOf_29 rfl ?_
    obtain ⟨c4, W⟩ := W
    obtain ⟨c5, W⟩ := W
    refine zr_icmp_ne (tgt := 61) dX9_peakOf_30 (by decide) c4 c5 (fun h => ?_) (fun h => ?_)
    · have W := W.1 h
      refine zr_iinc (q := 4) (l' := [(0, zA g 1), (1, zI x1), (2, zI x2), (3, zI x3), (4, zI (x4 + 1))]) dX9_peakOf_61 rfl (by decide) [1, 2, 3, 4, 0] rfl ?_
      refine zr_goto (tgt := 7) dX9_peakOf_64 (by decide) ?_
      exact W
    · have W := W.2 h
      refine zr_aload_n 0 dX9_peakOf_33 rfl ?_
      refine zr_getr (b := 24) dX9_peakOf_34 fX9_39 rfl rfl rfl (by decide) ?_
      refine zr_getr (b := 25) dX9_peakOf_37 fX9_152 rfl rfl rfl (by decide) ?_
      refine zr_iload 4 dX9_peakOf_40 rfl ?_
      refine zr_iald dX9_peakOf_42 rfl (by decide) c3 ?_
      refine zr_iload_n 3 dX9_peakOf_43 rfl ?_
      obtain ⟨c6, W⟩ := W
      obtain ⟨c7, W⟩ := W
      refine zr_icmp_le (tgt := 61) dX9_peakOf_44 (by decide) c6 c7 (fun h => ?_) (fun h => ?_)
      · have W := W.1 h
        refine zr_iinc (q := 4) (l' := [(0, zA g 1), (1, zI x1), (2, zI x2), (3, zI x3), (4, zI (x4 + 1))]) dX9_peakOf_61 rfl (by decide) [1, 2, 3, 4, 0] rfl ?_
        refine zr_goto (tgt := 7) dX9_peakOf_64 (by decide) ?_
        exact W
      · have W := W.2 h
        refine zr_aload_n 0 dX9_peakOf_47 rfl ?_
        refine zr_getr (b := 24) dX9_peakOf_48 fX9_39 rfl rfl rfl (by decide) ?_
        refine zr_getr (b := 25) dX9_peakOf_51 fX9_152 rfl rfl rfl (by decide) ?_
        refine zr_iload 4 dX9_peakOf_54 rfl ?_
        refine zr_iald dX9_peakOf_56 rfl (by decide) c3 ?_
        refine zr_istore_n (l' := [(0, zA g 1), (1, zI x1), (3, zI (M 25 x4)), (4, zI x4)]) dX9_peakOf_57 (by decide) [1, 2, 0, 4] rfl ?_
        refine zr_iload 3 dX9_peakOf_58 rfl ?_
        refine zr_istore_n (l' := [(0, zA g 1), (1, zI x1), (2, zI x4), (3, zI (M 25 x4)), (4, zI x4)]) dX9_peakOf_60 (by decide) [1, 2, 0, 3, 4] rfl ?_
        refine zr_iinc (q := 4) (l' := [(0, zA g 1), (1, zI x1), (2, zI x4), (3, zI (M 25 x4)), (4, zI (x4 + 1))]) dX9_peakOf_61 rfl (by decide) [1, 2, 3, 4, 0] rfl ?_
        refine zr_goto (tgt := 7) dX9_peakOf_64 (by decide) ?_
        exact W
theorem dX9_dune_0 : decode cX9_dune 0 = .ok (.iload_n 1, 1) := by decide +kernel
theorem dX9_dune_1 : decode cX9_dune 1 = .ok (.iconst 1, 1) := by decide +kernel
theorem dX9_dune_2 : decode cX9_dune 2 = .ok (.if_icmp .lt 13, 3) := by decide +kernel
theorem dX9_dune_5 : decode cX9_dune 5 = .ok (.iload_n 3, 1) := by decide +kernel
theorem dX9_dune_6 : decode cX9_dune 6 = .ok (.ifCond .lt 9, 3) := by decide +kernel
theorem dX9_dune_9 : decode cX9_dune 9 = .ok (.iload_n 3, 1) := by decide +kernel
theorem dX9_dune_10 : decode cX9_dune 10 = .ok (.bipush 6, 2) := by decide +kernel
theorem dX9_dune_12 : decode cX9_dune 12 = .ok (.if_icmp .le 5, 3) := by decide +kernel
theorem dX9_dune_15 : decode cX9_dune 15 = .ok (.iconst (-1), 1) := by decide +kernel
theorem dX9_dune_16 : decode cX9_dune 16 = .ok (.ireturn, 1) := by decide +kernel
theorem dX9_dune_17 : decode cX9_dune 17 = .ok (.aload_n 0, 1) := by decide +kernel
theorem dX9_dune_18 : decode cX9_dune 18 = .ok (.getfield 78, 3) := by decide +kernel
theorem dX9_dune_21 : decode cX9_dune 21 = .ok (.aload_n 0, 1) := by decide +kernel
theorem dX9_dune_22 : decode cX9_dune 22 = .ok (.getfield 39, 3) := by decide +kernel
theorem dX9_dune_25 : decode cX9_dune 25 = .ok (.getfield 152, 3) := by decide +kernel
theorem dX9_dune_28 : decode cX9_dune 28 = .ok (.iload_n 1, 1) := by decide +kernel
theorem dX9_dune_29 : decode cX9_dune 29 = .ok (.invokevirtual 274, 3) := by decide +kernel
theorem dX9_dune_32 : decode cX9_dune 32 = .ok (.iload_n 2, 1) := by decide +kernel
theorem dX9_dune_33 : decode cX9_dune 33 = .ok (.ifCond .lt 14, 3) := by decide +kernel
theorem dX9_dune_36 : decode cX9_dune 36 = .ok (.iload_n 2, 1) := by decide +kernel
theorem dX9_dune_37 : decode cX9_dune 37 = .ok (.aload_n 0, 1) := by decide +kernel
theorem dX9_dune_38 : decode cX9_dune 38 = .ok (.getfield 78, 3) := by decide +kernel
theorem dX9_dune_41 : decode cX9_dune 41 = .ok (.getfield 278, 3) := by decide +kernel
theorem dX9_dune_44 : decode cX9_dune 44 = .ok (.if_icmp .lt 5, 3) := by decide +kernel
theorem dX9_dune_47 : decode cX9_dune 47 = .ok (.iconst (-1), 1) := by decide +kernel
theorem dX9_dune_48 : decode cX9_dune 48 = .ok (.ireturn, 1) := by decide +kernel
theorem dX9_dune_49 : decode cX9_dune 49 = .ok (.iload_n 3, 1) := by decide +kernel
theorem dX9_dune_50 : decode cX9_dune 50 = .ok (.tableswitch 95 0 5 #[38, 47, 56, 62, 76, 82], 38) := by decide +kernel
theorem dX9_dune_88 : decode cX9_dune 88 = .ok (.aload_n 0, 1) := by decide +kernel
theorem dX9_dune_89 : decode cX9_dune 89 = .ok (.getfield 78, 3) := by decide +kernel
theorem dX9_dune_92 : decode cX9_dune 92 = .ok (.iload_n 2, 1) := by decide +kernel
theorem dX9_dune_93 : decode cX9_dune 93 = .ok (.invokevirtual 279, 3) := by decide +kernel
theorem dX9_dune_96 : decode cX9_dune 96 = .ok (.ireturn, 1) := by decide +kernel
theorem dX9_dune_97 : decode cX9_dune 97 = .ok (.aload_n 0, 1) := by decide +kernel
theorem dX9_dune_98 : decode cX9_dune 98 = .ok (.getfield 78, 3) := by decide +kernel
theorem dX9_dune_101 : decode cX9_dune 101 = .ok (.iload_n 2, 1) := by decide +kernel
theorem dX9_dune_102 : decode cX9_dune 102 = .ok (.invokevirtual 282, 3) := by decide +kernel
theorem dX9_dune_105 : decode cX9_dune 105 = .ok (.ireturn, 1) := by decide +kernel
theorem dX9_dune_106 : decode cX9_dune 106 = .ok (.aload_n 0, 1) := by decide +kernel
theorem dX9_dune_107 : decode cX9_dune 107 = .ok (.iload_n 2, 1) := by decide +kernel
theorem dX9_dune_108 : decode cX9_dune 108 = .ok (.invokevirtual 285, 3) := by decide +kernel
theorem dX9_dune_111 : decode cX9_dune 111 = .ok (.ireturn, 1) := by decide +kernel
theorem dX9_dune_112 : decode cX9_dune 112 = .ok (.aload_n 0, 1) := by decide +kernel
theorem dX9_dune_113 : decode cX9_dune 113 = .ok (.getfield 39, 3) := by decide +kernel
theorem dX9_dune_116 : decode cX9_dune 116 = .ok (.getfield 152, 3) := by decide +kernel
theorem dX9_dune_119 : decode cX9_dune 119 = .ok (.aload_n 0, 1) := by decide +kernel
theorem dX9_dune_120 : decode cX9_dune 120 = .ok (.iload_n 2, 1) := by decide +kernel
theorem dX9_dune_121 : decode cX9_dune 121 = .ok (.invokevirtual 288, 3) := by decide +kernel
theorem dX9_dune_124 : decode cX9_dune 124 = .ok (.iaload, 1) := by decide +kernel
theorem dX9_dune_125 : decode cX9_dune 125 = .ok (.ireturn, 1) := by decide +kernel
theorem dX9_dune_126 : decode cX9_dune 126 = .ok (.aload_n 0, 1) := by decide +kernel
theorem dX9_dune_127 : decode cX9_dune 127 = .ok (.iload_n 2, 1) := by decide +kernel
theorem dX9_dune_128 : decode cX9_dune 128 = .ok (.invokevirtual 288, 3) := by decide +kernel
theorem dX9_dune_131 : decode cX9_dune 131 = .ok (.ireturn, 1) := by decide +kernel
theorem dX9_dune_132 : decode cX9_dune 132 = .ok (.aload_n 0, 1) := by decide +kernel
theorem dX9_dune_133 : decode cX9_dune 133 = .ok (.iload_n 2, 1) := by decide +kernel
theorem dX9_dune_134 : decode cX9_dune 134 = .ok (.aload_n 0, 1) := by decide +kernel
theorem dX9_dune_135 : decode cX9_dune 135 = .ok (.getfield 28, 3) := by decide +kernel
theorem dX9_dune_138 : decode cX9_dune 138 = .ok (.getfield 252, 3) := by decide +kernel
theorem dX9_dune_141 : decode cX9_dune 141 = .ok (.invokevirtual 291, 3) := by decide +kernel
theorem dX9_dune_144 : decode cX9_dune 144 = .ok (.ireturn, 1) := by decide +kernel
theorem dX9_dune_145 : decode cX9_dune 145 = .ok (.aload_n 0, 1) := by decide +kernel
theorem dX9_dune_146 : decode cX9_dune 146 = .ok (.iload_n 2, 1) := by decide +kernel
theorem dX9_dune_147 : decode cX9_dune 147 = .ok (.aload_n 0, 1) := by decide +kernel
theorem dX9_dune_148 : decode cX9_dune 148 = .ok (.getfield 28, 3) := by decide +kernel
theorem dX9_dune_151 : decode cX9_dune 151 = .ok (.getfield 255, 3) := by decide +kernel
theorem dX9_dune_154 : decode cX9_dune 154 = .ok (.invokevirtual 291, 3) := by decide +kernel
theorem dX9_dune_157 : decode cX9_dune 157 = .ok (.ireturn, 1) := by decide +kernel
set_option maxRecDepth 100000 in
theorem SX9_dune_0 {g : zG} {o : Bool} {M : zM} {q : Int → zM → Prop} {x1 x2 x3 : Int} (W : (-2147483648 ≤ x1 ∧ x1 ≤ 2147483647) ∧ ((x1 < 1) → q (-1) M) ∧ ((¬ (x1 < 1)) → (-2147483648 ≤ x3 ∧ x3 ≤ 2147483647) ∧ ((x3 < 0) → q (-1) M) ∧ ((¬ (x3 < 0)) → ((x3 ≤ 6) → ∃ q3 : zM → Prop, zKv g (z1 o) mX3_joinLevel [zA g 127, zA g 25, zI x1] M q3 ∧ ∀ M5 : zM, q3 M5 → (-2147483648 ≤ x2 ∧ x2 ≤ 2147483647) ∧ ((x2 < 0) → q (-1) M5) ∧ ((¬ (x2 < 0)) → (-2147483648 ≤ (M5 127 5) ∧ (M5 127 5) ≤ 2147483647) ∧ ((x2 < (M5 127 5)) → (x3 = 0 → ∃ q10 : Int → zM → Prop, zKi g (z1 o) mX3_firstCell [zA g 127, zI x2] M5 q10 ∧ ∀ (r11 : Int) (M12 : zM), q10 r11 M12 → q r11 M12) ∧ (x3 = 1 → ∃ q15 : Int → zM → Prop, zKi g (z1 o) mX3_size [zA g 127, zI x2] M5 q15 ∧ ∀ (r16 : Int) (M17 : zM), q15 r16 M17 → q r16 M17) ∧ (x3 = 2 → ∃ q20 : Int → zM → Prop, zKi g (z1 o) mX9_slabsOf [zA g 1, zI x2] M5 q20 ∧ ∀ (r21 : Int) (M22 : zM), q20 r21 M22 → q r21 M22) ∧ (x3 = 3 → ∃ q25 : Int → zM → Prop, zKi g (z1 o) mX9_peakOf [zA g 1, zI x2] M5 q25 ∧ ∀ (r26 : Int) (M27 : zM), q25 r26 M27 → (0 ≤ r26 ∧ r26 < 96) ∧ q (M27 25 r26) M27) ∧ (x3 = 4 → ∃ q31 : Int → zM → Prop, zKi g (z1 o) mX9_peakOf [zA g 1, zI x2] M5 q31 ∧ ∀ (r32 : Int) (M33 : zM), q31 r32 M33 → q r32 M33) ∧ (x3 = 5 → ∃ q36 : Int → zM → Prop, zKi g (z1 o) mX9_linesOf [zA g 1, zI x2, zA g 15] M5 q36 ∧ ∀ (r37 : Int) (M38 : zM), q36 r37 M38 → q r37 M38) ∧ (x3 < 0 ∨ 5 < x3 → ∃ q41 : Int → zM → Prop, zKi g (z1 o) mX9_linesOf [zA g 1, zI x2, zA g 16] M5 q41 ∧ ∀ (r42 : Int) (M43 : zM), q41 r42 M43 → q r42 M43)) ∧ ((¬ (x2 < (M5 127 5))) → q (-1) M5))) ∧ ((¬ (x3 ≤ 6)) → q (-1) M)))) : zT g (z1 o) mX9_dune (zQi (z1 o) q) 0 [(0, zA g 1), (1, zI x1), (2, zI x2), (3, zI x3)] [] M := by
  refine zr_iload_n 1 dX9_dune_0 rfl ?_
  refine zr_iconst dX9_dune_1 ?_
  obtain ⟨c1, W⟩ := W
  refine zr_icmp_lt (tgt := 15) dX9_dune_2 (by decide) c1 ⟨by decide, by decide⟩ (fun h => ?_) (fun h => ?_)
  · have W := W.1 h
    refine zr_iconst dX9_dune_15 ?_
    exact zt_iret dX9_dune_16 rfl W
  · have W := W.2 h
    refine zr_iload_n 3 dX9_dune_5 rfl ?_
    obtain ⟨c2, W⟩ := W
    refine zr_if_lt (tgt := 15) dX9_dune_6 (by decide) c2 (fun h => ?_) (fun h => ?_)
    · have W := W.1 h
      refine zr_iconst dX9_dune_15 ?_
      exact zt_iret dX9_dune_16 rfl W
    · have W := W.2 h
      refine zr_iload_n 3 dX9_dune_9 rfl ?_
      refine zr_bipush dX9_dune_10 (by decide) ?_
      refine zr_icmp_le (tgt := 17) dX9_dune_12 (by decide) c2 ⟨by decide, by decide⟩ (fun h => ?_) (fun h => ?_)
      · have W := W.1 h
        refine zr_aload_n 0 dX9_dune_17 rfl ?_
        refine zr_getr (b := 127) dX9_dune_18 fX9_78 rfl rfl rfl (by decide) ?_
        refine zr_aload_n 0 dX9_dune_21 rfl ?_
        refine zr_getr (b := 24) dX9_dune_22 fX9_39 rfl rfl rfl (by decide) ?_
        refine zr_getr (b := 25) dX9_dune_25 fX9_152 rfl rfl rfl (by decide) ?_
        refine zr_iload_n 1 dX9_dune_28 rfl ?_
        obtain ⟨q3, k7, W⟩ := W
        refine zt_callVv (As := [zA g 25, zI x1]) (rest := []) dX9_dune_29 kX9_dune_274 rfl rfl rfl rfl (Nat.le_of_ble_eq_true rfl) k7 (fun M5 h6 => ?_)
        have W := W M5 h6
        refine zr_iload_n 2 dX9_dune_32 rfl ?_
        obtain ⟨c8, W⟩ := W
        refine zr_if_lt (tgt := 47) dX9_dune_33 (by decide) c8 (fun h => ?_) (fun h => ?_)
        · have W := W.1 h
          refine zr_iconst dX9_dune_47 ?_
          exact zt_iret dX9_dune_48 rfl W
        · have W := W.2 h
          refine zr_iload_n 2 dX9_dune_36 rfl ?_
          refine zr_aload_n 0 dX9_dune_37 rfl ?_
          refine zr_getr (b := 127) dX9_dune_38 fX9_78 rfl rfl rfl (by decide) ?_
          refine zt_geti 5 rfl dX9_dune_41 fX9_278 rfl (by decide) ?_
          obtain ⟨c9, W⟩ := W
          refine zr_icmp_lt (tgt := 49) dX9_dune_44 (by decide) c8 c9 (fun h => ?_) (fun h => ?_)
          · have W := W.1 h
            refine zr_iload_n 3 dX9_dune_49 rfl ?_
            by_cases e0 : x3 = 0
            · have W := W.1 e0
              refine zr_tin (tgt := 88) dX9_dune_50 c2 (by omega) (by omega) (by rw [e0]; rfl) (by decide) ?_
              refine zr_aload_n 0 dX9_dune_88 rfl ?_
              refine zr_getr (b := 127) dX9_dune_89 fX9_78 rfl rfl rfl (by decide) ?_
              refine zr_iload_n 2 dX9_dune_92 rfl ?_
              obtain ⟨q10, k14, W⟩ := W
              refine zt_callVi (As := [zI x2]) (rest := []) dX9_dune_93 kX9_dune_279 rfl rfl rfl rfl (Nat.le_of_ble_eq_true rfl) k14 (fun r11 M12 h13 => ?_)
              have W := W r11 M12 h13
              exact zt_iret dX9_dune_96 rfl W
            by_cases e1 : x3 = 1
            · have W := W.2.1 e1
              refine zr_tin (tgt := 97) dX9_dune_50 c2 (by omega) (by omega) (by rw [e1]; rfl) (by decide) ?_
              refine zr_aload_n 0 dX9_dune_97 rfl ?_
              refine zr_getr (b := 127) dX9_dune_98 fX9_78 rfl rfl rfl (by decide) ?_
              refine zr_iload_n 2 dX9_dune_101 rfl ?_
              obtain ⟨q15, k19, W⟩ := W
              refine zt_callVi (As := [zI x2]) (rest := []) dX9_dune_102 kX9_dune_282 rfl rfl rfl rfl (Nat.le_of_ble_eq_true rfl) k19 (fun r16 M17 h18 => ?_)
              have W := W r16 M17 h18
              exact zt_iret dX9_dune_105 rfl W
            by_cases e2 : x3 = 2
            · have W := W.2.2.1 e2
              refine zr_tin (tgt := 106) dX9_dune_50 c2 (by omega) (by omega) (by rw [e2]; rfl) (by decide) ?_
              refine zr_aload_n 0 dX9_dune_106 rfl ?_
              refine zr_iload_n 2 dX9_dune_107 rfl ?_
              obtain ⟨q20, k24, W⟩ := W
              refine zt_callVi (As := [zI x2]) (rest := []) dX9_dune_108 kX9_dune_285 rfl rfl rfl rfl (Nat.le_of_ble_eq_true rfl) k24 (fun r21 M22 h23 => ?_)
              have W := W r21 M22 h23
              exact zt_iret dX9_dune_111 rfl W
            by_cases e3 : x3 = 3
            · have W := W.2.2.2.1 e3
              refine zr_tin (tgt := 112) dX9_dune_50 c2 (by omega) (by omega) (by rw [e3]; rfl) (by decide) ?_
              refine zr_aload_n 0 dX9_dune_112 rfl ?_
              refine zr_getr (b := 24) dX9_dune_113 fX9_39 rfl rfl rfl (by decide) ?_
              refine zr_getr (b := 25) dX9_dune_116 fX9_152 rfl rfl rfl (by decide) ?_
              refine zr_aload_n 0 dX9_dune_119 rfl ?_
              refine zr_iload_n 2 dX9_dune_120 rfl ?_
              obtain ⟨q25, k29, W⟩ := W
              refine zt_callVi (As := [zI x2]) (rest := [zA g 25]) dX9_dune_121 kX9_dune_288 rfl rfl rfl rfl (Nat.le_of_ble_eq_true rfl) k29 (fun r26 M27 h28 => ?_)
              have W := W r26 M27 h28
              obtain ⟨c30, W⟩ := W
              refine zr_iald dX9_dune_124 rfl (by decide) c30 ?_
              exact zt_iret dX9_dune_125 rfl W
            by_cases e4 : x3 = 4
            · have W := W.2.2.2.2.1 e4
              refine zr_tin (tgt := 126) dX9_dune_50 c2 (by omega) (by omega) (by rw [e4]; rfl) (by decide) ?_
              refine zr_aload_n 0 dX9_dune_126 rfl ?_
              refine zr_iload_n 2 dX9_dune_127 rfl ?_
              obtain ⟨q31, k35, W⟩ := W
              refine zt_callVi (As := [zI x2]) (rest := []) dX9_dune_128 kX9_dune_288 rfl rfl rfl rfl (Nat.le_of_ble_eq_true rfl) k35 (fun r32 M33 h34 => ?_)
              have W := W r32 M33 h34
              exact zt_iret dX9_dune_131 rfl W
            by_cases e5 : x3 = 5
            · have W := W.2.2.2.2.2.1 e5
              refine zr_tin (tgt := 132) dX9_dune_50 c2 (by omega) (by omega) (by rw [e5]; rfl) (by decide) ?_
              refine zr_aload_n 0 dX9_dune_132 rfl ?_
              refine zr_iload_n 2 dX9_dune_133 rfl ?_
              refine zr_aload_n 0 dX9_dune_134 rfl ?_
              refine zr_getr (b := 14) dX9_dune_135 fX9_28 rfl rfl rfl (by decide) ?_
              refine zr_getr (b := 15) dX9_dune_138 fX9_252 rfl rfl rfl (by decide) ?_
              obtain ⟨q36, k40, W⟩ := W
              refine zt_callVi (As := [zI x2, zA g 15]) (rest := []) dX9_dune_141 kX9_dune_291 rfl rfl rfl rfl (Nat.le_of_ble_eq_true rfl) k40 (fun r37 M38 h39 => ?_)
              have W := W r37 M38 h39
              exact zt_iret dX9_dune_144 rfl W
            have W := W.2.2.2.2.2.2 (by omega)
            refine zr_tout (tgt := 145) dX9_dune_50 c2 (by omega) (by decide) ?_
            refine zr_aload_n 0 dX9_dune_145 rfl ?_
            refine zr_iload_n 2 dX9_dune_146 rfl ?_
            refine zr_aload_n 0 dX9_dune_147 rfl ?_
            refine zr_getr (b := 14) dX9_dune_148 fX9_28 rfl rfl rfl (by decide) ?_
            refine zr_getr (b := 16) dX9_dune_151 fX9_255 rfl rfl rfl (by decide) ?_
            obtain ⟨q41, k45, W⟩ := W
            refine zt_callVi (As := [zI x2, zA g 16]) (rest := []) dX9_dune_154 kX9_dune_291 rfl rfl rfl rfl (Nat.le_of_ble_eq_true rfl) k45 (fun r42 M43 h44 => ?_)
            have W := W r42 M43 h44
            exact zt_iret dX9_dune_157 rfl W
          · have W := W.2 h
            refine zr_iconst dX9_dune_47 ?_
            exact zt_iret dX9_dune_48 rfl W
      · have W := W.2 h
        refine zr_iconst dX9_dune_15 ?_
        exact zt_iret dX9_dune_16 rfl W
theorem dX9_linesOf_0 : decode cX9_linesOf 0 = .ok (.aload_n 0, 1) := by decide +kernel
theorem dX9_linesOf_1 : decode cX9_linesOf 1 = .ok (.getfield 93, 3) := by decide +kernel
theorem dX9_linesOf_4 : decode cX9_linesOf 4 = .ok (.iconst 0, 1) := by decide +kernel
theorem dX9_linesOf_5 : decode cX9_linesOf 5 = .ok (.invokestatic 298, 3) := by decide +kernel
theorem dX9_linesOf_8 : decode cX9_linesOf 8 = .ok (.iconst 0, 1) := by decide +kernel
theorem dX9_linesOf_9 : decode cX9_linesOf 9 = .ok (.istore_n 3, 1) := by decide +kernel
theorem dX9_linesOf_10 : decode cX9_linesOf 10 = .ok (.iconst 0, 1) := by decide +kernel
theorem dX9_linesOf_11 : decode cX9_linesOf 11 = .ok (.istore 4, 2) := by decide +kernel
theorem dX9_linesOf_13 : decode cX9_linesOf 13 = .ok (.iload 4, 2) := by decide +kernel
theorem dX9_linesOf_15 : decode cX9_linesOf 15 = .ok (.aload_n 0, 1) := by decide +kernel
theorem dX9_linesOf_16 : decode cX9_linesOf 16 = .ok (.getfield 28, 3) := by decide +kernel
theorem dX9_linesOf_19 : decode cX9_linesOf 19 = .ok (.getfield 120, 3) := by decide +kernel
theorem dX9_linesOf_22 : decode cX9_linesOf 22 = .ok (.if_icmp .ge 48, 3) := by decide +kernel
theorem dX9_linesOf_25 : decode cX9_linesOf 25 = .ok (.aload_n 0, 1) := by decide +kernel
theorem dX9_linesOf_26 : decode cX9_linesOf 26 = .ok (.getfield 78, 3) := by decide +kernel
theorem dX9_linesOf_29 : decode cX9_linesOf 29 = .ok (.getfield 295, 3) := by decide +kernel
theorem dX9_linesOf_32 : decode cX9_linesOf 32 = .ok (.iload 4, 2) := by decide +kernel
theorem dX9_linesOf_34 : decode cX9_linesOf 34 = .ok (.iaload, 1) := by decide +kernel
theorem dX9_linesOf_35 : decode cX9_linesOf 35 = .ok (.iload_n 1, 1) := by decide +kernel
theorem dX9_linesOf_36 : decode cX9_linesOf 36 = .ok (.if_icmp .ne 28, 3) := by decide +kernel
theorem dX9_linesOf_39 : decode cX9_linesOf 39 = .ok (.aload_n 0, 1) := by decide +kernel
theorem dX9_linesOf_40 : decode cX9_linesOf 40 = .ok (.getfield 93, 3) := by decide +kernel
theorem dX9_linesOf_43 : decode cX9_linesOf 43 = .ok (.aload_n 2, 1) := by decide +kernel
theorem dX9_linesOf_44 : decode cX9_linesOf 44 = .ok (.iload 4, 2) := by decide +kernel
theorem dX9_linesOf_46 : decode cX9_linesOf 46 = .ok (.iaload, 1) := by decide +kernel
theorem dX9_linesOf_47 : decode cX9_linesOf 47 = .ok (.iaload, 1) := by decide +kernel
theorem dX9_linesOf_48 : decode cX9_linesOf 48 = .ok (.ifCond .ne 16, 3) := by decide +kernel
theorem dX9_linesOf_51 : decode cX9_linesOf 51 = .ok (.aload_n 0, 1) := by decide +kernel
theorem dX9_linesOf_52 : decode cX9_linesOf 52 = .ok (.getfield 93, 3) := by decide +kernel
theorem dX9_linesOf_55 : decode cX9_linesOf 55 = .ok (.aload_n 2, 1) := by decide +kernel
theorem dX9_linesOf_56 : decode cX9_linesOf 56 = .ok (.iload 4, 2) := by decide +kernel
theorem dX9_linesOf_58 : decode cX9_linesOf 58 = .ok (.iaload, 1) := by decide +kernel
theorem dX9_linesOf_59 : decode cX9_linesOf 59 = .ok (.iconst 1, 1) := by decide +kernel
theorem dX9_linesOf_60 : decode cX9_linesOf 60 = .ok (.iastore, 1) := by decide +kernel
theorem dX9_linesOf_61 : decode cX9_linesOf 61 = .ok (.iinc 3 1, 3) := by decide +kernel
theorem dX9_linesOf_64 : decode cX9_linesOf 64 = .ok (.iinc 4 1, 3) := by decide +kernel
theorem dX9_linesOf_67 : decode cX9_linesOf 67 = .ok (.goto (-54), 3) := by decide +kernel
theorem dX9_linesOf_70 : decode cX9_linesOf 70 = .ok (.iload_n 3, 1) := by decide +kernel
theorem dX9_linesOf_71 : decode cX9_linesOf 71 = .ok (.ireturn, 1) := by decide +kernel
set_option maxRecDepth 100000 in
theorem SX9_linesOf_0 {g : zG} {o : Bool} {h2 : Nat} (hh2 : zh (z1 o) h2 = (1, 96)) (hz2 : h2 ≠ 0) {M : zM} {q : Int → zM → Prop} {x1 : Int} (W : ∃ q1 : zM → Prop, zKv g (z1 o) mJ7_fill_53178 [zA g 149, zI 0] M q1 ∧ ∀ M3 : zM, q1 M3 → zT g (z1 o) mX9_linesOf (zQi (z1 o) q) 13 [(0, zA g 1), (1, zI x1), (2, zA g h2), (3, zI 0), (4, zI 0)] [] M3) : zT g (z1 o) mX9_linesOf (zQi (z1 o) q) 0 [(0, zA g 1), (1, zI x1), (2, zA g h2)] [] M := by
  refine zr_aload_n 0 dX9_linesOf_0 rfl ?_
  refine zr_getr (b := 149) dX9_linesOf_1 fX9_93 rfl rfl rfl (by decide) ?_
  refine zr_iconst dX9_linesOf_4 ?_
  obtain ⟨q1, k5, W⟩ := W
  refine zt_callSv (As := [zA g 149, zI 0]) (rest := []) dX9_linesOf_5 kX9_linesOf_298 rfl rfl (Nat.le_of_ble_eq_true rfl) k5 (fun M3 h4 => ?_)
  have W := W M3 h4
  refine zr_iconst dX9_linesOf_8 ?_
  refine zr_istore_n (l' := [(0, zA g 1), (1, zI x1), (2, zA g h2), (3, zI 0)]) dX9_linesOf_9 (by decide) [1, 2, 3, 0] rfl ?_
  refine zr_iconst dX9_linesOf_10 ?_
  refine zr_istore (l' := [(0, zA g 1), (1, zI x1), (2, zA g h2), (3, zI 0), (4, zI 0)]) dX9_linesOf_11 (by decide) [1, 2, 3, 4, 0] rfl ?_
  exact W
set_option maxRecDepth 100000 in
theorem SX9_linesOf_13 {g : zG} {o : Bool} {h2 : Nat} (hh2 : zh (z1 o) h2 = (1, 96)) (hz2 : h2 ≠ 0) {M : zM} {q : Int → zM → Prop} {x1 x3 x4 : Int} (W : (-2147483648 ≤ x4 ∧ x4 ≤ 2147483647) ∧ (-2147483648 ≤ (M 14 2) ∧ (M 14 2) ≤ 2147483647) ∧ (((M 14 2) ≤ x4) → q x3 M) ∧ ((¬ ((M 14 2) ≤ x4)) → (0 ≤ x4 ∧ x4 < 96) ∧ (-2147483648 ≤ (M 130 x4) ∧ (M 130 x4) ≤ 2147483647) ∧ (-2147483648 ≤ x1 ∧ x1 ≤ 2147483647) ∧ (((M 130 x4) ≠ x1) → zT g (z1 o) mX9_linesOf (zQi (z1 o) q) 13 [(0, zA g 1), (1, zI x1), (2, zA g h2), (3, zI x3), (4, zI (x4 + 1))] [] M) ∧ (((M 130 x4) = x1) → (0 ≤ (M h2 x4) ∧ (M h2 x4) < 96) ∧ (-2147483648 ≤ (M 149 (M h2 x4)) ∧ (M 149 (M h2 x4)) ≤ 2147483647) ∧ (((M 149 (M h2 x4)) ≠ 0) → zT g (z1 o) mX9_linesOf (zQi (z1 o) q) 13 [(0, zA g 1), (1, zI x1), (2, zA g h2), (3, zI x3), (4, zI (x4 + 1))] [] M) ∧ (((M 149 (M h2 x4)) = 0) → zT g (z1 o) mX9_linesOf (zQi (z1 o) q) 13 [(0, zA g 1), (1, zI x1), (2, zA g h2), (3, zI (x3 + 1)), (4, zI (x4 + 1))] [] (zu M 149 (M h2 x4) 1))))) : zT g (z1 o) mX9_linesOf (zQi (z1 o) q) 13 [(0, zA g 1), (1, zI x1), (2, zA g h2), (3, zI x3), (4, zI x4)] [] M := by
  refine zr_iload 4 dX9_linesOf_13 rfl ?_
  refine zr_aload_n 0 dX9_linesOf_15 rfl ?_
  refine zr_getr (b := 14) dX9_linesOf_16 fX9_28 rfl rfl rfl (by decide) ?_
  refine zt_geti 2 rfl dX9_linesOf_19 fX9_120 rfl (by decide) ?_
  obtain ⟨c1, W⟩ := W
  obtain ⟨c2, W⟩ := W
  refine zr_icmp_ge (tgt := 70) dX9_linesOf_22 (by decide) c1 c2 (fun h => ?_) (fun h => ?_)
  · have W := W.1 h
    refine zr_iload_n 3 dX9_linesOf_70 rfl ?_
    exact zt_iret dX9_linesOf_71 rfl W
  · have W := W.2 h
    refine zr_aload_n 0 dX9_linesOf_25 rfl ?_
    refine zr_getr (b := 127) dX9_linesOf_26 fX9_78 rfl rfl rfl (by decide) ?_
    refine zr_getr (b := 130) dX9_linesOf_29 fX9_295 rfl rfl rfl (by decide) ?_
    refine zr_iload 4 dX9_linesOf_32 rfl ?_
    obtain ⟨c3, W⟩ := W
    refine zr_iald dX9_linesOf_34 rfl (by decide) c3 ?_
    refine zr_iload_n 1 dX9_linesOf_35 rfl ?_
    obtain ⟨c4, W⟩ := W
    obtain ⟨c5, W⟩ := W
    refine zr_icmp_ne (tgt := 64) dX9_linesOf_36 (by decide) c4 c5 (fun h => ?_) (fun h => ?_)
    · have W := W.1 h
      refine zr_iinc (q := 4) (l' := [(0, zA g 1), (1, zI x1), (2, zA g h2), (3, zI x3), (4, zI (x4 + 1))]) dX9_linesOf_64 rfl (by decide) [1, 2, 3, 4, 0] rfl ?_
      refine zr_goto (tgt := 13) dX9_linesOf_67 (by decide) ?_
      exact W
    · have W := W.2 h
      refine zr_aload_n 0 dX9_linesOf_39 rfl ?_
      refine zr_getr (b := 149) dX9_linesOf_40 fX9_93 rfl rfl rfl (by decide) ?_
      refine zr_aload_n 2 dX9_linesOf_43 rfl ?_
      refine zr_iload 4 dX9_linesOf_44 rfl ?_
      refine zr_iald dX9_linesOf_46 hh2 (by decide) c3 ?_
      obtain ⟨c6, W⟩ := W
      refine zr_iald dX9_linesOf_47 rfl (by decide) c6 ?_
      obtain ⟨c7, W⟩ := W
      refine zr_if_ne (tgt := 64) dX9_linesOf_48 (by decide) c7 (fun h => ?_) (fun h => ?_)
      · have W := W.1 h
        refine zr_iinc (q := 4) (l' := [(0, zA g 1), (1, zI x1), (2, zA g h2), (3, zI x3), (4, zI (x4 + 1))]) dX9_linesOf_64 rfl (by decide) [1, 2, 3, 4, 0] rfl ?_
        refine zr_goto (tgt := 13) dX9_linesOf_67 (by decide) ?_
        exact W
      · have W := W.2 h
        refine zr_aload_n 0 dX9_linesOf_51 rfl ?_
        refine zr_getr (b := 149) dX9_linesOf_52 fX9_93 rfl rfl rfl (by decide) ?_
        refine zr_aload_n 2 dX9_linesOf_55 rfl ?_
        refine zr_iload 4 dX9_linesOf_56 rfl ?_
        refine zr_iald dX9_linesOf_58 hh2 (by decide) c3 ?_
        refine zr_iconst dX9_linesOf_59 ?_
        refine zr_iast dX9_linesOf_60 rfl (by decide) c6 ?_
        refine zr_iinc (q := 3) (l' := [(0, zA g 1), (1, zI x1), (2, zA g h2), (3, zI (x3 + 1)), (4, zI x4)]) dX9_linesOf_61 rfl (by decide) [1, 2, 3, 0, 4] rfl ?_
        refine zr_iinc (q := 4) (l' := [(0, zA g 1), (1, zI x1), (2, zA g h2), (3, zI (x3 + 1)), (4, zI (x4 + 1))]) dX9_linesOf_64 rfl (by decide) [1, 2, 3, 4, 0] rfl ?_
        refine zr_goto (tgt := 13) dX9_linesOf_67 (by decide) ?_
        exact W
theorem dX10_dunesNow_0 : decode cX10_dunesNow 0 = .ok (.aload_n 0, 1) := by decide +kernel
theorem dX10_dunesNow_1 : decode cX10_dunesNow 1 = .ok (.aload_n 0, 1) := by decide +kernel
theorem dX10_dunesNow_2 : decode cX10_dunesNow 2 = .ok (.getfield 42, 3) := by decide +kernel
theorem dX10_dunesNow_5 : decode cX10_dunesNow 5 = .ok (.iconst 0, 1) := by decide +kernel
theorem dX10_dunesNow_6 : decode cX10_dunesNow 6 = .ok (.iload_n 1, 1) := by decide +kernel
theorem dX10_dunesNow_7 : decode cX10_dunesNow 7 = .ok (.aload_n 0, 1) := by decide +kernel
theorem dX10_dunesNow_8 : decode cX10_dunesNow 8 = .ok (.getfield 54, 3) := by decide +kernel
theorem dX10_dunesNow_11 : decode cX10_dunesNow 11 = .ok (.invokevirtual 393, 3) := by decide +kernel
theorem dX10_dunesNow_14 : decode cX10_dunesNow 14 = .ok (.ireturn, 1) := by decide +kernel
set_option maxRecDepth 100000 in
theorem SX10_dunesNow_0 {g : zG} {o : Bool} {M : zM} {q : Int → zM → Prop} {x1 : Int} (W : ∃ q1 : Int → zM → Prop, zKi g (z2 o) mX10_laysDunes [zA g 1, zA g 10, zI 0, zI x1, zA g 13] M q1 ∧ ∀ (r2 : Int) (M3 : zM), q1 r2 M3 → q r2 M3) : zT g (z2 o) mX10_dunesNow (zQi (z2 o) q) 0 [(0, zA g 1), (1, zI x1)] [] M := by
  refine zr_aload_n 0 dX10_dunesNow_0 rfl ?_
  refine zr_aload_n 0 dX10_dunesNow_1 rfl ?_
  refine zr_getr (b := 10) dX10_dunesNow_2 fX10_42 rfl rfl rfl (by decide) ?_
  refine zr_iconst dX10_dunesNow_5 ?_
  refine zr_iload_n 1 dX10_dunesNow_6 rfl ?_
  refine zr_aload_n 0 dX10_dunesNow_7 rfl ?_
  refine zr_getr (b := 13) dX10_dunesNow_8 fX10_54 rfl rfl rfl (by decide) ?_
  obtain ⟨q1, k5, W⟩ := W
  refine zt_callVi (As := [zA g 10, zI 0, zI x1, zA g 13]) (rest := []) dX10_dunesNow_11 kX10_dunesNow_393 rfl rfl rfl rfl (Nat.le_of_ble_eq_true rfl) k5 (fun r2 M3 h4 => ?_)
  have W := W r2 M3 h4
  exact zt_iret dX10_dunesNow_14 rfl W
theorem dX10_dunes_0 : decode cX10_dunes 0 = .ok (.iload_n 1, 1) := by decide +kernel
theorem dX10_dunes_1 : decode cX10_dunes 1 = .ok (.iconst 1, 1) := by decide +kernel
theorem dX10_dunes_2 : decode cX10_dunes 2 = .ok (.if_icmp .ge 7, 3) := by decide +kernel
theorem dX10_dunes_5 : decode cX10_dunes 5 = .ok (.iconst (-1), 1) := by decide +kernel
theorem dX10_dunes_6 : decode cX10_dunes 6 = .ok (.goto 8, 3) := by decide +kernel
theorem dX10_dunes_9 : decode cX10_dunes 9 = .ok (.aload_n 0, 1) := by decide +kernel
theorem dX10_dunes_10 : decode cX10_dunes 10 = .ok (.iload_n 1, 1) := by decide +kernel
theorem dX10_dunes_11 : decode cX10_dunes 11 = .ok (.invokevirtual 397, 3) := by decide +kernel
theorem dX10_dunes_14 : decode cX10_dunes 14 = .ok (.ireturn, 1) := by decide +kernel
set_option maxRecDepth 100000 in
theorem SX10_dunes_0 {g : zG} {o : Bool} {M : zM} {q : Int → zM → Prop} {x1 : Int} (W : (-2147483648 ≤ x1 ∧ x1 ≤ 2147483647) ∧ ((1 ≤ x1) → ∃ q2 : Int → zM → Prop, zKi g (z2 o) mX10_dunesNow [zA g 1, zI x1] M q2 ∧ ∀ (r3 : Int) (M4 : zM), q2 r3 M4 → q r3 M4) ∧ ((¬ (1 ≤ x1)) → q (-1) M)) : zT g (z2 o) mX10_dunes (zQi (z2 o) q) 0 [(0, zA g 1), (1, zI x1)] [] M := by
  refine zr_iload_n 1 dX10_dunes_0 rfl ?_
  refine zr_iconst dX10_dunes_1 ?_
  obtain ⟨c1, W⟩ := W
  refine zr_icmp_ge (tgt := 9) dX10_dunes_2 (by decide) c1 ⟨by decide, by decide⟩ (fun h => ?_) (fun h => ?_)
  · have W := W.1 h
    refine zr_aload_n 0 dX10_dunes_9 rfl ?_
    refine zr_iload_n 1 dX10_dunes_10 rfl ?_
    obtain ⟨q2, k6, W⟩ := W
    refine zt_callVi (As := [zI x1]) (rest := []) dX10_dunes_11 kX10_dunes_397 rfl rfl rfl rfl (Nat.le_of_ble_eq_true rfl) k6 (fun r3 M4 h5 => ?_)
    have W := W r3 M4 h5
    exact zt_iret dX10_dunes_14 rfl W
  · have W := W.2 h
    refine zr_iconst dX10_dunes_5 ?_
    refine zr_goto (tgt := 14) dX10_dunes_6 (by decide) ?_
    exact zt_iret dX10_dunes_14 rfl W
theorem dX10_hasIn_0 : decode cX10_hasIn 0 = .ok (.iconst 0, 1) := by decide +kernel
theorem dX10_hasIn_1 : decode cX10_hasIn 1 = .ok (.istore 4, 2) := by decide +kernel
theorem dX10_hasIn_3 : decode cX10_hasIn 3 = .ok (.iload 4, 2) := by decide +kernel
theorem dX10_hasIn_5 : decode cX10_hasIn 5 = .ok (.aload_n 0, 1) := by decide +kernel
theorem dX10_hasIn_6 : decode cX10_hasIn 6 = .ok (.invokevirtual 226, 3) := by decide +kernel
theorem dX10_hasIn_9 : decode cX10_hasIn 9 = .ok (.if_icmp .ge 47, 3) := by decide +kernel
theorem dX10_hasIn_12 : decode cX10_hasIn 12 = .ok (.aload_n 0, 1) := by decide +kernel
theorem dX10_hasIn_13 : decode cX10_hasIn 13 = .ok (.getfield 54, 3) := by decide +kernel
theorem dX10_hasIn_16 : decode cX10_hasIn 16 = .ok (.iload 4, 2) := by decide +kernel
theorem dX10_hasIn_18 : decode cX10_hasIn 18 = .ok (.iaload, 1) := by decide +kernel
theorem dX10_hasIn_19 : decode cX10_hasIn 19 = .ok (.iload_n 1, 1) := by decide +kernel
theorem dX10_hasIn_20 : decode cX10_hasIn 20 = .ok (.if_icmp .ne 30, 3) := by decide +kernel
theorem dX10_hasIn_23 : decode cX10_hasIn 23 = .ok (.iload_n 3, 1) := by decide +kernel
theorem dX10_hasIn_24 : decode cX10_hasIn 24 = .ok (.ifCond .eq 13, 3) := by decide +kernel
theorem dX10_hasIn_27 : decode cX10_hasIn 27 = .ok (.iload 4, 2) := by decide +kernel
theorem dX10_hasIn_29 : decode cX10_hasIn 29 = .ok (.aload_n 0, 1) := by decide +kernel
theorem dX10_hasIn_30 : decode cX10_hasIn 30 = .ok (.invokevirtual 255, 3) := by decide +kernel
theorem dX10_hasIn_33 : decode cX10_hasIn 33 = .ok (.irem, 1) := by decide +kernel
theorem dX10_hasIn_34 : decode cX10_hasIn 34 = .ok (.goto 10, 3) := by decide +kernel
theorem dX10_hasIn_37 : decode cX10_hasIn 37 = .ok (.iload 4, 2) := by decide +kernel
theorem dX10_hasIn_39 : decode cX10_hasIn 39 = .ok (.aload_n 0, 1) := by decide +kernel
theorem dX10_hasIn_40 : decode cX10_hasIn 40 = .ok (.invokevirtual 255, 3) := by decide +kernel
theorem dX10_hasIn_43 : decode cX10_hasIn 43 = .ok (.idiv, 1) := by decide +kernel
theorem dX10_hasIn_44 : decode cX10_hasIn 44 = .ok (.iload_n 2, 1) := by decide +kernel
theorem dX10_hasIn_45 : decode cX10_hasIn 45 = .ok (.if_icmp .ne 5, 3) := by decide +kernel
theorem dX10_hasIn_48 : decode cX10_hasIn 48 = .ok (.iconst 1, 1) := by decide +kernel
theorem dX10_hasIn_49 : decode cX10_hasIn 49 = .ok (.ireturn, 1) := by decide +kernel
theorem dX10_hasIn_50 : decode cX10_hasIn 50 = .ok (.iinc 4 1, 3) := by decide +kernel
theorem dX10_hasIn_53 : decode cX10_hasIn 53 = .ok (.goto (-50), 3) := by decide +kernel
theorem dX10_hasIn_56 : decode cX10_hasIn 56 = .ok (.iconst 0, 1) := by decide +kernel
theorem dX10_hasIn_57 : decode cX10_hasIn 57 = .ok (.ireturn, 1) := by decide +kernel
set_option maxRecDepth 100000 in
theorem SX10_hasIn_0 {g : zG} {o : Bool} {M : zM} {q : Int → zM → Prop} {x1 x2 x3 : Int} (W : zT g (z2 o) mX10_hasIn (zQi (z2 o) q) 3 [(0, zA g 1), (1, zI x1), (2, zI x2), (3, zI x3), (4, zI 0)] [] M) : zT g (z2 o) mX10_hasIn (zQi (z2 o) q) 0 [(0, zA g 1), (1, zI x1), (2, zI x2), (3, zI x3)] [] M := by
  refine zr_iconst dX10_hasIn_0 ?_
  refine zr_istore (l' := [(0, zA g 1), (1, zI x1), (2, zI x2), (3, zI x3), (4, zI 0)]) dX10_hasIn_1 (by decide) [1, 2, 3, 4, 0] rfl ?_
  exact W
set_option maxRecDepth 100000 in
theorem SX10_hasIn_3 {g : zG} {o : Bool} {C R : Int} {M : zM} {q : Int → zM → Prop} {x1 x2 x3 x4 : Int} (W : (zRf M C R) ∧ (-2147483648 ≤ x4 ∧ x4 ≤ 2147483647) ∧ (-2147483648 ≤ (C * R) ∧ (C * R) ≤ 2147483647) ∧ (((C * R) ≤ x4) → q 0 M) ∧ ((¬ ((C * R) ≤ x4)) → (0 ≤ x4 ∧ x4 < 96) ∧ (-2147483648 ≤ (M 13 x4) ∧ (M 13 x4) ≤ 2147483647) ∧ (-2147483648 ≤ x1 ∧ x1 ≤ 2147483647) ∧ (((M 13 x4) ≠ x1) → zT g (z2 o) mX10_hasIn (zQi (z2 o) q) 3 [(0, zA g 1), (1, zI x1), (2, zI x2), (3, zI x3), (4, zI (x4 + 1))] [] M) ∧ (((M 13 x4) = x1) → (-2147483648 ≤ x3 ∧ x3 ≤ 2147483647) ∧ ((x3 = 0) → (0 ≤ x4 ∧ x4 ≤ 2147483647) ∧ (0 < C ∧ C ≤ 2147483647) ∧ (-2147483648 ≤ (x4 / C) ∧ (x4 / C) ≤ 2147483647) ∧ (-2147483648 ≤ x2 ∧ x2 ≤ 2147483647) ∧ (((x4 / C) ≠ x2) → zT g (z2 o) mX10_hasIn (zQi (z2 o) q) 3 [(0, zA g 1), (1, zI x1), (2, zI x2), (3, zI x3), (4, zI (x4 + 1))] [] M) ∧ (((x4 / C) = x2) → q 1 M)) ∧ ((¬ (x3 = 0)) → (0 ≤ x4 ∧ x4 ≤ 2147483647) ∧ (0 < C ∧ C ≤ 2147483647) ∧ (-2147483648 ≤ (x4 % C) ∧ (x4 % C) ≤ 2147483647) ∧ (-2147483648 ≤ x2 ∧ x2 ≤ 2147483647) ∧ (((x4 % C) ≠ x2) → zT g (z2 o) mX10_hasIn (zQi (z2 o) q) 3 [(0, zA g 1), (1, zI x1), (2, zI x2), (3, zI x3), (4, zI (x4 + 1))] [] M) ∧ (((x4 % C) = x2) → q 1 M))))) : zT g (z2 o) mX10_hasIn (zQi (z2 o) q) 3 [(0, zA g 1), (1, zI x1), (2, zI x2), (3, zI x3), (4, zI x4)] [] M := by
  refine zr_iload 4 dX10_hasIn_3 rfl ?_
  refine zr_aload_n 0 dX10_hasIn_5 rfl ?_
  obtain ⟨c1, W⟩ := W
  refine zt_callVi (As := []) (rest := [zI x4]) dX10_hasIn_6 kX10_hasIn_226 rfl rfl rfl rfl (Nat.le_of_ble_eq_true rfl) (c_cells c1) (fun r2 N4 h3 => ?_)
  rw [h3.1, h3.2]
  obtain ⟨c5, W⟩ := W
  obtain ⟨c6, W⟩ := W
  refine zr_icmp_ge (tgt := 56) dX10_hasIn_9 (by decide) c5 c6 (fun h => ?_) (fun h => ?_)
  · have W := W.1 h
    refine zr_iconst dX10_hasIn_56 ?_
    exact zt_zret dX10_hasIn_57 rfl (by decide) W
  · have W := W.2 h
    refine zr_aload_n 0 dX10_hasIn_12 rfl ?_
    refine zr_getr (b := 13) dX10_hasIn_13 fX10_54 rfl rfl rfl (by decide) ?_
    refine zr_iload 4 dX10_hasIn_16 rfl ?_
    obtain ⟨c7, W⟩ := W
    refine zr_iald dX10_hasIn_18 rfl (by decide) c7 ?_
    refine zr_iload_n 1 dX10_hasIn_19 rfl ?_
    obtain ⟨c8, W⟩ := W
    obtain ⟨c9, W⟩ := W
    refine zr_icmp_ne (tgt := 50) dX10_hasIn_20 (by decide) c8 c9 (fun h => ?_) (fun h => ?_)
    · have W := W.1 h
      refine zr_iinc (q := 4) (l' := [(0, zA g 1), (1, zI x1), (2, zI x2), (3, zI x3), (4, zI (x4 + 1))]) dX10_hasIn_50 rfl (by decide) [1, 2, 3, 4, 0] rfl ?_
      refine zr_goto (tgt := 3) dX10_hasIn_53 (by decide) ?_
      exact W
    · have W := W.2 h
      refine zr_iload_n 3 dX10_hasIn_23 rfl ?_
      obtain ⟨c10, W⟩ := W
      refine zr_if_eq (tgt := 37) dX10_hasIn_24 (by decide) c10 (fun h => ?_) (fun h => ?_)
      · have W := W.1 h
        refine zr_iload 4 dX10_hasIn_37 rfl ?_
        refine zr_aload_n 0 dX10_hasIn_39 rfl ?_
        refine zt_callVi (As := []) (rest := [zI x4]) dX10_hasIn_40 kX10_hasIn_255 rfl rfl rfl rfl (Nat.le_of_ble_eq_true rfl) (c_columnsC c1) (fun r11 N13 h12 => ?_)
        rw [h12.1, h12.2]
        obtain ⟨c14, W⟩ := W
        obtain ⟨c15, W⟩ := W
        refine zr_idiv dX10_hasIn_43 c14 c15 ?_
        refine zr_iload_n 2 dX10_hasIn_44 rfl ?_
        obtain ⟨c16, W⟩ := W
        obtain ⟨c17, W⟩ := W
        refine zr_icmp_ne (tgt := 50) dX10_hasIn_45 (by decide) c16 c17 (fun h => ?_) (fun h => ?_)
        · have W := W.1 h
          refine zr_iinc (q := 4) (l' := [(0, zA g 1), (1, zI x1), (2, zI x2), (3, zI x3), (4, zI (x4 + 1))]) dX10_hasIn_50 rfl (by decide) [1, 2, 3, 4, 0] rfl ?_
          refine zr_goto (tgt := 3) dX10_hasIn_53 (by decide) ?_
          exact W
        · have W := W.2 h
          refine zr_iconst dX10_hasIn_48 ?_
          exact zt_zret dX10_hasIn_49 rfl (by decide) W
      · have W := W.2 h
        refine zr_iload 4 dX10_hasIn_27 rfl ?_
        refine zr_aload_n 0 dX10_hasIn_29 rfl ?_
        refine zt_callVi (As := []) (rest := [zI x4]) dX10_hasIn_30 kX10_hasIn_255 rfl rfl rfl rfl (Nat.le_of_ble_eq_true rfl) (c_columnsC c1) (fun r18 N20 h19 => ?_)
        rw [h19.1, h19.2]
        obtain ⟨c21, W⟩ := W
        obtain ⟨c22, W⟩ := W
        refine zr_irem dX10_hasIn_33 c21 c22 ?_
        refine zr_goto (tgt := 44) dX10_hasIn_34 (by decide) ?_
        refine zr_iload_n 2 dX10_hasIn_44 rfl ?_
        obtain ⟨c23, W⟩ := W
        obtain ⟨c24, W⟩ := W
        refine zr_icmp_ne (tgt := 50) dX10_hasIn_45 (by decide) c23 c24 (fun h => ?_) (fun h => ?_)
        · have W := W.1 h
          refine zr_iinc (q := 4) (l' := [(0, zA g 1), (1, zI x1), (2, zI x2), (3, zI x3), (4, zI (x4 + 1))]) dX10_hasIn_50 rfl (by decide) [1, 2, 3, 4, 0] rfl ?_
          refine zr_goto (tgt := 3) dX10_hasIn_53 (by decide) ?_
          exact W
        · have W := W.2 h
          refine zr_iconst dX10_hasIn_48 ?_
          exact zt_zret dX10_hasIn_49 rfl (by decide) W
theorem dX10_spanOf_0 : decode cX10_spanOf 0 = .ok (.iconst 0, 1) := by decide +kernel
theorem dX10_spanOf_1 : decode cX10_spanOf 1 = .ok (.istore_n 3, 1) := by decide +kernel
theorem dX10_spanOf_2 : decode cX10_spanOf 2 = .ok (.iconst 0, 1) := by decide +kernel
theorem dX10_spanOf_3 : decode cX10_spanOf 3 = .ok (.istore 4, 2) := by decide +kernel
theorem dX10_spanOf_5 : decode cX10_spanOf 5 = .ok (.iload 4, 2) := by decide +kernel
theorem dX10_spanOf_7 : decode cX10_spanOf 7 = .ok (.iload_n 2, 1) := by decide +kernel
theorem dX10_spanOf_8 : decode cX10_spanOf 8 = .ok (.ifCond .eq 10, 3) := by decide +kernel
theorem dX10_spanOf_11 : decode cX10_spanOf 11 = .ok (.aload_n 0, 1) := by decide +kernel
theorem dX10_spanOf_12 : decode cX10_spanOf 12 = .ok (.invokevirtual 255, 3) := by decide +kernel
theorem dX10_spanOf_15 : decode cX10_spanOf 15 = .ok (.goto 7, 3) := by decide +kernel
theorem dX10_spanOf_18 : decode cX10_spanOf 18 = .ok (.aload_n 0, 1) := by decide +kernel
theorem dX10_spanOf_19 : decode cX10_spanOf 19 = .ok (.invokevirtual 258, 3) := by decide +kernel
theorem dX10_spanOf_22 : decode cX10_spanOf 22 = .ok (.if_icmp .ge 23, 3) := by decide +kernel
theorem dX10_spanOf_25 : decode cX10_spanOf 25 = .ok (.iload_n 3, 1) := by decide +kernel
theorem dX10_spanOf_26 : decode cX10_spanOf 26 = .ok (.aload_n 0, 1) := by decide +kernel
theorem dX10_spanOf_27 : decode cX10_spanOf 27 = .ok (.iload_n 1, 1) := by decide +kernel
theorem dX10_spanOf_28 : decode cX10_spanOf 28 = .ok (.iload 4, 2) := by decide +kernel
theorem dX10_spanOf_30 : decode cX10_spanOf 30 = .ok (.iload_n 2, 1) := by decide +kernel
theorem dX10_spanOf_31 : decode cX10_spanOf 31 = .ok (.invokevirtual 400, 3) := by decide +kernel
theorem dX10_spanOf_34 : decode cX10_spanOf 34 = .ok (.invokestatic 317, 3) := by decide +kernel
theorem dX10_spanOf_37 : decode cX10_spanOf 37 = .ok (.iadd, 1) := by decide +kernel
theorem dX10_spanOf_38 : decode cX10_spanOf 38 = .ok (.istore_n 3, 1) := by decide +kernel
theorem dX10_spanOf_39 : decode cX10_spanOf 39 = .ok (.iinc 4 1, 3) := by decide +kernel
theorem dX10_spanOf_42 : decode cX10_spanOf 42 = .ok (.goto (-37), 3) := by decide +kernel
theorem dX10_spanOf_45 : decode cX10_spanOf 45 = .ok (.iload_n 3, 1) := by decide +kernel
theorem dX10_spanOf_46 : decode cX10_spanOf 46 = .ok (.ireturn, 1) := by decide +kernel
set_option maxRecDepth 100000 in
theorem SX10_spanOf_0 {g : zG} {o : Bool} {M : zM} {q : Int → zM → Prop} {x1 x2 : Int} (W : zT g (z2 o) mX10_spanOf (zQi (z2 o) q) 5 [(0, zA g 1), (1, zI x1), (2, zI x2), (3, zI 0), (4, zI 0)] [] M) : zT g (z2 o) mX10_spanOf (zQi (z2 o) q) 0 [(0, zA g 1), (1, zI x1), (2, zI x2)] [] M := by
  refine zr_iconst dX10_spanOf_0 ?_
  refine zr_istore_n (l' := [(0, zA g 1), (1, zI x1), (2, zI x2), (3, zI 0)]) dX10_spanOf_1 (by decide) [1, 2, 3, 0] rfl ?_
  refine zr_iconst dX10_spanOf_2 ?_
  refine zr_istore (l' := [(0, zA g 1), (1, zI x1), (2, zI x2), (3, zI 0), (4, zI 0)]) dX10_spanOf_3 (by decide) [1, 2, 3, 4, 0] rfl ?_
  exact W
set_option maxRecDepth 100000 in
theorem SX10_spanOf_5 {g : zG} {o : Bool} {C R : Int} {M : zM} {q : Int → zM → Prop} {x1 x2 x3 x4 : Int} (W : (-2147483648 ≤ x2 ∧ x2 ≤ 2147483647) ∧ ((x2 = 0) → (zRf M C R) ∧ (-2147483648 ≤ x4 ∧ x4 ≤ 2147483647) ∧ (-2147483648 ≤ R ∧ R ≤ 2147483647) ∧ ((R ≤ x4) → q x3 M) ∧ ((¬ (R ≤ x4)) → ∃ q8 : Int → zM → Prop, zKi g (z2 o) mX10_hasIn [zA g 1, zI x1, zI x4, zI x2] M q8 ∧ ∀ (r9 : Int) (M10 : zM), q8 r9 M10 → (r9 = 0 ∨ r9 = 1) ∧ zT g (z2 o) mX10_spanOf (zQi (z2 o) q) 5 [(0, zA g 1), (1, zI x1), (2, zI x2), (3, zI (x3 + r9)), (4, zI (x4 + 1))] [] M10)) ∧ ((¬ (x2 = 0)) → (zRf M C R) ∧ (-2147483648 ≤ x4 ∧ x4 ≤ 2147483647) ∧ (-2147483648 ≤ C ∧ C ≤ 2147483647) ∧ ((C ≤ x4) → q x3 M) ∧ ((¬ (C ≤ x4)) → ∃ q23 : Int → zM → Prop, zKi g (z2 o) mX10_hasIn [zA g 1, zI x1, zI x4, zI x2] M q23 ∧ ∀ (r24 : Int) (M25 : zM), q23 r24 M25 → (r24 = 0 ∨ r24 = 1) ∧ zT g (z2 o) mX10_spanOf (zQi (z2 o) q) 5 [(0, zA g 1), (1, zI x1), (2, zI x2), (3, zI (x3 + r24)), (4, zI (x4 + 1))] [] M25))) : zT g (z2 o) mX10_spanOf (zQi (z2 o) q) 5 [(0, zA g 1), (1, zI x1), (2, zI x2), (3, zI x3), (4, zI x4)] [] M := by
  refine zr_iload 4 dX10_spanOf_5 rfl ?_
  refine zr_iload_n 2 dX10_spanOf_7 rfl ?_
  obtain ⟨c1, W⟩ := W
  refine zr_if_eq (tgt := 18) dX10_spanOf_8 (by decide) c1 (fun h => ?_) (fun h => ?_)
  · have W := W.1 h
    refine zr_aload_n 0 dX10_spanOf_18 rfl ?_
    obtain ⟨c2, W⟩ := W
    refine zt_callVi (As := []) (rest := [zI x4]) dX10_spanOf_19 kX10_spanOf_258 rfl rfl rfl rfl (Nat.le_of_ble_eq_true rfl) (c_rowsR c2) (fun r3 N5 h4 => ?_)
    rw [h4.1, h4.2]
    obtain ⟨c6, W⟩ := W
    obtain ⟨c7, W⟩ := W
    refine zr_icmp_ge (tgt := 45) dX10_spanOf_22 (by decide) c6 c7 (fun h => ?_) (fun h => ?_)
    · have W := W.1 h
      refine zr_iload_n 3 dX10_spanOf_45 rfl ?_
      exact zt_iret dX10_spanOf_46 rfl W
    · have W := W.2 h
      refine zr_iload_n 3 dX10_spanOf_25 rfl ?_
      refine zr_aload_n 0 dX10_spanOf_26 rfl ?_
      refine zr_iload_n 1 dX10_spanOf_27 rfl ?_
      refine zr_iload 4 dX10_spanOf_28 rfl ?_
      refine zr_iload_n 2 dX10_spanOf_30 rfl ?_
      obtain ⟨q8, k12, W⟩ := W
      refine zt_callVi (As := [zI x1, zI x4, zI x2]) (rest := [zI x3]) dX10_spanOf_31 kX10_spanOf_400 rfl rfl rfl rfl (Nat.le_of_ble_eq_true rfl) k12 (fun r9 M10 h11 => ?_)
      have W := W r9 M10 h11
      obtain ⟨c13, W⟩ := W
      refine zt_callSi (As := [zI r9]) (rest := [zI x3]) dX10_spanOf_34 kX10_spanOf_317 rfl rfl (Nat.le_of_ble_eq_true rfl) (c_truthi c13) (fun r14 N16 h15 => ?_)
      rw [h15.1, h15.2]
      refine zr_iadd dX10_spanOf_37 ?_
      refine zr_istore_n (l' := [(0, zA g 1), (1, zI x1), (2, zI x2), (3, zI (x3 + r9)), (4, zI x4)]) dX10_spanOf_38 (by decide) [1, 2, 3, 0, 4] rfl ?_
      refine zr_iinc (q := 4) (l' := [(0, zA g 1), (1, zI x1), (2, zI x2), (3, zI (x3 + r9)), (4, zI (x4 + 1))]) dX10_spanOf_39 rfl (by decide) [1, 2, 3, 4, 0] rfl ?_
      refine zr_goto (tgt := 5) dX10_spanOf_42 (by decide) ?_
      exact W
  · have W := W.2 h
    refine zr_aload_n 0 dX10_spanOf_11 rfl ?_
    obtain ⟨c17, W⟩ := W
    refine zt_callVi (As := []) (rest := [zI x4]) dX10_spanOf_12 kX10_spanOf_255 rfl rfl rfl rfl (Nat.le_of_ble_eq_true rfl) (c_columnsC c17) (fun r18 N20 h19 => ?_)
    rw [h19.1, h19.2]
    refine zr_goto (tgt := 22) dX10_spanOf_15 (by decide) ?_
    obtain ⟨c21, W⟩ := W
    obtain ⟨c22, W⟩ := W
    refine zr_icmp_ge (tgt := 45) dX10_spanOf_22 (by decide) c21 c22 (fun h => ?_) (fun h => ?_)
    · have W := W.1 h
      refine zr_iload_n 3 dX10_spanOf_45 rfl ?_
      exact zt_iret dX10_spanOf_46 rfl W
    · have W := W.2 h
      refine zr_iload_n 3 dX10_spanOf_25 rfl ?_
      refine zr_aload_n 0 dX10_spanOf_26 rfl ?_
      refine zr_iload_n 1 dX10_spanOf_27 rfl ?_
      refine zr_iload 4 dX10_spanOf_28 rfl ?_
      refine zr_iload_n 2 dX10_spanOf_30 rfl ?_
      obtain ⟨q23, k27, W⟩ := W
      refine zt_callVi (As := [zI x1, zI x4, zI x2]) (rest := [zI x3]) dX10_spanOf_31 kX10_spanOf_400 rfl rfl rfl rfl (Nat.le_of_ble_eq_true rfl) k27 (fun r24 M25 h26 => ?_)
      have W := W r24 M25 h26
      obtain ⟨c28, W⟩ := W
      refine zt_callSi (As := [zI r24]) (rest := [zI x3]) dX10_spanOf_34 kX10_spanOf_317 rfl rfl (Nat.le_of_ble_eq_true rfl) (c_truthi c28) (fun r29 N31 h30 => ?_)
      rw [h30.1, h30.2]
      refine zr_iadd dX10_spanOf_37 ?_
      refine zr_istore_n (l' := [(0, zA g 1), (1, zI x1), (2, zI x2), (3, zI (x3 + r24)), (4, zI x4)]) dX10_spanOf_38 (by decide) [1, 2, 3, 0, 4] rfl ?_
      refine zr_iinc (q := 4) (l' := [(0, zA g 1), (1, zI x1), (2, zI x2), (3, zI (x3 + r24)), (4, zI (x4 + 1))]) dX10_spanOf_39 rfl (by decide) [1, 2, 3, 4, 0] rfl ?_
      refine zr_goto (tgt := 5) dX10_spanOf_42 (by decide) ?_
      exact W
theorem dX10_dune_0 : decode cX10_dune 0 = .ok (.iload_n 1, 1) := by decide +kernel
theorem dX10_dune_1 : decode cX10_dune 1 = .ok (.iconst 1, 1) := by decide +kernel
theorem dX10_dune_2 : decode cX10_dune 2 = .ok (.if_icmp .lt 18, 3) := by decide +kernel
theorem dX10_dune_5 : decode cX10_dune 5 = .ok (.iload_n 2, 1) := by decide +kernel
theorem dX10_dune_6 : decode cX10_dune 6 = .ok (.iconst 0, 1) := by decide +kernel
theorem dX10_dune_7 : decode cX10_dune 7 = .ok (.aload_n 0, 1) := by decide +kernel
theorem dX10_dune_8 : decode cX10_dune 8 = .ok (.iload_n 1, 1) := by decide +kernel
theorem dX10_dune_9 : decode cX10_dune 9 = .ok (.invokevirtual 397, 3) := by decide +kernel
theorem dX10_dune_12 : decode cX10_dune 12 = .ok (.iconst 1, 1) := by decide +kernel
theorem dX10_dune_13 : decode cX10_dune 13 = .ok (.isub, 1) := by decide +kernel
theorem dX10_dune_14 : decode cX10_dune 14 = .ok (.invokestatic 106, 3) := by decide +kernel
theorem dX10_dune_17 : decode cX10_dune 17 = .ok (.ifCond .ne 5, 3) := by decide +kernel
theorem dX10_dune_20 : decode cX10_dune 20 = .ok (.iconst (-1), 1) := by decide +kernel
theorem dX10_dune_21 : decode cX10_dune 21 = .ok (.ireturn, 1) := by decide +kernel
theorem dX10_dune_22 : decode cX10_dune 22 = .ok (.iconst 0, 1) := by decide +kernel
theorem dX10_dune_23 : decode cX10_dune 23 = .ok (.istore 4, 2) := by decide +kernel
theorem dX10_dune_25 : decode cX10_dune 25 = .ok (.iconst 0, 1) := by decide +kernel
theorem dX10_dune_26 : decode cX10_dune 26 = .ok (.istore 5, 2) := by decide +kernel
theorem dX10_dune_28 : decode cX10_dune 28 = .ok (.iconst (-1), 1) := by decide +kernel
theorem dX10_dune_29 : decode cX10_dune 29 = .ok (.istore 6, 2) := by decide +kernel
theorem dX10_dune_31 : decode cX10_dune 31 = .ok (.iconst (-1), 1) := by decide +kernel
theorem dX10_dune_32 : decode cX10_dune 32 = .ok (.istore 7, 2) := by decide +kernel
theorem dX10_dune_34 : decode cX10_dune 34 = .ok (.iconst 0, 1) := by decide +kernel
theorem dX10_dune_35 : decode cX10_dune 35 = .ok (.istore 8, 2) := by decide +kernel
theorem dX10_dune_37 : decode cX10_dune 37 = .ok (.iload 8, 2) := by decide +kernel
theorem dX10_dune_39 : decode cX10_dune 39 = .ok (.aload_n 0, 1) := by decide +kernel
theorem dX10_dune_40 : decode cX10_dune 40 = .ok (.invokevirtual 226, 3) := by decide +kernel
theorem dX10_dune_43 : decode cX10_dune 43 = .ok (.if_icmp .ge 85, 3) := by decide +kernel
theorem dX10_dune_46 : decode cX10_dune 46 = .ok (.aload_n 0, 1) := by decide +kernel
theorem dX10_dune_47 : decode cX10_dune 47 = .ok (.getfield 54, 3) := by decide +kernel
theorem dX10_dune_50 : decode cX10_dune 50 = .ok (.iload 8, 2) := by decide +kernel
theorem dX10_dune_52 : decode cX10_dune 52 = .ok (.iaload, 1) := by decide +kernel
theorem dX10_dune_53 : decode cX10_dune 53 = .ok (.iload_n 2, 1) := by decide +kernel
theorem dX10_dune_54 : decode cX10_dune 54 = .ok (.if_icmp .eq 6, 3) := by decide +kernel
theorem dX10_dune_57 : decode cX10_dune 57 = .ok (.goto 65, 3) := by decide +kernel
theorem dX10_dune_60 : decode cX10_dune 60 = .ok (.iload 6, 2) := by decide +kernel
theorem dX10_dune_62 : decode cX10_dune 62 = .ok (.iconst (-1), 1) := by decide +kernel
theorem dX10_dune_63 : decode cX10_dune 63 = .ok (.if_icmp .ne 8, 3) := by decide +kernel
theorem dX10_dune_66 : decode cX10_dune 66 = .ok (.iload 8, 2) := by decide +kernel
theorem dX10_dune_68 : decode cX10_dune 68 = .ok (.goto 5, 3) := by decide +kernel
theorem dX10_dune_71 : decode cX10_dune 71 = .ok (.iload 6, 2) := by decide +kernel
theorem dX10_dune_73 : decode cX10_dune 73 = .ok (.istore 6, 2) := by decide +kernel
theorem dX10_dune_75 : decode cX10_dune 75 = .ok (.iload 7, 2) := by decide +kernel
theorem dX10_dune_77 : decode cX10_dune 77 = .ok (.iconst (-1), 1) := by decide +kernel
theorem dX10_dune_78 : decode cX10_dune 78 = .ok (.if_icmp .eq 20, 3) := by decide +kernel
theorem dX10_dune_81 : decode cX10_dune 81 = .ok (.aload_n 0, 1) := by decide +kernel
theorem dX10_dune_82 : decode cX10_dune 82 = .ok (.getfield 42, 3) := by decide +kernel
theorem dX10_dune_85 : decode cX10_dune 85 = .ok (.iload 8, 2) := by decide +kernel
theorem dX10_dune_87 : decode cX10_dune 87 = .ok (.iaload, 1) := by decide +kernel
theorem dX10_dune_88 : decode cX10_dune 88 = .ok (.aload_n 0, 1) := by decide +kernel
theorem dX10_dune_89 : decode cX10_dune 89 = .ok (.getfield 42, 3) := by decide +kernel
theorem dX10_dune_92 : decode cX10_dune 92 = .ok (.iload 7, 2) := by decide +kernel
theorem dX10_dune_94 : decode cX10_dune 94 = .ok (.iaload, 1) := by decide +kernel
theorem dX10_dune_95 : decode cX10_dune 95 = .ok (.if_icmp .le 8, 3) := by decide +kernel
theorem dX10_dune_98 : decode cX10_dune 98 = .ok (.iload 8, 2) := by decide +kernel
theorem dX10_dune_100 : decode cX10_dune 100 = .ok (.goto 5, 3) := by decide +kernel
theorem dX10_dune_103 : decode cX10_dune 103 = .ok (.iload 7, 2) := by decide +kernel
theorem dX10_dune_105 : decode cX10_dune 105 = .ok (.istore 7, 2) := by decide +kernel
theorem dX10_dune_107 : decode cX10_dune 107 = .ok (.iinc 4 1, 3) := by decide +kernel
theorem dX10_dune_110 : decode cX10_dune 110 = .ok (.iload 5, 2) := by decide +kernel
theorem dX10_dune_112 : decode cX10_dune 112 = .ok (.aload_n 0, 1) := by decide +kernel
theorem dX10_dune_113 : decode cX10_dune 113 = .ok (.getfield 42, 3) := by decide +kernel
theorem dX10_dune_116 : decode cX10_dune 116 = .ok (.iload 8, 2) := by decide +kernel
theorem dX10_dune_118 : decode cX10_dune 118 = .ok (.iaload, 1) := by decide +kernel
theorem dX10_dune_119 : decode cX10_dune 119 = .ok (.iadd, 1) := by decide +kernel
theorem dX10_dune_120 : decode cX10_dune 120 = .ok (.istore 5, 2) := by decide +kernel
theorem dX10_dune_122 : decode cX10_dune 122 = .ok (.iinc 8 1, 3) := by decide +kernel
theorem dX10_dune_125 : decode cX10_dune 125 = .ok (.goto (-88), 3) := by decide +kernel
theorem dX10_dune_128 : decode cX10_dune 128 = .ok (.iload_n 3, 1) := by decide +kernel
theorem dX10_dune_129 : decode cX10_dune 129 = .ok (.tableswitch 77 0 6 #[43, 46, 49, 52, 60, 63, 70], 43) := by decide +kernel
theorem dX10_dune_172 : decode cX10_dune 172 = .ok (.iload 6, 2) := by decide +kernel
theorem dX10_dune_174 : decode cX10_dune 174 = .ok (.ireturn, 1) := by decide +kernel
theorem dX10_dune_175 : decode cX10_dune 175 = .ok (.iload 4, 2) := by decide +kernel
theorem dX10_dune_177 : decode cX10_dune 177 = .ok (.ireturn, 1) := by decide +kernel
theorem dX10_dune_178 : decode cX10_dune 178 = .ok (.iload 5, 2) := by decide +kernel
theorem dX10_dune_180 : decode cX10_dune 180 = .ok (.ireturn, 1) := by decide +kernel
theorem dX10_dune_181 : decode cX10_dune 181 = .ok (.aload_n 0, 1) := by decide +kernel
theorem dX10_dune_182 : decode cX10_dune 182 = .ok (.getfield 42, 3) := by decide +kernel
theorem dX10_dune_185 : decode cX10_dune 185 = .ok (.iload 7, 2) := by decide +kernel
theorem dX10_dune_187 : decode cX10_dune 187 = .ok (.iaload, 1) := by decide +kernel
theorem dX10_dune_188 : decode cX10_dune 188 = .ok (.ireturn, 1) := by decide +kernel
theorem dX10_dune_189 : decode cX10_dune 189 = .ok (.iload 7, 2) := by decide +kernel
theorem dX10_dune_191 : decode cX10_dune 191 = .ok (.ireturn, 1) := by decide +kernel
theorem dX10_dune_192 : decode cX10_dune 192 = .ok (.aload_n 0, 1) := by decide +kernel
theorem dX10_dune_193 : decode cX10_dune 193 = .ok (.iload_n 2, 1) := by decide +kernel
theorem dX10_dune_194 : decode cX10_dune 194 = .ok (.iconst 1, 1) := by decide +kernel
theorem dX10_dune_195 : decode cX10_dune 195 = .ok (.invokevirtual 404, 3) := by decide +kernel
theorem dX10_dune_198 : decode cX10_dune 198 = .ok (.ireturn, 1) := by decide +kernel
theorem dX10_dune_199 : decode cX10_dune 199 = .ok (.aload_n 0, 1) := by decide +kernel
theorem dX10_dune_200 : decode cX10_dune 200 = .ok (.iload_n 2, 1) := by decide +kernel
theorem dX10_dune_201 : decode cX10_dune 201 = .ok (.iconst 0, 1) := by decide +kernel
theorem dX10_dune_202 : decode cX10_dune 202 = .ok (.invokevirtual 404, 3) := by decide +kernel
theorem dX10_dune_205 : decode cX10_dune 205 = .ok (.ireturn, 1) := by decide +kernel
theorem dX10_dune_206 : decode cX10_dune 206 = .ok (.iconst (-1), 1) := by decide +kernel
theorem dX10_dune_207 : decode cX10_dune 207 = .ok (.ireturn, 1) := by decide +kernel
set_option maxRecDepth 100000 in
theorem SX10_dune_0 {g : zG} {o : Bool} {M : zM} {q : Int → zM → Prop} {x1 x2 x3 : Int} (W : (-2147483648 ≤ x1 ∧ x1 ≤ 2147483647) ∧ ((x1 < 1) → q (-1) M) ∧ ((¬ (x1 < 1)) → ∃ q2 : Int → zM → Prop, zKi g (z2 o) mX10_dunesNow [zA g 1, zI x1] M q2 ∧ ∀ (r3 : Int) (M4 : zM), q2 r3 M4 → (-2147483648 ≤ x2 ∧ x2 ≤ 2147483647) ∧ (-2147483648 ≤ (r3 - 1) ∧ (r3 - 1) ≤ 2147483647) ∧ ((0 ≤ x2 ∧ x2 ≤ (r3 - 1)) → zT g (z2 o) mX10_dune (zQi (z2 o) q) 37 [(0, zA g 1), (2, zI x2), (3, zI x3), (4, zI 0), (5, zI 0), (6, zI (-1)), (7, zI (-1)), (8, zI 0)] [] M4) ∧ ((¬ (0 ≤ x2 ∧ x2 ≤ (r3 - 1))) → q (-1) M4))) : zT g (z2 o) mX10_dune (zQi (z2 o) q) 0 [(0, zA g 1), (1, zI x1), (2, zI x2), (3, zI x3)] [] M := by
  refine zr_iload_n 1 dX10_dune_0 rfl ?_
  refine zr_iconst dX10_dune_1 ?_
  obtain ⟨c1, W⟩ := W
  refine zr_icmp_lt (tgt := 20) dX10_dune_2 (by decide) c1 ⟨by decide, by decide⟩ (fun h => ?_) (fun h => ?_)
  · have W := W.1 h
    refine zr_iconst dX10_dune_20 ?_
    exact zt_iret dX10_dune_21 rfl W
  · have W := W.2 h
    refine zr_iload_n 2 dX10_dune_5 rfl ?_
    refine zr_iconst dX10_dune_6 ?_
    refine zr_aload_n 0 dX10_dune_7 rfl ?_
    refine zr_iload_n 1 dX10_dune_8 rfl ?_
    obtain ⟨q2, k6, W⟩ := W
    refine zt_callVi (As := [zI x1]) (rest := [zI 0, zI x2]) dX10_dune_9 kX10_dune_397 rfl rfl rfl rfl (Nat.le_of_ble_eq_true rfl) k6 (fun r3 M4 h5 => ?_)
    have W := W r3 M4 h5
    refine zr_iconst dX10_dune_12 ?_
    refine zr_isub dX10_dune_13 ?_
    obtain ⟨c7, W⟩ := W
    obtain ⟨c8, W⟩ := W
    refine zt_callSi (As := [zI x2, zI 0, zI (r3 - 1)]) (rest := []) dX10_dune_14 kX10_dune_106 rfl rfl (Nat.le_of_ble_eq_true rfl) (c_isIn c7 ⟨by decide, by decide⟩ c8) (fun r9 N11 h10 => ?_)
    rw [h10.1, h10.2]
    refine zt_ifne_b (tgt := 22) dX10_dune_17 (by decide) (fun h => ?_) (fun h => ?_)
    · have W := W.1 h
      refine zr_iconst dX10_dune_22 ?_
      refine zr_istore (l' := [(0, zA g 1), (2, zI x2), (3, zI x3), (4, zI 0)]) dX10_dune_23 (by decide) [1, 3, 4, 0] rfl ?_
      refine zr_iconst dX10_dune_25 ?_
      refine zr_istore (l' := [(0, zA g 1), (2, zI x2), (3, zI x3), (4, zI 0), (5, zI 0)]) dX10_dune_26 (by decide) [1, 2, 3, 4, 0] rfl ?_
      refine zr_iconst dX10_dune_28 ?_
      refine zr_istore (l' := [(0, zA g 1), (2, zI x2), (3, zI x3), (4, zI 0), (5, zI 0), (6, zI (-1))]) dX10_dune_29 (by decide) [1, 2, 3, 4, 5, 0] rfl ?_
      refine zr_iconst dX10_dune_31 ?_
      refine zr_istore (l' := [(0, zA g 1), (2, zI x2), (3, zI x3), (4, zI 0), (5, zI 0), (6, zI (-1)), (7, zI (-1))]) dX10_dune_32 (by decide) [1, 2, 3, 4, 5, 6, 0] rfl ?_
      refine zr_iconst dX10_dune_34 ?_
      refine zr_istore (l' := [(0, zA g 1), (2, zI x2), (3, zI x3), (4, zI 0), (5, zI 0), (6, zI (-1)), (7, zI (-1)), (8, zI 0)]) dX10_dune_35 (by decide) [1, 2, 3, 4, 5, 6, 7, 0] rfl ?_
      exact W
    · have W := W.2 h
      refine zr_iconst dX10_dune_20 ?_
      exact zt_iret dX10_dune_21 rfl W
set_option maxRecDepth 100000 in
theorem SX10_dune_37 {g : zG} {o : Bool} {C R : Int} {M : zM} {q : Int → zM → Prop} {x2 x3 x4 x5 x6 x7 x8 : Int} (W : (zRf M C R) ∧ (-2147483648 ≤ x8 ∧ x8 ≤ 2147483647) ∧ (-2147483648 ≤ (C * R) ∧ (C * R) ≤ 2147483647) ∧ (((C * R) ≤ x8) → (-2147483648 ≤ x3 ∧ x3 ≤ 2147483647) ∧ (x3 = 0 → q x6 M) ∧ (x3 = 1 → q x4 M) ∧ (x3 = 2 → q x5 M) ∧ (x3 = 3 → (0 ≤ x7 ∧ x7 < 198) ∧ q (M 10 x7) M) ∧ (x3 = 4 → q x7 M) ∧ (x3 = 5 → ∃ q9 : Int → zM → Prop, zKi g (z2 o) mX10_spanOf [zA g 1, zI x2, zI 1] M q9 ∧ ∀ (r10 : Int) (M11 : zM), q9 r10 M11 → q r10 M11) ∧ (x3 = 6 → ∃ q14 : Int → zM → Prop, zKi g (z2 o) mX10_spanOf [zA g 1, zI x2, zI 0] M q14 ∧ ∀ (r15 : Int) (M16 : zM), q14 r15 M16 → q r15 M16) ∧ (x3 < 0 ∨ 6 < x3 → q (-1) M)) ∧ ((¬ ((C * R) ≤ x8)) → (0 ≤ x8 ∧ x8 < 96) ∧ (-2147483648 ≤ (M 13 x8) ∧ (M 13 x8) ≤ 2147483647) ∧ (-2147483648 ≤ x2 ∧ x2 ≤ 2147483647) ∧ (((M 13 x8) = x2) → (-2147483648 ≤ x6 ∧ x6 ≤ 2147483647) ∧ ((x6 ≠ (-1)) → (-2147483648 ≤ x7 ∧ x7 ≤ 2147483647) ∧ ((x7 = (-1)) → (0 ≤ x8 ∧ x8 < 198) ∧ zT g (z2 o) mX10_dune (zQi (z2 o) q) 37 [(0, zA g 1), (2, zI x2), (3, zI x3), (4, zI (x4 + 1)), (5, zI (x5 + (M 10 x8))), (6, zI x6), (7, zI x8), (8, zI (x8 + 1))] [] M) ∧ ((¬ (x7 = (-1))) → (0 ≤ x8 ∧ x8 < 198) ∧ (0 ≤ x7 ∧ x7 < 198) ∧ (-2147483648 ≤ (M 10 x8) ∧ (M 10 x8) ≤ 2147483647) ∧ (-2147483648 ≤ (M 10 x7) ∧ (M 10 x7) ≤ 2147483647) ∧ (((M 10 x8) ≤ (M 10 x7)) → zT g (z2 o) mX10_dune (zQi (z2 o) q) 37 [(0, zA g 1), (2, zI x2), (3, zI x3), (4, zI (x4 + 1)), (5, zI (x5 + (M 10 x8))), (6, zI x6), (7, zI x7), (8, zI (x8 + 1))] [] M) ∧ ((¬ ((M 10 x8) ≤ (M 10 x7))) → zT g (z2 o) mX10_dune (zQi (z2 o) q) 37 [(0, zA g 1), (2, zI x2), (3, zI x3), (4, zI (x4 + 1)), (5, zI (x5 + (M 10 x8))), (6, zI x6), (7, zI x8), (8, zI (x8 + 1))] [] M))) ∧ ((x6 = (-1)) → (-2147483648 ≤ x7 ∧ x7 ≤ 2147483647) ∧ ((x7 = (-1)) → (0 ≤ x8 ∧ x8 < 198) ∧ zT g (z2 o) mX10_dune (zQi (z2 o) q) 37 [(0, zA g 1), (2, zI x2), (3, zI x3), (4, zI (x4 + 1)), (5, zI (x5 + (M 10 x8))), (6, zI x8), (7, zI x8), (8, zI (x8 + 1))] [] M) ∧ ((¬ (x7 = (-1))) → (0 ≤ x8 ∧ x8 < 198) ∧ (0 ≤ x7 ∧ x7 < 198) ∧ (-2147483648 ≤ (M 10 x8) ∧ (M 10 x8) ≤ 2147483647) ∧ (-2147483648 ≤ (M 10 x7) ∧ (M 10 x7) ≤ 2147483647) ∧ (((M 10 x8) ≤ (M 10 x7)) → zT g (z2 o) mX10_dune (zQi (z2 o) q) 37 [(0, zA g 1), (2, zI x2), (3, zI x3), (4, zI (x4 + 1)), (5, zI (x5 + (M 10 x8))), (6, zI x8), (7, zI x7), (8, zI (x8 + 1))] [] M) ∧ ((¬ ((M 10 x8) ≤ (M 10 x7))) → zT g (z2 o) mX10_dune (zQi (z2 o) q) 37 [(0, zA g 1), (2, zI x2), (3, zI x3), (4, zI (x4 + 1)), (5, zI (x5 + (M 10 x8))), (6, zI x8), (7, zI x8), (8, zI (x8 + 1))] [] M)))) ∧ ((¬ ((M 13 x8) = x2)) → zT g (z2 o) mX10_dune (zQi (z2 o) q) 37 [(0, zA g 1), (2, zI x2), (3, zI x3), (4, zI x4), (5, zI x5), (6, zI x6), (7, zI x7), (8, zI (x8 + 1))] [] M))) : zT g (z2 o) mX10_dune (zQi (z2 o) q) 37 [(0, zA g 1), (2, zI x2), (3, zI x3), (4, zI x4), (5, zI x5), (6, zI x6), (7, zI x7), (8, zI x8)] [] M := by
  refine zr_iload 7 dX10_dune_37 rfl ?_
  refine zr_aload_n 0 dX10_dune_39 rfl ?_
  obtain ⟨c1, W⟩ := W
  refine zt_callVi (As := []) (rest := [zI x8]) dX10_dune_40 kX10_dune_226 rfl rfl rfl rfl (Nat.le_of_ble_eq_true rfl) (c_cells c1) (fun r2 N4 h3 => ?_)
  rw [h3.1, h3.2]
  obtain ⟨c5, W⟩ := W
  obtain ⟨c6, W⟩ := W
  refine zr_icmp_ge (tgt := 128) dX10_dune_43 (by decide) c5 c6 (fun h => ?_) (fun h => ?_)
  · have W := W.1 h
    refine zr_iload_n 2 dX10_dune_128 rfl ?_
    obtain ⟨c7, W⟩ := W
    by_cases e0 : x3 = 0
    · have W := W.1 e0
      refine zr_tin (tgt := 172) dX10_dune_129 c7 (by omega) (by omega) (by rw [e0]; rfl) (by decide) ?_
      refine zr_iload 5 dX10_dune_172 rfl ?_
      exact zt_iret dX10_dune_174 rfl W
    by_cases e1 : x3 = 1
    · have W := W.2.1 e1
      refine zr_tin (tgt := 175) dX10_dune_129 c7 (by omega) (by omega) (by rw [e1]; rfl) (by decide) ?_
      refine zr_iload 3 dX10_dune_175 rfl ?_
      exact zt_iret dX10_dune_177 rfl W
    by_cases e2 : x3 = 2
    · have W := W.2.2.1 e2
      refine zr_tin (tgt := 178) dX10_dune_129 c7 (by omega) (by omega) (by rw [e2]; rfl) (by decide) ?_
      refine zr_iload 4 dX10_dune_178 rfl ?_
      exact zt_iret dX10_dune_180 rfl W
    by_cases e3 : x3 = 3
    · have W := W.2.2.2.1 e3
      refine zr_tin (tgt := 181) dX10_dune_129 c7 (by omega) (by omega) (by rw [e3]; rfl) (by decide) ?_
      refine zr_aload_n 0 dX10_dune_181 rfl ?_
      refine zr_getr (b := 10) dX10_dune_182 fX10_42 rfl rfl rfl (by decide) ?_
      refine zr_iload 6 dX10_dune_185 rfl ?_
      obtain ⟨c8, W⟩ := W
      refine zr_iald dX10_dune_187 rfl (by decide) c8 ?_
      exact zt_iret dX10_dune_188 rfl W
    by_cases e4 : x3 = 4
    · have W := W.2.2.2.2.1 e4
      refine zr_tin (tgt := 189) dX10_dune_129 c7 (by omega) (by omega) (by rw [e4]; rfl) (by decide) ?_
      refine zr_iload 6 dX10_dune_189 rfl ?_
      exact zt_iret dX10_dune_191 rfl W
    by_cases e5 : x3 = 5
    · have W := W.2.2.2.2.2.1 e5
      refine zr_tin (tgt := 192) dX10_dune_129 c7 (by omega) (by omega) (by rw [e5]; rfl) (by decide) ?_
      refine zr_aload_n 0 dX10_dune_192 rfl ?_
      refine zr_iload_n 1 dX10_dune_193 rfl ?_
      refine zr_iconst dX10_dune_194 ?_
      obtain ⟨q9, k13, W⟩ := W
      refine zt_callVi (As := [zI x2, zI 1]) (rest := []) dX10_dune_195 kX10_dune_404 rfl rfl rfl rfl (Nat.le_of_ble_eq_true rfl) k13 (fun r10 M11 h12 => ?_)
      have W := W r10 M11 h12
      exact zt_iret dX10_dune_198 rfl W
    by_cases e6 : x3 = 6
    · have W := W.2.2.2.2.2.2.1 e6
      refine zr_tin (tgt := 199) dX10_dune_129 c7 (by omega) (by omega) (by rw [e6]; rfl) (by decide) ?_
      refine zr_aload_n 0 dX10_dune_199 rfl ?_
      refine zr_iload_n 1 dX10_dune_200 rfl ?_
      refine zr_iconst dX10_dune_201 ?_
      obtain ⟨q14, k18, W⟩ := W
      refine zt_callVi (As := [zI x2, zI 0]) (rest := []) dX10_dune_202 kX10_dune_404 rfl rfl rfl rfl (Nat.le_of_ble_eq_true rfl) k18 (fun r15 M16 h17 => ?_)
      have W := W r15 M16 h17
      exact zt_iret dX10_dune_205 rfl W
    have W := W.2.2.2.2.2.2.2 (by omega)
    refine zr_tout (tgt := 206) dX10_dune_129 c7 (by omega) (by decide) ?_
    refine zr_iconst dX10_dune_206 ?_
    exact zt_iret dX10_dune_207 rfl W
  · have W := W.2 h
    refine zr_aload_n 0 dX10_dune_46 rfl ?_
    refine zr_getr (b := 13) dX10_dune_47 fX10_54 rfl rfl rfl (by decide) ?_
    refine zr_iload 7 dX10_dune_50 rfl ?_
    obtain ⟨c19, W⟩ := W
    refine zr_iald dX10_dune_52 rfl (by decide) c19 ?_
    refine zr_iload_n 1 dX10_dune_53 rfl ?_
    obtain ⟨c20, W⟩ := W
    obtain ⟨c21, W⟩ := W
    refine zr_icmp_eq (tgt := 60) dX10_dune_54 (by decide) c20 c21 (fun h => ?_) (fun h => ?_)
    · have W := W.1 h
      refine zr_iload 5 dX10_dune_60 rfl ?_
      refine zr_iconst dX10_dune_62 ?_
      obtain ⟨c22, W⟩ := W
      refine zr_icmp_ne (tgt := 71) dX10_dune_63 (by decide) c22 ⟨by decide, by decide⟩ (fun h => ?_) (fun h => ?_)
      · have W := W.1 h
        refine zr_iload 5 dX10_dune_71 rfl ?_
        refine zr_istore (l' := [(0, zA g 1), (2, zI x2), (3, zI x3), (4, zI x4), (5, zI x5), (6, zI x6), (7, zI x7), (8, zI x8)]) dX10_dune_73 (by decide) [1, 2, 3, 4, 5, 0, 6, 7] rfl ?_
        refine zr_iload 6 dX10_dune_75 rfl ?_
        refine zr_iconst dX10_dune_77 ?_
        obtain ⟨c23, W⟩ := W
        refine zr_icmp_eq (tgt := 98) dX10_dune_78 (by decide) c23 ⟨by decide, by decide⟩ (fun h => ?_) (fun h => ?_)
        · have W := W.1 h
          refine zr_iload 7 dX10_dune_98 rfl ?_
          refine zr_goto (tgt := 105) dX10_dune_100 (by decide) ?_
          refine zr_istore (l' := [(0, zA g 1), (2, zI x2), (3, zI x3), (4, zI x4), (5, zI x5), (6, zI x6), (7, zI x8), (8, zI x8)]) dX10_dune_105 (by decide) [1, 2, 3, 4, 5, 6, 0, 7] rfl ?_
          refine zr_iinc (q := 3) (l' := [(0, zA g 1), (2, zI x2), (3, zI x3), (4, zI (x4 + 1)), (5, zI x5), (6, zI x6), (7, zI x8), (8, zI x8)]) dX10_dune_107 rfl (by decide) [1, 2, 3, 0, 4, 5, 6, 7] rfl ?_
          refine zr_iload 4 dX10_dune_110 rfl ?_
          refine zr_aload_n 0 dX10_dune_112 rfl ?_
          refine zr_getr (b := 10) dX10_dune_113 fX10_42 rfl rfl rfl (by decide) ?_
          refine zr_iload 7 dX10_dune_116 rfl ?_
          obtain ⟨c24, W⟩ := W
          refine zr_iald dX10_dune_118 rfl (by decide) c24 ?_
          refine zr_iadd dX10_dune_119 ?_
          refine zr_istore (l' := [(0, zA g 1), (2, zI x2), (3, zI x3), (4, zI (x4 + 1)), (5, zI (x5 + (M 10 x8))), (6, zI x6), (7, zI x8), (8, zI x8)]) dX10_dune_120 (by decide) [1, 2, 3, 4, 0, 5, 6, 7] rfl ?_
          refine zr_iinc (q := 7) (l' := [(0, zA g 1), (2, zI x2), (3, zI x3), (4, zI (x4 + 1)), (5, zI (x5 + (M 10 x8))), (6, zI x6), (7, zI x8), (8, zI (x8 + 1))]) dX10_dune_122 rfl (by decide) [1, 2, 3, 4, 5, 6, 7, 0] rfl ?_
          refine zr_goto (tgt := 37) dX10_dune_125 (by decide) ?_
          exact W
        · have W := W.2 h
          refine zr_aload_n 0 dX10_dune_81 rfl ?_
          refine zr_getr (b := 10) dX10_dune_82 fX10_42 rfl rfl rfl (by decide) ?_
          refine zr_iload 7 dX10_dune_85 rfl ?_
          obtain ⟨c25, W⟩ := W
          refine zr_iald dX10_dune_87 rfl (by decide) c25 ?_
          refine zr_aload_n 0 dX10_dune_88 rfl ?_
          refine zr_getr (b := 10) dX10_dune_89 fX10_42 rfl rfl rfl (by decide) ?_
          refine zr_iload 6 dX10_dune_92 rfl ?_
          obtain ⟨c26, W⟩ := W
          refine zr_iald dX10_dune_94 rfl (by decide) c26 ?_
          obtain ⟨c27, W⟩ := W
          obtain ⟨c28, W⟩ := W
          refine zr_icmp_le (tgt := 103) dX10_dune_95 (by decide) c27 c28 (fun h => ?_) (fun h => ?_)
          · have W := W.1 h
            refine zr_iload 6 dX10_dune_103 rfl ?_
            refine zr_istore (l' := [(0, zA g 1), (2, zI x2), (3, zI x3), (4, zI x4), (5, zI x5), (6, zI x6), (7, zI x7), (8, zI x8)]) dX10_dune_105 (by decide) [1, 2, 3, 4, 5, 6, 0, 7] rfl ?_
            refine zr_iinc (q := 3) (l' := [(0, zA g 1), (2, zI x2), (3, zI x3), (4, zI (x4 + 1)), (5, zI x5), (6, zI x6), (7, zI x7), (8, zI x8)]) dX10_dune_107 rfl (by decide) [1, 2, 3, 0, 4, 5, 6, 7] rfl ?_
            refine zr_iload 4 dX10_dune_110 rfl ?_
            refine zr_aload_n 0 dX10_dune_112 rfl ?_
            refine zr_getr (b := 10) dX10_dune_113 fX10_42 rfl rfl rfl (by decide) ?_
            refine zr_iload 7 dX10_dune_116 rfl ?_
            refine zr_iald dX10_dune_118 rfl (by decide) c25 ?_
            refine zr_iadd dX10_dune_119 ?_
            refine zr_istore (l' := [(0, zA g 1), (2, zI x2), (3, zI x3), (4, zI (x4 + 1)), (5, zI (x5 + (M 10 x8))), (6, zI x6), (7, zI x7), (8, zI x8)]) dX10_dune_120 (by decide) [1, 2, 3, 4, 0, 5, 6, 7] rfl ?_
            refine zr_iinc (q := 7) (l' := [(0, zA g 1), (2, zI x2), (3, zI x3), (4, zI (x4 + 1)), (5, zI (x5 + (M 10 x8))), (6, zI x6), (7, zI x7), (8, zI (x8 + 1))]) dX10_dune_122 rfl (by decide) [1, 2, 3, 4, 5, 6, 7, 0] rfl ?_
            refine zr_goto (tgt := 37) dX10_dune_125 (by decide) ?_
            exact W
          · have W := W.2 h
            refine zr_iload 7 dX10_dune_98 rfl ?_
            refine zr_goto (tgt := 105) dX10_dune_100 (by decide) ?_
            refine zr_istore (l' := [(0, zA g 1), (2, zI x2), (3, zI x3), (4, zI x4), (5, zI x5), (6, zI x6), (7, zI x8), (8, zI x8)]) dX10_dune_105 (by decide) [1, 2, 3, 4, 5, 6, 0, 7] rfl ?_
            refine zr_iinc (q := 3) (l' := [(0, zA g 1), (2, zI x2), (3, zI x3), (4, zI (x4 + 1)), (5, zI x5), (6, zI x6), (7, zI x8), (8, zI x8)]) dX10_dune_107 rfl (by decide) [1, 2, 3, 0, 4, 5, 6, 7] rfl ?_
            refine zr_iload 4 dX10_dune_110 rfl ?_
            refine zr_aload_n 0 dX10_dune_112 rfl ?_
            refine zr_getr (b := 10) dX10_dune_113 fX10_42 rfl rfl rfl (by decide) ?_
            refine zr_iload 7 dX10_dune_116 rfl ?_
            refine zr_iald dX10_dune_118 rfl (by decide) c25 ?_
            refine zr_iadd dX10_dune_119 ?_
            refine zr_istore (l' := [(0, zA g 1), (2, zI x2), (3, zI x3), (4, zI (x4 + 1)), (5, zI (x5 + (M 10 x8))), (6, zI x6), (7, zI x8), (8, zI x8)]) dX10_dune_120 (by decide) [1, 2, 3, 4, 0, 5, 6, 7] rfl ?_
            refine zr_iinc (q := 7) (l' := [(0, zA g 1), (2, zI x2), (3, zI x3), (4, zI (x4 + 1)), (5, zI (x5 + (M 10 x8))), (6, zI x6), (7, zI x8), (8, zI (x8 + 1))]) dX10_dune_122 rfl (by decide) [1, 2, 3, 4, 5, 6, 7, 0] rfl ?_
            refine zr_goto (tgt := 37) dX10_dune_125 (by decide) ?_
            exact W
      · have W := W.2 h
        refine zr_iload 7 dX10_dune_66 rfl ?_
        refine zr_goto (tgt := 73) dX10_dune_68 (by decide) ?_
        refine zr_istore (l' := [(0, zA g 1), (2, zI x2), (3, zI x3), (4, zI x4), (5, zI x5), (6, zI x8), (7, zI x7), (8, zI x8)]) dX10_dune_73 (by decide) [1, 2, 3, 4, 5, 0, 6, 7] rfl ?_
        refine zr_iload 6 dX10_dune_75 rfl ?_
        refine zr_iconst dX10_dune_77 ?_
        obtain ⟨c29, W⟩ := W
        refine zr_icmp_eq (tgt := 98) dX10_dune_78 (by decide) c29 ⟨by decide, by decide⟩ (fun h => ?_) (fun h => ?_)
        · have W := W.1 h
          refine zr_iload 7 dX10_dune_98 rfl ?_
          refine zr_goto (tgt := 105) dX10_dune_100 (by decide) ?_
          refine zr_istore (l' := [(0, zA g 1), (2, zI x2), (3, zI x3), (4, zI x4), (5, zI x5), (6, zI x8), (7, zI x8), (8, zI x8)]) dX10_dune_105 (by decide) [1, 2, 3, 4, 5, 6, 0, 7] rfl ?_
          refine zr_iinc (q := 3) (l' := [(0, zA g 1), (2, zI x2), (3, zI x3), (4, zI (x4 + 1)), (5, zI x5), (6, zI x8), (7, zI x8), (8, zI x8)]) dX10_dune_107 rfl (by decide) [1, 2, 3, 0, 4, 5, 6, 7] rfl ?_
          refine zr_iload 4 dX10_dune_110 rfl ?_
          refine zr_aload_n 0 dX10_dune_112 rfl ?_
          refine zr_getr (b := 10) dX10_dune_113 fX10_42 rfl rfl rfl (by decide) ?_
          refine zr_iload 7 dX10_dune_116 rfl ?_
          obtain ⟨c30, W⟩ := W
          refine zr_iald dX10_dune_118 rfl (by decide) c30 ?_
          refine zr_iadd dX10_dune_119 ?_
          refine zr_istore (l' := [(0, zA g 1), (2, zI x2), (3, zI x3), (4, zI (x4 + 1)), (5, zI (x5 + (M 10 x8))), (6, zI x8), (7, zI x8), (8, zI x8)]) dX10_dune_120 (by decide) [1, 2, 3, 4, 0, 5, 6, 7] rfl ?_
          refine zr_iinc (q := 7) (l' := [(0, zA g 1), (2, zI x2), (3, zI x3), (4, zI (x4 + 1)), (5, zI (x5 + (M 10 x8))), (6, zI x8), (7, zI x8), (8, zI (x8 + 1))]) dX10_dune_122 rfl (by decide) [1, 2, 3, 4, 5, 6, 7, 0] rfl ?_
          refine zr_goto (tgt := 37) dX10_dune_125 (by decide) ?_
          exact W
        · have W := W.2 h
          refine zr_aload_n 0 dX10_dune_81 rfl ?_
          refine zr_getr (b := 10) dX10_dune_82 fX10_42 rfl rfl rfl (by decide) ?_
          refine zr_iload 7 dX10_dune_85 rfl ?_
          obtain ⟨c31, W⟩ := W
          refine zr_iald dX10_dune_87 rfl (by decide) c31 ?_
          refine zr_aload_n 0 dX10_dune_88 rfl ?_
          refine zr_getr (b := 10) dX10_dune_89 fX10_42 rfl rfl rfl (by decide) ?_
          refine zr_iload 6 dX10_dune_92 rfl ?_
          obtain ⟨c32, W⟩ := W
          refine zr_iald dX10_dune_94 rfl (by decide) c32 ?_
          obtain ⟨c33, W⟩ := W
          obtain ⟨c34, W⟩ := W
          refine zr_icmp_le (tgt := 103) dX10_dune_95 (by decide) c33 c34 (fun h => ?_) (fun h => ?_)
          · have W := W.1 h
            refine zr_iload 6 dX10_dune_103 rfl ?_
            refine zr_istore (l' := [(0, zA g 1), (2, zI x2), (3, zI x3), (4, zI x4), (5, zI x5), (6, zI x8), (7, zI x7), (8, zI x8)]) dX10_dune_105 (by decide) [1, 2, 3, 4, 5, 6, 0, 7] rfl ?_
            refine zr_iinc (q := 3) (l' := [(0, zA g 1), (2, zI x2), (3, zI x3), (4, zI (x4 + 1)), (5, zI x5), (6, zI x8), (7, zI x7), (8, zI x8)]) dX10_dune_107 rfl (by decide) [1, 2, 3, 0, 4, 5, 6, 7] rfl ?_
            refine zr_iload 4 dX10_dune_110 rfl ?_
            refine zr_aload_n 0 dX10_dune_112 rfl ?_
            refine zr_getr (b := 10) dX10_dune_113 fX10_42 rfl rfl rfl (by decide) ?_
            refine zr_iload 7 dX10_dune_116 rfl ?_
            refine zr_iald dX10_dune_118 rfl (by decide) c31 ?_
            refine zr_iadd dX10_dune_119 ?_
            refine zr_istore (l' := [(0, zA g 1), (2, zI x2), (3, zI x3), (4, zI (x4 + 1)), (5, zI (x5 + (M 10 x8))), (6, zI x8), (7, zI x7), (8, zI x8)]) dX10_dune_120 (by decide) [1, 2, 3, 4, 0, 5, 6, 7] rfl ?_
            refine zr_iinc (q := 7) (l' := [(0, zA g 1), (2, zI x2), (3, zI x3), (4, zI (x4 + 1)), (5, zI (x5 + (M 10 x8))), (6, zI x8), (7, zI x7), (8, zI (x8 + 1))]) dX10_dune_122 rfl (by decide) [1, 2, 3, 4, 5, 6, 7, 0] rfl ?_
            refine zr_goto (tgt := 37) dX10_dune_125 (by decide) ?_
            exact W
          · have W := W.2 h
            refine zr_iload 7 dX10_dune_98 rfl ?_
            refine zr_goto (tgt := 105) dX10_dune_100 (by decide) ?_
            refine zr_istore (l' := [(0, zA g 1), (2, zI x2), (3, zI x3), (4, zI x4), (5, zI x5), (6, zI x8), (7, zI x8), (8, zI x8)]) dX10_dune_105 (by decide) [1, 2, 3, 4, 5, 6, 0, 7] rfl ?_
            refine zr_iinc (q := 3) (l' := [(0, zA g 1), (2, zI x2), (3, zI x3), (4, zI (x4 + 1)), (5, zI x5), (6, zI x8), (7, zI x8), (8, zI x8)]) dX10_dune_107 rfl (by decide) [1, 2, 3, 0, 4, 5, 6, 7] rfl ?_
            refine zr_iload 4 dX10_dune_110 rfl ?_
            refine zr_aload_n 0 dX10_dune_112 rfl ?_
            refine zr_getr (b := 10) dX10_dune_113 fX10_42 rfl rfl rfl (by decide) ?_
            refine zr_iload 7 dX10_dune_116 rfl ?_
            refine zr_iald dX10_dune_118 rfl (by decide) c31 ?_
            refine zr_iadd dX10_dune_119 ?_
            refine zr_istore (l' := [(0, zA g 1), (2, zI x2), (3, zI x3), (4, zI (x4 + 1)), (5, zI (x5 + (M 10 x8))), (6, zI x8), (7, zI x8), (8, zI x8)]) dX10_dune_120 (by decide) [1, 2, 3, 4, 0, 5, 6, 7] rfl ?_
            refine zr_iinc (q := 7) (l' := [(0, zA g 1), (2, zI x2), (3, zI x3), (4, zI (x4 + 1)), (5, zI (x5 + (M 10 x8))), (6, zI x8), (7, zI x8), (8, zI (x8 + 1))]) dX10_dune_122 rfl (by decide) [1, 2, 3, 4, 5, 6, 7, 0] rfl ?_
            refine zr_goto (tgt := 37) dX10_dune_125 (by decide) ?_
            exact W
    · have W := W.2 h
      refine zr_goto (tgt := 122) dX10_dune_57 (by decide) ?_
      refine zr_iinc (q := 7) (l' := [(0, zA g 1), (2, zI x2), (3, zI x3), (4, zI x4), (5, zI x5), (6, zI x6), (7, zI x7), (8, zI (x8 + 1))]) dX10_dune_122 rfl (by decide) [1, 2, 3, 4, 5, 6, 7, 0] rfl ?_
      refine zr_goto (tgt := 37) dX10_dune_125 (by decide) ?_
      exact W
theorem dX10_duneOf_0 : decode cX10_duneOf 0 = .ok (.iload_n 1, 1) := by decide +kernel
theorem dX10_duneOf_1 : decode cX10_duneOf 1 = .ok (.iconst 1, 1) := by decide +kernel
theorem dX10_duneOf_2 : decode cX10_duneOf 2 = .ok (.if_icmp .lt 11, 3) := by decide +kernel
theorem dX10_duneOf_5 : decode cX10_duneOf 5 = .ok (.aload_n 0, 1) := by decide +kernel
theorem dX10_duneOf_6 : decode cX10_duneOf 6 = .ok (.iload_n 2, 1) := by decide +kernel
theorem dX10_duneOf_7 : decode cX10_duneOf 7 = .ok (.invokevirtual 336, 3) := by decide +kernel
theorem dX10_duneOf_10 : decode cX10_duneOf 10 = .ok (.ifCond .ne 5, 3) := by decide +kernel
theorem dX10_duneOf_13 : decode cX10_duneOf 13 = .ok (.iconst (-1), 1) := by decide +kernel
theorem dX10_duneOf_14 : decode cX10_duneOf 14 = .ok (.ireturn, 1) := by decide +kernel
theorem dX10_duneOf_15 : decode cX10_duneOf 15 = .ok (.aload_n 0, 1) := by decide +kernel
theorem dX10_duneOf_16 : decode cX10_duneOf 16 = .ok (.iload_n 1, 1) := by decide +kernel
theorem dX10_duneOf_17 : decode cX10_duneOf 17 = .ok (.invokevirtual 397, 3) := by decide +kernel
theorem dX10_duneOf_20 : decode cX10_duneOf 20 = .ok (.istore_n 3, 1) := by decide +kernel
theorem dX10_duneOf_21 : decode cX10_duneOf 21 = .ok (.aload_n 0, 1) := by decide +kernel
theorem dX10_duneOf_22 : decode cX10_duneOf 22 = .ok (.getfield 54, 3) := by decide +kernel
theorem dX10_duneOf_25 : decode cX10_duneOf 25 = .ok (.iload_n 2, 1) := by decide +kernel
theorem dX10_duneOf_26 : decode cX10_duneOf 26 = .ok (.iaload, 1) := by decide +kernel
theorem dX10_duneOf_27 : decode cX10_duneOf 27 = .ok (.ireturn, 1) := by decide +kernel
set_option maxRecDepth 100000 in
theorem SX10_duneOf_0 {g : zG} {o : Bool} {C R : Int} {M : zM} {q : Int → zM → Prop} {x1 x2 : Int} (W : (-2147483648 ≤ x1 ∧ x1 ≤ 2147483647) ∧ ((x1 < 1) → q (-1) M) ∧ ((¬ (x1 < 1)) → (zRf M C R) ∧ (-2147483648 ≤ x2 ∧ x2 ≤ 2147483647) ∧ ((0 ≤ x2 ∧ x2 < C * R) → ∃ q7 : Int → zM → Prop, zKi g (z2 o) mX10_dunesNow [zA g 1, zI x1] M q7 ∧ ∀ (r8 : Int) (M9 : zM), q7 r8 M9 → (0 ≤ x2 ∧ x2 < 96) ∧ q (M9 13 x2) M9) ∧ ((¬ (0 ≤ x2 ∧ x2 < C * R)) → q (-1) M))) : zT g (z2 o) mX10_duneOf (zQi (z2 o) q) 0 [(0, zA g 1), (1, zI x1), (2, zI x2)] [] M := by
  refine zr_iload_n 1 dX10_duneOf_0 rfl ?_
  refine zr_iconst dX10_duneOf_1 ?_
  obtain ⟨c1, W⟩ := W
  refine zr_icmp_lt (tgt := 13) dX10_duneOf_2 (by decide) c1 ⟨by decide, by decide⟩ (fun h => ?_) (fun h => ?_)
  · have W := W.1 h
    refine zr_iconst dX10_duneOf_13 ?_
    exact zt_iret dX10_duneOf_14 rfl W
  · have W := W.2 h
    refine zr_aload_n 0 dX10_duneOf_5 rfl ?_
    refine zr_iload_n 2 dX10_duneOf_6 rfl ?_
    obtain ⟨c2, W⟩ := W
    obtain ⟨c3, W⟩ := W
    refine zt_callVi (As := [zI x2]) (rest := []) dX10_duneOf_7 kX10_duneOf_336 rfl rfl rfl rfl (Nat.le_of_ble_eq_true rfl) (c_isCell c2 c3) (fun r4 N6 h5 => ?_)
    rw [h5.1, h5.2]
    refine zt_ifne_b (tgt := 15) dX10_duneOf_10 (by decide) (fun h => ?_) (fun h => ?_)
    · have W := W.1 h
      refine zr_aload_n 0 dX10_duneOf_15 rfl ?_
      refine zr_iload_n 1 dX10_duneOf_16 rfl ?_
      obtain ⟨q7, k11, W⟩ := W
      refine zt_callVi (As := [zI x1]) (rest := []) dX10_duneOf_17 kX10_duneOf_397 rfl rfl rfl rfl (Nat.le_of_ble_eq_true rfl) k11 (fun r8 M9 h10 => ?_)
      have W := W r8 M9 h10
      refine zr_istore_n (l' := [(0, zA g 1), (2, zI x2)]) dX10_duneOf_20 (by decide) [1, 3] rfl ?_
      refine zr_aload_n 0 dX10_duneOf_21 rfl ?_
      refine zr_getr (b := 13) dX10_duneOf_22 fX10_54 rfl rfl rfl (by decide) ?_
      refine zr_iload_n 1 dX10_duneOf_25 rfl ?_
      obtain ⟨c12, W⟩ := W
      refine zr_iald dX10_duneOf_26 rfl (by decide) c12 ?_
      exact zt_iret dX10_duneOf_27 rfl W
    · have W := W.2 h
      refine zr_iconst dX10_duneOf_13 ?_
      exact zt_iret dX10_duneOf_14 rfl W
