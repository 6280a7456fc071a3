theorem dX8_append_0 : decode cX8_append 0 = .ok (.bipush 24, 2) := by decide +kernel
theorem dX8_append_2 : decode cX8_append 2 = .ok (.istore_n 2, 1) := by decide +kernel
theorem dX8_append_3 : decode cX8_append 3 = .ok (.iload_n 2, 1) := by decide +kernel
theorem dX8_append_4 : decode cX8_append 4 = .ok (.ifCond .lt 45, 3) := by decide +kernel
theorem dX8_append_7 : decode cX8_append 7 = .ok (.aload_n 0, 1) := by decide +kernel
theorem dX8_append_8 : decode cX8_append 8 = .ok (.getfield 15, 3) := by decide +kernel
theorem dX8_append_11 : decode cX8_append 11 = .ok (.sipush 900, 3) := by decide +kernel
theorem dX8_append_14 : decode cX8_append 14 = .ok (.if_icmp .ge 35, 3) := by decide +kernel
theorem dX8_append_17 : decode cX8_append 17 = .ok (.aload_n 0, 1) := by decide +kernel
theorem dX8_append_18 : decode cX8_append 18 = .ok (.getfield 9, 3) := by decide +kernel
theorem dX8_append_21 : decode cX8_append 21 = .ok (.aload_n 0, 1) := by decide +kernel
theorem dX8_append_22 : decode cX8_append 22 = .ok (.getfield 15, 3) := by decide +kernel
theorem dX8_append_25 : decode cX8_append 25 = .ok (.iload_n 1, 1) := by decide +kernel
theorem dX8_append_26 : decode cX8_append 26 = .ok (.iload_n 2, 1) := by decide +kernel
theorem dX8_append_27 : decode cX8_append 27 = .ok (.ishr, 1) := by decide +kernel
theorem dX8_append_28 : decode cX8_append 28 = .ok (.sipush 255, 3) := by decide +kernel
theorem dX8_append_31 : decode cX8_append 31 = .ok (.iand, 1) := by decide +kernel
theorem dX8_append_32 : decode cX8_append 32 = .ok (.iastore, 1) := by decide +kernel
theorem dX8_append_33 : decode cX8_append 33 = .ok (.aload_n 0, 1) := by decide +kernel
theorem dX8_append_34 : decode cX8_append 34 = .ok (.dup, 1) := by decide +kernel
theorem dX8_append_35 : decode cX8_append 35 = .ok (.getfield 15, 3) := by decide +kernel
theorem dX8_append_38 : decode cX8_append 38 = .ok (.iconst 1, 1) := by decide +kernel
theorem dX8_append_39 : decode cX8_append 39 = .ok (.iadd, 1) := by decide +kernel
theorem dX8_append_40 : decode cX8_append 40 = .ok (.putfield 15, 3) := by decide +kernel
theorem dX8_append_43 : decode cX8_append 43 = .ok (.iinc 2 (-8), 3) := by decide +kernel
theorem dX8_append_46 : decode cX8_append 46 = .ok (.goto (-43), 3) := by decide +kernel
theorem dX8_append_49 : decode cX8_append 49 = .ok (.return_, 1) := by decide +kernel
set_option maxRecDepth 100000 in
theorem SX8_append_0 {g : zG} {o : Bool} {M : zM} {q : zM → Prop} {x1 : Int} (W : zT g (z1 o) mX8_append (zQv (z1 o) q) 3 [(0, zA g 2), (1, zI x1), (2, zI 24)] [] M) : zT g (z1 o) mX8_append (zQv (z1 o) q) 0 [(0, zA g 2), (1, zI x1)] [] M := by
  refine zr_bipush dX8_append_0 (by decide) ?_
  refine zr_istore_n (l' := [(0, zA g 2), (1, zI x1), (2, zI 24)]) dX8_append_2 (by decide) [1, 2, 0] rfl ?_
  exact W
set_option maxRecDepth 100000 in
theorem SX8_append_3 {g : zG} {o : Bool} {M : zM} {q : zM → Prop} {x1 x2 : Int} (W : (-2147483648 ≤ x2 ∧ x2 ≤ 2147483647) ∧ ((x2 < 0) → q M) ∧ ((¬ (x2 < 0)) → (-2147483648 ≤ (M 2 1) ∧ (M 2 1) ≤ 2147483647) ∧ ((900 ≤ (M 2 1)) → q M) ∧ ((¬ (900 ≤ (M 2 1))) → (-2147483648 ≤ x1 ∧ x1 ≤ 2147483647) ∧ (0 ≤ x2 ∧ x2 ≤ 31) ∧ (0 ≤ (M 2 1) ∧ (M 2 1) < 900) ∧ ∀ N6 : zM, N6 = zu M 3 (M 2 1) ((x1 / (2 ^ Int.toNat x2 : Nat)) % (255 + 1)) → zT g (z1 o) mX8_append (zQv (z1 o) q) 3 [(0, zA g 2), (1, zI x1), (2, zI (x2 + (-8)))] [] (zu N6 2 1 ((N6 2 1) + 1))))) : zT g (z1 o) mX8_append (zQv (z1 o) q) 3 [(0, zA g 2), (1, zI x1), (2, zI x2)] [] M := by
  refine zr_iload_n 2 dX8_append_3 rfl ?_
  obtain ⟨c1, W⟩ := W
  refine zr_if_lt (tgt := 49) dX8_append_4 (by decide) c1 (fun h => ?_) (fun h => ?_)
  · have W := W.1 h
    exact zt_ret dX8_append_49 rfl W
  · have W := W.2 h
    refine zr_aload_n 0 dX8_append_7 rfl ?_
    refine zt_geti 1 rfl dX8_append_8 fX8_15 rfl (by decide) ?_
    refine zr_sipush dX8_append_11 (by decide) ?_
    obtain ⟨c2, W⟩ := W
    refine zr_icmp_ge (tgt := 49) dX8_append_14 (by decide) c2 ⟨by decide, by decide⟩ (fun h => ?_) (fun h => ?_)
    · have W := W.1 h
      exact zt_ret dX8_append_49 rfl W
    · have W := W.2 h
      refine zr_aload_n 0 dX8_append_17 rfl ?_
      refine zr_getr (b := 3) dX8_append_18 fX8_9 rfl rfl rfl (by decide) ?_
      refine zr_aload_n 0 dX8_append_21 rfl ?_
      refine zt_geti 1 rfl dX8_append_22 fX8_15 rfl (by decide) ?_
      refine zr_iload_n 1 dX8_append_25 rfl ?_
      refine zr_iload_n 2 dX8_append_26 rfl ?_
      obtain ⟨c3, W⟩ := W
      obtain ⟨c4, W⟩ := W
      refine zr_ishr dX8_append_27 c3 c4 ?_
      refine zr_sipush dX8_append_28 (by decide) ?_
      refine zr_iand dX8_append_31 (by decide) ?_
      obtain ⟨c5, W⟩ := W
      refine zr_iast dX8_append_32 rfl (by decide) c5 ?_
      refine zr_aload_n 0 dX8_append_33 rfl ?_
      refine zr_dup dX8_append_34 rfl ?_
      refine zt_geti 1 rfl dX8_append_35 fX8_15 rfl (by decide) ?_
      refine zr_iconst dX8_append_38 ?_
      refine zr_iadd dX8_append_39 ?_
      obtain ⟨N6, e7⟩ : ∃ N : zM, N = zu M 3 (M 2 1) ((x1 / (2 ^ Int.toNat x2 : Nat)) % (255 + 1)) := ⟨_, rfl⟩
      rw [← e7]
      have W := W N6 e7
      refine zt_puti 1 rfl dX8_append_40 fX8_15 lcX8 ltX8_1 rfl rfl ?_
      refine zr_iinc (q := 2) (l' := [(0, zA g 2), (1, zI x1), (2, zI (x2 + (-8)))]) dX8_append_43 rfl (by decide) [1, 2, 0] rfl ?_
      refine zr_goto (tgt := 3) dX8_append_46 (by decide) ?_
      exact W
theorem dX9_feed_0 : decode cX9_feed 0 = .ok (.aload_n 0, 1) := by decide +kernel
theorem dX9_feed_1 : decode cX9_feed 1 = .ok (.getfield 10, 3) := by decide +kernel
theorem dX9_feed_4 : decode cX9_feed 4 = .ok (.getfield 109, 3) := by decide +kernel
theorem dX9_feed_7 : decode cX9_feed 7 = .ok (.bipush 20, 2) := by decide +kernel
theorem dX9_feed_9 : decode cX9_feed 9 = .ok (.iadd, 1) := by decide +kernel
theorem dX9_feed_10 : decode cX9_feed 10 = .ok (.sipush 900, 3) := by decide +kernel
theorem dX9_feed_13 : decode cX9_feed 13 = .ok (.if_icmp .le 5, 3) := by decide +kernel
theorem dX9_feed_16 : decode cX9_feed 16 = .ok (.iconst (-1), 1) := by decide +kernel
theorem dX9_feed_17 : decode cX9_feed 17 = .ok (.ireturn, 1) := by decide +kernel
theorem dX9_feed_18 : decode cX9_feed 18 = .ok (.aload_n 0, 1) := by decide +kernel
theorem dX9_feed_19 : decode cX9_feed 19 = .ok (.getfield 10, 3) := by decide +kernel
theorem dX9_feed_22 : decode cX9_feed 22 = .ok (.iload_n 1, 1) := by decide +kernel
theorem dX9_feed_23 : decode cX9_feed 23 = .ok (.invokevirtual 112, 3) := by decide +kernel
theorem dX9_feed_26 : decode cX9_feed 26 = .ok (.aload_n 0, 1) := by decide +kernel
theorem dX9_feed_27 : decode cX9_feed 27 = .ok (.getfield 10, 3) := by decide +kernel
theorem dX9_feed_30 : decode cX9_feed 30 = .ok (.iload_n 2, 1) := by decide +kernel
theorem dX9_feed_31 : decode cX9_feed 31 = .ok (.invokevirtual 112, 3) := by decide +kernel
theorem dX9_feed_34 : decode cX9_feed 34 = .ok (.aload_n 0, 1) := by decide +kernel
theorem dX9_feed_35 : decode cX9_feed 35 = .ok (.getfield 10, 3) := by decide +kernel
theorem dX9_feed_38 : decode cX9_feed 38 = .ok (.iload_n 3, 1) := by decide +kernel
theorem dX9_feed_39 : decode cX9_feed 39 = .ok (.invokevirtual 112, 3) := by decide +kernel
theorem dX9_feed_42 : decode cX9_feed 42 = .ok (.aload_n 0, 1) := by decide +kernel
theorem dX9_feed_43 : decode cX9_feed 43 = .ok (.getfield 10, 3) := by decide +kernel
theorem dX9_feed_46 : decode cX9_feed 46 = .ok (.iload 4, 2) := by decide +kernel
theorem dX9_feed_48 : decode cX9_feed 48 = .ok (.invokevirtual 112, 3) := by decide +kernel
theorem dX9_feed_51 : decode cX9_feed 51 = .ok (.aload_n 0, 1) := by decide +kernel
theorem dX9_feed_52 : decode cX9_feed 52 = .ok (.getfield 10, 3) := by decide +kernel
theorem dX9_feed_55 : decode cX9_feed 55 = .ok (.iload 5, 2) := by decide +kernel
theorem dX9_feed_57 : decode cX9_feed 57 = .ok (.invokevirtual 112, 3) := by decide +kernel
theorem dX9_feed_60 : decode cX9_feed 60 = .ok (.aload_n 0, 1) := by decide +kernel
theorem dX9_feed_61 : decode cX9_feed 61 = .ok (.getfield 10, 3) := by decide +kernel
theorem dX9_feed_64 : decode cX9_feed 64 = .ok (.getfield 109, 3) := by decide +kernel
theorem dX9_feed_67 : decode cX9_feed 67 = .ok (.ireturn, 1) := by decide +kernel
set_option maxRecDepth 100000 in
theorem SX9_feed_0 {g : zG} {o : Bool} {M : zM} {q : Int → zM → Prop} {x1 x2 x3 x4 x5 : Int} (W : (-2147483648 ≤ ((M 2 1) + 20) ∧ ((M 2 1) + 20) ≤ 2147483647) ∧ ((((M 2 1) + 20) ≤ 900) → ∃ q2 : zM → Prop, zKv g (z1 o) mX8_append [zA g 2, zI x1] M q2 ∧ ∀ M4 : zM, q2 M4 → ∃ q7 : zM → Prop, zKv g (z1 o) mX8_append [zA g 2, zI x2] M4 q7 ∧ ∀ M9 : zM, q7 M9 → ∃ q12 : zM → Prop, zKv g (z1 o) mX8_append [zA g 2, zI x3] M9 q12 ∧ ∀ M14 : zM, q12 M14 → ∃ q17 : zM → Prop, zKv g (z1 o) mX8_append [zA g 2, zI x4] M14 q17 ∧ ∀ M19 : zM, q17 M19 → ∃ q22 : zM → Prop, zKv g (z1 o) mX8_append [zA g 2, zI x5] M19 q22 ∧ ∀ M24 : zM, q22 M24 → q (M24 2 1) M24) ∧ ((¬ (((M 2 1) + 20) ≤ 900)) → q (-1) M)) : zT g (z1 o) mX9_feed (zQi (z1 o) q) 0 [(0, zA g 1), (1, zI x1), (2, zI x2), (3, zI x3), (4, zI x4), (5, zI x5)] [] M := by
  refine zr_aload_n 0 dX9_feed_0 rfl ?_
  refine zr_getr (b := 2) dX9_feed_1 fX9_10 rfl rfl rfl (by decide) ?_
  refine zt_geti 1 rfl dX9_feed_4 fX9_109 rfl (by decide) ?_
  refine zr_bipush dX9_feed_7 (by decide) ?_
  refine zr_iadd dX9_feed_9 ?_
  refine zr_sipush dX9_feed_10 (by decide) ?_
  obtain ⟨c1, W⟩ := W
  refine zr_icmp_le (tgt := 18) dX9_feed_13 (by decide) c1 ⟨by decide, by decide⟩ (fun h => ?_) (fun h => ?_)
  · have W := W.1 h
    refine zr_aload_n 0 dX9_feed_18 rfl ?_
    refine zr_getr (b := 2) dX9_feed_19 fX9_10 rfl rfl rfl (by decide) ?_
    refine zr_iload_n 1 dX9_feed_22 rfl ?_
    obtain ⟨q2, k6, W⟩ := W
    refine zt_callVv (As := [zI x1]) (rest := []) dX9_feed_23 kX9_feed_112 rfl rfl rfl rfl (Nat.le_of_ble_eq_true rfl) k6 (fun M4 h5 => ?_)
    have W := W M4 h5
    refine zr_aload_n 0 dX9_feed_26 rfl ?_
    refine zr_getr (b := 2) dX9_feed_27 fX9_10 rfl rfl rfl (by decide) ?_
    refine zr_iload_n 2 dX9_feed_30 rfl ?_
    obtain ⟨q7, k11, W⟩ := W
    refine zt_callVv (As := [zI x2]) (rest := []) dX9_feed_31 kX9_feed_112 rfl rfl rfl rfl (Nat.le_of_ble_eq_true rfl) k11 (fun M9 h10 => ?_)
    have W := W M9 h10
    refine zr_aload_n 0 dX9_feed_34 rfl ?_
    refine zr_getr (b := 2) dX9_feed_35 fX9_10 rfl rfl rfl (by decide) ?_
    refine zr_iload_n 3 dX9_feed_38 rfl ?_
    obtain ⟨q12, k16, W⟩ := W
    refine zt_callVv (As := [zI x3]) (rest := []) dX9_feed_39 kX9_feed_112 rfl rfl rfl rfl (Nat.le_of_ble_eq_true rfl) k16 (fun M14 h15 => ?_)
    have W := W M14 h15
    refine zr_aload_n 0 dX9_feed_42 rfl ?_
    refine zr_getr (b := 2) dX9_feed_43 fX9_10 rfl rfl rfl (by decide) ?_
    refine zr_iload 4 dX9_feed_46 rfl ?_
    obtain ⟨q17, k21, W⟩ := W
    refine zt_callVv (As := [zI x4]) (rest := []) dX9_feed_48 kX9_feed_112 rfl rfl rfl rfl (Nat.le_of_ble_eq_true rfl) k21 (fun M19 h20 => ?_)
    have W := W M19 h20
    refine zr_aload_n 0 dX9_feed_51 rfl ?_
    refine zr_getr (b := 2) dX9_feed_52 fX9_10 rfl rfl rfl (by decide) ?_
    refine zr_iload 5 dX9_feed_55 rfl ?_
    obtain ⟨q22, k26, W⟩ := W
    refine zt_callVv (As := [zI x5]) (rest := []) dX9_feed_57 kX9_feed_112 rfl rfl rfl rfl (Nat.le_of_ble_eq_true rfl) k26 (fun M24 h25 => ?_)
    have W := W M24 h25
    refine zr_aload_n 0 dX9_feed_60 rfl ?_
    refine zr_getr (b := 2) dX9_feed_61 fX9_10 rfl rfl rfl (by decide) ?_
    refine zt_geti 1 rfl dX9_feed_64 fX9_109 rfl (by decide) ?_
    exact zt_iret dX9_feed_67 rfl W
  · have W := W.2 h
    refine zr_iconst dX9_feed_16 ?_
    exact zt_iret dX9_feed_17 rfl W
theorem dX9_end_0 : decode cX9_end 0 = .ok (.iload_n 1, 1) := by decide +kernel
theorem dX9_end_1 : decode cX9_end 1 = .ok (.ifCond .lt 14, 3) := by decide +kernel
theorem dX9_end_4 : decode cX9_end 4 = .ok (.iload_n 1, 1) := by decide +kernel
theorem dX9_end_5 : decode cX9_end 5 = .ok (.aload_n 0, 1) := by decide +kernel
theorem dX9_end_6 : decode cX9_end 6 = .ok (.getfield 10, 3) := by decide +kernel
theorem dX9_end_9 : decode cX9_end 9 = .ok (.getfield 109, 3) := by decide +kernel
theorem dX9_end_12 : decode cX9_end 12 = .ok (.if_icmp .le 5, 3) := by decide +kernel
theorem dX9_end_15 : decode cX9_end 15 = .ok (.iconst (-1), 1) := by decide +kernel
theorem dX9_end_16 : decode cX9_end 16 = .ok (.ireturn, 1) := by decide +kernel
theorem dX9_end_17 : decode cX9_end 17 = .ok (.aload_n 0, 1) := by decide +kernel
theorem dX9_end_18 : decode cX9_end 18 = .ok (.getfield 10, 3) := by decide +kernel
theorem dX9_end_21 : decode cX9_end 21 = .ok (.iload_n 1, 1) := by decide +kernel
theorem dX9_end_22 : decode cX9_end 22 = .ok (.putfield 109, 3) := by decide +kernel
theorem dX9_end_25 : decode cX9_end 25 = .ok (.iload_n 1, 1) := by decide +kernel
theorem dX9_end_26 : decode cX9_end 26 = .ok (.ireturn, 1) := by decide +kernel
set_option maxRecDepth 100000 in
theorem SX9_end_0 {g : zG} {o : Bool} {M : zM} {q : Int → zM → Prop} {x1 : Int} (W : (-2147483648 ≤ x1 ∧ x1 ≤ 2147483647) ∧ ((x1 < 0) → q (-1) M) ∧ ((¬ (x1 < 0)) → (-2147483648 ≤ (M 2 1) ∧ (M 2 1) ≤ 2147483647) ∧ ((x1 ≤ (M 2 1)) → q x1 (zu M 2 1 x1)) ∧ ((¬ (x1 ≤ (M 2 1))) → q (-1) M))) : zT g (z1 o) mX9_end (zQi (z1 o) q) 0 [(0, zA g 1), (1, zI x1)] [] M := by
  refine zr_iload_n 1 dX9_end_0 rfl ?_
  obtain ⟨c1, W⟩ := W
  refine zr_if_lt (tgt := 15) dX9_end_1 (by decide) c1 (fun h => ?_) (fun h => ?_)
  · have W := W.1 h
    refine zr_iconst dX9_end_15 ?_
    exact zt_iret dX9_end_16 rfl W
  · have W := W.2 h
    refine zr_iload_n 1 dX9_end_4 rfl ?_
    refine zr_aload_n 0 dX9_end_5 rfl ?_
    refine zr_getr (b := 2) dX9_end_6 fX9_10 rfl rfl rfl (by decide) ?_
    refine zt_geti 1 rfl dX9_end_9 fX9_109 rfl (by decide) ?_
    obtain ⟨c2, W⟩ := W
    refine zr_icmp_le (tgt := 17) dX9_end_12 (by decide) c1 c2 (fun h => ?_) (fun h => ?_)
    · have W := W.1 h
      refine zr_aload_n 0 dX9_end_17 rfl ?_
      refine zr_getr (b := 2) dX9_end_18 fX9_10 rfl rfl rfl (by decide) ?_
      refine zr_iload_n 1 dX9_end_21 rfl ?_
      refine zt_puti 1 rfl dX9_end_22 fX9_109 lcX8 ltX8_1 rfl rfl ?_
      refine zr_iload_n 1 dX9_end_25 rfl ?_
      exact zt_iret dX9_end_26 rfl W
    · have W := W.2 h
      refine zr_iconst dX9_end_15 ?_
      exact zt_iret dX9_end_16 rfl W
theorem dX9_fault_0 : decode cX9_fault 0 = .ok (.iload_n 1, 1) := by decide +kernel
theorem dX9_fault_1 : decode cX9_fault 1 = .ok (.lookupswitch 43 #[(0, 27), (1, 35)], 27) := by decide +kernel
theorem dX9_fault_28 : decode cX9_fault 28 = .ok (.aload_n 0, 1) := by decide +kernel
theorem dX9_fault_29 : decode cX9_fault 29 = .ok (.getfield 21, 3) := by decide +kernel
theorem dX9_fault_32 : decode cX9_fault 32 = .ok (.getfield 123, 3) := by decide +kernel
theorem dX9_fault_35 : decode cX9_fault 35 = .ok (.ireturn, 1) := by decide +kernel
theorem dX9_fault_36 : decode cX9_fault 36 = .ok (.aload_n 0, 1) := by decide +kernel
theorem dX9_fault_37 : decode cX9_fault 37 = .ok (.getfield 21, 3) := by decide +kernel
theorem dX9_fault_40 : decode cX9_fault 40 = .ok (.getfield 126, 3) := by decide +kernel
theorem dX9_fault_43 : decode cX9_fault 43 = .ok (.ireturn, 1) := by decide +kernel
theorem dX9_fault_44 : decode cX9_fault 44 = .ok (.iconst (-1), 1) := by decide +kernel
theorem dX9_fault_45 : decode cX9_fault 45 = .ok (.ireturn, 1) := by decide +kernel
set_option maxRecDepth 100000 in
theorem SX9_fault_0 {g : zG} {o : Bool} {M : zM} {q : Int → zM → Prop} {x1 : Int} (W : (-2147483648 ≤ x1 ∧ x1 ≤ 2147483647) ∧ (x1 = 0 → q (M 7 2) M) ∧ (x1 = 1 → q (M 7 3) M) ∧ (x1 ≠ 0 ∧ x1 ≠ 1 → q (-1) M)) : zT g (z1 o) mX9_fault (zQi (z1 o) q) 0 [(0, zA g 1), (1, zI x1)] [] M := by
  refine zr_iload_n 1 dX9_fault_0 rfl ?_
  obtain ⟨c1, W⟩ := W
  by_cases e0 : x1 = 0
  · have W := W.1 e0
    refine zr_look (tgt := 28) dX9_fault_1 (by decide) c1 (by rw [e0] <;> rfl) (by decide) ?_
    refine zr_aload_n 0 dX9_fault_28 rfl ?_
    refine zr_getr (b := 7) dX9_fault_29 fX9_21 rfl rfl rfl (by decide) ?_
    refine zt_geti 2 rfl dX9_fault_32 fX9_123 rfl (by decide) ?_
    exact zt_iret dX9_fault_35 rfl W
  by_cases e1 : x1 = 1
  · have W := W.2.1 e1
    refine zr_look (tgt := 36) dX9_fault_1 (by decide) c1 (by rw [e1] <;> rfl) (by decide) ?_
    refine zr_aload_n 0 dX9_fault_36 rfl ?_
    refine zr_getr (b := 7) dX9_fault_37 fX9_21 rfl rfl rfl (by decide) ?_
    refine zt_geti 3 rfl dX9_fault_40 fX9_126 rfl (by decide) ?_
    exact zt_iret dX9_fault_43 rfl W
  have W := W.2.2 ⟨e0, e1⟩
  refine zr_look (tgt := 44) (off := 43) dX9_fault_1 (by decide) c1 (by simp [Op.lookupswitch.offset_cons, Op.lookupswitch.offset, e0, Ne.symm e0, e1, Ne.symm e1]) (by decide) ?_
  refine zr_iconst dX9_fault_44 ?_
  exact zt_iret dX9_fault_45 rfl W
theorem dX9_beside_0 : decode cX9_beside 0 = .ok (.aload_n 0, 1) := by decide +kernel
theorem dX9_beside_1 : decode cX9_beside 1 = .ok (.getfield 28, 3) := by decide +kernel
theorem dX9_beside_4 : decode cX9_beside 4 = .ok (.iload_n 1, 1) := by decide +kernel
theorem dX9_beside_5 : decode cX9_beside 5 = .ok (.invokevirtual 148, 3) := by decide +kernel
theorem dX9_beside_8 : decode cX9_beside 8 = .ok (.ifCond .eq 12, 3) := by decide +kernel
theorem dX9_beside_11 : decode cX9_beside 11 = .ok (.iload_n 2, 1) := by decide +kernel
theorem dX9_beside_12 : decode cX9_beside 12 = .ok (.ifCond .lt 8, 3) := by decide +kernel
theorem dX9_beside_15 : decode cX9_beside 15 = .ok (.iload_n 2, 1) := by decide +kernel
theorem dX9_beside_16 : decode cX9_beside 16 = .ok (.iconst 4, 1) := by decide +kernel
theorem dX9_beside_17 : decode cX9_beside 17 = .ok (.if_icmp .lt 5, 3) := by decide +kernel
theorem dX9_beside_20 : decode cX9_beside 20 = .ok (.iconst (-1), 1) := by decide +kernel
theorem dX9_beside_21 : decode cX9_beside 21 = .ok (.ireturn, 1) := by decide +kernel
theorem dX9_beside_22 : decode cX9_beside 22 = .ok (.aload_n 0, 1) := by decide +kernel
theorem dX9_beside_23 : decode cX9_beside 23 = .ok (.getfield 28, 3) := by decide +kernel
theorem dX9_beside_26 : decode cX9_beside 26 = .ok (.iload_n 1, 1) := by decide +kernel
theorem dX9_beside_27 : decode cX9_beside 27 = .ok (.iload_n 2, 1) := by decide +kernel
theorem dX9_beside_28 : decode cX9_beside 28 = .ok (.invokevirtual 173, 3) := by decide +kernel
theorem dX9_beside_31 : decode cX9_beside 31 = .ok (.ireturn, 1) := by decide +kernel
set_option maxRecDepth 100000 in
theorem SX9_beside_0 {g : zG} {o : Bool} {C R : Int} {M : zM} {q : Int → zM → Prop} {x1 x2 : Int} (W : (-2147483648 ≤ x1 ∧ x1 ≤ 2147483647) ∧ (zLand M C R) ∧ ((¬ (0 ≤ x1 ∧ x1 < C * R)) → q (-1) M) ∧ ((0 ≤ x1 ∧ x1 < C * R) → (-2147483648 ≤ x2 ∧ x2 ≤ 2147483647) ∧ ((x2 < 0) → q (-1) M) ∧ ((¬ (x2 < 0)) → ((x2 < 4) → (0 ≤ x1 ∧ x1 < C * R) ∧ (0 ≤ x2 ∧ x2 ≤ 3) ∧ q (alg C R x1 x2 1) M) ∧ ((¬ (x2 < 4)) → q (-1) M)))) : zT g (z1 o) mX9_beside (zQi (z1 o) q) 0 [(0, zA g 1), (1, zI x1), (2, zI x2)] [] M := by
  refine zr_aload_n 0 dX9_beside_0 rfl ?_
  refine zr_getr (b := 14) dX9_beside_1 fX9_28 rfl rfl rfl (by decide) ?_
  refine zr_iload_n 1 dX9_beside_4 rfl ?_
  obtain ⟨c1, W⟩ := W
  obtain ⟨c2, W⟩ := W
  refine zt_callVi (As := [zI x1]) (rest := []) dX9_beside_5 kX9_beside_148 rfl rfl rfl rfl (Nat.le_of_ble_eq_true rfl) (c_has c1 c2) (fun r3 N5 h4 => ?_)
  rw [h4.1, h4.2]
  refine zt_ifeq_b (tgt := 20) dX9_beside_8 (by decide) (fun h => ?_) (fun h => ?_)
  · have W := W.1 h
    refine zr_iconst dX9_beside_20 ?_
    exact zt_iret dX9_beside_21 rfl W
  · have W := W.2 h
    refine zr_iload_n 2 dX9_beside_11 rfl ?_
    obtain ⟨c6, W⟩ := W
    refine zr_if_lt (tgt := 20) dX9_beside_12 (by decide) c6 (fun h => ?_) (fun h => ?_)
    · have W := W.1 h
      refine zr_iconst dX9_beside_20 ?_
      exact zt_iret dX9_beside_21 rfl W
    · have W := W.2 h
      refine zr_iload_n 2 dX9_beside_15 rfl ?_
      refine zr_iconst dX9_beside_16 ?_
      refine zr_icmp_lt (tgt := 22) dX9_beside_17 (by decide) c6 ⟨by decide, by decide⟩ (fun h => ?_) (fun h => ?_)
      · have W := W.1 h
        refine zr_aload_n 0 dX9_beside_22 rfl ?_
        refine zr_getr (b := 14) dX9_beside_23 fX9_28 rfl rfl rfl (by decide) ?_
        refine zr_iload_n 1 dX9_beside_26 rfl ?_
        refine zr_iload_n 2 dX9_beside_27 rfl ?_
        obtain ⟨c7, W⟩ := W
        obtain ⟨c8, W⟩ := W
        refine zt_callVi (As := [zI x1, zI x2]) (rest := []) dX9_beside_28 kX9_beside_173 rfl rfl rfl rfl (Nat.le_of_ble_eq_true rfl) (c_nbr c2 c7 c8) (fun r9 N11 h10 => ?_)
        rw [h10.1, h10.2]
        exact zt_iret dX9_beside_31 rfl W
      · have W := W.2 h
        refine zr_iconst dX9_beside_20 ?_
        exact zt_iret dX9_beside_21 rfl W
theorem dX9_wind_0 : decode cX9_wind 0 = .ok (.iload_n 1, 1) := by decide +kernel
theorem dX9_wind_1 : decode cX9_wind 1 = .ok (.ifCond .lt 10, 3) := by decide +kernel
theorem dX9_wind_4 : decode cX9_wind 4 = .ok (.iload_n 1, 1) := by decide +kernel
theorem dX9_wind_5 : decode cX9_wind 5 = .ok (.sipush 9999, 3) := by decide +kernel
theorem dX9_wind_8 : decode cX9_wind 8 = .ok (.if_icmp .le 5, 3) := by decide +kernel
theorem dX9_wind_11 : decode cX9_wind 11 = .ok (.iconst (-1), 1) := by decide +kernel
theorem dX9_wind_12 : decode cX9_wind 12 = .ok (.ireturn, 1) := by decide +kernel
theorem dX9_wind_13 : decode cX9_wind 13 = .ok (.aload_n 0, 1) := by decide +kernel
theorem dX9_wind_14 : decode cX9_wind 14 = .ok (.getfield 28, 3) := by decide +kernel
theorem dX9_wind_17 : decode cX9_wind 17 = .ok (.aload_n 0, 1) := by decide +kernel
theorem dX9_wind_18 : decode cX9_wind 18 = .ok (.getfield 39, 3) := by decide +kernel
theorem dX9_wind_21 : decode cX9_wind 21 = .ok (.getfield 177, 3) := by decide +kernel
theorem dX9_wind_24 : decode cX9_wind 24 = .ok (.iload_n 1, 1) := by decide +kernel
theorem dX9_wind_25 : decode cX9_wind 25 = .ok (.iadd, 1) := by decide +kernel
theorem dX9_wind_26 : decode cX9_wind 26 = .ok (.invokevirtual 180, 3) := by decide +kernel
theorem dX9_wind_29 : decode cX9_wind 29 = .ok (.ireturn, 1) := by decide +kernel
set_option maxRecDepth 100000 in
theorem SX9_wind_0 {g : zG} {o : Bool} {C R : Int} {M : zM} {q : Int → zM → Prop} {x1 : Int} (W : (-2147483648 ≤ x1 ∧ x1 ≤ 2147483647) ∧ ((x1 < 0) → q (-1) M) ∧ ((¬ (x1 < 0)) → ((x1 ≤ 9999) → (zLand M C R) ∧ (0 ≤ ((M 24 4) + x1) ∧ ((M 24 4) + x1) ≤ 2147483647) ∧ q (wnd M ((M 24 4) + x1)) M) ∧ ((¬ (x1 ≤ 9999)) → q (-1) M))) : zT g (z1 o) mX9_wind (zQi (z1 o) q) 0 [(0, zA g 1), (1, zI x1)] [] M := by
  refine zr_iload_n 1 dX9_wind_0 rfl ?_
  obtain ⟨c1, W⟩ := W
  refine zr_if_lt (tgt := 11) dX9_wind_1 (by decide) c1 (fun h => ?_) (fun h => ?_)
  · have W := W.1 h
    refine zr_iconst dX9_wind_11 ?_
    exact zt_iret dX9_wind_12 rfl W
  · have W := W.2 h
    refine zr_iload_n 1 dX9_wind_4 rfl ?_
    refine zr_sipush dX9_wind_5 (by decide) ?_
    refine zr_icmp_le (tgt := 13) dX9_wind_8 (by decide) c1 ⟨by decide, by decide⟩ (fun h => ?_) (fun h => ?_)
    · have W := W.1 h
      refine zr_aload_n 0 dX9_wind_13 rfl ?_
      refine zr_getr (b := 14) dX9_wind_14 fX9_28 rfl rfl rfl (by decide) ?_
      refine zr_aload_n 0 dX9_wind_17 rfl ?_
      refine zr_getr (b := 24) dX9_wind_18 fX9_39 rfl rfl rfl (by decide) ?_
      refine zt_geti 4 rfl dX9_wind_21 fX9_177 rfl (by decide) ?_
      refine zr_iload_n 1 dX9_wind_24 rfl ?_
      refine zr_iadd dX9_wind_25 ?_
      obtain ⟨c2, W⟩ := W
      obtain ⟨c3, W⟩ := W
      refine zt_callVi (As := [zI ((M 24 4) + x1)]) (rest := []) dX9_wind_26 kX9_wind_180 rfl rfl rfl rfl (Nat.le_of_ble_eq_true rfl) (c_wind c2 c3) (fun r4 N6 h5 => ?_)
      rw [h5.1, h5.2]
      exact zt_iret dX9_wind_29 rfl W
    · have W := W.2 h
      refine zr_iconst dX9_wind_11 ?_
      exact zt_iret dX9_wind_12 rfl W
theorem dX9_windNow_0 : decode cX9_windNow 0 = .ok (.aload_n 0, 1) := by decide +kernel
theorem dX9_windNow_1 : decode cX9_windNow 1 = .ok (.getfield 28, 3) := by decide +kernel
theorem dX9_windNow_4 : decode cX9_windNow 4 = .ok (.aload_n 0, 1) := by decide +kernel
theorem dX9_windNow_5 : decode cX9_windNow 5 = .ok (.getfield 39, 3) := by decide +kernel
theorem dX9_windNow_8 : decode cX9_windNow 8 = .ok (.getfield 177, 3) := by decide +kernel
theorem dX9_windNow_11 : decode cX9_windNow 11 = .ok (.invokevirtual 180, 3) := by decide +kernel
theorem dX9_windNow_14 : decode cX9_windNow 14 = .ok (.ireturn, 1) := by decide +kernel
set_option maxRecDepth 100000 in
theorem SX9_windNow_0 {g : zG} {o : Bool} {C R : Int} {M : zM} {q : Int → zM → Prop} (W : (zLand M C R) ∧ (0 ≤ (M 24 4) ∧ (M 24 4) ≤ 2147483647) ∧ q (wnd M (M 24 4)) M) : zT g (z1 o) mX9_windNow (zQi (z1 o) q) 0 [(0, zA g 1)] [] M := by
  refine zr_aload_n 0 dX9_windNow_0 rfl ?_
  refine zr_getr (b := 14) dX9_windNow_1 fX9_28 rfl rfl rfl (by decide) ?_
  refine zr_aload_n 0 dX9_windNow_4 rfl ?_
  refine zr_getr (b := 24) dX9_windNow_5 fX9_39 rfl rfl rfl (by decide) ?_
  refine zt_geti 4 rfl dX9_windNow_8 fX9_177 rfl (by decide) ?_
  obtain ⟨c1, W⟩ := W
  obtain ⟨c2, W⟩ := W
  refine zt_callVi (As := [zI (M 24 4)]) (rest := []) dX9_windNow_11 kX9_windNow_180 rfl rfl rfl rfl (Nat.le_of_ble_eq_true rfl) (c_wind c1 c2) (fun r3 N5 h4 => ?_)
  rw [h4.1, h4.2]
  exact zt_iret dX9_windNow_14 rfl W
theorem dX9_later_0 : decode cX9_later 0 = .ok (.iload_n 1, 1) := by decide +kernel
theorem dX9_later_1 : decode cX9_later 1 = .ok (.ifCond .lt 22, 3) := by decide +kernel
theorem dX9_later_4 : decode cX9_later 4 = .ok (.iload_n 1, 1) := by decide +kernel
theorem dX9_later_5 : decode cX9_later 5 = .ok (.sipush 1000, 3) := by decide +kernel
theorem dX9_later_8 : decode cX9_later 8 = .ok (.if_icmp .gt 15, 3) := by decide +kernel
theorem dX9_later_11 : decode cX9_later 11 = .ok (.aload_n 0, 1) := by decide +kernel
theorem dX9_later_12 : decode cX9_later 12 = .ok (.getfield 97, 3) := by decide +kernel
theorem dX9_later_15 : decode cX9_later 15 = .ok (.iload_n 1, 1) := by decide +kernel
theorem dX9_later_16 : decode cX9_later 16 = .ok (.iadd, 1) := by decide +kernel
theorem dX9_later_17 : decode cX9_later 17 = .ok (.ldc_w 368, 3) := by decide +kernel
theorem dX9_later_20 : decode cX9_later 20 = .ok (.if_icmp .le 5, 3) := by decide +kernel
theorem dX9_later_23 : decode cX9_later 23 = .ok (.iconst (-1), 1) := by decide +kernel
theorem dX9_later_24 : decode cX9_later 24 = .ok (.ireturn, 1) := by decide +kernel
theorem dX9_later_25 : decode cX9_later 25 = .ok (.aload_n 0, 1) := by decide +kernel
theorem dX9_later_26 : decode cX9_later 26 = .ok (.dup, 1) := by decide +kernel
theorem dX9_later_27 : decode cX9_later 27 = .ok (.getfield 97, 3) := by decide +kernel
theorem dX9_later_30 : decode cX9_later 30 = .ok (.iload_n 1, 1) := by decide +kernel
theorem dX9_later_31 : decode cX9_later 31 = .ok (.iadd, 1) := by decide +kernel
theorem dX9_later_32 : decode cX9_later 32 = .ok (.putfield 97, 3) := by decide +kernel
theorem dX9_later_35 : decode cX9_later 35 = .ok (.aload_n 0, 1) := by decide +kernel
theorem dX9_later_36 : decode cX9_later 36 = .ok (.getfield 97, 3) := by decide +kernel
theorem dX9_later_39 : decode cX9_later 39 = .ok (.ireturn, 1) := by decide +kernel
set_option maxRecDepth 100000 in
theorem SX9_later_0 {g : zG} {o : Bool} {M : zM} {q : Int → zM → Prop} {x1 : Int} (W : (-2147483648 ≤ x1 ∧ x1 ≤ 2147483647) ∧ ((x1 < 0) → q (-1) M) ∧ ((¬ (x1 < 0)) → ((1000 < x1) → q (-1) M) ∧ ((¬ (1000 < x1)) → (-2147483648 ≤ ((M 1 15) + x1) ∧ ((M 1 15) + x1) ≤ 2147483647) ∧ ((((M 1 15) + x1) ≤ 100000) → q ((zu M 1 15 ((M 1 15) + x1)) 1 15) (zu M 1 15 ((M 1 15) + x1))) ∧ ((¬ (((M 1 15) + x1) ≤ 100000)) → q (-1) M)))) : zT g (z1 o) mX9_later (zQi (z1 o) q) 0 [(0, zA g 1), (1, zI x1)] [] M := by
  refine zr_iload_n 1 dX9_later_0 rfl ?_
  obtain ⟨c1, W⟩ := W
  refine zr_if_lt (tgt := 23) dX9_later_1 (by decide) c1 (fun h => ?_) (fun h => ?_)
  · have W := W.1 h
    refine zr_iconst dX9_later_23 ?_
    exact zt_iret dX9_later_24 rfl W
  · have W := W.2 h
    refine zr_iload_n 1 dX9_later_4 rfl ?_
    refine zr_sipush dX9_later_5 (by decide) ?_
    refine zr_icmp_gt (tgt := 23) dX9_later_8 (by decide) c1 ⟨by decide, by decide⟩ (fun h => ?_) (fun h => ?_)
    · have W := W.1 h
      refine zr_iconst dX9_later_23 ?_
      exact zt_iret dX9_later_24 rfl W
    · have W := W.2 h
      refine zr_aload_n 0 dX9_later_11 rfl ?_
      refine zt_geti 15 rfl dX9_later_12 fX9_97 rfl (by decide) ?_
      refine zr_iload_n 1 dX9_later_15 rfl ?_
      refine zr_iadd dX9_later_16 ?_
      refine zr_ldcw (x := 100000) dX9_later_17 (zc5 37 (by decide +kernel) rfl) ?_
      obtain ⟨c2, W⟩ := W
      refine zr_icmp_le (tgt := 25) dX9_later_20 (by decide) c2 ⟨by decide, by decide⟩ (fun h => ?_) (fun h => ?_)
      · have W := W.1 h
        refine zr_aload_n 0 dX9_later_25 rfl ?_
        refine zr_dup dX9_later_26 rfl ?_
        refine zt_geti 15 rfl dX9_later_27 fX9_97 rfl (by decide) ?_
        refine zr_iload_n 1 dX9_later_30 rfl ?_
        refine zr_iadd dX9_later_31 ?_
        refine zt_puti 15 rfl dX9_later_32 fX9_97 lcX9 ltX9_15 rfl rfl ?_
        refine zr_aload_n 0 dX9_later_35 rfl ?_
        refine zt_geti 15 rfl dX9_later_36 fX9_97 rfl (by decide) ?_
        exact zt_iret dX9_later_39 rfl W
      · have W := W.2 h
        refine zr_iconst dX9_later_23 ?_
        exact zt_iret dX9_later_24 rfl W
theorem dX6_takeBack_0 : decode cX6_takeBack 0 = .ok (.iload_n 1, 1) := by decide +kernel
theorem dX6_takeBack_1 : decode cX6_takeBack 1 = .ok (.ifCond .lt 21, 3) := by decide +kernel
theorem dX6_takeBack_4 : decode cX6_takeBack 4 = .ok (.iload_n 1, 1) := by decide +kernel
theorem dX6_takeBack_5 : decode cX6_takeBack 5 = .ok (.aload_n 0, 1) := by decide +kernel
theorem dX6_takeBack_6 : decode cX6_takeBack 6 = .ok (.getfield 25, 3) := by decide +kernel
theorem dX6_takeBack_9 : decode cX6_takeBack 9 = .ok (.if_icmp .ge 13, 3) := by decide +kernel
theorem dX6_takeBack_12 : decode cX6_takeBack 12 = .ok (.aload_n 0, 1) := by decide +kernel
theorem dX6_takeBack_13 : decode cX6_takeBack 13 = .ok (.getfield 15, 3) := by decide +kernel
theorem dX6_takeBack_16 : decode cX6_takeBack 16 = .ok (.iload_n 1, 1) := by decide +kernel
theorem dX6_takeBack_17 : decode cX6_takeBack 17 = .ok (.iaload, 1) := by decide +kernel
theorem dX6_takeBack_18 : decode cX6_takeBack 18 = .ok (.iconst (-1), 1) := by decide +kernel
theorem dX6_takeBack_19 : decode cX6_takeBack 19 = .ok (.if_icmp .eq 5, 3) := by decide +kernel
theorem dX6_takeBack_22 : decode cX6_takeBack 22 = .ok (.iconst 0, 1) := by decide +kernel
theorem dX6_takeBack_23 : decode cX6_takeBack 23 = .ok (.ireturn, 1) := by decide +kernel
theorem dX6_takeBack_24 : decode cX6_takeBack 24 = .ok (.aload_n 0, 1) := by decide +kernel
theorem dX6_takeBack_25 : decode cX6_takeBack 25 = .ok (.getfield 15, 3) := by decide +kernel
theorem dX6_takeBack_28 : decode cX6_takeBack 28 = .ok (.iload_n 1, 1) := by decide +kernel
theorem dX6_takeBack_29 : decode cX6_takeBack 29 = .ok (.iload_n 2, 1) := by decide +kernel
theorem dX6_takeBack_30 : decode cX6_takeBack 30 = .ok (.iastore, 1) := by decide +kernel
theorem dX6_takeBack_31 : decode cX6_takeBack 31 = .ok (.iconst 1, 1) := by decide +kernel
theorem dX6_takeBack_32 : decode cX6_takeBack 32 = .ok (.ireturn, 1) := by decide +kernel
set_option maxRecDepth 100000 in
theorem SX6_takeBack_0 {g : zG} {o : Bool} {M : zM} {q : Int → zM → Prop} {x1 x2 : Int} (W : (-2147483648 ≤ x1 ∧ x1 ≤ 2147483647) ∧ ((x1 < 0) → q 0 M) ∧ ((¬ (x1 < 0)) → (-2147483648 ≤ (M 122 8) ∧ (M 122 8) ≤ 2147483647) ∧ (((M 122 8) ≤ x1) → q 0 M) ∧ ((¬ ((M 122 8) ≤ x1)) → (0 ≤ x1 ∧ x1 < 20) ∧ (-2147483648 ≤ (M 124 x1) ∧ (M 124 x1) ≤ 2147483647) ∧ (((M 124 x1) = (-1)) → q 1 (zu M 124 x1 x2)) ∧ ((¬ ((M 124 x1) = (-1))) → q 0 M)))) : zT g (z1 o) mX6_takeBack (zQi (z1 o) q) 0 [(0, zA g 122), (1, zI x1), (2, zI x2)] [] M := by
  refine zr_iload_n 1 dX6_takeBack_0 rfl ?_
  obtain ⟨c1, W⟩ := W
  refine zr_if_lt (tgt := 22) dX6_takeBack_1 (by decide) c1 (fun h => ?_) (fun h => ?_)
  · have W := W.1 h
    refine zr_iconst dX6_takeBack_22 ?_
    exact zt_zret dX6_takeBack_23 rfl (by decide) W
  · have W := W.2 h
    refine zr_iload_n 1 dX6_takeBack_4 rfl ?_
    refine zr_aload_n 0 dX6_takeBack_5 rfl ?_
    refine zt_geti 8 rfl dX6_takeBack_6 fX6_25 rfl (by decide) ?_
    obtain ⟨c2, W⟩ := W
    refine zr_icmp_ge (tgt := 22) dX6_takeBack_9 (by decide) c1 c2 (fun h => ?_) (fun h => ?_)
    · have W := W.1 h
      refine zr_iconst dX6_takeBack_22 ?_
      exact zt_zret dX6_takeBack_23 rfl (by decide) W
    · have W := W.2 h
      refine zr_aload_n 0 dX6_takeBack_12 rfl ?_
      refine zr_getr (b := 124) dX6_takeBack_13 fX6_15 rfl rfl rfl (by decide) ?_
      refine zr_iload_n 1 dX6_takeBack_16 rfl ?_
      obtain ⟨c3, W⟩ := W
      refine zr_iald dX6_takeBack_17 rfl (by decide) c3 ?_
      refine zr_iconst dX6_takeBack_18 ?_
      obtain ⟨c4, W⟩ := W
      refine zr_icmp_eq (tgt := 24) dX6_takeBack_19 (by decide) c4 ⟨by decide, by decide⟩ (fun h => ?_) (fun h => ?_)
      · have W := W.1 h
        refine zr_aload_n 0 dX6_takeBack_24 rfl ?_
        refine zr_getr (b := 124) dX6_takeBack_25 fX6_15 rfl rfl rfl (by decide) ?_
        refine zr_iload_n 1 dX6_takeBack_28 rfl ?_
        refine zr_iload_n 2 dX6_takeBack_29 rfl ?_
        refine zr_iast dX6_takeBack_30 rfl (by decide) c3 ?_
        refine zr_iconst dX6_takeBack_31 ?_
        exact zt_zret dX6_takeBack_32 rfl (by decide) W
      · have W := W.2 h
        refine zr_iconst dX6_takeBack_22 ?_
        exact zt_zret dX6_takeBack_23 rfl (by decide) W
theorem dX9_untell_0 : decode cX9_untell 0 = .ok (.aload_n 0, 1) := by decide +kernel
theorem dX9_untell_1 : decode cX9_untell 1 = .ok (.getfield 69, 3) := by decide +kernel
theorem dX9_untell_4 : decode cX9_untell 4 = .ok (.iload_n 1, 1) := by decide +kernel
theorem dX9_untell_5 : decode cX9_untell 5 = .ok (.aload_n 0, 1) := by decide +kernel
theorem dX9_untell_6 : decode cX9_untell 6 = .ok (.getfield 97, 3) := by decide +kernel
theorem dX9_untell_9 : decode cX9_untell 9 = .ok (.invokevirtual 365, 3) := by decide +kernel
theorem dX9_untell_12 : decode cX9_untell 12 = .ok (.ireturn, 1) := by decide +kernel
set_option maxRecDepth 100000 in
theorem SX9_untell_0 {g : zG} {o : Bool} {M : zM} {q : Int → zM → Prop} {x1 : Int} (W : ∃ q1 : Int → zM → Prop, zKi g (z1 o) mX6_takeBack [zA g 122, zI x1, zI (M 1 15)] M q1 ∧ ∀ (r2 : Int) (M3 : zM), q1 r2 M3 → (r2 = 0 ∨ r2 = 1) ∧ q r2 M3) : zT g (z1 o) mX9_untell (zQi (z1 o) q) 0 [(0, zA g 1), (1, zI x1)] [] M := by
  refine zr_aload_n 0 dX9_untell_0 rfl ?_
  refine zr_getr (b := 122) dX9_untell_1 fX9_69 rfl rfl rfl (by decide) ?_
  refine zr_iload_n 1 dX9_untell_4 rfl ?_
  refine zr_aload_n 0 dX9_untell_5 rfl ?_
  refine zt_geti 15 rfl dX9_untell_6 fX9_97 rfl (by decide) ?_
  obtain ⟨q1, k5, W⟩ := W
  refine zt_callVi (As := [zI x1, zI (M 1 15)]) (rest := []) dX9_untell_9 kX9_untell_365 rfl rfl rfl rfl (Nat.le_of_ble_eq_true rfl) k5 (fun r2 M3 h4 => ?_)
  have W := W r2 M3 h4
  exact zt_zret dX9_untell_12 rfl W.1 W.2
theorem dX9_grassy_0 : decode cX9_grassy 0 = .ok (.iconst 0, 1) := by decide +kernel
theorem dX9_grassy_1 : decode cX9_grassy 1 = .ok (.istore_n 1, 1) := by decide +kernel
theorem dX9_grassy_2 : decode cX9_grassy 2 = .ok (.iconst 0, 1) := by decide +kernel
theorem dX9_grassy_3 : decode cX9_grassy 3 = .ok (.istore_n 2, 1) := by decide +kernel
theorem dX9_grassy_4 : decode cX9_grassy 4 = .ok (.iload_n 2, 1) := by decide +kernel
theorem dX9_grassy_5 : decode cX9_grassy 5 = .ok (.aload_n 0, 1) := by decide +kernel
theorem dX9_grassy_6 : decode cX9_grassy 6 = .ok (.getfield 28, 3) := by decide +kernel
theorem dX9_grassy_9 : decode cX9_grassy 9 = .ok (.getfield 120, 3) := by decide +kernel
theorem dX9_grassy_12 : decode cX9_grassy 12 = .ok (.if_icmp .ge 21, 3) := by decide +kernel
theorem dX9_grassy_15 : decode cX9_grassy 15 = .ok (.iload_n 1, 1) := by decide +kernel
theorem dX9_grassy_16 : decode cX9_grassy 16 = .ok (.aload_n 0, 1) := by decide +kernel
theorem dX9_grassy_17 : decode cX9_grassy 17 = .ok (.getfield 39, 3) := by decide +kernel
theorem dX9_grassy_20 : decode cX9_grassy 20 = .ok (.getfield 163, 3) := by decide +kernel
theorem dX9_grassy_23 : decode cX9_grassy 23 = .ok (.iload_n 2, 1) := by decide +kernel
theorem dX9_grassy_24 : decode cX9_grassy 24 = .ok (.iaload, 1) := by decide +kernel
theorem dX9_grassy_25 : decode cX9_grassy 25 = .ok (.iadd, 1) := by decide +kernel
theorem dX9_grassy_26 : decode cX9_grassy 26 = .ok (.istore_n 1, 1) := by decide +kernel
theorem dX9_grassy_27 : decode cX9_grassy 27 = .ok (.iinc 2 1, 3) := by decide +kernel
theorem dX9_grassy_30 : decode cX9_grassy 30 = .ok (.goto (-26), 3) := by decide +kernel
theorem dX9_grassy_33 : decode cX9_grassy 33 = .ok (.iload_n 1, 1) := by decide +kernel
theorem dX9_grassy_34 : decode cX9_grassy 34 = .ok (.ireturn, 1) := by decide +kernel
set_option maxRecDepth 100000 in
theorem SX9_grassy_0 {g : zG} {o : Bool} {M : zM} {q : Int → zM → Prop} (W : zT g (z1 o) mX9_grassy (zQi (z1 o) q) 4 [(0, zA g 1), (1, zI 0), (2, zI 0)] [] M) : zT g (z1 o) mX9_grassy (zQi (z1 o) q) 0 [(0, zA g 1)] [] M := by
  refine zr_iconst dX9_grassy_0 ?_
  refine zr_istore_n (l' := [(0, zA g 1), (1, zI 0)]) dX9_grassy_1 (by decide) [1, 0] rfl ?_
  refine zr_iconst dX9_grassy_2 ?_
  refine zr_istore_n (l' := [(0, zA g 1), (1, zI 0), (2, zI 0)]) dX9_grassy_3 (by decide) [1, 2, 0] rfl ?_
  exact W
set_option maxRecDepth 100000 in
theorem SX9_grassy_4 {g : zG} {o : Bool} {M : zM} {q : Int → zM → Prop} {x1 x2 : Int} (W : (-2147483648 ≤ x2 ∧ x2 ≤ 2147483647) ∧ (-2147483648 ≤ (M 14 2) ∧ (M 14 2) ≤ 2147483647) ∧ (((M 14 2) ≤ x2) → q x1 M) ∧ ((¬ ((M 14 2) ≤ x2)) → (0 ≤ x2 ∧ x2 < 96) ∧ zT g (z1 o) mX9_grassy (zQi (z1 o) q) 4 [(0, zA g 1), (1, zI (x1 + (M 26 x2))), (2, zI (x2 + 1))] [] M)) : zT g (z1 o) mX9_grassy (zQi (z1 o) q) 4 [(0, zA g 1), (1, zI x1), (2, zI x2)] [] M := by
  refine zr_iload_n 2 dX9_grassy_4 rfl ?_
  refine zr_aload_n 0 dX9_grassy_5 rfl ?_
  refine zr_getr (b := 14) dX9_grassy_6 fX9_28 rfl rfl rfl (by decide) ?_
  refine zt_geti 2 rfl dX9_grassy_9 fX9_120 rfl (by decide) ?_
  obtain ⟨c1, W⟩ := W
  obtain ⟨c2, W⟩ := W
  refine zr_icmp_ge (tgt := 33) dX9_grassy_12 (by decide) c1 c2 (fun h => ?_) (fun h => ?_)
  · have W := W.1 h
    refine zr_iload_n 1 dX9_grassy_33 rfl ?_
    exact zt_iret dX9_grassy_34 rfl W
  · have W := W.2 h
    refine zr_iload_n 1 dX9_grassy_15 rfl ?_
    refine zr_aload_n 0 dX9_grassy_16 rfl ?_
    refine zr_getr (b := 24) dX9_grassy_17 fX9_39 rfl rfl rfl (by decide) ?_
    refine zr_getr (b := 26) dX9_grassy_20 fX9_163 rfl rfl rfl (by decide) ?_
    refine zr_iload_n 2 dX9_grassy_23 rfl ?_
    obtain ⟨c3, W⟩ := W
    refine zr_iald dX9_grassy_24 rfl (by decide) c3 ?_
    refine zr_iadd dX9_grassy_25 ?_
    refine zr_istore_n (l' := [(0, zA g 1), (1, zI (x1 + (M 26 x2))), (2, zI x2)]) dX9_grassy_26 (by decide) [1, 0, 2] rfl ?_
    refine zr_iinc (q := 2) (l' := [(0, zA g 1), (1, zI (x1 + (M 26 x2))), (2, zI (x2 + 1))]) dX9_grassy_27 rfl (by decide) [1, 2, 0] rfl ?_
    refine zr_goto (tgt := 4) dX9_grassy_30 (by decide) ?_
    exact W
theorem dX9_steepness_0 : decode cX9_steepness 0 = .ok (.iconst 0, 1) := by decide +kernel
theorem dX9_steepness_1 : decode cX9_steepness 1 = .ok (.istore_n 2, 1) := by decide +kernel
theorem dX9_steepness_2 : decode cX9_steepness 2 = .ok (.iconst 0, 1) := by decide +kernel
theorem dX9_steepness_3 : decode cX9_steepness 3 = .ok (.istore_n 3, 1) := by decide +kernel
theorem dX9_steepness_4 : decode cX9_steepness 4 = .ok (.iload_n 3, 1) := by decide +kernel
theorem dX9_steepness_5 : decode cX9_steepness 5 = .ok (.iconst 4, 1) := by decide +kernel
theorem dX9_steepness_6 : decode cX9_steepness 6 = .ok (.if_icmp .ge 45, 3) := by decide +kernel
theorem dX9_steepness_9 : decode cX9_steepness 9 = .ok (.aload_n 0, 1) := by decide +kernel
theorem dX9_steepness_10 : decode cX9_steepness 10 = .ok (.getfield 39, 3) := by decide +kernel
theorem dX9_steepness_13 : decode cX9_steepness 13 = .ok (.getfield 152, 3) := by decide +kernel
theorem dX9_steepness_16 : decode cX9_steepness 16 = .ok (.iload_n 1, 1) := by decide +kernel
theorem dX9_steepness_17 : decode cX9_steepness 17 = .ok (.iaload, 1) := by decide +kernel
theorem dX9_steepness_18 : decode cX9_steepness 18 = .ok (.aload_n 0, 1) := by decide +kernel
theorem dX9_steepness_19 : decode cX9_steepness 19 = .ok (.getfield 39, 3) := by decide +kernel
theorem dX9_steepness_22 : decode cX9_steepness 22 = .ok (.getfield 152, 3) := by decide +kernel
theorem dX9_steepness_25 : decode cX9_steepness 25 = .ok (.aload_n 0, 1) := by decide +kernel
theorem dX9_steepness_26 : decode cX9_steepness 26 = .ok (.getfield 28, 3) := by decide +kernel
theorem dX9_steepness_29 : decode cX9_steepness 29 = .ok (.iload_n 1, 1) := by decide +kernel
theorem dX9_steepness_30 : decode cX9_steepness 30 = .ok (.iload_n 3, 1) := by decide +kernel
theorem dX9_steepness_31 : decode cX9_steepness 31 = .ok (.invokevirtual 173, 3) := by decide +kernel
theorem dX9_steepness_34 : decode cX9_steepness 34 = .ok (.iaload, 1) := by decide +kernel
theorem dX9_steepness_35 : decode cX9_steepness 35 = .ok (.isub, 1) := by decide +kernel
theorem dX9_steepness_36 : decode cX9_steepness 36 = .ok (.istore 4, 2) := by decide +kernel
theorem dX9_steepness_38 : decode cX9_steepness 38 = .ok (.iload_n 2, 1) := by decide +kernel
theorem dX9_steepness_39 : decode cX9_steepness 39 = .ok (.iload 4, 2) := by decide +kernel
theorem dX9_steepness_41 : decode cX9_steepness 41 = .ok (.invokestatic 183, 3) := by decide +kernel
theorem dX9_steepness_44 : decode cX9_steepness 44 = .ok (.istore_n 2, 1) := by decide +kernel
theorem dX9_steepness_45 : decode cX9_steepness 45 = .ok (.iinc 3 1, 3) := by decide +kernel
theorem dX9_steepness_48 : decode cX9_steepness 48 = .ok (.goto (-44), 3) := by decide +kernel
theorem dX9_steepness_51 : decode cX9_steepness 51 = .ok (.iload_n 2, 1) := by decide +kernel
theorem dX9_steepness_52 : decode cX9_steepness 52 = .ok (.ireturn, 1) := by decide +kernel
set_option maxRecDepth 100000 in
theorem SX9_steepness_0 {g : zG} {o : Bool} {M : zM} {q : Int → zM → Prop} {x1 : Int} (W : zT g (z1 o) mX9_steepness (zQi (z1 o) q) 4 [(0, zA g 1), (1, zI x1), (2, zI 0), (3, zI 0)] [] M) : zT g (z1 o) mX9_steepness (zQi (z1 o) q) 0 [(0, zA g 1), (1, zI x1)] [] M := by
  refine zr_iconst dX9_steepness_0 ?_
  refine zr_istore_n (l' := [(0, zA g 1), (1, zI x1), (2, zI 0)]) dX9_steepness_1 (by decide) [1, 2, 0] rfl ?_
  refine zr_iconst dX9_steepness_2 ?_
  refine zr_istore_n (l' := [(0, zA g 1), (1, zI x1), (2, zI 0), (3, zI 0)]) dX9_steepness_3 (by decide) [1, 2, 3, 0] rfl ?_
  exact W
set_option maxRecDepth 100000 in
theorem SX9_steepness_4 {g : zG} {o : Bool} {C R : Int} {M : zM} {q : Int → zM → Prop} {x1 x2 x3 : Int} (W : (-2147483648 ≤ x3 ∧ x3 ≤ 2147483647) ∧ ((4 ≤ x3) → q x2 M) ∧ ((¬ (4 ≤ x3)) → (0 ≤ x1 ∧ x1 < 96) ∧ (zLand M C R) ∧ (0 ≤ x1 ∧ x1 < C * R) ∧ (0 ≤ x3 ∧ x3 ≤ 3) ∧ (0 ≤ (alg C R x1 x3 1) ∧ (alg C R x1 x3 1) < 96) ∧ (-2147483648 ≤ x2 ∧ x2 ≤ 2147483647) ∧ (-2147483648 ≤ ((M 25 x1) - (M 25 (alg C R x1 x3 1))) ∧ ((M 25 x1) - (M 25 (alg C R x1 x3 1))) ≤ 2147483647) ∧ zT g (z1 o) mX9_steepness (zQi (z1 o) q) 4 [(0, zA g 1), (1, zI x1), (2, zI (max x2 ((M 25 x1) - (M 25 (alg C R x1 x3 1))))), (3, zI (x3 + 1))] [] M)) : zT g (z1 o) mX9_steepness (zQi (z1 o) q) 4 [(0, zA g 1), (1, zI x1), (2, zI x2), (3, zI x3)] [] M := by
  refine zr_iload_n 3 dX9_steepness_4 rfl ?_
  refine zr_iconst dX9_steepness_5 ?_
  obtain ⟨c1, W⟩ := W
  refine zr_icmp_ge (tgt := 51) dX9_steepness_6 (by decide) c1 ⟨by decide, by decide⟩ (fun h => ?_) (fun h => ?_)
  · have W := W.1 h
    refine zr_iload_n 2 dX9_steepness_51 rfl ?_
    exact zt_iret dX9_steepness_52 rfl W
  · have W := W.2 h
    refine zr_aload_n 0 dX9_steepness_9 rfl ?_
    refine zr_getr (b := 24) dX9_steepness_10 fX9_39 rfl rfl rfl (by decide) ?_
    refine zr_getr (b := 25) dX9_steepness_13 fX9_152 rfl rfl rfl (by decide) ?_
    refine zr_iload_n 1 dX9_steepness_16 rfl ?_
    obtain ⟨c2, W⟩ := W
    refine zr_iald dX9_steepness_17 rfl (by decide) c2 ?_
    refine zr_aload_n 0 dX9_steepness_18 rfl ?_
    refine zr_getr (b := 24) dX9_steepness_19 fX9_39 rfl rfl rfl (by decide) ?_
    refine zr_getr (b := 25) dX9_steepness_22 fX9_152 rfl rfl rfl (by decide) ?_
    refine zr_aload_n 0 dX9_steepness_25 rfl ?_
    refine zr_getr (b := 14) dX9_steepness_26 fX9_28 rfl rfl rfl (by decide) ?_
    refine zr_iload_n 1 dX9_steepness_29 rfl ?_
    refine zr_iload_n 3 dX9_steepness_30 rfl ?_
    obtain ⟨c3, W⟩ := W
    obtain ⟨c4, W⟩ := W
    obtain ⟨c5, W⟩ := W
    refine zt_callVi (As := [zI x1, zI x3]) (rest := [zA g 25, zI (M 25 x1)]) dX9_steepness_31 kX9_steepness_173 rfl rfl rfl rfl (Nat.le_of_ble_eq_true rfl) (c_nbr c3 c4 c5) (fun r6 N8 h7 => ?_)
    rw [h7.1, h7.2]
    obtain ⟨c9, W⟩ := W
    refine zr_iald dX9_steepness_34 rfl (by decide) c9 ?_
    refine zr_isub dX9_steepness_35 ?_
    refine zr_istore (l' := [(0, zA g 1), (1, zI x1), (2, zI x2), (3, zI x3), (4, zI ((M 25 x1) - (M 25 (alg C R x1 x3 1))))]) dX9_steepness_36 (by decide) [1, 2, 3, 4, 0] rfl ?_
    refine zr_iload_n 2 dX9_steepness_38 rfl ?_
    refine zr_iload 4 dX9_steepness_39 rfl ?_
    obtain ⟨c10, W⟩ := W
    obtain ⟨c11, W⟩ := W
    refine zr_max dX9_steepness_41 kX9_steepness_183 c10 c11 (Nat.le_of_ble_eq_true rfl) ⟨Nat.le_refl _, Nat.le_refl _⟩ ?_
    refine zr_istore_n (l' := [(0, zA g 1), (1, zI x1), (2, zI (max x2 ((M 25 x1) - (M 25 (alg C R x1 x3 1))))), (3, zI x3)]) dX9_steepness_44 (by decide) [1, 2, 0, 3] rfl ?_
    refine zr_iinc (q := 3) (l' := [(0, zA g 1), (1, zI x1), (2, zI (max x2 ((M 25 x1) - (M 25 (alg C R x1 x3 1))))), (3, zI (x3 + 1))]) dX9_steepness_45 rfl (by decide) [1, 2, 3, 0] rfl ?_
    refine zr_goto (tgt := 4) dX9_steepness_48 (by decide) ?_
    exact W
theorem dX9_skyline_0 : decode cX9_skyline 0 = .ok (.iload_n 2, 1) := by decide +kernel
theorem dX9_skyline_1 : decode cX9_skyline 1 = .ok (.ifCond .ne 7, 3) := by decide +kernel
theorem dX9_skyline_4 : decode cX9_skyline 4 = .ok (.iconst 1, 1) := by decide +kernel
theorem dX9_skyline_5 : decode cX9_skyline 5 = .ok (.goto 4, 3) := by decide +kernel
theorem dX9_skyline_8 : decode cX9_skyline 8 = .ok (.iconst 0, 1) := by decide +kernel
theorem dX9_skyline_9 : decode cX9_skyline 9 = .ok (.istore_n 3, 1) := by decide +kernel
theorem dX9_skyline_10 : decode cX9_skyline 10 = .ok (.iload_n 3, 1) := by decide +kernel
theorem dX9_skyline_11 : decode cX9_skyline 11 = .ok (.ifCond .eq 13, 3) := by decide +kernel
theorem dX9_skyline_14 : decode cX9_skyline 14 = .ok (.aload_n 0, 1) := by decide +kernel
theorem dX9_skyline_15 : decode cX9_skyline 15 = .ok (.getfield 28, 3) := by decide +kernel
theorem dX9_skyline_18 : decode cX9_skyline 18 = .ok (.getfield 246, 3) := by decide +kernel
theorem dX9_skyline_21 : decode cX9_skyline 21 = .ok (.goto 10, 3) := by decide +kernel
theorem dX9_skyline_24 : decode cX9_skyline 24 = .ok (.aload_n 0, 1) := by decide +kernel
theorem dX9_skyline_25 : decode cX9_skyline 25 = .ok (.getfield 28, 3) := by decide +kernel
theorem dX9_skyline_28 : decode cX9_skyline 28 = .ok (.getfield 249, 3) := by decide +kernel
theorem dX9_skyline_31 : decode cX9_skyline 31 = .ok (.istore 4, 2) := by decide +kernel
theorem dX9_skyline_33 : decode cX9_skyline 33 = .ok (.iload_n 2, 1) := by decide +kernel
theorem dX9_skyline_34 : decode cX9_skyline 34 = .ok (.ifCond .lt 18, 3) := by decide +kernel
theorem dX9_skyline_37 : decode cX9_skyline 37 = .ok (.iload_n 2, 1) := by decide +kernel
theorem dX9_skyline_38 : decode cX9_skyline 38 = .ok (.iconst 1, 1) := by decide +kernel
theorem dX9_skyline_39 : decode cX9_skyline 39 = .ok (.if_icmp .gt 13, 3) := by decide +kernel
theorem dX9_skyline_42 : decode cX9_skyline 42 = .ok (.iload_n 1, 1) := by decide +kernel
theorem dX9_skyline_43 : decode cX9_skyline 43 = .ok (.ifCond .lt 9, 3) := by decide +kernel
theorem dX9_skyline_46 : decode cX9_skyline 46 = .ok (.iload_n 1, 1) := by decide +kernel
theorem dX9_skyline_47 : decode cX9_skyline 47 = .ok (.iload 4, 2) := by decide +kernel
theorem dX9_skyline_49 : decode cX9_skyline 49 = .ok (.if_icmp .lt 5, 3) := by decide +kernel
theorem dX9_skyline_52 : decode cX9_skyline 52 = .ok (.iconst (-1), 1) := by decide +kernel
theorem dX9_skyline_53 : decode cX9_skyline 53 = .ok (.ireturn, 1) := by decide +kernel
theorem dX9_skyline_54 : decode cX9_skyline 54 = .ok (.iconst 0, 1) := by decide +kernel
theorem dX9_skyline_55 : decode cX9_skyline 55 = .ok (.istore 5, 2) := by decide +kernel
theorem dX9_skyline_57 : decode cX9_skyline 57 = .ok (.iconst 0, 1) := by decide +kernel
theorem dX9_skyline_58 : decode cX9_skyline 58 = .ok (.istore 6, 2) := by decide +kernel
theorem dX9_skyline_60 : decode cX9_skyline 60 = .ok (.iload 6, 2) := by decide +kernel
theorem dX9_skyline_62 : decode cX9_skyline 62 = .ok (.aload_n 0, 1) := by decide +kernel
theorem dX9_skyline_63 : decode cX9_skyline 63 = .ok (.getfield 28, 3) := by decide +kernel
theorem dX9_skyline_66 : decode cX9_skyline 66 = .ok (.getfield 120, 3) := by decide +kernel
theorem dX9_skyline_69 : decode cX9_skyline 69 = .ok (.if_icmp .ge 61, 3) := by decide +kernel
theorem dX9_skyline_72 : decode cX9_skyline 72 = .ok (.iload_n 3, 1) := by decide +kernel
theorem dX9_skyline_73 : decode cX9_skyline 73 = .ok (.ifCond .eq 16, 3) := by decide +kernel
theorem dX9_skyline_76 : decode cX9_skyline 76 = .ok (.aload_n 0, 1) := by decide +kernel
theorem dX9_skyline_77 : decode cX9_skyline 77 = .ok (.getfield 28, 3) := by decide +kernel
theorem dX9_skyline_80 : decode cX9_skyline 80 = .ok (.getfield 252, 3) := by decide +kernel
theorem dX9_skyline_83 : decode cX9_skyline 83 = .ok (.iload 6, 2) := by decide +kernel
theorem dX9_skyline_85 : decode cX9_skyline 85 = .ok (.iaload, 1) := by decide +kernel
theorem dX9_skyline_86 : decode cX9_skyline 86 = .ok (.goto 13, 3) := by decide +kernel
theorem dX9_skyline_89 : decode cX9_skyline 89 = .ok (.aload_n 0, 1) := by decide +kernel
theorem dX9_skyline_90 : decode cX9_skyline 90 = .ok (.getfield 28, 3) := by decide +kernel
theorem dX9_skyline_93 : decode cX9_skyline 93 = .ok (.getfield 255, 3) := by decide +kernel
theorem dX9_skyline_96 : decode cX9_skyline 96 = .ok (.iload 6, 2) := by decide +kernel
theorem dX9_skyline_98 : decode cX9_skyline 98 = .ok (.iaload, 1) := by decide +kernel
theorem dX9_skyline_99 : decode cX9_skyline 99 = .ok (.istore 7, 2) := by decide +kernel
theorem dX9_skyline_101 : decode cX9_skyline 101 = .ok (.iload 7, 2) := by decide +kernel
theorem dX9_skyline_103 : decode cX9_skyline 103 = .ok (.iload_n 1, 1) := by decide +kernel
theorem dX9_skyline_104 : decode cX9_skyline 104 = .ok (.if_icmp .ne 20, 3) := by decide +kernel
theorem dX9_skyline_107 : decode cX9_skyline 107 = .ok (.iload 5, 2) := by decide +kernel
theorem dX9_skyline_109 : decode cX9_skyline 109 = .ok (.aload_n 0, 1) := by decide +kernel
theorem dX9_skyline_110 : decode cX9_skyline 110 = .ok (.getfield 39, 3) := by decide +kernel
theorem dX9_skyline_113 : decode cX9_skyline 113 = .ok (.getfield 152, 3) := by decide +kernel
theorem dX9_skyline_116 : decode cX9_skyline 116 = .ok (.iload 6, 2) := by decide +kernel
theorem dX9_skyline_118 : decode cX9_skyline 118 = .ok (.iaload, 1) := by decide +kernel
theorem dX9_skyline_119 : decode cX9_skyline 119 = .ok (.invokestatic 183, 3) := by decide +kernel
theorem dX9_skyline_122 : decode cX9_skyline 122 = .ok (.istore 5, 2) := by decide +kernel
theorem dX9_skyline_124 : decode cX9_skyline 124 = .ok (.iinc 6 1, 3) := by decide +kernel
theorem dX9_skyline_127 : decode cX9_skyline 127 = .ok (.goto (-67), 3) := by decide +kernel
theorem dX9_skyline_130 : decode cX9_skyline 130 = .ok (.iload 5, 2) := by decide +kernel
theorem dX9_skyline_132 : decode cX9_skyline 132 = .ok (.ireturn, 1) := by decide +kernel
set_option maxRecDepth 100000 in
theorem SX9_skyline_0 {g : zG} {o : Bool} {M : zM} {q : Int → zM → Prop} {x1 x2 : Int} (W : (-2147483648 ≤ x2 ∧ x2 ≤ 2147483647) ∧ ((x2 ≠ 0) → ((x2 < 0) → q (-1) M) ∧ ((¬ (x2 < 0)) → ((1 < x2) → q (-1) M) ∧ ((¬ (1 < x2)) → (-2147483648 ≤ x1 ∧ x1 ≤ 2147483647) ∧ ((x1 < 0) → q (-1) M) ∧ ((¬ (x1 < 0)) → (-2147483648 ≤ (M 14 1) ∧ (M 14 1) ≤ 2147483647) ∧ ((x1 < (M 14 1)) → zT g (z1 o) mX9_skyline (zQi (z1 o) q) 60 [(0, zA g 1), (1, zI x1), (3, zI 0), (5, zI 0), (6, zI 0)] [] M) ∧ ((¬ (x1 < (M 14 1))) → q (-1) M))))) ∧ ((x2 = 0) → ((x2 < 0) → q (-1) M) ∧ ((¬ (x2 < 0)) → ((1 < x2) → q (-1) M) ∧ ((¬ (1 < x2)) → (-2147483648 ≤ x1 ∧ x1 ≤ 2147483647) ∧ ((x1 < 0) → q (-1) M) ∧ ((¬ (x1 < 0)) → (-2147483648 ≤ (M 14 0) ∧ (M 14 0) ≤ 2147483647) ∧ ((x1 < (M 14 0)) → zT g (z1 o) mX9_skyline (zQi (z1 o) q) 60 [(0, zA g 1), (1, zI x1), (3, zI 1), (5, zI 0), (6, zI 0)] [] M) ∧ ((¬ (x1 < (M 14 0))) → q (-1) M)))))) : zT g (z1 o) mX9_skyline (zQi (z1 o) q) 0 [(0, zA g 1), (1, zI x1), (2, zI x2)] [] M := by
  refine zr_iload_n 2 dX9_skyline_0 rfl ?_
  obtain ⟨c1, W⟩ := W
  refine zr_if_ne (tgt := 8) dX9_skyline_1 (by decide) c1 (fun h => ?_) (fun h => ?_)
  · have W := W.1 h
    refine zr_iconst dX9_skyline_8 ?_
    refine zr_istore_n (l' := [(0, zA g 1), (1, zI x1), (2, zI x2), (3, zI 0)]) dX9_skyline_9 (by decide) [1, 2, 3, 0] rfl ?_
    refine zr_iload_n 3 dX9_skyline_10 rfl ?_
    refine zr_if_eq (tgt := 24) dX9_skyline_11 (by decide) ⟨by decide, by decide⟩ (fun h => ?_) (fun h => ?_)
    · skip
      refine zr_aload_n 0 dX9_skyline_24 rfl ?_
      refine zr_getr (b := 14) dX9_skyline_25 fX9_28 rfl rfl rfl (by decide) ?_
      refine zt_geti 1 rfl dX9_skyline_28 fX9_249 rfl (by decide) ?_
      refine zr_istore (l' := [(0, zA g 1), (1, zI x1), (2, zI x2), (3, zI 0), (4, zI (M 14 1))]) dX9_skyline_31 (by decide) [1, 2, 3, 4, 0] rfl ?_
      refine zr_iload_n 2 dX9_skyline_33 rfl ?_
      refine zr_if_lt (tgt := 52) dX9_skyline_34 (by decide) c1 (fun h => ?_) (fun h => ?_)
      · have W := W.1 h
        refine zr_iconst dX9_skyline_52 ?_
        exact zt_iret dX9_skyline_53 rfl W
      · have W := W.2 h
        refine zr_iload_n 2 dX9_skyline_37 rfl ?_
        refine zr_iconst dX9_skyline_38 ?_
        refine zr_icmp_gt (tgt := 52) dX9_skyline_39 (by decide) c1 ⟨by decide, by decide⟩ (fun h => ?_) (fun h => ?_)
        · have W := W.1 h
          refine zr_iconst dX9_skyline_52 ?_
          exact zt_iret dX9_skyline_53 rfl W
        · have W := W.2 h
          refine zr_iload_n 1 dX9_skyline_42 rfl ?_
          obtain ⟨c2, W⟩ := W
          refine zr_if_lt (tgt := 52) dX9_skyline_43 (by decide) c2 (fun h => ?_) (fun h => ?_)
          · have W := W.1 h
            refine zr_iconst dX9_skyline_52 ?_
            exact zt_iret dX9_skyline_53 rfl W
          · have W := W.2 h
            refine zr_iload_n 1 dX9_skyline_46 rfl ?_
            refine zr_iload 4 dX9_skyline_47 rfl ?_
            obtain ⟨c3, W⟩ := W
            refine zr_icmp_lt (tgt := 54) dX9_skyline_49 (by decide) c2 c3 (fun h => ?_) (fun h => ?_)
            · have W := W.1 h
              refine zr_iconst dX9_skyline_54 ?_
              refine zr_istore (l' := [(0, zA g 1), (1, zI x1), (3, zI 0), (5, zI 0)]) dX9_skyline_55 (by decide) [1, 2, 4, 0] rfl ?_
              refine zr_iconst dX9_skyline_57 ?_
              refine zr_istore (l' := [(0, zA g 1), (1, zI x1), (3, zI 0), (5, zI 0), (6, zI 0)]) dX9_skyline_58 (by decide) [1, 2, 3, 4, 0] rfl ?_
              exact W
            · have W := W.2 h
              refine zr_iconst dX9_skyline_52 ?_
              exact zt_iret dX9_skyline_53 rfl W
    · exact absurd h (by decide)
  · have W := W.2 h
    refine zr_iconst dX9_skyline_4 ?_
    refine zr_goto (tgt := 9) dX9_skyline_5 (by decide) ?_
    refine zr_istore_n (l' := [(0, zA g 1), (1, zI x1), (2, zI x2), (3, zI 1)]) dX9_skyline_9 (by decide) [1, 2, 3, 0] rfl ?_
    refine zr_iload_n 3 dX9_skyline_10 rfl ?_
    refine zr_if_eq (tgt := 24) dX9_skyline_11 (by decide) ⟨by decide, by decide⟩ (fun h => ?_) (fun h => ?_)
    · exact absurd h (by decide)
    · skip
      refine zr_aload_n 0 dX9_skyline_14 rfl ?_
      refine zr_getr (b := 14) dX9_skyline_15 fX9_28 rfl rfl rfl (by decide) ?_
      refine zt_geti 0 rfl dX9_skyline_18 fX9_246 rfl (by decide) ?_
      refine zr_goto (tgt := 31) dX9_skyline_21 (by decide) ?_
      refine zr_istore (l' := [(0, zA g 1), (1, zI x1), (2, zI x2), (3, zI 1), (4, zI (M 14 0))]) dX9_skyline_31 (by decide) [1, 2, 3, 4, 0] rfl ?_
      refine zr_iload_n 2 dX9_skyline_33 rfl ?_
      refine zr_if_lt (tgt := 52) dX9_skyline_34 (by decide) c1 (fun h => ?_) (fun h => ?_)
      · have W := W.1 h
        refine zr_iconst dX9_skyline_52 ?_
        exact zt_iret dX9_skyline_53 rfl W
      · have W := W.2 h
        refine zr_iload_n 2 dX9_skyline_37 rfl ?_
        refine zr_iconst dX9_skyline_38 ?_
        refine zr_icmp_gt (tgt := 52) dX9_skyline_39 (by decide) c1 ⟨by decide, by decide⟩ (fun h => ?_) (fun h => ?_)
        · have W := W.1 h
          refine zr_iconst dX9_skyline_52 ?_
          exact zt_iret dX9_skyline_53 rfl W
        · have W := W.2 h
          refine zr_iload_n 1 dX9_skyline_42 rfl ?_
          obtain ⟨c4, W⟩ := W
          refine zr_if_lt (tgt := 52) dX9_skyline_43 (by decide) c4 (fun h => ?_) (fun h => ?_)
          · have W := W.1 h
            refine zr_iconst dX9_skyline_52 ?_
            exact zt_iret dX9_skyline_53 rfl W
          · have W := W.2 h
            refine zr_iload_n 1 dX9_skyline_46 rfl ?_
            refine zr_iload 4 dX9_skyline_47 rfl ?_
            obtain ⟨c5, W⟩ := W
            refine zr_icmp_lt (tgt := 54) dX9_skyline_49 (by decide) c4 c5 (fun h => ?_) (fun h => ?_)
            · have W := W.1 h
              refine zr_iconst dX9_skyline_54 ?_
              refine zr_istore (l' := [(0, zA g 1), (1, zI x1), (3, zI 1), (5, zI 0)]) dX9_skyline_55 (by decide) [1, 2, 4, 0] rfl ?_
              refine zr_iconst dX9_skyline_57 ?_
              refine zr_istore (l' := [(0, zA g 1), (1, zI x1), (3, zI 1), (5, zI 0), (6, zI 0)]) dX9_skyline_58 (by decide) [1, 2, 3, 4, 0] rfl ?_
              exact W
            · have W := W.2 h
              refine zr_iconst dX9_skyline_52 ?_
              exact zt_iret dX9_skyline_53 rfl W
set_option maxRecDepth 100000 in
theorem SX9_skyline_60 {g : zG} {o : Bool} {M : zM} {q : Int → zM → Prop} {x1 x3 x5 x6 : Int} (W : (-2147483648 ≤ x6 ∧ x6 ≤ 2147483647) ∧ (-2147483648 ≤ (M 14 2) ∧ (M 14 2) ≤ 2147483647) ∧ (((M 14 2) ≤ x6) → q x5 M) ∧ ((¬ ((M 14 2) ≤ x6)) → (-2147483648 ≤ x3 ∧ x3 ≤ 2147483647) ∧ ((x3 = 0) → (0 ≤ x6 ∧ x6 < 96) ∧ (-2147483648 ≤ (M 16 x6) ∧ (M 16 x6) ≤ 2147483647) ∧ (-2147483648 ≤ x1 ∧ x1 ≤ 2147483647) ∧ (((M 16 x6) ≠ x1) → zT g (z1 o) mX9_skyline (zQi (z1 o) q) 60 [(0, zA g 1), (1, zI x1), (3, zI x3), (5, zI x5), (6, zI (x6 + 1))] [] M) ∧ (((M 16 x6) = x1) → (-2147483648 ≤ x5 ∧ x5 ≤ 2147483647) ∧ (-2147483648 ≤ (M 25 x6) ∧ (M 25 x6) ≤ 2147483647) ∧ zT g (z1 o) mX9_skyline (zQi (z1 o) q) 60 [(0, zA g 1), (1, zI x1), (3, zI x3), (5, zI (max x5 (M 25 x6))), (6, zI (x6 + 1))] [] M)) ∧ ((¬ (x3 = 0)) → (0 ≤ x6 ∧ x6 < 96) ∧ (-2147483648 ≤ (M 15 x6) ∧ (M 15 x6) ≤ 2147483647) ∧ (-2147483648 ≤ x1 ∧ x1 ≤ 2147483647) ∧ (((M 15 x6) ≠ x1) → zT g (z1 o) mX9_skyline (zQi (z1 o) q) 60 [(0, zA g 1), (1, zI x1), (3, zI x3), (5, zI x5), (6, zI (x6 + 1))] [] M) ∧ (((M 15 x6) = x1) → (-2147483648 ≤ x5 ∧ x5 ≤ 2147483647) ∧ (-2147483648 ≤ (M 25 x6) ∧ (M 25 x6) ≤ 2147483647) ∧ zT g (z1 o) mX9_skyline (zQi (z1 o) q) 60 [(0, zA g 1), (1, zI x1), (3, zI x3), (5, zI (max x5 (M 25 x6))), (6, zI (x6 + 1))] [] M)))) : zT g (z1 o) mX9_skyline (zQi (z1 o) q) 60 [(0, zA g 1), (1, zI x1), (3, zI x3), (5, zI x5), (6, zI x6)] [] M := by
  refine zr_iload 4 dX9_skyline_60 rfl ?_
  refine zr_aload_n 0 dX9_skyline_62 rfl ?_
  refine zr_getr (b := 14) dX9_skyline_63 fX9_28 rfl rfl rfl (by decide) ?_
  refine zt_geti 2 rfl dX9_skyline_66 fX9_120 rfl (by decide) ?_
  obtain ⟨c1, W⟩ := W
  obtain ⟨c2, W⟩ := W
  refine zr_icmp_ge (tgt := 130) dX9_skyline_69 (by decide) c1 c2 (fun h => ?_) (fun h => ?_)
  · have W := W.1 h
    refine zr_iload 3 dX9_skyline_130 rfl ?_
    exact zt_iret dX9_skyline_132 rfl W
  · have W := W.2 h
    refine zr_iload_n 2 dX9_skyline_72 rfl ?_
    obtain ⟨c3, W⟩ := W
    refine zr_if_eq (tgt := 89) dX9_skyline_73 (by decide) c3 (fun h => ?_) (fun h => ?_)
    · have W := W.1 h
      refine zr_aload_n 0 dX9_skyline_89 rfl ?_
      refine zr_getr (b := 14) dX9_skyline_90 fX9_28 rfl rfl rfl (by decide) ?_
      refine zr_getr (b := 16) dX9_skyline_93 fX9_255 rfl rfl rfl (by decide) ?_
      refine zr_iload 4 dX9_skyline_96 rfl ?_
      obtain ⟨c4, W⟩ := W
      refine zr_iald dX9_skyline_98 rfl (by decide) c4 ?_
      refine zr_istore (l' := [(0, zA g 1), (1, zI x1), (3, zI x3), (5, zI x5), (6, zI x6), (7, zI (M 16 x6))]) dX9_skyline_99 (by decide) [1, 2, 3, 4, 5, 0] rfl ?_
      refine zr_iload 5 dX9_skyline_101 rfl ?_
      refine zr_iload_n 1 dX9_skyline_103 rfl ?_
      obtain ⟨c5, W⟩ := W
      obtain ⟨c6, W⟩ := W
      refine zr_icmp_ne (tgt := 124) dX9_skyline_104 (by decide) c5 c6 (fun h => ?_) (fun h => ?_)
      · have W := W.1 h
        refine zr_iinc (q := 4) (l' := [(0, zA g 1), (1, zI x1), (3, zI x3), (5, zI x5), (6, zI (x6 + 1))]) dX9_skyline_124 rfl (by decide) [1, 2, 3, 4, 0] rfl ?_
        refine zr_goto (tgt := 60) dX9_skyline_127 (by decide) ?_
        exact W
      · have W := W.2 h
        refine zr_iload 3 dX9_skyline_107 rfl ?_
        refine zr_aload_n 0 dX9_skyline_109 rfl ?_
        refine zr_getr (b := 24) dX9_skyline_110 fX9_39 rfl rfl rfl (by decide) ?_
        refine zr_getr (b := 25) dX9_skyline_113 fX9_152 rfl rfl rfl (by decide) ?_
        refine zr_iload 4 dX9_skyline_116 rfl ?_
        refine zr_iald dX9_skyline_118 rfl (by decide) c4 ?_
        obtain ⟨c7, W⟩ := W
        obtain ⟨c8, W⟩ := W
        refine zr_max dX9_skyline_119 kX9_skyline_183 c7 c8 (Nat.le_of_ble_eq_true rfl) ⟨Nat.le_refl _, Nat.le_refl _⟩ ?_
        refine zr_istore (l' := [(0, zA g 1), (1, zI x1), (3, zI x3), (5, zI (max x5 (M 25 x6))), (6, zI x6)]) dX9_skyline_122 (by decide) [1, 2, 3, 0, 4] rfl ?_
        refine zr_iinc (q := 4) (l' := [(0, zA g 1), (1, zI x1), (3, zI x3), (5, zI (max x5 (M 25 x6))), (6, zI (x6 + 1))]) dX9_skyline_124 rfl (by decide) [1, 2, 3, 4, 0] rfl ?_
        refine zr_goto (tgt := 60) dX9_skyline_127 (by decide) ?_
        exact W
    · have W := W.2 h
      refine zr_aload_n 0 dX9_skyline_76 rfl ?_
      refine zr_getr (b := 14) dX9_skyline_77 fX9_28 rfl rfl rfl (by decide) ?_
      refine zr_getr (b := 15) dX9_skyline_80 fX9_252 rfl rfl rfl (by decide) ?_
      refine zr_iload 4 dX9_skyline_83 rfl ?_
      obtain ⟨c9, W⟩ := W
      refine zr_iald dX9_skyline_85 rfl (by decide) c9 ?_
      refine zr_goto (tgt := 99) dX9_skyline_86 (by decide) ?_
      refine zr_istore (l' := [(0, zA g 1), (1, zI x1), (3, zI x3), (5, zI x5), (6, zI x6), (7, zI (M 15 x6))]) dX9_skyline_99 (by decide) [1, 2, 3, 4, 5, 0] rfl ?_
      refine zr_iload 5 dX9_skyline_101 rfl ?_
      refine zr_iload_n 1 dX9_skyline_103 rfl ?_
      obtain ⟨c10, W⟩ := W
      obtain ⟨c11, W⟩ := W
      refine zr_icmp_ne (tgt := 124) dX9_skyline_104 (by decide) c10 c11 (fun h => ?_) (fun h => ?_)
      · have W := W.1 h
        refine zr_iinc (q := 4) (l' := [(0, zA g 1), (1, zI x1), (3, zI x3), (5, zI x5), (6, zI (x6 + 1))]) dX9_skyline_124 rfl (by decide) [1, 2, 3, 4, 0] rfl ?_
        refine zr_goto (tgt := 60) dX9_skyline_127 (by decide) ?_
        exact W
      · have W := W.2 h
        refine zr_iload 3 dX9_skyline_107 rfl ?_
        refine zr_aload_n 0 dX9_skyline_109 rfl ?_
        refine zr_getr (b := 24) dX9_skyline_110 fX9_39 rfl rfl rfl (by decide) ?_
        refine zr_getr (b := 25) dX9_skyline_113 fX9_152 rfl rfl rfl (by decide) ?_
        refine zr_iload 4 dX9_skyline_116 rfl ?_
        refine zr_iald dX9_skyline_118 rfl (by decide) c9 ?_
        obtain ⟨c12, W⟩ := W
        obtain ⟨c13, W⟩ := W
        refine zr_max dX9_skyline_119 kX9_skyline_183 c12 c13 (Nat.le_of_ble_eq_true rfl) ⟨Nat.le_refl _, Nat.le_refl _⟩ ?_
        refine zr_istore (l' := [(0, zA g 1), (1, zI x1), (3, zI x3), (5, zI (max x5 (M 25 x6))), (6, zI x6)]) dX9_skyline_122 (by decide) [1, 2, 3, 0, 4] rfl ?_
        refine zr_iinc (q := 4) (l' := [(0, zA g 1), (1, zI x1), (3, zI x3), (5, zI (max x5 (M 25 x6))), (6, zI (x6 + 1))]) dX9_skyline_124 rfl (by decide) [1, 2, 3, 4, 0] rfl ?_
        refine zr_goto (tgt := 60) dX9_skyline_127 (by decide) ?_
        exact W
theorem dX10_four_0 : decode cX10_four 0 = .ok (.bipush 24, 2) := by decide +kernel
theorem dX10_four_2 : decode cX10_four 2 = .ok (.istore_n 2, 1) := by decide +kernel
theorem dX10_four_3 : decode cX10_four 3 = .ok (.iload_n 2, 1) := by decide +kernel
theorem dX10_four_4 : decode cX10_four 4 = .ok (.ifCond .lt 35, 3) := by decide +kernel
theorem dX10_four_7 : decode cX10_four 7 = .ok (.aload_n 0, 1) := by decide +kernel
theorem dX10_four_8 : decode cX10_four 8 = .ok (.getfield 7, 3) := by decide +kernel
theorem dX10_four_11 : decode cX10_four 11 = .ok (.aload_n 0, 1) := by decide +kernel
theorem dX10_four_12 : decode cX10_four 12 = .ok (.getfield 99, 3) := by decide +kernel
theorem dX10_four_15 : decode cX10_four 15 = .ok (.iload_n 1, 1) := by decide +kernel
theorem dX10_four_16 : decode cX10_four 16 = .ok (.iload_n 2, 1) := by decide +kernel
theorem dX10_four_17 : decode cX10_four 17 = .ok (.ishr, 1) := by decide +kernel
theorem dX10_four_18 : decode cX10_four 18 = .ok (.sipush 255, 3) := by decide +kernel
theorem dX10_four_21 : decode cX10_four 21 = .ok (.iand, 1) := by decide +kernel
theorem dX10_four_22 : decode cX10_four 22 = .ok (.iastore, 1) := by decide +kernel
theorem dX10_four_23 : decode cX10_four 23 = .ok (.aload_n 0, 1) := by decide +kernel
theorem dX10_four_24 : decode cX10_four 24 = .ok (.dup, 1) := by decide +kernel
theorem dX10_four_25 : decode cX10_four 25 = .ok (.getfield 99, 3) := by decide +kernel
theorem dX10_four_28 : decode cX10_four 28 = .ok (.iconst 1, 1) := by decide +kernel
theorem dX10_four_29 : decode cX10_four 29 = .ok (.iadd, 1) := by decide +kernel
theorem dX10_four_30 : decode cX10_four 30 = .ok (.putfield 99, 3) := by decide +kernel
theorem dX10_four_33 : decode cX10_four 33 = .ok (.iinc 2 (-8), 3) := by decide +kernel
theorem dX10_four_36 : decode cX10_four 36 = .ok (.goto (-33), 3) := by decide +kernel
theorem dX10_four_39 : decode cX10_four 39 = .ok (.return_, 1) := by decide +kernel
set_option maxRecDepth 100000 in
theorem SX10_four_0 {g : zG} {o : Bool} {M : zM} {q : zM → Prop} {x1 : Int} (W : zT g (z2 o) mX10_four (zQv (z2 o) q) 3 [(0, zA g 1), (1, zI x1), (2, zI 24)] [] M) : zT g (z2 o) mX10_four (zQv (z2 o) q) 0 [(0, zA g 1), (1, zI x1)] [] M := by
  refine zr_bipush dX10_four_0 (by decide) ?_
  refine zr_istore_n (l' := [(0, zA g 1), (1, zI x1), (2, zI 24)]) dX10_four_2 (by decide) [1, 2, 0] rfl ?_
  exact W
set_option maxRecDepth 100000 in
theorem SX10_four_3 {g : zG} {o : Bool} {M : zM} {q : zM → Prop} {x1 x2 : Int} (W : (-2147483648 ≤ x2 ∧ x2 ≤ 2147483647) ∧ ((x2 < 0) → q M) ∧ ((¬ (x2 < 0)) → (-2147483648 ≤ x1 ∧ x1 ≤ 2147483647) ∧ (0 ≤ x2 ∧ x2 ≤ 31) ∧ (0 ≤ (M 1 1) ∧ (M 1 1) < 900) ∧ ∀ N5 : zM, N5 = zu M 2 (M 1 1) ((x1 / (2 ^ Int.toNat x2 : Nat)) % (255 + 1)) → zT g (z2 o) mX10_four (zQv (z2 o) q) 3 [(0, zA g 1), (1, zI x1), (2, zI (x2 + (-8)))] [] (zu N5 1 1 ((N5 1 1) + 1)))) : zT g (z2 o) mX10_four (zQv (z2 o) q) 3 [(0, zA g 1), (1, zI x1), (2, zI x2)] [] M := by
  refine zr_iload_n 2 dX10_four_3 rfl ?_
  obtain ⟨c1, W⟩ := W
  refine zr_if_lt (tgt := 39) dX10_four_4 (by decide) c1 (fun h => ?_) (fun h => ?_)
  · have W := W.1 h
    exact zt_ret dX10_four_39 rfl W
  · have W := W.2 h
    refine zr_aload_n 0 dX10_four_7 rfl ?_
    refine zr_getr (b := 2) dX10_four_8 fX10_7 rfl rfl rfl (by decide) ?_
    refine zr_aload_n 0 dX10_four_11 rfl ?_
    refine zt_geti 1 rfl dX10_four_12 fX10_99 rfl (by decide) ?_
    refine zr_iload_n 1 dX10_four_15 rfl ?_
    refine zr_iload_n 2 dX10_four_16 rfl ?_
    obtain ⟨c2, W⟩ := W
    obtain ⟨c3, W⟩ := W
    refine zr_ishr dX10_four_17 c2 c3 ?_
    refine zr_sipush dX10_four_18 (by decide) ?_
    refine zr_iand dX10_four_21 (by decide) ?_
    obtain ⟨c4, W⟩ := W
    refine zr_iast dX10_four_22 rfl (by decide) c4 ?_
    refine zr_aload_n 0 dX10_four_23 rfl ?_
    refine zr_dup dX10_four_24 rfl ?_
    refine zt_geti 1 rfl dX10_four_25 fX10_99 rfl (by decide) ?_
    refine zr_iconst dX10_four_28 ?_
    refine zr_iadd dX10_four_29 ?_
    obtain ⟨N5, e6⟩ : ∃ N : zM, N = zu M 2 (M 1 1) ((x1 / (2 ^ Int.toNat x2 : Nat)) % (255 + 1)) := ⟨_, rfl⟩
    rw [← e6]
    have W := W N5 e6
    refine zt_puti 1 rfl dX10_four_30 fX10_99 lcX10 ltX10_1 rfl rfl ?_
    refine zr_iinc (q := 2) (l' := [(0, zA g 1), (1, zI x1), (2, zI (x2 + (-8)))]) dX10_four_33 rfl (by decide) [1, 2, 0] rfl ?_
    refine zr_goto (tgt := 3) dX10_four_36 (by decide) ?_
    exact W
theorem dX10_feed_0 : decode cX10_feed 0 = .ok (.aload_n 0, 1) := by decide +kernel
theorem dX10_feed_1 : decode cX10_feed 1 = .ok (.getfield 99, 3) := by decide +kernel
theorem dX10_feed_4 : decode cX10_feed 4 = .ok (.bipush 20, 2) := by decide +kernel
theorem dX10_feed_6 : decode cX10_feed 6 = .ok (.iadd, 1) := by decide +kernel
theorem dX10_feed_7 : decode cX10_feed 7 = .ok (.sipush 900, 3) := by decide +kernel
theorem dX10_feed_10 : decode cX10_feed 10 = .ok (.if_icmp .le 5, 3) := by decide +kernel
theorem dX10_feed_13 : decode cX10_feed 13 = .ok (.iconst (-1), 1) := by decide +kernel
theorem dX10_feed_14 : decode cX10_feed 14 = .ok (.ireturn, 1) := by decide +kernel
theorem dX10_feed_15 : decode cX10_feed 15 = .ok (.aload_n 0, 1) := by decide +kernel
theorem dX10_feed_16 : decode cX10_feed 16 = .ok (.iload_n 1, 1) := by decide +kernel
theorem dX10_feed_17 : decode cX10_feed 17 = .ok (.invokevirtual 102, 3) := by decide +kernel
theorem dX10_feed_20 : decode cX10_feed 20 = .ok (.aload_n 0, 1) := by decide +kernel
theorem dX10_feed_21 : decode cX10_feed 21 = .ok (.iload_n 2, 1) := by decide +kernel
theorem dX10_feed_22 : decode cX10_feed 22 = .ok (.invokevirtual 102, 3) := by decide +kernel
theorem dX10_feed_25 : decode cX10_feed 25 = .ok (.aload_n 0, 1) := by decide +kernel
theorem dX10_feed_26 : decode cX10_feed 26 = .ok (.iload_n 3, 1) := by decide +kernel
theorem dX10_feed_27 : decode cX10_feed 27 = .ok (.invokevirtual 102, 3) := by decide +kernel
theorem dX10_feed_30 : decode cX10_feed 30 = .ok (.aload_n 0, 1) := by decide +kernel
theorem dX10_feed_31 : decode cX10_feed 31 = .ok (.iload 4, 2) := by decide +kernel
theorem dX10_feed_33 : decode cX10_feed 33 = .ok (.invokevirtual 102, 3) := by decide +kernel
theorem dX10_feed_36 : decode cX10_feed 36 = .ok (.aload_n 0, 1) := by decide +kernel
theorem dX10_feed_37 : decode cX10_feed 37 = .ok (.iload 5, 2) := by decide +kernel
theorem dX10_feed_39 : decode cX10_feed 39 = .ok (.invokevirtual 102, 3) := by decide +kernel
theorem dX10_feed_42 : decode cX10_feed 42 = .ok (.aload_n 0, 1) := by decide +kernel
theorem dX10_feed_43 : decode cX10_feed 43 = .ok (.getfield 99, 3) := by decide +kernel
theorem dX10_feed_46 : decode cX10_feed 46 = .ok (.ireturn, 1) := by decide +kernel
set_option maxRecDepth 100000 in
theorem SX10_feed_0 {g : zG} {o : Bool} {M : zM} {q : Int → zM → Prop} {x1 x2 x3 x4 x5 : Int} (W : (-2147483648 ≤ ((M 1 1) + 20) ∧ ((M 1 1) + 20) ≤ 2147483647) ∧ ((((M 1 1) + 20) ≤ 900) → ∃ q2 : zM → Prop, zKv g (z2 o) mX10_four [zA g 1, zI x1] M q2 ∧ ∀ M4 : zM, q2 M4 → ∃ q7 : zM → Prop, zKv g (z2 o) mX10_four [zA g 1, zI x2] M4 q7 ∧ ∀ M9 : zM, q7 M9 → ∃ q12 : zM → Prop, zKv g (z2 o) mX10_four [zA g 1, zI x3] M9 q12 ∧ ∀ M14 : zM, q12 M14 → ∃ q17 : zM → Prop, zKv g (z2 o) mX10_four [zA g 1, zI x4] M14 q17 ∧ ∀ M19 : zM, q17 M19 → ∃ q22 : zM → Prop, zKv g (z2 o) mX10_four [zA g 1, zI x5] M19 q22 ∧ ∀ M24 : zM, q22 M24 → q (M24 1 1) M24) ∧ ((¬ (((M 1 1) + 20) ≤ 900)) → q (-1) M)) : zT g (z2 o) mX10_feed (zQi (z2 o) q) 0 [(0, zA g 1), (1, zI x1), (2, zI x2), (3, zI x3), (4, zI x4), (5, zI x5)] [] M := by
  refine zr_aload_n 0 dX10_feed_0 rfl ?_
  refine zt_geti 1 rfl dX10_feed_1 fX10_99 rfl (by decide) ?_
  refine zr_bipush dX10_feed_4 (by decide) ?_
  refine zr_iadd dX10_feed_6 ?_
  refine zr_sipush dX10_feed_7 (by decide) ?_
  obtain ⟨c1, W⟩ := W
  refine zr_icmp_le (tgt := 15) dX10_feed_10 (by decide) c1 ⟨by decide, by decide⟩ (fun h => ?_) (fun h => ?_)
  · have W := W.1 h
    refine zr_aload_n 0 dX10_feed_15 rfl ?_
    refine zr_iload_n 1 dX10_feed_16 rfl ?_
    obtain ⟨q2, k6, W⟩ := W
    refine zt_callVv (As := [zI x1]) (rest := []) dX10_feed_17 kX10_feed_102 rfl rfl rfl rfl (Nat.le_of_ble_eq_true rfl) k6 (fun M4 h5 => ?_)
    have W := W M4 h5
    refine zr_aload_n 0 dX10_feed_20 rfl ?_
    refine zr_iload_n 2 dX10_feed_21 rfl ?_
    obtain ⟨q7, k11, W⟩ := W
    refine zt_callVv (As := [zI x2]) (rest := []) dX10_feed_22 kX10_feed_102 rfl rfl rfl rfl (Nat.le_of_ble_eq_true rfl) k11 (fun M9 h10 => ?_)
    have W := W M9 h10
    refine zr_aload_n 0 dX10_feed_25 rfl ?_
    refine zr_iload_n 3 dX10_feed_26 rfl ?_
    obtain ⟨q12, k16, W⟩ := W
    refine zt_callVv (As := [zI x3]) (rest := []) dX10_feed_27 kX10_feed_102 rfl rfl rfl rfl (Nat.le_of_ble_eq_true rfl) k16 (fun M14 h15 => ?_)
    have W := W M14 h15
    refine zr_aload_n 0 dX10_feed_30 rfl ?_
    refine zr_iload 4 dX10_feed_31 rfl ?_
    obtain ⟨q17, k21, W⟩ := W
    refine zt_callVv (As := [zI x4]) (rest := []) dX10_feed_33 kX10_feed_102 rfl rfl rfl rfl (Nat.le_of_ble_eq_true rfl) k21 (fun M19 h20 => ?_)
    have W := W M19 h20
    refine zr_aload_n 0 dX10_feed_36 rfl ?_
    refine zr_iload 5 dX10_feed_37 rfl ?_
    obtain ⟨q22, k26, W⟩ := W
    refine zt_callVv (As := [zI x5]) (rest := []) dX10_feed_39 kX10_feed_102 rfl rfl rfl rfl (Nat.le_of_ble_eq_true rfl) k26 (fun M24 h25 => ?_)
    have W := W M24 h25
    refine zr_aload_n 0 dX10_feed_42 rfl ?_
    refine zt_geti 1 rfl dX10_feed_43 fX10_99 rfl (by decide) ?_
    exact zt_iret dX10_feed_46 rfl W
  · have W := W.2 h
    refine zr_iconst dX10_feed_13 ?_
    exact zt_iret dX10_feed_14 rfl W
theorem dX10_end_0 : decode cX10_end 0 = .ok (.iload_n 1, 1) := by decide +kernel
theorem dX10_end_1 : decode cX10_end 1 = .ok (.iconst 0, 1) := by decide +kernel
theorem dX10_end_2 : decode cX10_end 2 = .ok (.aload_n 0, 1) := by decide +kernel
theorem dX10_end_3 : decode cX10_end 3 = .ok (.getfield 99, 3) := by decide +kernel
theorem dX10_end_6 : decode cX10_end 6 = .ok (.invokestatic 106, 3) := by decide +kernel
theorem dX10_end_9 : decode cX10_end 9 = .ok (.ifCond .ne 5, 3) := by decide +kernel
theorem dX10_end_12 : decode cX10_end 12 = .ok (.iconst (-1), 1) := by decide +kernel
theorem dX10_end_13 : decode cX10_end 13 = .ok (.ireturn, 1) := by decide +kernel
theorem dX10_end_14 : decode cX10_end 14 = .ok (.aload_n 0, 1) := by decide +kernel
theorem dX10_end_15 : decode cX10_end 15 = .ok (.iload_n 1, 1) := by decide +kernel
theorem dX10_end_16 : decode cX10_end 16 = .ok (.putfield 99, 3) := by decide +kernel
theorem dX10_end_19 : decode cX10_end 19 = .ok (.iload_n 1, 1) := by decide +kernel
theorem dX10_end_20 : decode cX10_end 20 = .ok (.ireturn, 1) := by decide +kernel
set_option maxRecDepth 100000 in
theorem SX10_end_0 {g : zG} {o : Bool} {M : zM} {q : Int → zM → Prop} {x1 : Int} (W : (-2147483648 ≤ x1 ∧ x1 ≤ 2147483647) ∧ (-2147483648 ≤ (M 1 1) ∧ (M 1 1) ≤ 2147483647) ∧ ((0 ≤ x1 ∧ x1 ≤ (M 1 1)) → q x1 (zu M 1 1 x1)) ∧ ((¬ (0 ≤ x1 ∧ x1 ≤ (M 1 1))) → q (-1) M)) : zT g (z2 o) mX10_end (zQi (z2 o) q) 0 [(0, zA g 1), (1, zI x1)] [] M := by
  refine zr_iload_n 1 dX10_end_0 rfl ?_
  refine zr_iconst dX10_end_1 ?_
  refine zr_aload_n 0 dX10_end_2 rfl ?_
  refine zt_geti 1 rfl dX10_end_3 fX10_99 rfl (by decide) ?_
  obtain ⟨c1, W⟩ := W
  obtain ⟨c2, W⟩ := W
  refine zt_callSi (As := [zI x1, zI 0, zI (M 1 1)]) (rest := []) dX10_end_6 kX10_end_106 rfl rfl (Nat.le_of_ble_eq_true rfl) (c_isIn c1 ⟨by decide, by decide⟩ c2) (fun r3 N5 h4 => ?_)
  rw [h4.1, h4.2]
  refine zt_ifne_b (tgt := 14) dX10_end_9 (by decide) (fun h => ?_) (fun h => ?_)
  · have W := W.1 h
    refine zr_aload_n 0 dX10_end_14 rfl ?_
    refine zr_iload_n 1 dX10_end_15 rfl ?_
    refine zt_puti 1 rfl dX10_end_16 fX10_99 lcX10 ltX10_1 rfl rfl ?_
    refine zr_iload_n 1 dX10_end_19 rfl ?_
    exact zt_iret dX10_end_20 rfl W
  · have W := W.2 h
    refine zr_iconst dX10_end_12 ?_
    exact zt_iret dX10_end_13 rfl W
theorem dX10_fault_0 : decode cX10_fault 0 = .ok (.iload_n 1, 1) := by decide +kernel
theorem dX10_fault_1 : decode cX10_fault 1 = .ok (.ifCond .ne 10, 3) := by decide +kernel
theorem dX10_fault_4 : decode cX10_fault 4 = .ok (.aload_n 0, 1) := by decide +kernel
theorem dX10_fault_5 : decode cX10_fault 5 = .ok (.getfield 252, 3) := by decide +kernel
theorem dX10_fault_8 : decode cX10_fault 8 = .ok (.goto 16, 3) := by decide +kernel
theorem dX10_fault_11 : decode cX10_fault 11 = .ok (.iload_n 1, 1) := by decide +kernel
theorem dX10_fault_12 : decode cX10_fault 12 = .ok (.iconst 1, 1) := by decide +kernel
theorem dX10_fault_13 : decode cX10_fault 13 = .ok (.if_icmp .ne 10, 3) := by decide +kernel
theorem dX10_fault_16 : decode cX10_fault 16 = .ok (.aload_n 0, 1) := by decide +kernel
theorem dX10_fault_17 : decode cX10_fault 17 = .ok (.getfield 17, 3) := by decide +kernel
theorem dX10_fault_20 : decode cX10_fault 20 = .ok (.goto 4, 3) := by decide +kernel
theorem dX10_fault_23 : decode cX10_fault 23 = .ok (.iconst (-1), 1) := by decide +kernel
theorem dX10_fault_24 : decode cX10_fault 24 = .ok (.ireturn, 1) := by decide +kernel
set_option maxRecDepth 100000 in
theorem SX10_fault_0 {g : zG} {o : Bool} {M : zM} {q : Int → zM → Prop} {x1 : Int} (W : (-2147483648 ≤ x1 ∧ x1 ≤ 2147483647) ∧ ((x1 ≠ 0) → ((x1 ≠ 1) → q (-1) M) ∧ ((x1 = 1) → q (M 1 10) M)) ∧ ((x1 = 0) → q (M 1 9) M)) : zT g (z2 o) mX10_fault (zQi (z2 o) q) 0 [(0, zA g 1), (1, zI x1)] [] M := by
  refine zr_iload_n 1 dX10_fault_0 rfl ?_
  obtain ⟨c1, W⟩ := W
  refine zr_if_ne (tgt := 11) dX10_fault_1 (by decide) c1 (fun h => ?_) (fun h => ?_)
  · have W := W.1 h
    refine zr_iload_n 1 dX10_fault_11 rfl ?_
    refine zr_iconst dX10_fault_12 ?_
    refine zr_icmp_ne (tgt := 23) dX10_fault_13 (by decide) c1 ⟨by decide, by decide⟩ (fun h => ?_) (fun h => ?_)
    · have W := W.1 h
      refine zr_iconst dX10_fault_23 ?_
      exact zt_iret dX10_fault_24 rfl W
    · have W := W.2 h
      refine zr_aload_n 0 dX10_fault_16 rfl ?_
      refine zt_geti 10 rfl dX10_fault_17 fX10_17 rfl (by decide) ?_
      refine zr_goto (tgt := 24) dX10_fault_20 (by decide) ?_
      exact zt_iret dX10_fault_24 rfl W
  · have W := W.2 h
    refine zr_aload_n 0 dX10_fault_4 rfl ?_
    refine zt_geti 9 rfl dX10_fault_5 fX10_252 rfl (by decide) ?_
    refine zr_goto (tgt := 24) dX10_fault_8 (by decide) ?_
    exact zt_iret dX10_fault_24 rfl W
theorem dX10_beside_0 : decode cX10_beside 0 = .ok (.aload_n 0, 1) := by decide +kernel
theorem dX10_beside_1 : decode cX10_beside 1 = .ok (.iload_n 1, 1) := by decide +kernel
theorem dX10_beside_2 : decode cX10_beside 2 = .ok (.invokevirtual 336, 3) := by decide +kernel
theorem dX10_beside_5 : decode cX10_beside 5 = .ok (.ifCond .eq 22, 3) := by decide +kernel
theorem dX10_beside_8 : decode cX10_beside 8 = .ok (.iload_n 2, 1) := by decide +kernel
theorem dX10_beside_9 : decode cX10_beside 9 = .ok (.iconst 0, 1) := by decide +kernel
theorem dX10_beside_10 : decode cX10_beside 10 = .ok (.iconst 3, 1) := by decide +kernel
theorem dX10_beside_11 : decode cX10_beside 11 = .ok (.invokestatic 106, 3) := by decide +kernel
theorem dX10_beside_14 : decode cX10_beside 14 = .ok (.ifCond .eq 13, 3) := by decide +kernel
theorem dX10_beside_17 : decode cX10_beside 17 = .ok (.aload_n 0, 1) := by decide +kernel
theorem dX10_beside_18 : decode cX10_beside 18 = .ok (.iload_n 1, 1) := by decide +kernel
theorem dX10_beside_19 : decode cX10_beside 19 = .ok (.iload_n 2, 1) := by decide +kernel
theorem dX10_beside_20 : decode cX10_beside 20 = .ok (.iconst 1, 1) := by decide +kernel
theorem dX10_beside_21 : decode cX10_beside 21 = .ok (.invokevirtual 282, 3) := by decide +kernel
theorem dX10_beside_24 : decode cX10_beside 24 = .ok (.goto 4, 3) := by decide +kernel
theorem dX10_beside_27 : decode cX10_beside 27 = .ok (.iconst (-1), 1) := by decide +kernel
theorem dX10_beside_28 : decode cX10_beside 28 = .ok (.ireturn, 1) := by decide +kernel
set_option maxRecDepth 100000 in
theorem SX10_beside_0 {g : zG} {o : Bool} {C R : Int} {M : zM} {q : Int → zM → Prop} {x1 x2 : Int} (W : (zRf M C R) ∧ (-2147483648 ≤ x1 ∧ x1 ≤ 2147483647) ∧ ((¬ (0 ≤ x1 ∧ x1 < C * R)) → q (-1) M) ∧ ((0 ≤ x1 ∧ x1 < C * R) → (-2147483648 ≤ x2 ∧ x2 ≤ 2147483647) ∧ ((¬ (0 ≤ x2 ∧ x2 ≤ 3)) → q (-1) M) ∧ ((0 ≤ x2 ∧ x2 ≤ 3) → (0 ≤ x1 ∧ x1 < C * R) ∧ (0 ≤ x2 ∧ x2 ≤ 3) ∧ q (alg C R x1 x2 1) M))) : zT g (z2 o) mX10_beside (zQi (z2 o) q) 0 [(0, zA g 1), (1, zI x1), (2, zI x2)] [] M := by
  refine zr_aload_n 0 dX10_beside_0 rfl ?_
  refine zr_iload_n 1 dX10_beside_1 rfl ?_
  obtain ⟨c1, W⟩ := W
  obtain ⟨c2, W⟩ := W
  refine zt_callVi (As := [zI x1]) (rest := []) dX10_beside_2 kX10_beside_336 rfl rfl rfl rfl (Nat.le_of_ble_eq_true rfl) (c_isCell c1 c2) (fun r3 N5 h4 => ?_)
  rw [h4.1, h4.2]
  refine zt_ifeq_b (tgt := 27) dX10_beside_5 (by decide) (fun h => ?_) (fun h => ?_)
  · have W := W.1 h
    refine zr_iconst dX10_beside_27 ?_
    exact zt_iret dX10_beside_28 rfl W
  · have W := W.2 h
    refine zr_iload_n 2 dX10_beside_8 rfl ?_
    refine zr_iconst dX10_beside_9 ?_
    refine zr_iconst dX10_beside_10 ?_
    obtain ⟨c6, W⟩ := W
    refine zt_callSi (As := [zI x2, zI 0, zI 3]) (rest := []) dX10_beside_11 kX10_beside_106 rfl rfl (Nat.le_of_ble_eq_true rfl) (c_isIn c6 ⟨by decide, by decide⟩ ⟨by decide, by decide⟩) (fun r7 N9 h8 => ?_)
    rw [h8.1, h8.2]
    refine zt_ifeq_b (tgt := 27) dX10_beside_14 (by decide) (fun h => ?_) (fun h => ?_)
    · have W := W.1 h
      refine zr_iconst dX10_beside_27 ?_
      exact zt_iret dX10_beside_28 rfl W
    · have W := W.2 h
      refine zr_aload_n 0 dX10_beside_17 rfl ?_
      refine zr_iload_n 1 dX10_beside_18 rfl ?_
      refine zr_iload_n 2 dX10_beside_19 rfl ?_
      refine zr_iconst dX10_beside_20 ?_
      obtain ⟨c10, W⟩ := W
      obtain ⟨c11, W⟩ := W
      refine zt_callVi (As := [zI x1, zI x2, zI 1]) (rest := []) dX10_beside_21 kX10_beside_282 rfl rfl rfl rfl (Nat.le_of_ble_eq_true rfl) (c_along c1 c10 c11 (by decide)) (fun r12 N14 h13 => ?_)
      rw [h13.1, h13.2]
      refine zr_goto (tgt := 28) dX10_beside_24 (by decide) ?_
      exact zt_iret dX10_beside_28 rfl W
theorem dX10_wind_0 : decode cX10_wind 0 = .ok (.iload_n 1, 1) := by decide +kernel
theorem dX10_wind_1 : decode cX10_wind 1 = .ok (.iconst 0, 1) := by decide +kernel
theorem dX10_wind_2 : decode cX10_wind 2 = .ok (.sipush 9999, 3) := by decide +kernel
theorem dX10_wind_5 : decode cX10_wind 5 = .ok (.invokestatic 106, 3) := by decide +kernel
theorem dX10_wind_8 : decode cX10_wind 8 = .ok (.ifCond .eq 20, 3) := by decide +kernel
theorem dX10_wind_11 : decode cX10_wind 11 = .ok (.aload_n 0, 1) := by decide +kernel
theorem dX10_wind_12 : decode cX10_wind 12 = .ok (.aload_n 0, 1) := by decide +kernel
theorem dX10_wind_13 : decode cX10_wind 13 = .ok (.getfield 42, 3) := by decide +kernel
theorem dX10_wind_16 : decode cX10_wind 16 = .ok (.sipush 197, 3) := by decide +kernel
theorem dX10_wind_19 : decode cX10_wind 19 = .ok (.iaload, 1) := by decide +kernel
theorem dX10_wind_20 : decode cX10_wind 20 = .ok (.iload_n 1, 1) := by decide +kernel
theorem dX10_wind_21 : decode cX10_wind 21 = .ok (.iadd, 1) := by decide +kernel
theorem dX10_wind_22 : decode cX10_wind 22 = .ok (.invokevirtual 270, 3) := by decide +kernel
theorem dX10_wind_25 : decode cX10_wind 25 = .ok (.goto 4, 3) := by decide +kernel
theorem dX10_wind_28 : decode cX10_wind 28 = .ok (.iconst (-1), 1) := by decide +kernel
theorem dX10_wind_29 : decode cX10_wind 29 = .ok (.ireturn, 1) := by decide +kernel
set_option maxRecDepth 100000 in
theorem SX10_wind_0 {g : zG} {o : Bool} {C R : Int} {M : zM} {q : Int → zM → Prop} {x1 : Int} (W : (-2147483648 ≤ x1 ∧ x1 ≤ 2147483647) ∧ ((¬ (0 ≤ x1 ∧ x1 ≤ 9999)) → q (-1) M) ∧ ((0 ≤ x1 ∧ x1 ≤ 9999) → (zRf M C R) ∧ (0 ≤ ((M 10 197) + x1) ∧ ((M 10 197) + x1) ≤ 2147483647) ∧ q (wnr M ((M 10 197) + x1)) M)) : zT g (z2 o) mX10_wind (zQi (z2 o) q) 0 [(0, zA g 1), (1, zI x1)] [] M := by
  refine zr_iload_n 1 dX10_wind_0 rfl ?_
  refine zr_iconst dX10_wind_1 ?_
  refine zr_sipush dX10_wind_2 (by decide) ?_
  obtain ⟨c1, W⟩ := W
  refine zt_callSi (As := [zI x1, zI 0, zI 9999]) (rest := []) dX10_wind_5 kX10_wind_106 rfl rfl (Nat.le_of_ble_eq_true rfl) (c_isIn c1 ⟨by decide, by decide⟩ ⟨by decide, by decide⟩) (fun r2 N4 h3 => ?_)
  rw [h3.1, h3.2]
  refine zt_ifeq_b (tgt := 28) dX10_wind_8 (by decide) (fun h => ?_) (fun h => ?_)
  · have W := W.1 h
    refine zr_iconst dX10_wind_28 ?_
    exact zt_iret dX10_wind_29 rfl W
  · have W := W.2 h
    refine zr_aload_n 0 dX10_wind_11 rfl ?_
    refine zr_aload_n 0 dX10_wind_12 rfl ?_
    refine zr_getr (b := 10) dX10_wind_13 fX10_42 rfl rfl rfl (by decide) ?_
    refine zr_sipush dX10_wind_16 (by decide) ?_
    refine zr_iald dX10_wind_19 rfl (by decide) ⟨by decide, by decide⟩ ?_
    refine zr_iload_n 1 dX10_wind_20 rfl ?_
    refine zr_iadd dX10_wind_21 ?_
    obtain ⟨c5, W⟩ := W
    obtain ⟨c6, W⟩ := W
    refine zt_callVi (As := [zI ((M 10 197) + x1)]) (rest := []) dX10_wind_22 kX10_wind_270 rfl rfl rfl rfl (Nat.le_of_ble_eq_true rfl) (c_windOf c5 c6) (fun r7 N9 h8 => ?_)
    rw [h8.1, h8.2]
    refine zr_goto (tgt := 29) dX10_wind_25 (by decide) ?_
    exact zt_iret dX10_wind_29 rfl W
theorem dX10_later_0 : decode cX10_later 0 = .ok (.iload_n 1, 1) := by decide +kernel
theorem dX10_later_1 : decode cX10_later 1 = .ok (.iconst 0, 1) := by decide +kernel
theorem dX10_later_2 : decode cX10_later 2 = .ok (.sipush 1000, 3) := by decide +kernel
theorem dX10_later_5 : decode cX10_later 5 = .ok (.invokestatic 106, 3) := by decide +kernel
theorem dX10_later_8 : decode cX10_later 8 = .ok (.ifCond .eq 15, 3) := by decide +kernel
theorem dX10_later_11 : decode cX10_later 11 = .ok (.aload_n 0, 1) := by decide +kernel
theorem dX10_later_12 : decode cX10_later 12 = .ok (.getfield 438, 3) := by decide +kernel
theorem dX10_later_15 : decode cX10_later 15 = .ok (.iload_n 1, 1) := by decide +kernel
theorem dX10_later_16 : decode cX10_later 16 = .ok (.iadd, 1) := by decide +kernel
theorem dX10_later_17 : decode cX10_later 17 = .ok (.ldc_w 441, 3) := by decide +kernel
theorem dX10_later_20 : decode cX10_later 20 = .ok (.if_icmp .le 5, 3) := by decide +kernel
theorem dX10_later_23 : decode cX10_later 23 = .ok (.iconst (-1), 1) := by decide +kernel
theorem dX10_later_24 : decode cX10_later 24 = .ok (.ireturn, 1) := by decide +kernel
theorem dX10_later_25 : decode cX10_later 25 = .ok (.aload_n 0, 1) := by decide +kernel
theorem dX10_later_26 : decode cX10_later 26 = .ok (.dup, 1) := by decide +kernel
theorem dX10_later_27 : decode cX10_later 27 = .ok (.getfield 438, 3) := by decide +kernel
theorem dX10_later_30 : decode cX10_later 30 = .ok (.iload_n 1, 1) := by decide +kernel
theorem dX10_later_31 : decode cX10_later 31 = .ok (.iadd, 1) := by decide +kernel
theorem dX10_later_32 : decode cX10_later 32 = .ok (.putfield 438, 3) := by decide +kernel
theorem dX10_later_35 : decode cX10_later 35 = .ok (.aload_n 0, 1) := by decide +kernel
theorem dX10_later_36 : decode cX10_later 36 = .ok (.getfield 438, 3) := by decide +kernel
theorem dX10_later_39 : decode cX10_later 39 = .ok (.ireturn, 1) := by decide +kernel
set_option maxRecDepth 100000 in
theorem SX10_later_0 {g : zG} {o : Bool} {M : zM} {q : Int → zM → Prop} {x1 : Int} (W : (-2147483648 ≤ x1 ∧ x1 ≤ 2147483647) ∧ ((¬ (0 ≤ x1 ∧ x1 ≤ 1000)) → q (-1) M) ∧ ((0 ≤ x1 ∧ x1 ≤ 1000) → (-2147483648 ≤ ((M 1 43) + x1) ∧ ((M 1 43) + x1) ≤ 2147483647) ∧ ((((M 1 43) + x1) ≤ 100000) → q ((zu M 1 43 ((M 1 43) + x1)) 1 43) (zu M 1 43 ((M 1 43) + x1))) ∧ ((¬ (((M 1 43) + x1) ≤ 100000)) → q (-1) M))) : zT g (z2 o) mX10_later (zQi (z2 o) q) 0 [(0, zA g 1), (1, zI x1)] [] M := by
  refine zr_iload_n 1 dX10_later_0 rfl ?_
  refine zr_iconst dX10_later_1 ?_
  refine zr_sipush dX10_later_2 (by decide) ?_
  obtain ⟨c1, W⟩ := W
  refine zt_callSi (As := [zI x1, zI 0, zI 1000]) (rest := []) dX10_later_5 kX10_later_106 rfl rfl (Nat.le_of_ble_eq_true rfl) (c_isIn c1 ⟨by decide, by decide⟩ ⟨by decide, by decide⟩) (fun r2 N4 h3 => ?_)
  rw [h3.1, h3.2]
  refine zt_ifeq_b (tgt := 23) dX10_later_8 (by decide) (fun h => ?_) (fun h => ?_)
  · have W := W.1 h
    refine zr_iconst dX10_later_23 ?_
    exact zt_iret dX10_later_24 rfl W
  · have W := W.2 h
    refine zr_aload_n 0 dX10_later_11 rfl ?_
    refine zt_geti 43 rfl dX10_later_12 fX10_438 rfl (by decide) ?_
    refine zr_iload_n 1 dX10_later_15 rfl ?_
    refine zr_iadd dX10_later_16 ?_
    refine zr_ldcw (x := 100000) dX10_later_17 (zc7 211 (by decide +kernel) rfl) ?_
    obtain ⟨c5, W⟩ := W
    refine zr_icmp_le (tgt := 25) dX10_later_20 (by decide) c5 ⟨by decide, by decide⟩ (fun h => ?_) (fun h => ?_)
    · have W := W.1 h
      refine zr_aload_n 0 dX10_later_25 rfl ?_
      refine zr_dup dX10_later_26 rfl ?_
      refine zt_geti 43 rfl dX10_later_27 fX10_438 rfl (by decide) ?_
      refine zr_iload_n 1 dX10_later_30 rfl ?_
      refine zr_iadd dX10_later_31 ?_
      refine zt_puti 43 rfl dX10_later_32 fX10_438 lcX10 ltX10_43 rfl rfl ?_
      refine zr_aload_n 0 dX10_later_35 rfl ?_
      refine zt_geti 43 rfl dX10_later_36 fX10_438 rfl (by decide) ?_
      exact zt_iret dX10_later_39 rfl W
    · have W := W.2 h
      refine zr_iconst dX10_later_23 ?_
      exact zt_iret dX10_later_24 rfl W
theorem dX10_untell_0 : decode cX10_untell 0 = .ok (.iload_n 1, 1) := by decide +kernel
theorem dX10_untell_1 : decode cX10_untell 1 = .ok (.iconst 0, 1) := by decide +kernel
theorem dX10_untell_2 : decode cX10_untell 2 = .ok (.aload_n 0, 1) := by decide +kernel
theorem dX10_untell_3 : decode cX10_untell 3 = .ok (.getfield 241, 3) := by decide +kernel
theorem dX10_untell_6 : decode cX10_untell 6 = .ok (.iconst 1, 1) := by decide +kernel
theorem dX10_untell_7 : decode cX10_untell 7 = .ok (.isub, 1) := by decide +kernel
theorem dX10_untell_8 : decode cX10_untell 8 = .ok (.invokestatic 106, 3) := by decide +kernel
theorem dX10_untell_11 : decode cX10_untell 11 = .ok (.ifCond .eq 13, 3) := by decide +kernel
theorem dX10_untell_14 : decode cX10_untell 14 = .ok (.aload_n 0, 1) := by decide +kernel
theorem dX10_untell_15 : decode cX10_untell 15 = .ok (.getfield 84, 3) := by decide +kernel
theorem dX10_untell_18 : decode cX10_untell 18 = .ok (.iload_n 1, 1) := by decide +kernel
theorem dX10_untell_19 : decode cX10_untell 19 = .ok (.iaload, 1) := by decide +kernel
theorem dX10_untell_20 : decode cX10_untell 20 = .ok (.iconst (-1), 1) := by decide +kernel
theorem dX10_untell_21 : decode cX10_untell 21 = .ok (.if_icmp .eq 5, 3) := by decide +kernel
theorem dX10_untell_24 : decode cX10_untell 24 = .ok (.iconst 0, 1) := by decide +kernel
theorem dX10_untell_25 : decode cX10_untell 25 = .ok (.ireturn, 1) := by decide +kernel
theorem dX10_untell_26 : decode cX10_untell 26 = .ok (.aload_n 0, 1) := by decide +kernel
theorem dX10_untell_27 : decode cX10_untell 27 = .ok (.getfield 84, 3) := by decide +kernel
theorem dX10_untell_30 : decode cX10_untell 30 = .ok (.iload_n 1, 1) := by decide +kernel
theorem dX10_untell_31 : decode cX10_untell 31 = .ok (.aload_n 0, 1) := by decide +kernel
theorem dX10_untell_32 : decode cX10_untell 32 = .ok (.getfield 438, 3) := by decide +kernel
theorem dX10_untell_35 : decode cX10_untell 35 = .ok (.iastore, 1) := by decide +kernel
theorem dX10_untell_36 : decode cX10_untell 36 = .ok (.iconst 1, 1) := by decide +kernel
theorem dX10_untell_37 : decode cX10_untell 37 = .ok (.ireturn, 1) := by decide +kernel
set_option maxRecDepth 100000 in
theorem SX10_untell_0 {g : zG} {o : Bool} {M : zM} {q : Int → zM → Prop} {x1 : Int} (W : (-2147483648 ≤ x1 ∧ x1 ≤ 2147483647) ∧ (-2147483648 ≤ ((M 1 42) - 1) ∧ ((M 1 42) - 1) ≤ 2147483647) ∧ ((¬ (0 ≤ x1 ∧ x1 ≤ ((M 1 42) - 1))) → q 0 M) ∧ ((0 ≤ x1 ∧ x1 ≤ ((M 1 42) - 1)) → (0 ≤ x1 ∧ x1 < 20) ∧ (-2147483648 ≤ (M 23 x1) ∧ (M 23 x1) ≤ 2147483647) ∧ (((M 23 x1) = (-1)) → q 1 (zu M 23 x1 (M 1 43))) ∧ ((¬ ((M 23 x1) = (-1))) → q 0 M))) : zT g (z2 o) mX10_untell (zQi (z2 o) q) 0 [(0, zA g 1), (1, zI x1)] [] M := by
  refine zr_iload_n 1 dX10_untell_0 rfl ?_
  refine zr_iconst dX10_untell_1 ?_
  refine zr_aload_n 0 dX10_untell_2 rfl ?_
  refine zt_geti 42 rfl dX10_untell_3 fX10_241 rfl (by decide) ?_
  refine zr_iconst dX10_untell_6 ?_
  refine zr_isub dX10_untell_7 ?_
  obtain ⟨c1, W⟩ := W
  obtain ⟨c2, W⟩ := W
  refine zt_callSi (As := [zI x1, zI 0, zI ((M 1 42) - 1)]) (rest := []) dX10_untell_8 kX10_untell_106 rfl rfl (Nat.le_of_ble_eq_true rfl) (c_isIn c1 ⟨by decide, by decide⟩ c2) (fun r3 N5 h4 => ?_)
  rw [h4.1, h4.2]
  refine zt_ifeq_b (tgt := 24) dX10_untell_11 (by decide) (fun h => ?_) (fun h => ?_)
  · have W := W.1 h
    refine zr_iconst dX10_untell_24 ?_
    exact zt_zret dX10_untell_25 rfl (by decide) W
  · have W := W.2 h
    refine zr_aload_n 0 dX10_untell_14 rfl ?_
    refine zr_getr (b := 23) dX10_untell_15 fX10_84 rfl rfl rfl (by decide) ?_
    refine zr_iload_n 1 dX10_untell_18 rfl ?_
    obtain ⟨c6, W⟩ := W
    refine zr_iald dX10_untell_19 rfl (by decide) c6 ?_
    refine zr_iconst dX10_untell_20 ?_
    obtain ⟨c7, W⟩ := W
    refine zr_icmp_eq (tgt := 26) dX10_untell_21 (by decide) c7 ⟨by decide, by decide⟩ (fun h => ?_) (fun h => ?_)
    · have W := W.1 h
      refine zr_aload_n 0 dX10_untell_26 rfl ?_
      refine zr_getr (b := 23) dX10_untell_27 fX10_84 rfl rfl rfl (by decide) ?_
      refine zr_iload_n 1 dX10_untell_30 rfl ?_
      refine zr_aload_n 0 dX10_untell_31 rfl ?_
      refine zt_geti 43 rfl dX10_untell_32 fX10_438 rfl (by decide) ?_
      refine zr_iast dX10_untell_35 rfl (by decide) c6 ?_
      refine zr_iconst dX10_untell_36 ?_
      exact zt_zret dX10_untell_37 rfl (by decide) W
    · have W := W.2 h
      refine zr_iconst dX10_untell_24 ?_
      exact zt_zret dX10_untell_25 rfl (by decide) W
theorem dX10_sownMany_0 : decode cX10_sownMany 0 = .ok (.iconst 0, 1) := by decide +kernel
theorem dX10_sownMany_1 : decode cX10_sownMany 1 = .ok (.istore_n 1, 1) := by decide +kernel
theorem dX10_sownMany_2 : decode cX10_sownMany 2 = .ok (.iconst 0, 1) := by decide +kernel
theorem dX10_sownMany_3 : decode cX10_sownMany 3 = .ok (.istore_n 2, 1) := by decide +kernel
theorem dX10_sownMany_4 : decode cX10_sownMany 4 = .ok (.iload_n 2, 1) := by decide +kernel
theorem dX10_sownMany_5 : decode cX10_sownMany 5 = .ok (.aload_n 0, 1) := by decide +kernel
theorem dX10_sownMany_6 : decode cX10_sownMany 6 = .ok (.invokevirtual 226, 3) := by decide +kernel
theorem dX10_sownMany_9 : decode cX10_sownMany 9 = .ok (.if_icmp .ge 21, 3) := by decide +kernel
theorem dX10_sownMany_12 : decode cX10_sownMany 12 = .ok (.iload_n 1, 1) := by decide +kernel
theorem dX10_sownMany_13 : decode cX10_sownMany 13 = .ok (.aload_n 0, 1) := by decide +kernel
theorem dX10_sownMany_14 : decode cX10_sownMany 14 = .ok (.getfield 42, 3) := by decide +kernel
theorem dX10_sownMany_17 : decode cX10_sownMany 17 = .ok (.bipush 96, 2) := by decide +kernel
theorem dX10_sownMany_19 : decode cX10_sownMany 19 = .ok (.iload_n 2, 1) := by decide +kernel
theorem dX10_sownMany_20 : decode cX10_sownMany 20 = .ok (.iadd, 1) := by decide +kernel
theorem dX10_sownMany_21 : decode cX10_sownMany 21 = .ok (.iaload, 1) := by decide +kernel
theorem dX10_sownMany_22 : decode cX10_sownMany 22 = .ok (.iadd, 1) := by decide +kernel
theorem dX10_sownMany_23 : decode cX10_sownMany 23 = .ok (.istore_n 1, 1) := by decide +kernel
theorem dX10_sownMany_24 : decode cX10_sownMany 24 = .ok (.iinc 2 1, 3) := by decide +kernel
theorem dX10_sownMany_27 : decode cX10_sownMany 27 = .ok (.goto (-23), 3) := by decide +kernel
theorem dX10_sownMany_30 : decode cX10_sownMany 30 = .ok (.iload_n 1, 1) := by decide +kernel
theorem dX10_sownMany_31 : decode cX10_sownMany 31 = .ok (.ireturn, 1) := by decide +kernel
set_option maxRecDepth 100000 in
theorem SX10_sownMany_0 {g : zG} {o : Bool} {M : zM} {q : Int → zM → Prop} (W : zT g (z2 o) mX10_sownMany (zQi (z2 o) q) 4 [(0, zA g 1), (1, zI 0), (2, zI 0)] [] M) : zT g (z2 o) mX10_sownMany (zQi (z2 o) q) 0 [(0, zA g 1)] [] M := by
  refine zr_iconst dX10_sownMany_0 ?_
  refine zr_istore_n (l' := [(0, zA g 1), (1, zI 0)]) dX10_sownMany_1 (by decide) [1, 0] rfl ?_
  refine zr_iconst dX10_sownMany_2 ?_
  refine zr_istore_n (l' := [(0, zA g 1), (1, zI 0), (2, zI 0)]) dX10_sownMany_3 (by decide) [1, 2, 0] rfl ?_
  exact W
set_option maxRecDepth 100000 in
theorem SX10_sownMany_4 {g : zG} {o : Bool} {C R : Int} {M : zM} {q : Int → zM → Prop} {x1 x2 : Int} (W : (zRf M C R) ∧ (-2147483648 ≤ x2 ∧ x2 ≤ 2147483647) ∧ (-2147483648 ≤ (C * R) ∧ (C * R) ≤ 2147483647) ∧ (((C * R) ≤ x2) → q x1 M) ∧ ((¬ ((C * R) ≤ x2)) → (0 ≤ (96 + x2) ∧ (96 + x2) < 198) ∧ zT g (z2 o) mX10_sownMany (zQi (z2 o) q) 4 [(0, zA g 1), (1, zI (x1 + (M 10 (96 + x2)))), (2, zI (x2 + 1))] [] M)) : zT g (z2 o) mX10_sownMany (zQi (z2 o) q) 4 [(0, zA g 1), (1, zI x1), (2, zI x2)] [] M := by
  refine zr_iload_n 2 dX10_sownMany_4 rfl ?_
  refine zr_aload_n 0 dX10_sownMany_5 rfl ?_
  obtain ⟨c1, W⟩ := W
  refine zt_callVi (As := []) (rest := [zI x2]) dX10_sownMany_6 kX10_sownMany_226 rfl rfl rfl rfl (Nat.le_of_ble_eq_true rfl) (c_cells c1) (fun r2 N4 h3 => ?_)
  rw [h3.1, h3.2]
  obtain ⟨c5, W⟩ := W
  obtain ⟨c6, W⟩ := W
  refine zr_icmp_ge (tgt := 30) dX10_sownMany_9 (by decide) c5 c6 (fun h => ?_) (fun h => ?_)
  · have W := W.1 h
    refine zr_iload_n 1 dX10_sownMany_30 rfl ?_
    exact zt_iret dX10_sownMany_31 rfl W
  · have W := W.2 h
    refine zr_iload_n 1 dX10_sownMany_12 rfl ?_
    refine zr_aload_n 0 dX10_sownMany_13 rfl ?_
    refine zr_getr (b := 10) dX10_sownMany_14 fX10_42 rfl rfl rfl (by decide) ?_
    refine zr_bipush dX10_sownMany_17 (by decide) ?_
    refine zr_iload_n 2 dX10_sownMany_19 rfl ?_
    refine zr_iadd dX10_sownMany_20 ?_
    obtain ⟨c7, W⟩ := W
    refine zr_iald dX10_sownMany_21 rfl (by decide) c7 ?_
    refine zr_iadd dX10_sownMany_22 ?_
    refine zr_istore_n (l' := [(0, zA g 1), (1, zI (x1 + (M 10 (96 + x2)))), (2, zI x2)]) dX10_sownMany_23 (by decide) [1, 0, 2] rfl ?_
    refine zr_iinc (q := 2) (l' := [(0, zA g 1), (1, zI (x1 + (M 10 (96 + x2)))), (2, zI (x2 + 1))]) dX10_sownMany_24 rfl (by decide) [1, 2, 0] rfl ?_
    refine zr_goto (tgt := 4) dX10_sownMany_27 (by decide) ?_
    exact W
theorem dX10_roundTries_0 : decode cX10_roundTries 0 = .ok (.iconst 0, 1) := by decide +kernel
theorem dX10_roundTries_1 : decode cX10_roundTries 1 = .ok (.istore_n 1, 1) := by decide +kernel
theorem dX10_roundTries_2 : decode cX10_roundTries 2 = .ok (.iconst 0, 1) := by decide +kernel
theorem dX10_roundTries_3 : decode cX10_roundTries 3 = .ok (.istore_n 2, 1) := by decide +kernel
theorem dX10_roundTries_4 : decode cX10_roundTries 4 = .ok (.iload_n 2, 1) := by decide +kernel
theorem dX10_roundTries_5 : decode cX10_roundTries 5 = .ok (.aload_n 0, 1) := by decide +kernel
theorem dX10_roundTries_6 : decode cX10_roundTries 6 = .ok (.getfield 20, 3) := by decide +kernel
theorem dX10_roundTries_9 : decode cX10_roundTries 9 = .ok (.bipush 9, 2) := by decide +kernel
theorem dX10_roundTries_11 : decode cX10_roundTries 11 = .ok (.iaload, 1) := by decide +kernel
theorem dX10_roundTries_12 : decode cX10_roundTries 12 = .ok (.if_icmp .ge 18, 3) := by decide +kernel
theorem dX10_roundTries_15 : decode cX10_roundTries 15 = .ok (.iload_n 1, 1) := by decide +kernel
theorem dX10_roundTries_16 : decode cX10_roundTries 16 = .ok (.aload_n 0, 1) := by decide +kernel
theorem dX10_roundTries_17 : decode cX10_roundTries 17 = .ok (.getfield 26, 3) := by decide +kernel
theorem dX10_roundTries_20 : decode cX10_roundTries 20 = .ok (.iload_n 2, 1) := by decide +kernel
theorem dX10_roundTries_21 : decode cX10_roundTries 21 = .ok (.iaload, 1) := by decide +kernel
theorem dX10_roundTries_22 : decode cX10_roundTries 22 = .ok (.iadd, 1) := by decide +kernel
theorem dX10_roundTries_23 : decode cX10_roundTries 23 = .ok (.istore_n 1, 1) := by decide +kernel
theorem dX10_roundTries_24 : decode cX10_roundTries 24 = .ok (.iinc 2 1, 3) := by decide +kernel
theorem dX10_roundTries_27 : decode cX10_roundTries 27 = .ok (.goto (-23), 3) := by decide +kernel
theorem dX10_roundTries_30 : decode cX10_roundTries 30 = .ok (.iload_n 1, 1) := by decide +kernel
theorem dX10_roundTries_31 : decode cX10_roundTries 31 = .ok (.ireturn, 1) := by decide +kernel
set_option maxRecDepth 100000 in
theorem SX10_roundTries_0 {g : zG} {o : Bool} {M : zM} {q : Int → zM → Prop} (W : zT g (z2 o) mX10_roundTries (zQi (z2 o) q) 4 [(0, zA g 1), (1, zI 0), (2, zI 0)] [] M) : zT g (z2 o) mX10_roundTries (zQi (z2 o) q) 0 [(0, zA g 1)] [] M := by
  refine zr_iconst dX10_roundTries_0 ?_
  refine zr_istore_n (l' := [(0, zA g 1), (1, zI 0)]) dX10_roundTries_1 (by decide) [1, 0] rfl ?_
  refine zr_iconst dX10_roundTries_2 ?_
  refine zr_istore_n (l' := [(0, zA g 1), (1, zI 0), (2, zI 0)]) dX10_roundTries_3 (by decide) [1, 2, 0] rfl ?_
  exact W
set_option maxRecDepth 100000 in
theorem SX10_roundTries_4 {g : zG} {o : Bool} {M : zM} {q : Int → zM → Prop} {x1 x2 : Int} (W : (-2147483648 ≤ x2 ∧ x2 ≤ 2147483647) ∧ (-2147483648 ≤ (M 3 9) ∧ (M 3 9) ≤ 2147483647) ∧ (((M 3 9) ≤ x2) → q x1 M) ∧ ((¬ ((M 3 9) ≤ x2)) → (0 ≤ x2 ∧ x2 < 16) ∧ zT g (z2 o) mX10_roundTries (zQi (z2 o) q) 4 [(0, zA g 1), (1, zI (x1 + (M 5 x2))), (2, zI (x2 + 1))] [] M)) : zT g (z2 o) mX10_roundTries (zQi (z2 o) q) 4 [(0, zA g 1), (1, zI x1), (2, zI x2)] [] M := by
  refine zr_iload_n 2 dX10_roundTries_4 rfl ?_
  refine zr_aload_n 0 dX10_roundTries_5 rfl ?_
  refine zr_getr (b := 3) dX10_roundTries_6 fX10_20 rfl rfl rfl (by decide) ?_
  refine zr_bipush dX10_roundTries_9 (by decide) ?_
  refine zr_iald dX10_roundTries_11 rfl (by decide) ⟨by decide, by decide⟩ ?_
  obtain ⟨c1, W⟩ := W
  obtain ⟨c2, W⟩ := W
  refine zr_icmp_ge (tgt := 30) dX10_roundTries_12 (by decide) c1 c2 (fun h => ?_) (fun h => ?_)
  · have W := W.1 h
    refine zr_iload_n 1 dX10_roundTries_30 rfl ?_
    exact zt_iret dX10_roundTries_31 rfl W
  · have W := W.2 h
    refine zr_iload_n 1 dX10_roundTries_15 rfl ?_
    refine zr_aload_n 0 dX10_roundTries_16 rfl ?_
    refine zr_getr (b := 5) dX10_roundTries_17 fX10_26 rfl rfl rfl (by decide) ?_
    refine zr_iload_n 2 dX10_roundTries_20 rfl ?_
    obtain ⟨c3, W⟩ := W
    refine zr_iald dX10_roundTries_21 rfl (by decide) c3 ?_
    refine zr_iadd dX10_roundTries_22 ?_
    refine zr_istore_n (l' := [(0, zA g 1), (1, zI (x1 + (M 5 x2))), (2, zI x2)]) dX10_roundTries_23 (by decide) [1, 0, 2] rfl ?_
    refine zr_iinc (q := 2) (l' := [(0, zA g 1), (1, zI (x1 + (M 5 x2))), (2, zI (x2 + 1))]) dX10_roundTries_24 rfl (by decide) [1, 2, 0] rfl ?_
    refine zr_goto (tgt := 4) dX10_roundTries_27 (by decide) ?_
    exact W
theorem dX10_goesOn_0 : decode cX10_goesOn 0 = .ok (.iconst 0, 1) := by decide +kernel
theorem dX10_goesOn_1 : decode cX10_goesOn 1 = .ok (.istore_n 1, 1) := by decide +kernel
theorem dX10_goesOn_2 : decode cX10_goesOn 2 = .ok (.iload_n 1, 1) := by decide +kernel
theorem dX10_goesOn_3 : decode cX10_goesOn 3 = .ok (.sipush 198, 3) := by decide +kernel
theorem dX10_goesOn_6 : decode cX10_goesOn 6 = .ok (.if_icmp .ge 21, 3) := by decide +kernel
theorem dX10_goesOn_9 : decode cX10_goesOn 9 = .ok (.aload_n 0, 1) := by decide +kernel
theorem dX10_goesOn_10 : decode cX10_goesOn 10 = .ok (.getfield 45, 3) := by decide +kernel
theorem dX10_goesOn_13 : decode cX10_goesOn 13 = .ok (.iload_n 1, 1) := by decide +kernel
theorem dX10_goesOn_14 : decode cX10_goesOn 14 = .ok (.aload_n 0, 1) := by decide +kernel
theorem dX10_goesOn_15 : decode cX10_goesOn 15 = .ok (.getfield 42, 3) := by decide +kernel
theorem dX10_goesOn_18 : decode cX10_goesOn 18 = .ok (.iload_n 1, 1) := by decide +kernel
theorem dX10_goesOn_19 : decode cX10_goesOn 19 = .ok (.iaload, 1) := by decide +kernel
theorem dX10_goesOn_20 : decode cX10_goesOn 20 = .ok (.iastore, 1) := by decide +kernel
theorem dX10_goesOn_21 : decode cX10_goesOn 21 = .ok (.iinc 1 1, 3) := by decide +kernel
theorem dX10_goesOn_24 : decode cX10_goesOn 24 = .ok (.goto (-22), 3) := by decide +kernel
theorem dX10_goesOn_27 : decode cX10_goesOn 27 = .ok (.aload_n 0, 1) := by decide +kernel
theorem dX10_goesOn_28 : decode cX10_goesOn 28 = .ok (.iconst 0, 1) := by decide +kernel
theorem dX10_goesOn_29 : decode cX10_goesOn 29 = .ok (.putfield 261, 3) := by decide +kernel
theorem dX10_goesOn_32 : decode cX10_goesOn 32 = .ok (.aload_n 0, 1) := by decide +kernel
theorem dX10_goesOn_33 : decode cX10_goesOn 33 = .ok (.iconst 0, 1) := by decide +kernel
theorem dX10_goesOn_34 : decode cX10_goesOn 34 = .ok (.putfield 264, 3) := by decide +kernel
theorem dX10_goesOn_37 : decode cX10_goesOn 37 = .ok (.aload_n 0, 1) := by decide +kernel
theorem dX10_goesOn_38 : decode cX10_goesOn 38 = .ok (.iconst 0, 1) := by decide +kernel
theorem dX10_goesOn_39 : decode cX10_goesOn 39 = .ok (.putfield 267, 3) := by decide +kernel
theorem dX10_goesOn_42 : decode cX10_goesOn 42 = .ok (.return_, 1) := by decide +kernel
set_option maxRecDepth 100000 in
theorem SX10_goesOn_0 {g : zG} {o : Bool} {M : zM} {q : zM → Prop} (W : zT g (z2 o) mX10_goesOn (zQv (z2 o) q) 2 [(0, zA g 1), (1, zI 0)] [] M) : zT g (z2 o) mX10_goesOn (zQv (z2 o) q) 0 [(0, zA g 1)] [] M := by
  refine zr_iconst dX10_goesOn_0 ?_
  refine zr_istore_n (l' := [(0, zA g 1), (1, zI 0)]) dX10_goesOn_1 (by decide) [1, 0] rfl ?_
  exact W
set_option maxRecDepth 100000 in
theorem SX10_goesOn_2 {g : zG} {o : Bool} {M : zM} {q : zM → Prop} {x1 : Int} (W : (-2147483648 ≤ x1 ∧ x1 ≤ 2147483647) ∧ ((198 ≤ x1) → ∀ N2 : zM, N2 = zu M 1 23 0 → ∀ N4 : zM, N4 = zu N2 1 24 0 → q (zu N4 1 25 0)) ∧ ((¬ (198 ≤ x1)) → (0 ≤ x1 ∧ x1 < 198) ∧ zT g (z2 o) mX10_goesOn (zQv (z2 o) q) 2 [(0, zA g 1), (1, zI (x1 + 1))] [] (zu M 11 x1 (M 10 x1)))) : zT g (z2 o) mX10_goesOn (zQv (z2 o) q) 2 [(0, zA g 1), (1, zI x1)] [] M := by
  refine zr_iload_n 1 dX10_goesOn_2 rfl ?_
  refine zr_sipush dX10_goesOn_3 (by decide) ?_
  obtain ⟨c1, W⟩ := W
  refine zr_icmp_ge (tgt := 27) dX10_goesOn_6 (by decide) c1 ⟨by decide, by decide⟩ (fun h => ?_) (fun h => ?_)
  · have W := W.1 h
    refine zr_aload_n 0 dX10_goesOn_27 rfl ?_
    refine zr_iconst dX10_goesOn_28 ?_
    refine zt_puti 23 rfl dX10_goesOn_29 fX10_261 lcX10 ltX10_23 rfl rfl ?_
    refine zr_aload_n 0 dX10_goesOn_32 rfl ?_
    refine zr_iconst dX10_goesOn_33 ?_
    obtain ⟨N2, e3⟩ : ∃ N : zM, N = zu M 1 23 0 := ⟨_, rfl⟩
    rw [← e3]
    have W := W N2 e3
    refine zt_puti 24 rfl dX10_goesOn_34 fX10_264 lcX10 ltX10_24 rfl rfl ?_
    refine zr_aload_n 0 dX10_goesOn_37 rfl ?_
    refine zr_iconst dX10_goesOn_38 ?_
    obtain ⟨N4, e5⟩ : ∃ N : zM, N = zu N2 1 24 0 := ⟨_, rfl⟩
    rw [← e5]
    have W := W N4 e5
    refine zt_puti 25 rfl dX10_goesOn_39 fX10_267 lcX10 ltX10_25 rfl rfl ?_
    exact zt_ret dX10_goesOn_42 rfl W
  · have W := W.2 h
    refine zr_aload_n 0 dX10_goesOn_9 rfl ?_
    refine zr_getr (b := 11) dX10_goesOn_10 fX10_45 rfl rfl rfl (by decide) ?_
    refine zr_iload_n 1 dX10_goesOn_13 rfl ?_
    refine zr_aload_n 0 dX10_goesOn_14 rfl ?_
    refine zr_getr (b := 10) dX10_goesOn_15 fX10_42 rfl rfl rfl (by decide) ?_
    refine zr_iload_n 1 dX10_goesOn_18 rfl ?_
    obtain ⟨c6, W⟩ := W
    refine zr_iald dX10_goesOn_19 rfl (by decide) c6 ?_
    refine zr_iast dX10_goesOn_20 rfl (by decide) c6 ?_
    refine zr_iinc (q := 1) (l' := [(0, zA g 1), (1, zI (x1 + 1))]) dX10_goesOn_21 rfl (by decide) [1, 0] rfl ?_
    refine zr_goto (tgt := 2) dX10_goesOn_24 (by decide) ?_
    exact W
theorem dX10_keepsRow_0 : decode cX10_keepsRow 0 = .ok (.iconst 0, 1) := by decide +kernel
theorem dX10_keepsRow_1 : decode cX10_keepsRow 1 = .ok (.istore_n 1, 1) := by decide +kernel
theorem dX10_keepsRow_2 : decode cX10_keepsRow 2 = .ok (.iload_n 1, 1) := by decide +kernel
theorem dX10_keepsRow_3 : decode cX10_keepsRow 3 = .ok (.sipush 198, 3) := by decide +kernel
theorem dX10_keepsRow_6 : decode cX10_keepsRow 6 = .ok (.if_icmp .ge 21, 3) := by decide +kernel
theorem dX10_keepsRow_9 : decode cX10_keepsRow 9 = .ok (.aload_n 0, 1) := by decide +kernel
theorem dX10_keepsRow_10 : decode cX10_keepsRow 10 = .ok (.getfield 42, 3) := by decide +kernel
theorem dX10_keepsRow_13 : decode cX10_keepsRow 13 = .ok (.iload_n 1, 1) := by decide +kernel
theorem dX10_keepsRow_14 : decode cX10_keepsRow 14 = .ok (.aload_n 0, 1) := by decide +kernel
theorem dX10_keepsRow_15 : decode cX10_keepsRow 15 = .ok (.getfield 45, 3) := by decide +kernel
theorem dX10_keepsRow_18 : decode cX10_keepsRow 18 = .ok (.iload_n 1, 1) := by decide +kernel
theorem dX10_keepsRow_19 : decode cX10_keepsRow 19 = .ok (.iaload, 1) := by decide +kernel
theorem dX10_keepsRow_20 : decode cX10_keepsRow 20 = .ok (.iastore, 1) := by decide +kernel
theorem dX10_keepsRow_21 : decode cX10_keepsRow 21 = .ok (.iinc 1 1, 3) := by decide +kernel
theorem dX10_keepsRow_24 : decode cX10_keepsRow 24 = .ok (.goto (-22), 3) := by decide +kernel
theorem dX10_keepsRow_27 : decode cX10_keepsRow 27 = .ok (.return_, 1) := by decide +kernel
set_option maxRecDepth 100000 in
theorem SX10_keepsRow_0 {g : zG} {o : Bool} {M : zM} {q : zM → Prop} (W : zT g (z2 o) mX10_keepsRow (zQv (z2 o) q) 2 [(0, zA g 1), (1, zI 0)] [] M) : zT g (z2 o) mX10_keepsRow (zQv (z2 o) q) 0 [(0, zA g 1)] [] M := by
  refine zr_iconst dX10_keepsRow_0 ?_
  refine zr_istore_n (l' := [(0, zA g 1), (1, zI 0)]) dX10_keepsRow_1 (by decide) [1, 0] rfl ?_
  exact W
set_option maxRecDepth 100000 in
theorem SX10_keepsRow_2 {g : zG} {o : Bool} {M : zM} {q : zM → Prop} {x1 : Int} (W : (-2147483648 ≤ x1 ∧ x1 ≤ 2147483647) ∧ ((198 ≤ x1) → q M) ∧ ((¬ (198 ≤ x1)) → (0 ≤ x1 ∧ x1 < 198) ∧ zT g (z2 o) mX10_keepsRow (zQv (z2 o) q) 2 [(0, zA g 1), (1, zI (x1 + 1))] [] (zu M 10 x1 (M 11 x1)))) : zT g (z2 o) mX10_keepsRow (zQv (z2 o) q) 2 [(0, zA g 1), (1, zI x1)] [] M := by
  refine zr_iload_n 1 dX10_keepsRow_2 rfl ?_
  refine zr_sipush dX10_keepsRow_3 (by decide) ?_
  obtain ⟨c1, W⟩ := W
  refine zr_icmp_ge (tgt := 27) dX10_keepsRow_6 (by decide) c1 ⟨by decide, by decide⟩ (fun h => ?_) (fun h => ?_)
  · have W := W.1 h
    exact zt_ret dX10_keepsRow_27 rfl W
  · have W := W.2 h
    refine zr_aload_n 0 dX10_keepsRow_9 rfl ?_
    refine zr_getr (b := 10) dX10_keepsRow_10 fX10_42 rfl rfl rfl (by decide) ?_
    refine zr_iload_n 1 dX10_keepsRow_13 rfl ?_
    refine zr_aload_n 0 dX10_keepsRow_14 rfl ?_
    refine zr_getr (b := 11) dX10_keepsRow_15 fX10_45 rfl rfl rfl (by decide) ?_
    refine zr_iload_n 1 dX10_keepsRow_18 rfl ?_
    obtain ⟨c2, W⟩ := W
    refine zr_iald dX10_keepsRow_19 rfl (by decide) c2 ?_
    refine zr_iast dX10_keepsRow_20 rfl (by decide) c2 ?_
    refine zr_iinc (q := 1) (l' := [(0, zA g 1), (1, zI (x1 + 1))]) dX10_keepsRow_21 rfl (by decide) [1, 0] rfl ?_
    refine zr_goto (tgt := 2) dX10_keepsRow_24 (by decide) ?_
    exact W
theorem dX10_lowestBeside_0 : decode cX10_lowestBeside 0 = .ok (.aload_n 0, 1) := by decide +kernel
theorem dX10_lowestBeside_1 : decode cX10_lowestBeside 1 = .ok (.getfield 45, 3) := by decide +kernel
theorem dX10_lowestBeside_4 : decode cX10_lowestBeside 4 = .ok (.aload_n 0, 1) := by decide +kernel
theorem dX10_lowestBeside_5 : decode cX10_lowestBeside 5 = .ok (.iload_n 1, 1) := by decide +kernel
theorem dX10_lowestBeside_6 : decode cX10_lowestBeside 6 = .ok (.aload_n 0, 1) := by decide +kernel
theorem dX10_lowestBeside_7 : decode cX10_lowestBeside 7 = .ok (.iload_n 1, 1) := by decide +kernel
theorem dX10_lowestBeside_8 : decode cX10_lowestBeside 8 = .ok (.iconst 0, 1) := by decide +kernel
theorem dX10_lowestBeside_9 : decode cX10_lowestBeside 9 = .ok (.invokevirtual 293, 3) := by decide +kernel
theorem dX10_lowestBeside_12 : decode cX10_lowestBeside 12 = .ok (.iconst 1, 1) := by decide +kernel
theorem dX10_lowestBeside_13 : decode cX10_lowestBeside 13 = .ok (.invokevirtual 282, 3) := by decide +kernel
theorem dX10_lowestBeside_16 : decode cX10_lowestBeside 16 = .ok (.iaload, 1) := by decide +kernel
theorem dX10_lowestBeside_17 : decode cX10_lowestBeside 17 = .ok (.ireturn, 1) := by decide +kernel
set_option maxRecDepth 100000 in
theorem SX10_lowestBeside_0 {g : zG} {o : Bool} {C R : Int} {M : zM} {q : Int → zM → Prop} {x1 : Int} (W : (zRf M C R) ∧ (0 ≤ x1 ∧ x1 < C * R) ∧ (Bd (M 11)) ∧ (0 ≤ (pmn C R (M 11) x1 3) ∧ (pmn C R (M 11) x1 3) ≤ 3) ∧ (0 ≤ (alg C R x1 (pmn C R (M 11) x1 3) 1) ∧ (alg C R x1 (pmn C R (M 11) x1 3) 1) < 198) ∧ q (M 11 (alg C R x1 (pmn C R (M 11) x1 3) 1)) M) : zT g (z2 o) mX10_lowestBeside (zQi (z2 o) q) 0 [(0, zA g 1), (1, zI x1)] [] M := by
  refine zr_aload_n 0 dX10_lowestBeside_0 rfl ?_
  refine zr_getr (b := 11) dX10_lowestBeside_1 fX10_45 rfl rfl rfl (by decide) ?_
  refine zr_aload_n 0 dX10_lowestBeside_4 rfl ?_
  refine zr_iload_n 1 dX10_lowestBeside_5 rfl ?_
  refine zr_aload_n 0 dX10_lowestBeside_6 rfl ?_
  refine zr_iload_n 1 dX10_lowestBeside_7 rfl ?_
  refine zr_iconst dX10_lowestBeside_8 ?_
  obtain ⟨c1, W⟩ := W
  obtain ⟨c2, W⟩ := W
  obtain ⟨c3, W⟩ := W
  refine zt_callVi (As := [zI x1, zI 0]) (rest := [zI x1, zA g 1, zA g 11]) dX10_lowestBeside_9 kX10_lowestBeside_293 rfl rfl rfl rfl (Nat.le_of_ble_eq_true rfl) (c_wayToL c1 c2 c3) (fun r4 N6 h5 => ?_)
  rw [h5.1, h5.2]
  refine zr_iconst dX10_lowestBeside_12 ?_
  obtain ⟨c7, W⟩ := W
  refine zt_callVi (As := [zI x1, zI (pmn C R (M 11) x1 3), zI 1]) (rest := [zA g 11]) dX10_lowestBeside_13 kX10_lowestBeside_282 rfl rfl rfl rfl (Nat.le_of_ble_eq_true rfl) (c_along c1 c2 c7 (by decide)) (fun r8 N10 h9 => ?_)
  rw [h9.1, h9.2]
  obtain ⟨c11, W⟩ := W
  refine zr_iald dX10_lowestBeside_16 rfl (by decide) c11 ?_
  exact zt_iret dX10_lowestBeside_17 rfl W
theorem dX10_isCrest_0 : decode cX10_isCrest 0 = .ok (.aload_n 0, 1) := by decide +kernel
theorem dX10_isCrest_1 : decode cX10_isCrest 1 = .ok (.invokevirtual 273, 3) := by decide +kernel
theorem dX10_isCrest_4 : decode cX10_isCrest 4 = .ok (.istore_n 2, 1) := by decide +kernel
theorem dX10_isCrest_5 : decode cX10_isCrest 5 = .ok (.aload_n 0, 1) := by decide +kernel
theorem dX10_isCrest_6 : decode cX10_isCrest 6 = .ok (.getfield 45, 3) := by decide +kernel
theorem dX10_isCrest_9 : decode cX10_isCrest 9 = .ok (.iload_n 1, 1) := by decide +kernel
theorem dX10_isCrest_10 : decode cX10_isCrest 10 = .ok (.iaload, 1) := by decide +kernel
theorem dX10_isCrest_11 : decode cX10_isCrest 11 = .ok (.ifCond .le 52, 3) := by decide +kernel
theorem dX10_isCrest_14 : decode cX10_isCrest 14 = .ok (.aload_n 0, 1) := by decide +kernel
theorem dX10_isCrest_15 : decode cX10_isCrest 15 = .ok (.getfield 45, 3) := by decide +kernel
theorem dX10_isCrest_18 : decode cX10_isCrest 18 = .ok (.iload_n 1, 1) := by decide +kernel
theorem dX10_isCrest_19 : decode cX10_isCrest 19 = .ok (.iaload, 1) := by decide +kernel
theorem dX10_isCrest_20 : decode cX10_isCrest 20 = .ok (.aload_n 0, 1) := by decide +kernel
theorem dX10_isCrest_21 : decode cX10_isCrest 21 = .ok (.getfield 45, 3) := by decide +kernel
theorem dX10_isCrest_24 : decode cX10_isCrest 24 = .ok (.aload_n 0, 1) := by decide +kernel
theorem dX10_isCrest_25 : decode cX10_isCrest 25 = .ok (.iload_n 1, 1) := by decide +kernel
theorem dX10_isCrest_26 : decode cX10_isCrest 26 = .ok (.iload_n 2, 1) := by decide +kernel
theorem dX10_isCrest_27 : decode cX10_isCrest 27 = .ok (.invokestatic 279, 3) := by decide +kernel
theorem dX10_isCrest_30 : decode cX10_isCrest 30 = .ok (.iconst 1, 1) := by decide +kernel
theorem dX10_isCrest_31 : decode cX10_isCrest 31 = .ok (.invokevirtual 282, 3) := by decide +kernel
theorem dX10_isCrest_34 : decode cX10_isCrest 34 = .ok (.iaload, 1) := by decide +kernel
theorem dX10_isCrest_35 : decode cX10_isCrest 35 = .ok (.if_icmp .lt 28, 3) := by decide +kernel
theorem dX10_isCrest_38 : decode cX10_isCrest 38 = .ok (.aload_n 0, 1) := by decide +kernel
theorem dX10_isCrest_39 : decode cX10_isCrest 39 = .ok (.getfield 45, 3) := by decide +kernel
theorem dX10_isCrest_42 : decode cX10_isCrest 42 = .ok (.iload_n 1, 1) := by decide +kernel
theorem dX10_isCrest_43 : decode cX10_isCrest 43 = .ok (.iaload, 1) := by decide +kernel
theorem dX10_isCrest_44 : decode cX10_isCrest 44 = .ok (.aload_n 0, 1) := by decide +kernel
theorem dX10_isCrest_45 : decode cX10_isCrest 45 = .ok (.getfield 45, 3) := by decide +kernel
theorem dX10_isCrest_48 : decode cX10_isCrest 48 = .ok (.aload_n 0, 1) := by decide +kernel
theorem dX10_isCrest_49 : decode cX10_isCrest 49 = .ok (.iload_n 1, 1) := by decide +kernel
theorem dX10_isCrest_50 : decode cX10_isCrest 50 = .ok (.iload_n 2, 1) := by decide +kernel
theorem dX10_isCrest_51 : decode cX10_isCrest 51 = .ok (.iconst 1, 1) := by decide +kernel
theorem dX10_isCrest_52 : decode cX10_isCrest 52 = .ok (.invokevirtual 282, 3) := by decide +kernel
theorem dX10_isCrest_55 : decode cX10_isCrest 55 = .ok (.iaload, 1) := by decide +kernel
theorem dX10_isCrest_56 : decode cX10_isCrest 56 = .ok (.if_icmp .le 7, 3) := by decide +kernel
theorem dX10_isCrest_59 : decode cX10_isCrest 59 = .ok (.iconst 1, 1) := by decide +kernel
theorem dX10_isCrest_60 : decode cX10_isCrest 60 = .ok (.goto 4, 3) := by decide +kernel
theorem dX10_isCrest_63 : decode cX10_isCrest 63 = .ok (.iconst 0, 1) := by decide +kernel
theorem dX10_isCrest_64 : decode cX10_isCrest 64 = .ok (.ireturn, 1) := by decide +kernel
set_option maxRecDepth 100000 in
theorem SX10_isCrest_0 {g : zG} {o : Bool} {C R : Int} {M : zM} {q : Int → zM → Prop} {x1 : Int} (W : (zRf M C R) ∧ (0 ≤ M 11 197 ∧ M 11 197 ≤ 2147483647) ∧ (0 ≤ x1 ∧ x1 < 198) ∧ (-2147483648 ≤ (M 11 x1) ∧ (M 11 x1) ≤ 2147483647) ∧ (((M 11 x1) ≤ 0) → q 0 M) ∧ ((¬ ((M 11 x1) ≤ 0)) → (0 ≤ (wnr M (M 11 197)) ∧ (wnr M (M 11 197)) ≤ 3) ∧ (0 ≤ x1 ∧ x1 < C * R) ∧ (0 ≤ (opp (wnr M (M 11 197))) ∧ (opp (wnr M (M 11 197))) ≤ 3) ∧ (0 ≤ (alg C R x1 (opp (wnr M (M 11 197))) 1) ∧ (alg C R x1 (opp (wnr M (M 11 197))) 1) < 198) ∧ (-2147483648 ≤ (M 11 (alg C R x1 (opp (wnr M (M 11 197))) 1)) ∧ (M 11 (alg C R x1 (opp (wnr M (M 11 197))) 1)) ≤ 2147483647) ∧ (((M 11 x1) < (M 11 (alg C R x1 (opp (wnr M (M 11 197))) 1))) → q 0 M) ∧ ((¬ ((M 11 x1) < (M 11 (alg C R x1 (opp (wnr M (M 11 197))) 1)))) → (0 ≤ (alg C R x1 (wnr M (M 11 197)) 1) ∧ (alg C R x1 (wnr M (M 11 197)) 1) < 198) ∧ (-2147483648 ≤ (M 11 (alg C R x1 (wnr M (M 11 197)) 1)) ∧ (M 11 (alg C R x1 (wnr M (M 11 197)) 1)) ≤ 2147483647) ∧ (((M 11 x1) ≤ (M 11 (alg C R x1 (wnr M (M 11 197)) 1))) → q 0 M) ∧ ((¬ ((M 11 x1) ≤ (M 11 (alg C R x1 (wnr M (M 11 197)) 1)))) → q 1 M)))) : zT g (z2 o) mX10_isCrest (zQi (z2 o) q) 0 [(0, zA g 1), (1, zI x1)] [] M := by
  refine zr_aload_n 0 dX10_isCrest_0 rfl ?_
  obtain ⟨c1, W⟩ := W
  obtain ⟨c2, W⟩ := W
  refine zt_callVi (As := []) (rest := []) dX10_isCrest_1 kX10_isCrest_273 rfl rfl rfl rfl (Nat.le_of_ble_eq_true rfl) (c_windNow c1 c2) (fun r3 N5 h4 => ?_)
  rw [h4.1, h4.2]
  refine zr_istore_n (l' := [(0, zA g 1), (1, zI x1), (2, zI (wnr M (M 11 197)))]) dX10_isCrest_4 (by decide) [1, 2, 0] rfl ?_
  refine zr_aload_n 0 dX10_isCrest_5 rfl ?_
  refine zr_getr (b := 11) dX10_isCrest_6 fX10_45 rfl rfl rfl (by decide) ?_
  refine zr_iload_n 1 dX10_isCrest_9 rfl ?_
  obtain ⟨c6, W⟩ := W
  refine zr_iald dX10_isCrest_10 rfl (by decide) c6 ?_
  obtain ⟨c7, W⟩ := W
  refine zr_if_le (tgt := 63) dX10_isCrest_11 (by decide) c7 (fun h => ?_) (fun h => ?_)
  · have W := W.1 h
    refine zr_iconst dX10_isCrest_63 ?_
    exact zt_zret dX10_isCrest_64 rfl (by decide) W
  · have W := W.2 h
    refine zr_aload_n 0 dX10_isCrest_14 rfl ?_
    refine zr_getr (b := 11) dX10_isCrest_15 fX10_45 rfl rfl rfl (by decide) ?_
    refine zr_iload_n 1 dX10_isCrest_18 rfl ?_
    refine zr_iald dX10_isCrest_19 rfl (by decide) c6 ?_
    refine zr_aload_n 0 dX10_isCrest_20 rfl ?_
    refine zr_getr (b := 11) dX10_isCrest_21 fX10_45 rfl rfl rfl (by decide) ?_
    refine zr_aload_n 0 dX10_isCrest_24 rfl ?_
    refine zr_iload_n 1 dX10_isCrest_25 rfl ?_
    refine zr_iload_n 2 dX10_isCrest_26 rfl ?_
    obtain ⟨c8, W⟩ := W
    refine zt_callSi (As := [zI (wnr M (M 11 197))]) (rest := [zI x1, zA g 1, zA g 11, zI (M 11 x1)]) dX10_isCrest_27 kX10_isCrest_279 rfl rfl (Nat.le_of_ble_eq_true rfl) (c_against c8) (fun r9 N11 h10 => ?_)
    rw [h10.1, h10.2]
    refine zr_iconst dX10_isCrest_30 ?_
    obtain ⟨c12, W⟩ := W
    obtain ⟨c13, W⟩ := W
    refine zt_callVi (As := [zI x1, zI (opp (wnr M (M 11 197))), zI 1]) (rest := [zA g 11, zI (M 11 x1)]) dX10_isCrest_31 kX10_isCrest_282 rfl rfl rfl rfl (Nat.le_of_ble_eq_true rfl) (c_along c1 c12 c13 (by decide)) (fun r14 N16 h15 => ?_)
    rw [h15.1, h15.2]
    obtain ⟨c17, W⟩ := W
    refine zr_iald dX10_isCrest_34 rfl (by decide) c17 ?_
    obtain ⟨c18, W⟩ := W
    refine zr_icmp_lt (tgt := 63) dX10_isCrest_35 (by decide) c7 c18 (fun h => ?_) (fun h => ?_)
    · have W := W.1 h
      refine zr_iconst dX10_isCrest_63 ?_
      exact zt_zret dX10_isCrest_64 rfl (by decide) W
    · have W := W.2 h
      refine zr_aload_n 0 dX10_isCrest_38 rfl ?_
      refine zr_getr (b := 11) dX10_isCrest_39 fX10_45 rfl rfl rfl (by decide) ?_
      refine zr_iload_n 1 dX10_isCrest_42 rfl ?_
      refine zr_iald dX10_isCrest_43 rfl (by decide) c6 ?_
      refine zr_aload_n 0 dX10_isCrest_44 rfl ?_
      refine zr_getr (b := 11) dX10_isCrest_45 fX10_45 rfl rfl rfl (by decide) ?_
      refine zr_aload_n 0 dX10_isCrest_48 rfl ?_
      refine zr_iload_n 1 dX10_isCrest_49 rfl ?_
      refine zr_iload_n 2 dX10_isCrest_50 rfl ?_
      refine zr_iconst dX10_isCrest_51 ?_
      refine zt_callVi (As := [zI x1, zI (wnr M (M 11 197)), zI 1]) (rest := [zA g 11, zI (M 11 x1)]) dX10_isCrest_52 kX10_isCrest_282 rfl rfl rfl rfl (Nat.le_of_ble_eq_true rfl) (c_along c1 c12 c8 (by decide)) (fun r19 N21 h20 => ?_)
      rw [h20.1, h20.2]
      obtain ⟨c22, W⟩ := W
      refine zr_iald dX10_isCrest_55 rfl (by decide) c22 ?_
      obtain ⟨c23, W⟩ := W
      refine zr_icmp_le (tgt := 63) dX10_isCrest_56 (by decide) c7 c23 (fun h => ?_) (fun h => ?_)
      · have W := W.1 h
        refine zr_iconst dX10_isCrest_63 ?_
        exact zt_zret dX10_isCrest_64 rfl (by decide) W
      · have W := W.2 h
        refine zr_iconst dX10_isCrest_59 ?_
        refine zr_goto (tgt := 64) dX10_isCrest_60 (by decide) ?_
        exact zt_zret dX10_isCrest_64 rfl (by decide) W
theorem dX10_slabs_0 : decode cX10_slabs 0 = .ok (.iconst 0, 1) := by decide +kernel
theorem dX10_slabs_1 : decode cX10_slabs 1 = .ok (.istore_n 1, 1) := by decide +kernel
theorem dX10_slabs_2 : decode cX10_slabs 2 = .ok (.iconst 0, 1) := by decide +kernel
theorem dX10_slabs_3 : decode cX10_slabs 3 = .ok (.istore_n 2, 1) := by decide +kernel
theorem dX10_slabs_4 : decode cX10_slabs 4 = .ok (.iload_n 2, 1) := by decide +kernel
theorem dX10_slabs_5 : decode cX10_slabs 5 = .ok (.aload_n 0, 1) := by decide +kernel
theorem dX10_slabs_6 : decode cX10_slabs 6 = .ok (.invokevirtual 226, 3) := by decide +kernel
theorem dX10_slabs_9 : decode cX10_slabs 9 = .ok (.if_icmp .ge 18, 3) := by decide +kernel
theorem dX10_slabs_12 : decode cX10_slabs 12 = .ok (.iload_n 1, 1) := by decide +kernel
theorem dX10_slabs_13 : decode cX10_slabs 13 = .ok (.aload_n 0, 1) := by decide +kernel
theorem dX10_slabs_14 : decode cX10_slabs 14 = .ok (.getfield 45, 3) := by decide +kernel
theorem dX10_slabs_17 : decode cX10_slabs 17 = .ok (.iload_n 2, 1) := by decide +kernel
theorem dX10_slabs_18 : decode cX10_slabs 18 = .ok (.iaload, 1) := by decide +kernel
theorem dX10_slabs_19 : decode cX10_slabs 19 = .ok (.iadd, 1) := by decide +kernel
theorem dX10_slabs_20 : decode cX10_slabs 20 = .ok (.istore_n 1, 1) := by decide +kernel
theorem dX10_slabs_21 : decode cX10_slabs 21 = .ok (.iinc 2 1, 3) := by decide +kernel
theorem dX10_slabs_24 : decode cX10_slabs 24 = .ok (.goto (-20), 3) := by decide +kernel
theorem dX10_slabs_27 : decode cX10_slabs 27 = .ok (.iload_n 1, 1) := by decide +kernel
theorem dX10_slabs_28 : decode cX10_slabs 28 = .ok (.ireturn, 1) := by decide +kernel
set_option maxRecDepth 100000 in
theorem SX10_slabs_0 {g : zG} {o : Bool} {M : zM} {q : Int → zM → Prop} (W : zT g (z2 o) mX10_slabs (zQi (z2 o) q) 4 [(0, zA g 1), (1, zI 0), (2, zI 0)] [] M) : zT g (z2 o) mX10_slabs (zQi (z2 o) q) 0 [(0, zA g 1)] [] M := by
  refine zr_iconst dX10_slabs_0 ?_
  refine zr_istore_n (l' := [(0, zA g 1), (1, zI 0)]) dX10_slabs_1 (by decide) [1, 0] rfl ?_
  refine zr_iconst dX10_slabs_2 ?_
  refine zr_istore_n (l' := [(0, zA g 1), (1, zI 0), (2, zI 0)]) dX10_slabs_3 (by decide) [1, 2, 0] rfl ?_
  exact W
set_option maxRecDepth 100000 in
theorem SX10_slabs_4 {g : zG} {o : Bool} {C R : Int} {M : zM} {q : Int → zM → Prop} {x1 x2 : Int} (W : (zRf M C R) ∧ (-2147483648 ≤ x2 ∧ x2 ≤ 2147483647) ∧ (-2147483648 ≤ (C * R) ∧ (C * R) ≤ 2147483647) ∧ (((C * R) ≤ x2) → q x1 M) ∧ ((¬ ((C * R) ≤ x2)) → (0 ≤ x2 ∧ x2 < 198) ∧ zT g (z2 o) mX10_slabs (zQi (z2 o) q) 4 [(0, zA g 1), (1, zI (x1 + (M 11 x2))), (2, zI (x2 + 1))] [] M)) : zT g (z2 o) mX10_slabs (zQi (z2 o) q) 4 [(0, zA g 1), (1, zI x1), (2, zI x2)] [] M := by
  refine zr_iload_n 2 dX10_slabs_4 rfl ?_
  refine zr_aload_n 0 dX10_slabs_5 rfl ?_
  obtain ⟨c1, W⟩ := W
  refine zt_callVi (As := []) (rest := [zI x2]) dX10_slabs_6 kX10_slabs_226 rfl rfl rfl rfl (Nat.le_of_ble_eq_true rfl) (c_cells c1) (fun r2 N4 h3 => ?_)
  rw [h3.1, h3.2]
  obtain ⟨c5, W⟩ := W
  obtain ⟨c6, W⟩ := W
  refine zr_icmp_ge (tgt := 27) dX10_slabs_9 (by decide) c5 c6 (fun h => ?_) (fun h => ?_)
  · have W := W.1 h
    refine zr_iload_n 1 dX10_slabs_27 rfl ?_
    exact zt_iret dX10_slabs_28 rfl W
  · have W := W.2 h
    refine zr_iload_n 1 dX10_slabs_12 rfl ?_
    refine zr_aload_n 0 dX10_slabs_13 rfl ?_
    refine zr_getr (b := 11) dX10_slabs_14 fX10_45 rfl rfl rfl (by decide) ?_
    refine zr_iload_n 2 dX10_slabs_17 rfl ?_
    obtain ⟨c7, W⟩ := W
    refine zr_iald dX10_slabs_18 rfl (by decide) c7 ?_
    refine zr_iadd dX10_slabs_19 ?_
    refine zr_istore_n (l' := [(0, zA g 1), (1, zI (x1 + (M 11 x2))), (2, zI x2)]) dX10_slabs_20 (by decide) [1, 0, 2] rfl ?_
    refine zr_iinc (q := 2) (l' := [(0, zA g 1), (1, zI (x1 + (M 11 x2))), (2, zI (x2 + 1))]) dX10_slabs_21 rfl (by decide) [1, 2, 0] rfl ?_
    refine zr_goto (tgt := 4) dX10_slabs_24 (by decide) ?_
    exact W
theorem dX10_highest_0 : decode cX10_highest 0 = .ok (.iconst 0, 1) := by decide +kernel
theorem dX10_highest_1 : decode cX10_highest 1 = .ok (.istore_n 1, 1) := by decide +kernel
theorem dX10_highest_2 : decode cX10_highest 2 = .ok (.iconst 0, 1) := by decide +kernel
theorem dX10_highest_3 : decode cX10_highest 3 = .ok (.istore_n 2, 1) := by decide +kernel
theorem dX10_highest_4 : decode cX10_highest 4 = .ok (.iload_n 2, 1) := by decide +kernel
theorem dX10_highest_5 : decode cX10_highest 5 = .ok (.aload_n 0, 1) := by decide +kernel
theorem dX10_highest_6 : decode cX10_highest 6 = .ok (.invokevirtual 226, 3) := by decide +kernel
theorem dX10_highest_9 : decode cX10_highest 9 = .ok (.if_icmp .ge 20, 3) := by decide +kernel
theorem dX10_highest_12 : decode cX10_highest 12 = .ok (.iload_n 1, 1) := by decide +kernel
theorem dX10_highest_13 : decode cX10_highest 13 = .ok (.aload_n 0, 1) := by decide +kernel
theorem dX10_highest_14 : decode cX10_highest 14 = .ok (.getfield 45, 3) := by decide +kernel
theorem dX10_highest_17 : decode cX10_highest 17 = .ok (.iload_n 2, 1) := by decide +kernel
theorem dX10_highest_18 : decode cX10_highest 18 = .ok (.iaload, 1) := by decide +kernel
theorem dX10_highest_19 : decode cX10_highest 19 = .ok (.invokestatic 349, 3) := by decide +kernel
theorem dX10_highest_22 : decode cX10_highest 22 = .ok (.istore_n 1, 1) := by decide +kernel
theorem dX10_highest_23 : decode cX10_highest 23 = .ok (.iinc 2 1, 3) := by decide +kernel
theorem dX10_highest_26 : decode cX10_highest 26 = .ok (.goto (-22), 3) := by decide +kernel
theorem dX10_highest_29 : decode cX10_highest 29 = .ok (.iload_n 1, 1) := by decide +kernel
theorem dX10_highest_30 : decode cX10_highest 30 = .ok (.ireturn, 1) := by decide +kernel
set_option maxRecDepth 100000 in
theorem SX10_highest_0 {g : zG} {o : Bool} {M : zM} {q : Int → zM → Prop} (W : zT g (z2 o) mX10_highest (zQi (z2 o) q) 4 [(0, zA g 1), (1, zI 0), (2, zI 0)] [] M) : zT g (z2 o) mX10_highest (zQi (z2 o) q) 0 [(0, zA g 1)] [] M := by
  refine zr_iconst dX10_highest_0 ?_
  refine zr_istore_n (l' := [(0, zA g 1), (1, zI 0)]) dX10_highest_1 (by decide) [1, 0] rfl ?_
  refine zr_iconst dX10_highest_2 ?_
  refine zr_istore_n (l' := [(0, zA g 1), (1, zI 0), (2, zI 0)]) dX10_highest_3 (by decide) [1, 2, 0] rfl ?_
  exact W
set_option maxRecDepth 100000 in
theorem SX10_highest_4 {g : zG} {o : Bool} {C R : Int} {M : zM} {q : Int → zM → Prop} {x1 x2 : Int} (W : (zRf M C R) ∧ (-2147483648 ≤ x2 ∧ x2 ≤ 2147483647) ∧ (-2147483648 ≤ (C * R) ∧ (C * R) ≤ 2147483647) ∧ (((C * R) ≤ x2) → q x1 M) ∧ ((¬ ((C * R) ≤ x2)) → (0 ≤ x2 ∧ x2 < 198) ∧ (-2147483648 ≤ x1 ∧ x1 ≤ 2147483647) ∧ (-2147483648 ≤ (M 11 x2) ∧ (M 11 x2) ≤ 2147483647) ∧ zT g (z2 o) mX10_highest (zQi (z2 o) q) 4 [(0, zA g 1), (1, zI (max x1 (M 11 x2))), (2, zI (x2 + 1))] [] M)) : zT g (z2 o) mX10_highest (zQi (z2 o) q) 4 [(0, zA g 1), (1, zI x1), (2, zI x2)] [] M := by
  refine zr_iload_n 2 dX10_highest_4 rfl ?_
  refine zr_aload_n 0 dX10_highest_5 rfl ?_
  obtain ⟨c1, W⟩ := W
  refine zt_callVi (As := []) (rest := [zI x2]) dX10_highest_6 kX10_highest_226 rfl rfl rfl rfl (Nat.le_of_ble_eq_true rfl) (c_cells c1) (fun r2 N4 h3 => ?_)
  rw [h3.1, h3.2]
  obtain ⟨c5, W⟩ := W
  obtain ⟨c6, W⟩ := W
  refine zr_icmp_ge (tgt := 29) dX10_highest_9 (by decide) c5 c6 (fun h => ?_) (fun h => ?_)
  · have W := W.1 h
    refine zr_iload_n 1 dX10_highest_29 rfl ?_
    exact zt_iret dX10_highest_30 rfl W
  · have W := W.2 h
    refine zr_iload_n 1 dX10_highest_12 rfl ?_
    refine zr_aload_n 0 dX10_highest_13 rfl ?_
    refine zr_getr (b := 11) dX10_highest_14 fX10_45 rfl rfl rfl (by decide) ?_
    refine zr_iload_n 2 dX10_highest_17 rfl ?_
    obtain ⟨c7, W⟩ := W
    refine zr_iald dX10_highest_18 rfl (by decide) c7 ?_
    obtain ⟨c8, W⟩ := W
    obtain ⟨c9, W⟩ := W
    refine zt_callSi (As := [zI x1, zI (M 11 x2)]) (rest := []) dX10_highest_19 kX10_highest_349 rfl rfl (Nat.le_of_ble_eq_true rfl) (c_greater c8 c9) (fun r10 N12 h11 => ?_)
    rw [h11.1, h11.2]
    refine zr_istore_n (l' := [(0, zA g 1), (1, zI (max x1 (M 11 x2))), (2, zI x2)]) dX10_highest_22 (by decide) [1, 0, 2] rfl ?_
    refine zr_iinc (q := 2) (l' := [(0, zA g 1), (1, zI (max x1 (M 11 x2))), (2, zI (x2 + 1))]) dX10_highest_23 rfl (by decide) [1, 2, 0] rfl ?_
    refine zr_goto (tgt := 4) dX10_highest_26 (by decide) ?_
    exact W
theorem dX10_bare_0 : decode cX10_bare 0 = .ok (.iconst 0, 1) := by decide +kernel
theorem dX10_bare_1 : decode cX10_bare 1 = .ok (.istore_n 1, 1) := by decide +kernel
theorem dX10_bare_2 : decode cX10_bare 2 = .ok (.iconst 0, 1) := by decide +kernel
theorem dX10_bare_3 : decode cX10_bare 3 = .ok (.istore_n 2, 1) := by decide +kernel
theorem dX10_bare_4 : decode cX10_bare 4 = .ok (.iload_n 2, 1) := by decide +kernel
theorem dX10_bare_5 : decode cX10_bare 5 = .ok (.aload_n 0, 1) := by decide +kernel
theorem dX10_bare_6 : decode cX10_bare 6 = .ok (.invokevirtual 226, 3) := by decide +kernel
theorem dX10_bare_9 : decode cX10_bare 9 = .ok (.if_icmp .ge 29, 3) := by decide +kernel
theorem dX10_bare_12 : decode cX10_bare 12 = .ok (.iload_n 1, 1) := by decide +kernel
theorem dX10_bare_13 : decode cX10_bare 13 = .ok (.aload_n 0, 1) := by decide +kernel
theorem dX10_bare_14 : decode cX10_bare 14 = .ok (.getfield 45, 3) := by decide +kernel
theorem dX10_bare_17 : decode cX10_bare 17 = .ok (.iload_n 2, 1) := by decide +kernel
theorem dX10_bare_18 : decode cX10_bare 18 = .ok (.iaload, 1) := by decide +kernel
theorem dX10_bare_19 : decode cX10_bare 19 = .ok (.ifCond .ne 7, 3) := by decide +kernel
theorem dX10_bare_22 : decode cX10_bare 22 = .ok (.iconst 1, 1) := by decide +kernel
theorem dX10_bare_23 : decode cX10_bare 23 = .ok (.goto 4, 3) := by decide +kernel
theorem dX10_bare_26 : decode cX10_bare 26 = .ok (.iconst 0, 1) := by decide +kernel
theorem dX10_bare_27 : decode cX10_bare 27 = .ok (.invokestatic 317, 3) := by decide +kernel
theorem dX10_bare_30 : decode cX10_bare 30 = .ok (.iadd, 1) := by decide +kernel
theorem dX10_bare_31 : decode cX10_bare 31 = .ok (.istore_n 1, 1) := by decide +kernel
theorem dX10_bare_32 : decode cX10_bare 32 = .ok (.iinc 2 1, 3) := by decide +kernel
theorem dX10_bare_35 : decode cX10_bare 35 = .ok (.goto (-31), 3) := by decide +kernel
theorem dX10_bare_38 : decode cX10_bare 38 = .ok (.iload_n 1, 1) := by decide +kernel
theorem dX10_bare_39 : decode cX10_bare 39 = .ok (.ireturn, 1) := by decide +kernel
set_option maxRecDepth 100000 in
theorem SX10_bare_0 {g : zG} {o : Bool} {M : zM} {q : Int → zM → Prop} (W : zT g (z2 o) mX10_bare (zQi (z2 o) q) 4 [(0, zA g 1), (1, zI 0), (2, zI 0)] [] M) : zT g (z2 o) mX10_bare (zQi (z2 o) q) 0 [(0, zA g 1)] [] M := by
  refine zr_iconst dX10_bare_0 ?_
  refine zr_istore_n (l' := [(0, zA g 1), (1, zI 0)]) dX10_bare_1 (by decide) [1, 0] rfl ?_
  refine zr_iconst dX10_bare_2 ?_
  refine zr_istore_n (l' := [(0, zA g 1), (1, zI 0), (2, zI 0)]) dX10_bare_3 (by decide) [1, 2, 0] rfl ?_
  exact W
set_option maxRecDepth 100000 in
theorem SX10_bare_4 {g : zG} {o : Bool} {C R : Int} {M : zM} {q : Int → zM → Prop} {x1 x2 : Int} (W : (zRf M C R) ∧ (-2147483648 ≤ x2 ∧ x2 ≤ 2147483647) ∧ (-2147483648 ≤ (C * R) ∧ (C * R) ≤ 2147483647) ∧ (((C * R) ≤ x2) → q x1 M) ∧ ((¬ ((C * R) ≤ x2)) → (0 ≤ x2 ∧ x2 < 198) ∧ (-2147483648 ≤ (M 11 x2) ∧ (M 11 x2) ≤ 2147483647) ∧ (((M 11 x2) ≠ 0) → zT g (z2 o) mX10_bare (zQi (z2 o) q) 4 [(0, zA g 1), (1, zI (x1 + 0)), (2, zI (x2 + 1))] [] M) ∧ (((M 11 x2) = 0) → zT g (z2 o) mX10_bare (zQi (z2 o) q) 4 [(0, zA g 1), (1, zI (x1 + 1)), (2, zI (x2 + 1))] [] M))) : zT g (z2 o) mX10_bare (zQi (z2 o) q) 4 [(0, zA g 1), (1, zI x1), (2, zI x2)] [] M := by
  refine zr_iload_n 2 dX10_bare_4 rfl ?_
  refine zr_aload_n 0 dX10_bare_5 rfl ?_
  obtain ⟨c1, W⟩ := W
  refine zt_callVi (As := []) (rest := [zI x2]) dX10_bare_6 kX10_bare_226 rfl rfl rfl rfl (Nat.le_of_ble_eq_true rfl) (c_cells c1) (fun r2 N4 h3 => ?_)
  rw [h3.1, h3.2]
  obtain ⟨c5, W⟩ := W
  obtain ⟨c6, W⟩ := W
  refine zr_icmp_ge (tgt := 38) dX10_bare_9 (by decide) c5 c6 (fun h => ?_) (fun h => ?_)
  · have W := W.1 h
    refine zr_iload_n 1 dX10_bare_38 rfl ?_
    exact zt_iret dX10_bare_39 rfl W
  · have W := W.2 h
    refine zr_iload_n 1 dX10_bare_12 rfl ?_
    refine zr_aload_n 0 dX10_bare_13 rfl ?_
    refine zr_getr (b := 11) dX10_bare_14 fX10_45 rfl rfl rfl (by decide) ?_
    refine zr_iload_n 2 dX10_bare_17 rfl ?_
    obtain ⟨c7, W⟩ := W
    refine zr_iald dX10_bare_18 rfl (by decide) c7 ?_
    obtain ⟨c8, W⟩ := W
    refine zr_if_ne (tgt := 26) dX10_bare_19 (by decide) c8 (fun h => ?_) (fun h => ?_)
    · have W := W.1 h
      refine zr_iconst dX10_bare_26 ?_
      refine zt_callSi (As := [zI 0]) (rest := [zI x1]) dX10_bare_27 kX10_bare_317 rfl rfl (Nat.le_of_ble_eq_true rfl) (c_truthi (by decide)) (fun r9 N11 h10 => ?_)
      rw [h10.1, h10.2]
      refine zr_iadd dX10_bare_30 ?_
      refine zr_istore_n (l' := [(0, zA g 1), (1, zI (x1 + 0)), (2, zI x2)]) dX10_bare_31 (by decide) [1, 0, 2] rfl ?_
      refine zr_iinc (q := 2) (l' := [(0, zA g 1), (1, zI (x1 + 0)), (2, zI (x2 + 1))]) dX10_bare_32 rfl (by decide) [1, 2, 0] rfl ?_
      refine zr_goto (tgt := 4) dX10_bare_35 (by decide) ?_
      exact W
    · have W := W.2 h
      refine zr_iconst dX10_bare_22 ?_
      refine zr_goto (tgt := 27) dX10_bare_23 (by decide) ?_
      refine zt_callSi (As := [zI 1]) (rest := [zI x1]) dX10_bare_27 kX10_bare_317 rfl rfl (Nat.le_of_ble_eq_true rfl) (c_truthi (by decide)) (fun r12 N14 h13 => ?_)
      rw [h13.1, h13.2]
      refine zr_iadd dX10_bare_30 ?_
      refine zr_istore_n (l' := [(0, zA g 1), (1, zI (x1 + 1)), (2, zI x2)]) dX10_bare_31 (by decide) [1, 0, 2] rfl ?_
      refine zr_iinc (q := 2) (l' := [(0, zA g 1), (1, zI (x1 + 1)), (2, zI (x2 + 1))]) dX10_bare_32 rfl (by decide) [1, 2, 0] rfl ?_
      refine zr_goto (tgt := 4) dX10_bare_35 (by decide) ?_
      exact W
theorem dX10_steepest_0 : decode cX10_steepest 0 = .ok (.iconst 0, 1) := by decide +kernel
theorem dX10_steepest_1 : decode cX10_steepest 1 = .ok (.istore_n 1, 1) := by decide +kernel
theorem dX10_steepest_2 : decode cX10_steepest 2 = .ok (.iconst 0, 1) := by decide +kernel
theorem dX10_steepest_3 : decode cX10_steepest 3 = .ok (.istore_n 2, 1) := by decide +kernel
theorem dX10_steepest_4 : decode cX10_steepest 4 = .ok (.iload_n 2, 1) := by decide +kernel
theorem dX10_steepest_5 : decode cX10_steepest 5 = .ok (.aload_n 0, 1) := by decide +kernel
theorem dX10_steepest_6 : decode cX10_steepest 6 = .ok (.invokevirtual 226, 3) := by decide +kernel
theorem dX10_steepest_9 : decode cX10_steepest 9 = .ok (.if_icmp .ge 48, 3) := by decide +kernel
theorem dX10_steepest_12 : decode cX10_steepest 12 = .ok (.iconst 0, 1) := by decide +kernel
theorem dX10_steepest_13 : decode cX10_steepest 13 = .ok (.istore_n 3, 1) := by decide +kernel
theorem dX10_steepest_14 : decode cX10_steepest 14 = .ok (.iload_n 3, 1) := by decide +kernel
theorem dX10_steepest_15 : decode cX10_steepest 15 = .ok (.iconst 2, 1) := by decide +kernel
theorem dX10_steepest_16 : decode cX10_steepest 16 = .ok (.if_icmp .ge 35, 3) := by decide +kernel
theorem dX10_steepest_19 : decode cX10_steepest 19 = .ok (.iload_n 1, 1) := by decide +kernel
theorem dX10_steepest_20 : decode cX10_steepest 20 = .ok (.aload_n 0, 1) := by decide +kernel
theorem dX10_steepest_21 : decode cX10_steepest 21 = .ok (.getfield 45, 3) := by decide +kernel
theorem dX10_steepest_24 : decode cX10_steepest 24 = .ok (.iload_n 2, 1) := by decide +kernel
theorem dX10_steepest_25 : decode cX10_steepest 25 = .ok (.iaload, 1) := by decide +kernel
theorem dX10_steepest_26 : decode cX10_steepest 26 = .ok (.aload_n 0, 1) := by decide +kernel
theorem dX10_steepest_27 : decode cX10_steepest 27 = .ok (.getfield 45, 3) := by decide +kernel
theorem dX10_steepest_30 : decode cX10_steepest 30 = .ok (.aload_n 0, 1) := by decide +kernel
theorem dX10_steepest_31 : decode cX10_steepest 31 = .ok (.iload_n 2, 1) := by decide +kernel
theorem dX10_steepest_32 : decode cX10_steepest 32 = .ok (.iload_n 3, 1) := by decide +kernel
theorem dX10_steepest_33 : decode cX10_steepest 33 = .ok (.iconst 1, 1) := by decide +kernel
theorem dX10_steepest_34 : decode cX10_steepest 34 = .ok (.invokevirtual 282, 3) := by decide +kernel
theorem dX10_steepest_37 : decode cX10_steepest 37 = .ok (.iaload, 1) := by decide +kernel
theorem dX10_steepest_38 : decode cX10_steepest 38 = .ok (.invokestatic 355, 3) := by decide +kernel
theorem dX10_steepest_41 : decode cX10_steepest 41 = .ok (.invokestatic 349, 3) := by decide +kernel
theorem dX10_steepest_44 : decode cX10_steepest 44 = .ok (.istore_n 1, 1) := by decide +kernel
theorem dX10_steepest_45 : decode cX10_steepest 45 = .ok (.iinc 3 1, 3) := by decide +kernel
theorem dX10_steepest_48 : decode cX10_steepest 48 = .ok (.goto (-34), 3) := by decide +kernel
theorem dX10_steepest_51 : decode cX10_steepest 51 = .ok (.iinc 2 1, 3) := by decide +kernel
theorem dX10_steepest_54 : decode cX10_steepest 54 = .ok (.goto (-50), 3) := by decide +kernel
theorem dX10_steepest_57 : decode cX10_steepest 57 = .ok (.iload_n 1, 1) := by decide +kernel
theorem dX10_steepest_58 : decode cX10_steepest 58 = .ok (.ireturn, 1) := by decide +kernel
set_option maxRecDepth 100000 in
theorem SX10_steepest_0 {g : zG} {o : Bool} {M : zM} {q : Int → zM → Prop} (W : zT g (z2 o) mX10_steepest (zQi (z2 o) q) 4 [(0, zA g 1), (1, zI 0), (2, zI 0)] [] M) : zT g (z2 o) mX10_steepest (zQi (z2 o) q) 0 [(0, zA g 1)] [] M := by
  refine zr_iconst dX10_steepest_0 ?_
  refine zr_istore_n (l' := [(0, zA g 1), (1, zI 0)]) dX10_steepest_1 (by decide) [1, 0] rfl ?_
  refine zr_iconst dX10_steepest_2 ?_
  refine zr_istore_n (l' := [(0, zA g 1), (1, zI 0), (2, zI 0)]) dX10_steepest_3 (by decide) [1, 2, 0] rfl ?_
  exact W
set_option maxRecDepth 100000 in
theorem SX10_steepest_4 {g : zG} {o : Bool} {C R : Int} {M : zM} {q : Int → zM → Prop} {x1 x2 : Int} (W : (zRf M C R) ∧ (-2147483648 ≤ x2 ∧ x2 ≤ 2147483647) ∧ (-2147483648 ≤ (C * R) ∧ (C * R) ≤ 2147483647) ∧ (((C * R) ≤ x2) → q x1 M) ∧ ((¬ ((C * R) ≤ x2)) → zT g (z2 o) mX10_steepest (zQi (z2 o) q) 14 [(0, zA g 1), (1, zI x1), (2, zI x2), (3, zI 0)] [] M)) : zT g (z2 o) mX10_steepest (zQi (z2 o) q) 4 [(0, zA g 1), (1, zI x1), (2, zI x2)] [] M := by
  refine zr_iload_n 2 dX10_steepest_4 rfl ?_
  refine zr_aload_n 0 dX10_steepest_5 rfl ?_
  obtain ⟨c1, W⟩ := W
  refine zt_callVi (As := []) (rest := [zI x2]) dX10_steepest_6 kX10_steepest_226 rfl rfl rfl rfl (Nat.le_of_ble_eq_true rfl) (c_cells c1) (fun r2 N4 h3 => ?_)
  rw [h3.1, h3.2]
  obtain ⟨c5, W⟩ := W
  obtain ⟨c6, W⟩ := W
  refine zr_icmp_ge (tgt := 57) dX10_steepest_9 (by decide) c5 c6 (fun h => ?_) (fun h => ?_)
  · have W := W.1 h
    refine zr_iload_n 1 dX10_steepest_57 rfl ?_
    exact zt_iret dX10_steepest_58 rfl W
  · have W := W.2 h
    refine zr_iconst dX10_steepest_12 ?_
    refine zr_istore_n (l' := [(0, zA g 1), (1, zI x1), (2, zI x2), (3, zI 0)]) dX10_steepest_13 (by decide) [1, 2, 3, 0] rfl ?_
    exact W
set_option maxRecDepth 100000 in
theorem SX10_steepest_14 {g : zG} {o : Bool} {C R : Int} {M : zM} {q : Int → zM → Prop} {x1 x2 x3 : Int} (W : (-2147483648 ≤ x3 ∧ x3 ≤ 2147483647) ∧ ((2 ≤ x3) → zT g (z2 o) mX10_steepest (zQi (z2 o) q) 4 [(0, zA g 1), (1, zI x1), (2, zI (x2 + 1))] [] M) ∧ ((¬ (2 ≤ x3)) → (0 ≤ x2 ∧ x2 < 198) ∧ (zRf M C R) ∧ (0 ≤ x2 ∧ x2 < C * R) ∧ (0 ≤ x3 ∧ x3 ≤ 3) ∧ (0 ≤ (alg C R x2 x3 1) ∧ (alg C R x2 x3 1) < 198) ∧ (-2147483648 ≤ (M 11 x2) ∧ (M 11 x2) ≤ 2147483647) ∧ (-2147483648 ≤ (M 11 (alg C R x2 x3 1)) ∧ (M 11 (alg C R x2 x3 1)) ≤ 2147483647) ∧ (-2147483648 ≤ x1 ∧ x1 ≤ 2147483647) ∧ (-2147483648 ≤ (if 0 ≤ ((M 11 x2) - (M 11 (alg C R x2 x3 1))) then ((M 11 x2) - (M 11 (alg C R x2 x3 1))) else 0 - ((M 11 x2) - (M 11 (alg C R x2 x3 1)))) ∧ (if 0 ≤ ((M 11 x2) - (M 11 (alg C R x2 x3 1))) then ((M 11 x2) - (M 11 (alg C R x2 x3 1))) else 0 - ((M 11 x2) - (M 11 (alg C R x2 x3 1)))) ≤ 2147483647) ∧ zT g (z2 o) mX10_steepest (zQi (z2 o) q) 14 [(0, zA g 1), (1, zI (max x1 (if 0 ≤ ((M 11 x2) - (M 11 (alg C R x2 x3 1))) then ((M 11 x2) - (M 11 (alg C R x2 x3 1))) else 0 - ((M 11 x2) - (M 11 (alg C R x2 x3 1)))))), (2, zI x2), (3, zI (x3 + 1))] [] M)) : zT g (z2 o) mX10_steepest (zQi (z2 o) q) 14 [(0, zA g 1), (1, zI x1), (2, zI x2), (3, zI x3)] [] M := by
  refine zr_iload_n 3 dX10_steepest_14 rfl ?_
  refine zr_iconst dX10_steepest_15 ?_
  obtain ⟨c1, W⟩ := W
  refine zr_icmp_ge (tgt := 51) dX10_steepest_16 (by decide) c1 ⟨by decide, by decide⟩ (fun h => ?_) (fun h => ?_)
  · have W := W.1 h
    refine zr_iinc (q := 2) (l' := [(0, zA g 1), (1, zI x1), (2, zI (x2 + 1))]) dX10_steepest_51 rfl (by decide) [1, 2, 0] rfl ?_
    refine zr_goto (tgt := 4) dX10_steepest_54 (by decide) ?_
    exact W
  · have W := W.2 h
    refine zr_iload_n 1 dX10_steepest_19 rfl ?_
    refine zr_aload_n 0 dX10_steepest_20 rfl ?_
    refine zr_getr (b := 11) dX10_steepest_21 fX10_45 rfl rfl rfl (by decide) ?_
    refine zr_iload_n 2 dX10_steepest_24 rfl ?_
    obtain ⟨c2, W⟩ := W
    refine zr_iald dX10_steepest_25 rfl (by decide) c2 ?_
    refine zr_aload_n 0 dX10_steepest_26 rfl ?_
    refine zr_getr (b := 11) dX10_steepest_27 fX10_45 rfl rfl rfl (by decide) ?_
    refine zr_aload_n 0 dX10_steepest_30 rfl ?_
    refine zr_iload_n 2 dX10_steepest_31 rfl ?_
    refine zr_iload_n 3 dX10_steepest_32 rfl ?_
    refine zr_iconst dX10_steepest_33 ?_
    obtain ⟨c3, W⟩ := W
    obtain ⟨c4, W⟩ := W
    obtain ⟨c5, W⟩ := W
    refine zt_callVi (As := [zI x2, zI x3, zI 1]) (rest := [zA g 11, zI (M 11 x2), zI x1]) dX10_steepest_34 kX10_steepest_282 rfl rfl rfl rfl (Nat.le_of_ble_eq_true rfl) (c_along c3 c4 c5 (by decide)) (fun r6 N8 h7 => ?_)
    rw [h7.1, h7.2]
    obtain ⟨c9, W⟩ := W
    refine zr_iald dX10_steepest_37 rfl (by decide) c9 ?_
    obtain ⟨c10, W⟩ := W
    obtain ⟨c11, W⟩ := W
    refine zt_callSi (As := [zI (M 11 x2), zI (M 11 (alg C R x2 x3 1))]) (rest := [zI x1]) dX10_steepest_38 kX10_steepest_355 rfl rfl (Nat.le_of_ble_eq_true rfl) (c_off c10 c11) (fun r12 N14 h13 => ?_)
    rw [h13.1, h13.2]
    obtain ⟨c15, W⟩ := W
    obtain ⟨c16, W⟩ := W
    refine zt_callSi (As := [zI x1, zI (if 0 ≤ ((M 11 x2) - (M 11 (alg C R x2 x3 1))) then ((M 11 x2) - (M 11 (alg C R x2 x3 1))) else 0 - ((M 11 x2) - (M 11 (alg C R x2 x3 1))))]) (rest := []) dX10_steepest_41 kX10_steepest_349 rfl rfl (Nat.le_of_ble_eq_true rfl) (c_greater c15 c16) (fun r17 N19 h18 => ?_)
    rw [h18.1, h18.2]
    refine zr_istore_n (l' := [(0, zA g 1), (1, zI (max x1 (if 0 ≤ ((M 11 x2) - (M 11 (alg C R x2 x3 1))) then ((M 11 x2) - (M 11 (alg C R x2 x3 1))) else 0 - ((M 11 x2) - (M 11 (alg C R x2 x3 1)))))), (2, zI x2), (3, zI x3)]) dX10_steepest_44 (by decide) [1, 0, 2, 3] rfl ?_
    refine zr_iinc (q := 3) (l' := [(0, zA g 1), (1, zI (max x1 (if 0 ≤ ((M 11 x2) - (M 11 (alg C R x2 x3 1))) then ((M 11 x2) - (M 11 (alg C R x2 x3 1))) else 0 - ((M 11 x2) - (M 11 (alg C R x2 x3 1)))))), (2, zI x2), (3, zI (x3 + 1))]) dX10_steepest_45 rfl (by decide) [1, 2, 3, 0] rfl ?_
    refine zr_goto (tgt := 14) dX10_steepest_48 (by decide) ?_
    exact W
theorem dX10_rough_0 : decode cX10_rough 0 = .ok (.iconst 0, 1) := by decide +kernel
theorem dX10_rough_1 : decode cX10_rough 1 = .ok (.istore_n 1, 1) := by decide +kernel
theorem dX10_rough_2 : decode cX10_rough 2 = .ok (.iconst 0, 1) := by decide +kernel
theorem dX10_rough_3 : decode cX10_rough 3 = .ok (.istore_n 2, 1) := by decide +kernel
theorem dX10_rough_4 : decode cX10_rough 4 = .ok (.iload_n 2, 1) := by decide +kernel
theorem dX10_rough_5 : decode cX10_rough 5 = .ok (.aload_n 0, 1) := by decide +kernel
theorem dX10_rough_6 : decode cX10_rough 6 = .ok (.invokevirtual 226, 3) := by decide +kernel
theorem dX10_rough_9 : decode cX10_rough 9 = .ok (.if_icmp .ge 46, 3) := by decide +kernel
theorem dX10_rough_12 : decode cX10_rough 12 = .ok (.iconst 0, 1) := by decide +kernel
theorem dX10_rough_13 : decode cX10_rough 13 = .ok (.istore_n 3, 1) := by decide +kernel
theorem dX10_rough_14 : decode cX10_rough 14 = .ok (.iload_n 3, 1) := by decide +kernel
theorem dX10_rough_15 : decode cX10_rough 15 = .ok (.iconst 2, 1) := by decide +kernel
theorem dX10_rough_16 : decode cX10_rough 16 = .ok (.if_icmp .ge 33, 3) := by decide +kernel
theorem dX10_rough_19 : decode cX10_rough 19 = .ok (.iload_n 1, 1) := by decide +kernel
theorem dX10_rough_20 : decode cX10_rough 20 = .ok (.aload_n 0, 1) := by decide +kernel
theorem dX10_rough_21 : decode cX10_rough 21 = .ok (.getfield 45, 3) := by decide +kernel
theorem dX10_rough_24 : decode cX10_rough 24 = .ok (.iload_n 2, 1) := by decide +kernel
theorem dX10_rough_25 : decode cX10_rough 25 = .ok (.iaload, 1) := by decide +kernel
theorem dX10_rough_26 : decode cX10_rough 26 = .ok (.aload_n 0, 1) := by decide +kernel
theorem dX10_rough_27 : decode cX10_rough 27 = .ok (.getfield 45, 3) := by decide +kernel
theorem dX10_rough_30 : decode cX10_rough 30 = .ok (.aload_n 0, 1) := by decide +kernel
theorem dX10_rough_31 : decode cX10_rough 31 = .ok (.iload_n 2, 1) := by decide +kernel
theorem dX10_rough_32 : decode cX10_rough 32 = .ok (.iload_n 3, 1) := by decide +kernel
theorem dX10_rough_33 : decode cX10_rough 33 = .ok (.iconst 1, 1) := by decide +kernel
theorem dX10_rough_34 : decode cX10_rough 34 = .ok (.invokevirtual 282, 3) := by decide +kernel
theorem dX10_rough_37 : decode cX10_rough 37 = .ok (.iaload, 1) := by decide +kernel
theorem dX10_rough_38 : decode cX10_rough 38 = .ok (.invokestatic 355, 3) := by decide +kernel
theorem dX10_rough_41 : decode cX10_rough 41 = .ok (.iadd, 1) := by decide +kernel
theorem dX10_rough_42 : decode cX10_rough 42 = .ok (.istore_n 1, 1) := by decide +kernel
theorem dX10_rough_43 : decode cX10_rough 43 = .ok (.iinc 3 1, 3) := by decide +kernel
theorem dX10_rough_46 : decode cX10_rough 46 = .ok (.goto (-32), 3) := by decide +kernel
theorem dX10_rough_49 : decode cX10_rough 49 = .ok (.iinc 2 1, 3) := by decide +kernel
theorem dX10_rough_52 : decode cX10_rough 52 = .ok (.goto (-48), 3) := by decide +kernel
theorem dX10_rough_55 : decode cX10_rough 55 = .ok (.iload_n 1, 1) := by decide +kernel
theorem dX10_rough_56 : decode cX10_rough 56 = .ok (.ireturn, 1) := by decide +kernel
set_option maxRecDepth 100000 in
theorem SX10_rough_0 {g : zG} {o : Bool} {M : zM} {q : Int → zM → Prop} (W : zT g (z2 o) mX10_rough (zQi (z2 o) q) 4 [(0, zA g 1), (1, zI 0), (2, zI 0)] [] M) : zT g (z2 o) mX10_rough (zQi (z2 o) q) 0 [(0, zA g 1)] [] M := by
  refine zr_iconst dX10_rough_0 ?_
  refine zr_istore_n (l' := [(0, zA g 1), (1, zI 0)]) dX10_rough_1 (by decide) [1, 0] rfl ?_
  refine zr_iconst dX10_rough_2 ?_
  refine zr_istore_n (l' := [(0, zA g 1), (1, zI 0), (2, zI 0)]) dX10_rough_3 (by decide) [1, 2, 0] rfl ?_
  exact W
set_option maxRecDepth 100000 in
theorem SX10_rough_4 {g : zG} {o : Bool} {C R : Int} {M : zM} {q : Int → zM → Prop} {x1 x2 : Int} (W : (zRf M C R) ∧ (-2147483648 ≤ x2 ∧ x2 ≤ 2147483647) ∧ (-2147483648 ≤ (C * R) ∧ (C * R) ≤ 2147483647) ∧ (((C * R) ≤ x2) → q x1 M) ∧ ((¬ ((C * R) ≤ x2)) → zT g (z2 o) mX10_rough (zQi (z2 o) q) 14 [(0, zA g 1), (1, zI x1), (2, zI x2), (3, zI 0)] [] M)) : zT g (z2 o) mX10_rough (zQi (z2 o) q) 4 [(0, zA g 1), (1, zI x1), (2, zI x2)] [] M := by
  refine zr_iload_n 2 dX10_rough_4 rfl ?_
  refine zr_aload_n 0 dX10_rough_5 rfl ?_
  obtain ⟨c1, W⟩ := W
  refine zt_callVi (As := []) (rest := [zI x2]) dX10_rough_6 kX10_rough_226 rfl rfl rfl rfl (Nat.le_of_ble_eq_true rfl) (c_cells c1) (fun r2 N4 h3 => ?_)
  rw [h3.1, h3.2]
  obtain ⟨c5, W⟩ := W
  obtain ⟨c6, W⟩ := W
  refine zr_icmp_ge (tgt := 55) dX10_rough_9 (by decide) c5 c6 (fun h => ?_) (fun h => ?_)
  · have W := W.1 h
    refine zr_iload_n 1 dX10_rough_55 rfl ?_
    exact zt_iret dX10_rough_56 rfl W
  · have W := W.2 h
    refine zr_iconst dX10_rough_12 ?_
    refine zr_istore_n (l' := [(0, zA g 1), (1, zI x1), (2, zI x2), (3, zI 0)]) dX10_rough_13 (by decide) [1, 2, 3, 0] rfl ?_
    exact W
set_option maxRecDepth 100000 in
theorem SX10_rough_14 {g : zG} {o : Bool} {C R : Int} {M : zM} {q : Int → zM → Prop} {x1 x2 x3 : Int} (W : (-2147483648 ≤ x3 ∧ x3 ≤ 2147483647) ∧ ((2 ≤ x3) → zT g (z2 o) mX10_rough (zQi (z2 o) q) 4 [(0, zA g 1), (1, zI x1), (2, zI (x2 + 1))] [] M) ∧ ((¬ (2 ≤ x3)) → (0 ≤ x2 ∧ x2 < 198) ∧ (zRf M C R) ∧ (0 ≤ x2 ∧ x2 < C * R) ∧ (0 ≤ x3 ∧ x3 ≤ 3) ∧ (0 ≤ (alg C R x2 x3 1) ∧ (alg C R x2 x3 1) < 198) ∧ (-2147483648 ≤ (M 11 x2) ∧ (M 11 x2) ≤ 2147483647) ∧ (-2147483648 ≤ (M 11 (alg C R x2 x3 1)) ∧ (M 11 (alg C R x2 x3 1)) ≤ 2147483647) ∧ zT g (z2 o) mX10_rough (zQi (z2 o) q) 14 [(0, zA g 1), (1, zI (x1 + (if 0 ≤ ((M 11 x2) - (M 11 (alg C R x2 x3 1))) then ((M 11 x2) - (M 11 (alg C R x2 x3 1))) else 0 - ((M 11 x2) - (M 11 (alg C R x2 x3 1)))))), (2, zI x2), (3, zI (x3 + 1))] [] M)) : zT g (z2 o) mX10_rough (zQi (z2 o) q) 14 [(0, zA g 1), (1, zI x1), (2, zI x2), (3, zI x3)] [] M := by
  refine zr_iload_n 3 dX10_rough_14 rfl ?_
  refine zr_iconst dX10_rough_15 ?_
  obtain ⟨c1, W⟩ := W
  refine zr_icmp_ge (tgt := 49) dX10_rough_16 (by decide) c1 ⟨by decide, by decide⟩ (fun h => ?_) (fun h => ?_)
  · have W := W.1 h
    refine zr_iinc (q := 2) (l' := [(0, zA g 1), (1, zI x1), (2, zI (x2 + 1))]) dX10_rough_49 rfl (by decide) [1, 2, 0] rfl ?_
    refine zr_goto (tgt := 4) dX10_rough_52 (by decide) ?_
    exact W
  · have W := W.2 h
    refine zr_iload_n 1 dX10_rough_19 rfl ?_
    refine zr_aload_n 0 dX10_rough_20 rfl ?_
    refine zr_getr (b := 11) dX10_rough_21 fX10_45 rfl rfl rfl (by decide) ?_
    refine zr_iload_n 2 dX10_rough_24 rfl ?_
    obtain ⟨c2, W⟩ := W
    refine zr_iald dX10_rough_25 rfl (by decide) c2 ?_
    refine zr_aload_n 0 dX10_rough_26 rfl ?_
    refine zr_getr (b := 11) dX10_rough_27 fX10_45 rfl rfl rfl (by decide) ?_
    refine zr_aload_n 0 dX10_rough_30 rfl ?_
    refine zr_iload_n 2 dX10_rough_31 rfl ?_
    refine zr_iload_n 3 dX10_rough_32 rfl ?_
    refine zr_iconst dX10_rough_33 ?_
    obtain ⟨c3, W⟩ := W
    obtain ⟨c4, W⟩ := W
    obtain ⟨c5, W⟩ := W
    refine zt_callVi (As := [zI x2, zI x3, zI 1]) (rest := [zA g 11, zI (M 11 x2), zI x1]) dX10_rough_34 kX10_rough_282 rfl rfl rfl rfl (Nat.le_of_ble_eq_true rfl) (c_along c3 c4 c5 (by decide)) (fun r6 N8 h7 => ?_)
    rw [h7.1, h7.2]
    obtain ⟨c9, W⟩ := W
    refine zr_iald dX10_rough_37 rfl (by decide) c9 ?_
    obtain ⟨c10, W⟩ := W
    obtain ⟨c11, W⟩ := W
    refine zt_callSi (As := [zI (M 11 x2), zI (M 11 (alg C R x2 x3 1))]) (rest := [zI x1]) dX10_rough_38 kX10_rough_355 rfl rfl (Nat.le_of_ble_eq_true rfl) (c_off c10 c11) (fun r12 N14 h13 => ?_)
    rw [h13.1, h13.2]
    refine zr_iadd dX10_rough_41 ?_
    refine zr_istore_n (l' := [(0, zA g 1), (1, zI (x1 + (if 0 ≤ ((M 11 x2) - (M 11 (alg C R x2 x3 1))) then ((M 11 x2) - (M 11 (alg C R x2 x3 1))) else 0 - ((M 11 x2) - (M 11 (alg C R x2 x3 1)))))), (2, zI x2), (3, zI x3)]) dX10_rough_42 (by decide) [1, 0, 2, 3] rfl ?_
    refine zr_iinc (q := 3) (l' := [(0, zA g 1), (1, zI (x1 + (if 0 ≤ ((M 11 x2) - (M 11 (alg C R x2 x3 1))) then ((M 11 x2) - (M 11 (alg C R x2 x3 1))) else 0 - ((M 11 x2) - (M 11 (alg C R x2 x3 1)))))), (2, zI x2), (3, zI (x3 + 1))]) dX10_rough_43 rfl (by decide) [1, 2, 3, 0] rfl ?_
    refine zr_goto (tgt := 14) dX10_rough_46 (by decide) ?_
    exact W
theorem dX10_shadows_0 : decode cX10_shadows 0 = .ok (.iconst 0, 1) := by decide +kernel
theorem dX10_shadows_1 : decode cX10_shadows 1 = .ok (.istore_n 1, 1) := by decide +kernel
theorem dX10_shadows_2 : decode cX10_shadows 2 = .ok (.iconst 0, 1) := by decide +kernel
theorem dX10_shadows_3 : decode cX10_shadows 3 = .ok (.istore_n 2, 1) := by decide +kernel
theorem dX10_shadows_4 : decode cX10_shadows 4 = .ok (.iload_n 2, 1) := by decide +kernel
theorem dX10_shadows_5 : decode cX10_shadows 5 = .ok (.aload_n 0, 1) := by decide +kernel
theorem dX10_shadows_6 : decode cX10_shadows 6 = .ok (.invokevirtual 226, 3) := by decide +kernel
theorem dX10_shadows_9 : decode cX10_shadows 9 = .ok (.if_icmp .ge 20, 3) := by decide +kernel
theorem dX10_shadows_12 : decode cX10_shadows 12 = .ok (.iload_n 1, 1) := by decide +kernel
theorem dX10_shadows_13 : decode cX10_shadows 13 = .ok (.aload_n 0, 1) := by decide +kernel
theorem dX10_shadows_14 : decode cX10_shadows 14 = .ok (.iload_n 2, 1) := by decide +kernel
theorem dX10_shadows_15 : decode cX10_shadows 15 = .ok (.invokevirtual 286, 3) := by decide +kernel
theorem dX10_shadows_18 : decode cX10_shadows 18 = .ok (.invokestatic 317, 3) := by decide +kernel
theorem dX10_shadows_21 : decode cX10_shadows 21 = .ok (.iadd, 1) := by decide +kernel
theorem dX10_shadows_22 : decode cX10_shadows 22 = .ok (.istore_n 1, 1) := by decide +kernel
theorem dX10_shadows_23 : decode cX10_shadows 23 = .ok (.iinc 2 1, 3) := by decide +kernel
theorem dX10_shadows_26 : decode cX10_shadows 26 = .ok (.goto (-22), 3) := by decide +kernel
theorem dX10_shadows_29 : decode cX10_shadows 29 = .ok (.iload_n 1, 1) := by decide +kernel
theorem dX10_shadows_30 : decode cX10_shadows 30 = .ok (.ireturn, 1) := by decide +kernel
set_option maxRecDepth 100000 in
theorem SX10_shadows_0 {g : zG} {o : Bool} {M : zM} {q : Int → zM → Prop} (W : zT g (z2 o) mX10_shadows (zQi (z2 o) q) 4 [(0, zA g 1), (1, zI 0), (2, zI 0)] [] M) : zT g (z2 o) mX10_shadows (zQi (z2 o) q) 0 [(0, zA g 1)] [] M := by
  refine zr_iconst dX10_shadows_0 ?_
  refine zr_istore_n (l' := [(0, zA g 1), (1, zI 0)]) dX10_shadows_1 (by decide) [1, 0] rfl ?_
  refine zr_iconst dX10_shadows_2 ?_
  refine zr_istore_n (l' := [(0, zA g 1), (1, zI 0), (2, zI 0)]) dX10_shadows_3 (by decide) [1, 2, 0] rfl ?_
  exact W
set_option maxRecDepth 100000 in
theorem SX10_shadows_4 {g : zG} {o : Bool} {C R : Int} {M : zM} {q : Int → zM → Prop} {x1 x2 : Int} (W : (zRf M C R) ∧ (-2147483648 ≤ x2 ∧ x2 ≤ 2147483647) ∧ (-2147483648 ≤ (C * R) ∧ (C * R) ≤ 2147483647) ∧ (((C * R) ≤ x2) → q x1 M) ∧ ((¬ ((C * R) ≤ x2)) → (0 ≤ x2 ∧ x2 < C * R) ∧ (0 ≤ M 11 197 ∧ M 11 197 ≤ 2147483647) ∧ (Bd (M 11)) ∧ (0 ≤ M 11 193 ∧ M 11 193 ≤ 9) ∧ zT g (z2 o) mX10_shadows (zQi (z2 o) q) 4 [(0, zA g 1), (1, zI (x1 + (zb (shd C R (M 11) (M 11 193) x2 (wnr M (M 11 197)))))), (2, zI (x2 + 1))] [] M)) : zT g (z2 o) mX10_shadows (zQi (z2 o) q) 4 [(0, zA g 1), (1, zI x1), (2, zI x2)] [] M := by
  refine zr_iload_n 2 dX10_shadows_4 rfl ?_
  refine zr_aload_n 0 dX10_shadows_5 rfl ?_
  obtain ⟨c1, W⟩ := W
  refine zt_callVi (As := []) (rest := [zI x2]) dX10_shadows_6 kX10_shadows_226 rfl rfl rfl rfl (Nat.le_of_ble_eq_true rfl) (c_cells c1) (fun r2 N4 h3 => ?_)
  rw [h3.1, h3.2]
  obtain ⟨c5, W⟩ := W
  obtain ⟨c6, W⟩ := W
  refine zr_icmp_ge (tgt := 29) dX10_shadows_9 (by decide) c5 c6 (fun h => ?_) (fun h => ?_)
  · have W := W.1 h
    refine zr_iload_n 1 dX10_shadows_29 rfl ?_
    exact zt_iret dX10_shadows_30 rfl W
  · have W := W.2 h
    refine zr_iload_n 1 dX10_shadows_12 rfl ?_
    refine zr_aload_n 0 dX10_shadows_13 rfl ?_
    refine zr_iload_n 2 dX10_shadows_14 rfl ?_
    obtain ⟨c7, W⟩ := W
    obtain ⟨c8, W⟩ := W
    obtain ⟨c9, W⟩ := W
    obtain ⟨c10, W⟩ := W
    refine zt_callVi (As := [zI x2]) (rest := [zI x1]) dX10_shadows_15 kX10_shadows_286 rfl rfl rfl rfl (Nat.le_of_ble_eq_true rfl) (c_isShadow c1 c7 c8 c9 c10) (fun r11 N13 h12 => ?_)
    rw [h12.1, h12.2]
    refine zt_callSi (As := [zI (zb (shd C R (M 11) (M 11 193) x2 (wnr M (M 11 197))))]) (rest := [zI x1]) dX10_shadows_18 kX10_shadows_317 rfl rfl (Nat.le_of_ble_eq_true rfl) (c_truth _) (fun r14 N16 h15 => ?_)
    rw [h15.1, h15.2]
    refine zr_iadd dX10_shadows_21 ?_
    refine zr_istore_n (l' := [(0, zA g 1), (1, zI (x1 + (zb (shd C R (M 11) (M 11 193) x2 (wnr M (M 11 197)))))), (2, zI x2)]) dX10_shadows_22 (by decide) [1, 0, 2] rfl ?_
    refine zr_iinc (q := 2) (l' := [(0, zA g 1), (1, zI (x1 + (zb (shd C R (M 11) (M 11 193) x2 (wnr M (M 11 197)))))), (2, zI (x2 + 1))]) dX10_shadows_23 rfl (by decide) [1, 2, 0] rfl ?_
    refine zr_goto (tgt := 4) dX10_shadows_26 (by decide) ?_
    exact W
theorem dX10_givers_0 : decode cX10_givers 0 = .ok (.iconst 0, 1) := by decide +kernel
theorem dX10_givers_1 : decode cX10_givers 1 = .ok (.istore_n 1, 1) := by decide +kernel
theorem dX10_givers_2 : decode cX10_givers 2 = .ok (.iconst 0, 1) := by decide +kernel
theorem dX10_givers_3 : decode cX10_givers 3 = .ok (.istore_n 2, 1) := by decide +kernel
theorem dX10_givers_4 : decode cX10_givers 4 = .ok (.iload_n 2, 1) := by decide +kernel
theorem dX10_givers_5 : decode cX10_givers 5 = .ok (.aload_n 0, 1) := by decide +kernel
theorem dX10_givers_6 : decode cX10_givers 6 = .ok (.invokevirtual 226, 3) := by decide +kernel
theorem dX10_givers_9 : decode cX10_givers 9 = .ok (.if_icmp .ge 20, 3) := by decide +kernel
theorem dX10_givers_12 : decode cX10_givers 12 = .ok (.iload_n 1, 1) := by decide +kernel
theorem dX10_givers_13 : decode cX10_givers 13 = .ok (.aload_n 0, 1) := by decide +kernel
theorem dX10_givers_14 : decode cX10_givers 14 = .ok (.iload_n 2, 1) := by decide +kernel
theorem dX10_givers_15 : decode cX10_givers 15 = .ok (.invokevirtual 303, 3) := by decide +kernel
theorem dX10_givers_18 : decode cX10_givers 18 = .ok (.invokestatic 317, 3) := by decide +kernel
theorem dX10_givers_21 : decode cX10_givers 21 = .ok (.iadd, 1) := by decide +kernel
theorem dX10_givers_22 : decode cX10_givers 22 = .ok (.istore_n 1, 1) := by decide +kernel
theorem dX10_givers_23 : decode cX10_givers 23 = .ok (.iinc 2 1, 3) := by decide +kernel
theorem dX10_givers_26 : decode cX10_givers 26 = .ok (.goto (-22), 3) := by decide +kernel
theorem dX10_givers_29 : decode cX10_givers 29 = .ok (.iload_n 1, 1) := by decide +kernel
theorem dX10_givers_30 : decode cX10_givers 30 = .ok (.ireturn, 1) := by decide +kernel
set_option maxRecDepth 100000 in
theorem SX10_givers_0 {g : zG} {o : Bool} {M : zM} {q : Int → zM → Prop} (W : zT g (z2 o) mX10_givers (zQi (z2 o) q) 4 [(0, zA g 1), (1, zI 0), (2, zI 0)] [] M) : zT g (z2 o) mX10_givers (zQi (z2 o) q) 0 [(0, zA g 1)] [] M := by
  refine zr_iconst dX10_givers_0 ?_
  refine zr_istore_n (l' := [(0, zA g 1), (1, zI 0)]) dX10_givers_1 (by decide) [1, 0] rfl ?_
  refine zr_iconst dX10_givers_2 ?_
  refine zr_istore_n (l' := [(0, zA g 1), (1, zI 0), (2, zI 0)]) dX10_givers_3 (by decide) [1, 2, 0] rfl ?_
  exact W
set_option maxRecDepth 100000 in
theorem SX10_givers_4 {g : zG} {o : Bool} {C R : Int} {M : zM} {q : Int → zM → Prop} {x1 x2 : Int} (W : (zRf M C R) ∧ (-2147483648 ≤ x2 ∧ x2 ≤ 2147483647) ∧ (-2147483648 ≤ (C * R) ∧ (C * R) ≤ 2147483647) ∧ (((C * R) ≤ x2) → q x1 M) ∧ ((¬ ((C * R) ≤ x2)) → (0 ≤ x2 ∧ x2 < C * R) ∧ (0 ≤ M 11 197 ∧ M 11 197 ≤ 2147483647) ∧ (Bd (M 11)) ∧ (0 ≤ M 11 193 ∧ M 11 193 ≤ 9) ∧ (0 ≤ M 11 (96 + x2) ∧ M 11 (96 + x2) ≤ 1) ∧ zT g (z2 o) mX10_givers (zQi (z2 o) q) 4 [(0, zA g 1), (1, zI (x1 + (zb (yld C R (M 11) (fun i => M 11 (96 + i)) (M 11 193) x2 (wnr M (M 11 197)))))), (2, zI (x2 + 1))] [] M)) : zT g (z2 o) mX10_givers (zQi (z2 o) q) 4 [(0, zA g 1), (1, zI x1), (2, zI x2)] [] M := by
  refine zr_iload_n 2 dX10_givers_4 rfl ?_
  refine zr_aload_n 0 dX10_givers_5 rfl ?_
  obtain ⟨c1, W⟩ := W
  refine zt_callVi (As := []) (rest := [zI x2]) dX10_givers_6 kX10_givers_226 rfl rfl rfl rfl (Nat.le_of_ble_eq_true rfl) (c_cells c1) (fun r2 N4 h3 => ?_)
  rw [h3.1, h3.2]
  obtain ⟨c5, W⟩ := W
  obtain ⟨c6, W⟩ := W
  refine zr_icmp_ge (tgt := 29) dX10_givers_9 (by decide) c5 c6 (fun h => ?_) (fun h => ?_)
  · have W := W.1 h
    refine zr_iload_n 1 dX10_givers_29 rfl ?_
    exact zt_iret dX10_givers_30 rfl W
  · have W := W.2 h
    refine zr_iload_n 1 dX10_givers_12 rfl ?_
    refine zr_aload_n 0 dX10_givers_13 rfl ?_
    refine zr_iload_n 2 dX10_givers_14 rfl ?_
    obtain ⟨c7, W⟩ := W
    obtain ⟨c8, W⟩ := W
    obtain ⟨c9, W⟩ := W
    obtain ⟨c10, W⟩ := W
    obtain ⟨c11, W⟩ := W
    refine zt_callVi (As := [zI x2]) (rest := [zI x1]) dX10_givers_15 kX10_givers_303 rfl rfl rfl rfl (Nat.le_of_ble_eq_true rfl) (c_gives c1 c7 c8 c9 c10 c11) (fun r12 N14 h13 => ?_)
    rw [h13.1, h13.2]
    refine zt_callSi (As := [zI (zb (yld C R (M 11) (fun i => M 11 (96 + i)) (M 11 193) x2 (wnr M (M 11 197))))]) (rest := [zI x1]) dX10_givers_18 kX10_givers_317 rfl rfl (Nat.le_of_ble_eq_true rfl) (c_truth _) (fun r15 N17 h16 => ?_)
    rw [h16.1, h16.2]
    refine zr_iadd dX10_givers_21 ?_
    refine zr_istore_n (l' := [(0, zA g 1), (1, zI (x1 + (zb (yld C R (M 11) (fun i => M 11 (96 + i)) (M 11 193) x2 (wnr M (M 11 197)))))), (2, zI x2)]) dX10_givers_22 (by decide) [1, 0, 2] rfl ?_
    refine zr_iinc (q := 2) (l' := [(0, zA g 1), (1, zI (x1 + (zb (yld C R (M 11) (fun i => M 11 (96 + i)) (M 11 193) x2 (wnr M (M 11 197)))))), (2, zI (x2 + 1))]) dX10_givers_23 rfl (by decide) [1, 2, 0] rfl ?_
    refine zr_goto (tgt := 4) dX10_givers_26 (by decide) ?_
    exact W
theorem dX10_skyline_0 : decode cX10_skyline 0 = .ok (.iload_n 2, 1) := by decide +kernel
theorem dX10_skyline_1 : decode cX10_skyline 1 = .ok (.iconst 0, 1) := by decide +kernel
theorem dX10_skyline_2 : decode cX10_skyline 2 = .ok (.iconst 1, 1) := by decide +kernel
theorem dX10_skyline_3 : decode cX10_skyline 3 = .ok (.invokestatic 106, 3) := by decide +kernel
theorem dX10_skyline_6 : decode cX10_skyline 6 = .ok (.ifCond .eq 28, 3) := by decide +kernel
theorem dX10_skyline_9 : decode cX10_skyline 9 = .ok (.iload_n 1, 1) := by decide +kernel
theorem dX10_skyline_10 : decode cX10_skyline 10 = .ok (.iconst 0, 1) := by decide +kernel
theorem dX10_skyline_11 : decode cX10_skyline 11 = .ok (.iload_n 2, 1) := by decide +kernel
theorem dX10_skyline_12 : decode cX10_skyline 12 = .ok (.ifCond .ne 10, 3) := by decide +kernel
theorem dX10_skyline_15 : decode cX10_skyline 15 = .ok (.aload_n 0, 1) := by decide +kernel
theorem dX10_skyline_16 : decode cX10_skyline 16 = .ok (.invokevirtual 255, 3) := by decide +kernel
theorem dX10_skyline_19 : decode cX10_skyline 19 = .ok (.goto 7, 3) := by decide +kernel
theorem dX10_skyline_22 : decode cX10_skyline 22 = .ok (.aload_n 0, 1) := by decide +kernel
theorem dX10_skyline_23 : decode cX10_skyline 23 = .ok (.invokevirtual 258, 3) := by decide +kernel
theorem dX10_skyline_26 : decode cX10_skyline 26 = .ok (.iconst 1, 1) := by decide +kernel
theorem dX10_skyline_27 : decode cX10_skyline 27 = .ok (.isub, 1) := by decide +kernel
theorem dX10_skyline_28 : decode cX10_skyline 28 = .ok (.invokestatic 106, 3) := by decide +kernel
theorem dX10_skyline_31 : decode cX10_skyline 31 = .ok (.ifCond .ne 5, 3) := by decide +kernel
theorem dX10_skyline_34 : decode cX10_skyline 34 = .ok (.iconst (-1), 1) := by decide +kernel
theorem dX10_skyline_35 : decode cX10_skyline 35 = .ok (.ireturn, 1) := by decide +kernel
theorem dX10_skyline_36 : decode cX10_skyline 36 = .ok (.iconst 0, 1) := by decide +kernel
theorem dX10_skyline_37 : decode cX10_skyline 37 = .ok (.istore_n 3, 1) := by decide +kernel
theorem dX10_skyline_38 : decode cX10_skyline 38 = .ok (.iconst 0, 1) := by decide +kernel
theorem dX10_skyline_39 : decode cX10_skyline 39 = .ok (.istore 4, 2) := by decide +kernel
theorem dX10_skyline_41 : decode cX10_skyline 41 = .ok (.iload 4, 2) := by decide +kernel
theorem dX10_skyline_43 : decode cX10_skyline 43 = .ok (.aload_n 0, 1) := by decide +kernel
theorem dX10_skyline_44 : decode cX10_skyline 44 = .ok (.invokevirtual 226, 3) := by decide +kernel
theorem dX10_skyline_47 : decode cX10_skyline 47 = .ok (.if_icmp .ge 46, 3) := by decide +kernel
theorem dX10_skyline_50 : decode cX10_skyline 50 = .ok (.iload_n 2, 1) := by decide +kernel
theorem dX10_skyline_51 : decode cX10_skyline 51 = .ok (.ifCond .ne 13, 3) := by decide +kernel
theorem dX10_skyline_54 : decode cX10_skyline 54 = .ok (.iload 4, 2) := by decide +kernel
theorem dX10_skyline_56 : decode cX10_skyline 56 = .ok (.aload_n 0, 1) := by decide +kernel
theorem dX10_skyline_57 : decode cX10_skyline 57 = .ok (.invokevirtual 255, 3) := by decide +kernel
theorem dX10_skyline_60 : decode cX10_skyline 60 = .ok (.irem, 1) := by decide +kernel
theorem dX10_skyline_61 : decode cX10_skyline 61 = .ok (.goto 10, 3) := by decide +kernel
theorem dX10_skyline_64 : decode cX10_skyline 64 = .ok (.iload 4, 2) := by decide +kernel
theorem dX10_skyline_66 : decode cX10_skyline 66 = .ok (.aload_n 0, 1) := by decide +kernel
theorem dX10_skyline_67 : decode cX10_skyline 67 = .ok (.invokevirtual 255, 3) := by decide +kernel
theorem dX10_skyline_70 : decode cX10_skyline 70 = .ok (.idiv, 1) := by decide +kernel
theorem dX10_skyline_71 : decode cX10_skyline 71 = .ok (.iload_n 1, 1) := by decide +kernel
theorem dX10_skyline_72 : decode cX10_skyline 72 = .ok (.if_icmp .ne 15, 3) := by decide +kernel
theorem dX10_skyline_75 : decode cX10_skyline 75 = .ok (.iload_n 3, 1) := by decide +kernel
theorem dX10_skyline_76 : decode cX10_skyline 76 = .ok (.aload_n 0, 1) := by decide +kernel
theorem dX10_skyline_77 : decode cX10_skyline 77 = .ok (.getfield 42, 3) := by decide +kernel
theorem dX10_skyline_80 : decode cX10_skyline 80 = .ok (.iload 4, 2) := by decide +kernel
theorem dX10_skyline_82 : decode cX10_skyline 82 = .ok (.iaload, 1) := by decide +kernel
theorem dX10_skyline_83 : decode cX10_skyline 83 = .ok (.invokestatic 349, 3) := by decide +kernel
theorem dX10_skyline_86 : decode cX10_skyline 86 = .ok (.istore_n 3, 1) := by decide +kernel
theorem dX10_skyline_87 : decode cX10_skyline 87 = .ok (.iinc 4 1, 3) := by decide +kernel
theorem dX10_skyline_90 : decode cX10_skyline 90 = .ok (.goto (-49), 3) := by decide +kernel
theorem dX10_skyline_93 : decode cX10_skyline 93 = .ok (.iload_n 3, 1) := by decide +kernel
theorem dX10_skyline_94 : decode cX10_skyline 94 = .ok (.ireturn, 1) := by decide +kernel
set_option maxRecDepth 100000 in
theorem SX10_skyline_0 {g : zG} {o : Bool} {C R : Int} {M : zM} {q : Int → zM → Prop} {x1 x2 : Int} (W : (-2147483648 ≤ x2 ∧ x2 ≤ 2147483647) ∧ ((¬ (0 ≤ x2 ∧ x2 ≤ 1)) → q (-1) M) ∧ ((0 ≤ x2 ∧ x2 ≤ 1) → (-2147483648 ≤ x2 ∧ x2 ≤ 2147483647) ∧ ((x2 ≠ 0) → (zRf M C R) ∧ (-2147483648 ≤ x1 ∧ x1 ≤ 2147483647) ∧ (-2147483648 ≤ (R - 1) ∧ (R - 1) ≤ 2147483647) ∧ ((0 ≤ x1 ∧ x1 ≤ (R - 1)) → zT g (z2 o) mX10_skyline (zQi (z2 o) q) 41 [(0, zA g 1), (1, zI x1), (2, zI x2), (3, zI 0), (4, zI 0)] [] M) ∧ ((¬ (0 ≤ x1 ∧ x1 ≤ (R - 1))) → q (-1) M)) ∧ ((x2 = 0) → (zRf M C R) ∧ (-2147483648 ≤ x1 ∧ x1 ≤ 2147483647) ∧ (-2147483648 ≤ (C - 1) ∧ (C - 1) ≤ 2147483647) ∧ ((0 ≤ x1 ∧ x1 ≤ (C - 1)) → zT g (z2 o) mX10_skyline (zQi (z2 o) q) 41 [(0, zA g 1), (1, zI x1), (2, zI x2), (3, zI 0), (4, zI 0)] [] M) ∧ ((¬ (0 ≤ x1 ∧ x1 ≤ (C - 1))) → q (-1) M)))) : zT g (z2 o) mX10_skyline (zQi (z2 o) q) 0 [(0, zA g 1), (1, zI x1), (2, zI x2)] [] M := by
  refine zr_iload_n 2 dX10_skyline_0 rfl ?_
  refine zr_iconst dX10_skyline_1 ?_
  refine zr_iconst dX10_skyline_2 ?_
  obtain ⟨c1, W⟩ := W
  refine zt_callSi (As := [zI x2, zI 0, zI 1]) (rest := []) dX10_skyline_3 kX10_skyline_106 rfl rfl (Nat.le_of_ble_eq_true rfl) (c_isIn c1 ⟨by decide, by decide⟩ ⟨by decide, by decide⟩) (fun r2 N4 h3 => ?_)
  rw [h3.1, h3.2]
  refine zt_ifeq_b (tgt := 34) dX10_skyline_6 (by decide) (fun h => ?_) (fun h => ?_)
  · have W := W.1 h
    refine zr_iconst dX10_skyline_34 ?_
    exact zt_iret dX10_skyline_35 rfl W
  · have W := W.2 h
    refine zr_iload_n 1 dX10_skyline_9 rfl ?_
    refine zr_iconst dX10_skyline_10 ?_
    refine zr_iload_n 2 dX10_skyline_11 rfl ?_
    obtain ⟨c5, W⟩ := W
    refine zr_if_ne (tgt := 22) dX10_skyline_12 (by decide) c5 (fun h => ?_) (fun h => ?_)
    · have W := W.1 h
      refine zr_aload_n 0 dX10_skyline_22 rfl ?_
      obtain ⟨c6, W⟩ := W
      refine zt_callVi (As := []) (rest := [zI 0, zI x1]) dX10_skyline_23 kX10_skyline_258 rfl rfl rfl rfl (Nat.le_of_ble_eq_true rfl) (c_rowsR c6) (fun r7 N9 h8 => ?_)
      rw [h8.1, h8.2]
      refine zr_iconst dX10_skyline_26 ?_
      refine zr_isub dX10_skyline_27 ?_
      obtain ⟨c10, W⟩ := W
      obtain ⟨c11, W⟩ := W
      refine zt_callSi (As := [zI x1, zI 0, zI (R - 1)]) (rest := []) dX10_skyline_28 kX10_skyline_106 rfl rfl (Nat.le_of_ble_eq_true rfl) (c_isIn c10 ⟨by decide, by decide⟩ c11) (fun r12 N14 h13 => ?_)
      rw [h13.1, h13.2]
      refine zt_ifne_b (tgt := 36) dX10_skyline_31 (by decide) (fun h => ?_) (fun h => ?_)
      · have W := W.1 h
        refine zr_iconst dX10_skyline_36 ?_
        refine zr_istore_n (l' := [(0, zA g 1), (1, zI x1), (2, zI x2), (3, zI 0)]) dX10_skyline_37 (by decide) [1, 2, 3, 0] rfl ?_
        refine zr_iconst dX10_skyline_38 ?_
        refine zr_istore (l' := [(0, zA g 1), (1, zI x1), (2, zI x2), (3, zI 0), (4, zI 0)]) dX10_skyline_39 (by decide) [1, 2, 3, 4, 0] rfl ?_
        exact W
      · have W := W.2 h
        refine zr_iconst dX10_skyline_34 ?_
        exact zt_iret dX10_skyline_35 rfl W
    · have W := W.2 h
      refine zr_aload_n 0 dX10_skyline_15 rfl ?_
      obtain ⟨c15, W⟩ := W
      refine zt_callVi (As := []) (rest := [zI 0, zI x1]) dX10_skyline_16 kX10_skyline_255 rfl rfl rfl rfl (Nat.le_of_ble_eq_true rfl) (c_columnsC c15) (fun r16 N18 h17 => ?_)
      rw [h17.1, h17.2]
      refine zr_goto (tgt := 26) dX10_skyline_19 (by decide) ?_
      refine zr_iconst dX10_skyline_26 ?_
      refine zr_isub dX10_skyline_27 ?_
      obtain ⟨c19, W⟩ := W
      obtain ⟨c20, W⟩ := W
      refine zt_callSi (As := [zI x1, zI 0, zI (C - 1)]) (rest := []) dX10_skyline_28 kX10_skyline_106 rfl rfl (Nat.le_of_ble_eq_true rfl) (c_isIn c19 ⟨by decide, by decide⟩ c20) (fun r21 N23 h22 => ?_)
      rw [h22.1, h22.2]
      refine zt_ifne_b (tgt := 36) dX10_skyline_31 (by decide) (fun h => ?_) (fun h => ?_)
      · have W := W.1 h
        refine zr_iconst dX10_skyline_36 ?_
        refine zr_istore_n (l' := [(0, zA g 1), (1, zI x1), (2, zI x2), (3, zI 0)]) dX10_skyline_37 (by decide) [1, 2, 3, 0] rfl ?_
        refine zr_iconst dX10_skyline_38 ?_
        refine zr_istore (l' := [(0, zA g 1), (1, zI x1), (2, zI x2), (3, zI 0), (4, zI 0)]) dX10_skyline_39 (by decide) [1, 2, 3, 4, 0] rfl ?_
        exact W
      · have W := W.2 h
        refine zr_iconst dX10_skyline_34 ?_
        exact zt_iret dX10_skyline_35 rfl W
set_option maxRecDepth 100000 in
theorem SX10_skyline_41 {g : zG} {o : Bool} {C R : Int} {M : zM} {q : Int → zM → Prop} {x1 x2 x3 x4 : Int} (W : (zRf M C R) ∧ (-2147483648 ≤ x4 ∧ x4 ≤ 2147483647) ∧ (-2147483648 ≤ (C * R) ∧ (C * R) ≤ 2147483647) ∧ (((C * R) ≤ x4) → q x3 M) ∧ ((¬ ((C * R) ≤ x4)) → (-2147483648 ≤ x2 ∧ x2 ≤ 2147483647) ∧ ((x2 ≠ 0) → (0 ≤ x4 ∧ x4 ≤ 2147483647) ∧ (0 < C ∧ C ≤ 2147483647) ∧ (-2147483648 ≤ (x4 / C) ∧ (x4 / C) ≤ 2147483647) ∧ (-2147483648 ≤ x1 ∧ x1 ≤ 2147483647) ∧ (((x4 / C) ≠ x1) → zT g (z2 o) mX10_skyline (zQi (z2 o) q) 41 [(0, zA g 1), (1, zI x1), (2, zI x2), (3, zI x3), (4, zI (x4 + 1))] [] M) ∧ (((x4 / C) = x1) → (0 ≤ x4 ∧ x4 < 198) ∧ (-2147483648 ≤ x3 ∧ x3 ≤ 2147483647) ∧ (-2147483648 ≤ (M 10 x4) ∧ (M 10 x4) ≤ 2147483647) ∧ zT g (z2 o) mX10_skyline (zQi (z2 o) q) 41 [(0, zA g 1), (1, zI x1), (2, zI x2), (3, zI (max x3 (M 10 x4))), (4, zI (x4 + 1))] [] M)) ∧ ((x2 = 0) → (0 ≤ x4 ∧ x4 ≤ 2147483647) ∧ (0 < C ∧ C ≤ 2147483647) ∧ (-2147483648 ≤ (x4 % C) ∧ (x4 % C) ≤ 2147483647) ∧ (-2147483648 ≤ x1 ∧ x1 ≤ 2147483647) ∧ (((x4 % C) ≠ x1) → zT g (z2 o) mX10_skyline (zQi (z2 o) q) 41 [(0, zA g 1), (1, zI x1), (2, zI x2), (3, zI x3), (4, zI (x4 + 1))] [] M) ∧ (((x4 % C) = x1) → (0 ≤ x4 ∧ x4 < 198) ∧ (-2147483648 ≤ x3 ∧ x3 ≤ 2147483647) ∧ (-2147483648 ≤ (M 10 x4) ∧ (M 10 x4) ≤ 2147483647) ∧ zT g (z2 o) mX10_skyline (zQi (z2 o) q) 41 [(0, zA g 1), (1, zI x1), (2, zI x2), (3, zI (max x3 (M 10 x4))), (4, zI (x4 + 1))] [] M)))) : zT g (z2 o) mX10_skyline (zQi (z2 o) q) 41 [(0, zA g 1), (1, zI x1), (2, zI x2), (3, zI x3), (4, zI x4)] [] M := by
  refine zr_iload 4 dX10_skyline_41 rfl ?_
  refine zr_aload_n 0 dX10_skyline_43 rfl ?_
  obtain ⟨c1, W⟩ := W
  refine zt_callVi (As := []) (rest := [zI x4]) dX10_skyline_44 kX10_skyline_226 rfl rfl rfl rfl (Nat.le_of_ble_eq_true rfl) (c_cells c1) (fun r2 N4 h3 => ?_)
  rw [h3.1, h3.2]
  obtain ⟨c5, W⟩ := W
  obtain ⟨c6, W⟩ := W
  refine zr_icmp_ge (tgt := 93) dX10_skyline_47 (by decide) c5 c6 (fun h => ?_) (fun h => ?_)
  · have W := W.1 h
    refine zr_iload_n 3 dX10_skyline_93 rfl ?_
    exact zt_iret dX10_skyline_94 rfl W
  · have W := W.2 h
    refine zr_iload_n 2 dX10_skyline_50 rfl ?_
    obtain ⟨c7, W⟩ := W
    refine zr_if_ne (tgt := 64) dX10_skyline_51 (by decide) c7 (fun h => ?_) (fun h => ?_)
    · have W := W.1 h
      refine zr_iload 4 dX10_skyline_64 rfl ?_
      refine zr_aload_n 0 dX10_skyline_66 rfl ?_
      refine zt_callVi (As := []) (rest := [zI x4]) dX10_skyline_67 kX10_skyline_255 rfl rfl rfl rfl (Nat.le_of_ble_eq_true rfl) (c_columnsC c1) (fun r8 N10 h9 => ?_)
      rw [h9.1, h9.2]
      obtain ⟨c11, W⟩ := W
      obtain ⟨c12, W⟩ := W
      refine zr_idiv dX10_skyline_70 c11 c12 ?_
      refine zr_iload_n 1 dX10_skyline_71 rfl ?_
      obtain ⟨c13, W⟩ := W
      obtain ⟨c14, W⟩ := W
      refine zr_icmp_ne (tgt := 87) dX10_skyline_72 (by decide) c13 c14 (fun h => ?_) (fun h => ?_)
      · have W := W.1 h
        refine zr_iinc (q := 4) (l' := [(0, zA g 1), (1, zI x1), (2, zI x2), (3, zI x3), (4, zI (x4 + 1))]) dX10_skyline_87 rfl (by decide) [1, 2, 3, 4, 0] rfl ?_
        refine zr_goto (tgt := 41) dX10_skyline_90 (by decide) ?_
        exact W
      · have W := W.2 h
        refine zr_iload_n 3 dX10_skyline_75 rfl ?_
        refine zr_aload_n 0 dX10_skyline_76 rfl ?_
        refine zr_getr (b := 10) dX10_skyline_77 fX10_42 rfl rfl rfl (by decide) ?_
        refine zr_iload 4 dX10_skyline_80 rfl ?_
        obtain ⟨c15, W⟩ := W
        refine zr_iald dX10_skyline_82 rfl (by decide) c15 ?_
        obtain ⟨c16, W⟩ := W
        obtain ⟨c17, W⟩ := W
        refine zt_callSi (As := [zI x3, zI (M 10 x4)]) (rest := []) dX10_skyline_83 kX10_skyline_349 rfl rfl (Nat.le_of_ble_eq_true rfl) (c_greater c16 c17) (fun r18 N20 h19 => ?_)
        rw [h19.1, h19.2]
        refine zr_istore_n (l' := [(0, zA g 1), (1, zI x1), (2, zI x2), (3, zI (max x3 (M 10 x4))), (4, zI x4)]) dX10_skyline_86 (by decide) [1, 2, 3, 0, 4] rfl ?_
        refine zr_iinc (q := 4) (l' := [(0, zA g 1), (1, zI x1), (2, zI x2), (3, zI (max x3 (M 10 x4))), (4, zI (x4 + 1))]) dX10_skyline_87 rfl (by decide) [1, 2, 3, 4, 0] rfl ?_
        refine zr_goto (tgt := 41) dX10_skyline_90 (by decide) ?_
        exact W
    · have W := W.2 h
      refine zr_iload 4 dX10_skyline_54 rfl ?_
      refine zr_aload_n 0 dX10_skyline_56 rfl ?_
      refine zt_callVi (As := []) (rest := [zI x4]) dX10_skyline_57 kX10_skyline_255 rfl rfl rfl rfl (Nat.le_of_ble_eq_true rfl) (c_columnsC c1) (fun r21 N23 h22 => ?_)
      rw [h22.1, h22.2]
      obtain ⟨c24, W⟩ := W
      obtain ⟨c25, W⟩ := W
      refine zr_irem dX10_skyline_60 c24 c25 ?_
      refine zr_goto (tgt := 71) dX10_skyline_61 (by decide) ?_
      refine zr_iload_n 1 dX10_skyline_71 rfl ?_
      obtain ⟨c26, W⟩ := W
      obtain ⟨c27, W⟩ := W
      refine zr_icmp_ne (tgt := 87) dX10_skyline_72 (by decide) c26 c27 (fun h => ?_) (fun h => ?_)
      · have W := W.1 h
        refine zr_iinc (q := 4) (l' := [(0, zA g 1), (1, zI x1), (2, zI x2), (3, zI x3), (4, zI (x4 + 1))]) dX10_skyline_87 rfl (by decide) [1, 2, 3, 4, 0] rfl ?_
        refine zr_goto (tgt := 41) dX10_skyline_90 (by decide) ?_
        exact W
      · have W := W.2 h
        refine zr_iload_n 3 dX10_skyline_75 rfl ?_
        refine zr_aload_n 0 dX10_skyline_76 rfl ?_
        refine zr_getr (b := 10) dX10_skyline_77 fX10_42 rfl rfl rfl (by decide) ?_
        refine zr_iload 4 dX10_skyline_80 rfl ?_
        obtain ⟨c28, W⟩ := W
        refine zr_iald dX10_skyline_82 rfl (by decide) c28 ?_
        obtain ⟨c29, W⟩ := W
        obtain ⟨c30, W⟩ := W
        refine zt_callSi (As := [zI x3, zI (M 10 x4)]) (rest := []) dX10_skyline_83 kX10_skyline_349 rfl rfl (Nat.le_of_ble_eq_true rfl) (c_greater c29 c30) (fun r31 N33 h32 => ?_)
        rw [h32.1, h32.2]
        refine zr_istore_n (l' := [(0, zA g 1), (1, zI x1), (2, zI x2), (3, zI (max x3 (M 10 x4))), (4, zI x4)]) dX10_skyline_86 (by decide) [1, 2, 3, 0, 4] rfl ?_
        refine zr_iinc (q := 4) (l' := [(0, zA g 1), (1, zI x1), (2, zI x2), (3, zI (max x3 (M 10 x4))), (4, zI (x4 + 1))]) dX10_skyline_87 rfl (by decide) [1, 2, 3, 4, 0] rfl ?_
        refine zr_goto (tgt := 41) dX10_skyline_90 (by decide) ?_
        exact W
