theorem dX9_runTrial_0 : decode cX9_runTrial 0 = .ok (.aload_n 0, 1) := by decide +kernel
theorem dX9_runTrial_1 : decode cX9_runTrial 1 = .ok (.getfield 54, 3) := by decide +kernel
theorem dX9_runTrial_4 : decode cX9_runTrial 4 = .ok (.aload_n 0, 1) := by decide +kernel
theorem dX9_runTrial_5 : decode cX9_runTrial 5 = .ok (.getfield 39, 3) := by decide +kernel
theorem dX9_runTrial_8 : decode cX9_runTrial 8 = .ok (.iload_n 1, 1) := by decide +kernel
theorem dX9_runTrial_9 : decode cX9_runTrial 9 = .ok (.invokevirtual 353, 3) := by decide +kernel
theorem dX9_runTrial_12 : decode cX9_runTrial 12 = .ok (.aload_n 0, 1) := by decide +kernel
theorem dX9_runTrial_13 : decode cX9_runTrial 13 = .ok (.getfield 54, 3) := by decide +kernel
theorem dX9_runTrial_16 : decode cX9_runTrial 16 = .ok (.iload_n 2, 1) := by decide +kernel
theorem dX9_runTrial_17 : decode cX9_runTrial 17 = .ok (.invokevirtual 188, 3) := by decide +kernel
theorem dX9_runTrial_20 : decode cX9_runTrial 20 = .ok (.ireturn, 1) := by decide +kernel
set_option maxRecDepth 100000 in
theorem SX9_runTrial_0 {g : zG} {o : Bool} {M : zM} {q : Int → zM → Prop} {x1 x2 : Int} (W : ∃ q1 : zM → Prop, zKv g (z1 o) mX7_startFrom [zA g 34, zA g 24, zI x1] M q1 ∧ ∀ M3 : zM, q1 M3 → ∃ q6 : Int → zM → Prop, zKi g (z1 o) mX7_blowOn [zA g 34, zI x2] M3 q6 ∧ ∀ (r7 : Int) (M8 : zM), q6 r7 M8 → q r7 M8) : zT g (z1 o) mX9_runTrial (zQi (z1 o) q) 0 [(0, zA g 1), (1, zI x1), (2, zI x2)] [] M := by
  refine zr_aload_n 0 dX9_runTrial_0 rfl ?_
  refine zr_getr (b := 34) dX9_runTrial_1 fX9_54 rfl rfl rfl (by decide) ?_
  refine zr_aload_n 0 dX9_runTrial_4 rfl ?_
  refine zr_getr (b := 24) dX9_runTrial_5 fX9_39 rfl rfl rfl (by decide) ?_
  refine zr_iload_n 1 dX9_runTrial_8 rfl ?_
  obtain ⟨q1, k5, W⟩ := W
  refine zt_callVv (As := [zA g 24, zI x1]) (rest := []) dX9_runTrial_9 kX9_runTrial_353 rfl rfl rfl rfl (Nat.le_of_ble_eq_true rfl) k5 (fun M3 h4 => ?_)
  have W := W M3 h4
  refine zr_aload_n 0 dX9_runTrial_12 rfl ?_
  refine zr_getr (b := 34) dX9_runTrial_13 fX9_54 rfl rfl rfl (by decide) ?_
  refine zr_iload_n 2 dX9_runTrial_16 rfl ?_
  obtain ⟨q6, k10, W⟩ := W
  refine zt_callVi (As := [zI x2]) (rest := []) dX9_runTrial_17 kX9_runTrial_188 rfl rfl rfl rfl (Nat.le_of_ble_eq_true rfl) k10 (fun r7 M8 h9 => ?_)
  have W := W r7 M8 h9
  exact zt_iret dX9_runTrial_20 rfl W
theorem dX9_would_0 : decode cX9_would 0 = .ok (.iload_n 1, 1) := by decide +kernel
theorem dX9_would_1 : decode cX9_would 1 = .ok (.ifCond .lt 21, 3) := by decide +kernel
theorem dX9_would_4 : decode cX9_would 4 = .ok (.iload_n 1, 1) := by decide +kernel
theorem dX9_would_5 : decode cX9_would 5 = .ok (.sipush 500, 3) := by decide +kernel
theorem dX9_would_8 : decode cX9_would 8 = .ok (.if_icmp .gt 14, 3) := by decide +kernel
theorem dX9_would_11 : decode cX9_would 11 = .ok (.aload_n 0, 1) := by decide +kernel
theorem dX9_would_12 : decode cX9_would 12 = .ok (.getfield 28, 3) := by decide +kernel
theorem dX9_would_15 : decode cX9_would 15 = .ok (.iload_n 2, 1) := by decide +kernel
theorem dX9_would_16 : decode cX9_would 16 = .ok (.invokevirtual 148, 3) := by decide +kernel
theorem dX9_would_19 : decode cX9_would 19 = .ok (.ifCond .ne 5, 3) := by decide +kernel
theorem dX9_would_22 : decode cX9_would 22 = .ok (.iconst (-1), 1) := by decide +kernel
theorem dX9_would_23 : decode cX9_would 23 = .ok (.ireturn, 1) := by decide +kernel
theorem dX9_would_24 : decode cX9_would 24 = .ok (.aload_n 0, 1) := by decide +kernel
theorem dX9_would_25 : decode cX9_would 25 = .ok (.aload_n 0, 1) := by decide +kernel
theorem dX9_would_26 : decode cX9_would 26 = .ok (.getfield 39, 3) := by decide +kernel
theorem dX9_would_29 : decode cX9_would 29 = .ok (.getfield 338, 3) := by decide +kernel
theorem dX9_would_32 : decode cX9_would 32 = .ok (.iload_n 1, 1) := by decide +kernel
theorem dX9_would_33 : decode cX9_would 33 = .ok (.invokevirtual 341, 3) := by decide +kernel
theorem dX9_would_36 : decode cX9_would 36 = .ok (.pop, 1) := by decide +kernel
theorem dX9_would_37 : decode cX9_would 37 = .ok (.aload_n 0, 1) := by decide +kernel
theorem dX9_would_38 : decode cX9_would 38 = .ok (.getfield 42, 3) := by decide +kernel
theorem dX9_would_41 : decode cX9_would 41 = .ok (.getfield 152, 3) := by decide +kernel
theorem dX9_would_44 : decode cX9_would 44 = .ok (.iload_n 2, 1) := by decide +kernel
theorem dX9_would_45 : decode cX9_would 45 = .ok (.iaload, 1) := by decide +kernel
theorem dX9_would_46 : decode cX9_would 46 = .ok (.ireturn, 1) := by decide +kernel
set_option maxRecDepth 100000 in
theorem SX9_would_0 {g : zG} {o : Bool} {C R : Int} {M : zM} {q : Int → zM → Prop} {x1 x2 : Int} (W : (-2147483648 ≤ x1 ∧ x1 ≤ 2147483647) ∧ ((x1 < 0) → q (-1) M) ∧ ((¬ (x1 < 0)) → ((500 < x1) → q (-1) M) ∧ ((¬ (500 < x1)) → (-2147483648 ≤ x2 ∧ x2 ≤ 2147483647) ∧ (zLand M C R) ∧ ((0 ≤ x2 ∧ x2 < C * R) → ∃ q7 : Int → zM → Prop, zKi g (z1 o) mX9_runTrial [zA g 1, zI (M 24 3), zI x1] M q7 ∧ ∀ (r8 : Int) (M9 : zM), q7 r8 M9 → (0 ≤ x2 ∧ x2 < 96) ∧ q (M9 29 x2) M9) ∧ ((¬ (0 ≤ x2 ∧ x2 < C * R)) → q (-1) M)))) : zT g (z1 o) mX9_would (zQi (z1 o) q) 0 [(0, zA g 1), (1, zI x1), (2, zI x2)] [] M := by
  refine zr_iload_n 1 dX9_would_0 rfl ?_
  obtain ⟨c1, W⟩ := W
  refine zr_if_lt (tgt := 22) dX9_would_1 (by decide) c1 (fun h => ?_) (fun h => ?_)
  · have W := W.1 h
    refine zr_iconst dX9_would_22 ?_
    exact zt_iret dX9_would_23 rfl W
  · have W := W.2 h
    refine zr_iload_n 1 dX9_would_4 rfl ?_
    refine zr_sipush dX9_would_5 (by decide) ?_
    refine zr_icmp_gt (tgt := 22) dX9_would_8 (by decide) c1 ⟨by decide, by decide⟩ (fun h => ?_) (fun h => ?_)
    · have W := W.1 h
      refine zr_iconst dX9_would_22 ?_
      exact zt_iret dX9_would_23 rfl W
    · have W := W.2 h
      refine zr_aload_n 0 dX9_would_11 rfl ?_
      refine zr_getr (b := 14) dX9_would_12 fX9_28 rfl rfl rfl (by decide) ?_
      refine zr_iload_n 2 dX9_would_15 rfl ?_
      obtain ⟨c2, W⟩ := W
      obtain ⟨c3, W⟩ := W
      refine zt_callVi (As := [zI x2]) (rest := []) dX9_would_16 kX9_would_148 rfl rfl rfl rfl (Nat.le_of_ble_eq_true rfl) (c_has c2 c3) (fun r4 N6 h5 => ?_)
      rw [h5.1, h5.2]
      refine zt_ifne_b (tgt := 24) dX9_would_19 (by decide) (fun h => ?_) (fun h => ?_)
      · have W := W.1 h
        refine zr_aload_n 0 dX9_would_24 rfl ?_
        refine zr_aload_n 0 dX9_would_25 rfl ?_
        refine zr_getr (b := 24) dX9_would_26 fX9_39 rfl rfl rfl (by decide) ?_
        refine zt_geti 3 rfl dX9_would_29 fX9_338 rfl (by decide) ?_
        refine zr_iload_n 1 dX9_would_32 rfl ?_
        obtain ⟨q7, k11, W⟩ := W
        refine zt_callVi (As := [zI (M 24 3), zI x1]) (rest := []) dX9_would_33 kX9_would_341 rfl rfl rfl rfl (Nat.le_of_ble_eq_true rfl) k11 (fun r8 M9 h10 => ?_)
        have W := W r8 M9 h10
        refine zr_pop dX9_would_36 rfl ?_
        refine zr_aload_n 0 dX9_would_37 rfl ?_
        refine zr_getr (b := 28) dX9_would_38 fX9_42 rfl rfl rfl (by decide) ?_
        refine zr_getr (b := 29) dX9_would_41 fX9_152 rfl rfl rfl (by decide) ?_
        refine zr_iload_n 2 dX9_would_44 rfl ?_
        obtain ⟨c12, W⟩ := W
        refine zr_iald dX9_would_45 rfl (by decide) c12 ?_
        exact zt_iret dX9_would_46 rfl W
      · have W := W.2 h
        refine zr_iconst dX9_would_22 ?_
        exact zt_iret dX9_would_23 rfl W
theorem dX9_next_0 : decode cX9_next 0 = .ok (.iload_n 1, 1) := by decide +kernel
theorem dX9_next_1 : decode cX9_next 1 = .ok (.ifCond .lt 19, 3) := by decide +kernel
theorem dX9_next_4 : decode cX9_next 4 = .ok (.iload_n 1, 1) := by decide +kernel
theorem dX9_next_5 : decode cX9_next 5 = .ok (.sipush 500, 3) := by decide +kernel
theorem dX9_next_8 : decode cX9_next 8 = .ok (.if_icmp .gt 12, 3) := by decide +kernel
theorem dX9_next_11 : decode cX9_next 11 = .ok (.iload_n 2, 1) := by decide +kernel
theorem dX9_next_12 : decode cX9_next 12 = .ok (.ifCond .lt 8, 3) := by decide +kernel
theorem dX9_next_15 : decode cX9_next 15 = .ok (.iload_n 2, 1) := by decide +kernel
theorem dX9_next_16 : decode cX9_next 16 = .ok (.iconst 2, 1) := by decide +kernel
theorem dX9_next_17 : decode cX9_next 17 = .ok (.if_icmp .le 5, 3) := by decide +kernel
theorem dX9_next_20 : decode cX9_next 20 = .ok (.iconst (-1), 1) := by decide +kernel
theorem dX9_next_21 : decode cX9_next 21 = .ok (.ireturn, 1) := by decide +kernel
theorem dX9_next_22 : decode cX9_next 22 = .ok (.aload_n 0, 1) := by decide +kernel
theorem dX9_next_23 : decode cX9_next 23 = .ok (.aload_n 0, 1) := by decide +kernel
theorem dX9_next_24 : decode cX9_next 24 = .ok (.getfield 39, 3) := by decide +kernel
theorem dX9_next_27 : decode cX9_next 27 = .ok (.getfield 338, 3) := by decide +kernel
theorem dX9_next_30 : decode cX9_next 30 = .ok (.iload_n 1, 1) := by decide +kernel
theorem dX9_next_31 : decode cX9_next 31 = .ok (.invokevirtual 341, 3) := by decide +kernel
theorem dX9_next_34 : decode cX9_next 34 = .ok (.istore_n 3, 1) := by decide +kernel
theorem dX9_next_35 : decode cX9_next 35 = .ok (.iload_n 2, 1) := by decide +kernel
theorem dX9_next_36 : decode cX9_next 36 = .ok (.lookupswitch 40 #[(0, 28), (1, 32)], 28) := by decide +kernel
theorem dX9_next_64 : decode cX9_next 64 = .ok (.iload_n 1, 1) := by decide +kernel
theorem dX9_next_65 : decode cX9_next 65 = .ok (.iload_n 3, 1) := by decide +kernel
theorem dX9_next_66 : decode cX9_next 66 = .ok (.isub, 1) := by decide +kernel
theorem dX9_next_67 : decode cX9_next 67 = .ok (.ireturn, 1) := by decide +kernel
theorem dX9_next_68 : decode cX9_next 68 = .ok (.aload_n 0, 1) := by decide +kernel
theorem dX9_next_69 : decode cX9_next 69 = .ok (.getfield 54, 3) := by decide +kernel
theorem dX9_next_72 : decode cX9_next 72 = .ok (.getfield 344, 3) := by decide +kernel
theorem dX9_next_75 : decode cX9_next 75 = .ok (.ireturn, 1) := by decide +kernel
theorem dX9_next_76 : decode cX9_next 76 = .ok (.aload_n 0, 1) := by decide +kernel
theorem dX9_next_77 : decode cX9_next 77 = .ok (.getfield 54, 3) := by decide +kernel
theorem dX9_next_80 : decode cX9_next 80 = .ok (.getfield 347, 3) := by decide +kernel
theorem dX9_next_83 : decode cX9_next 83 = .ok (.ireturn, 1) := by decide +kernel
set_option maxRecDepth 100000 in
theorem SX9_next_0 {g : zG} {o : Bool} {M : zM} {q : Int → zM → Prop} {x1 x2 : Int} (W : (-2147483648 ≤ x1 ∧ x1 ≤ 2147483647) ∧ ((x1 < 0) → q (-1) M) ∧ ((¬ (x1 < 0)) → ((500 < x1) → q (-1) M) ∧ ((¬ (500 < x1)) → (-2147483648 ≤ x2 ∧ x2 ≤ 2147483647) ∧ ((x2 < 0) → q (-1) M) ∧ ((¬ (x2 < 0)) → ((x2 ≤ 2) → ∃ q3 : Int → zM → Prop, zKi g (z1 o) mX9_runTrial [zA g 1, zI (M 24 3), zI x1] M q3 ∧ ∀ (r4 : Int) (M5 : zM), q3 r4 M5 → (x2 = 0 → q (x1 - r4) M5) ∧ (x2 = 1 → q (M5 34 3) M5) ∧ (x2 ≠ 0 ∧ x2 ≠ 1 → q (M5 34 4) M5)) ∧ ((¬ (x2 ≤ 2)) → q (-1) M))))) : zT g (z1 o) mX9_next (zQi (z1 o) q) 0 [(0, zA g 1), (1, zI x1), (2, zI x2)] [] M := by
  refine zr_iload_n 1 dX9_next_0 rfl ?_
  obtain ⟨c1, W⟩ := W
  refine zr_if_lt (tgt := 20) dX9_next_1 (by decide) c1 (fun h => ?_) (fun h => ?_)
  · have W := W.1 h
    refine zr_iconst dX9_next_20 ?_
    exact zt_iret dX9_next_21 rfl W
  · have W := W.2 h
    refine zr_iload_n 1 dX9_next_4 rfl ?_
    refine zr_sipush dX9_next_5 (by decide) ?_
    refine zr_icmp_gt (tgt := 20) dX9_next_8 (by decide) c1 ⟨by decide, by decide⟩ (fun h => ?_) (fun h => ?_)
    · have W := W.1 h
      refine zr_iconst dX9_next_20 ?_
      exact zt_iret dX9_next_21 rfl W
    · have W := W.2 h
      refine zr_iload_n 2 dX9_next_11 rfl ?_
      obtain ⟨c2, W⟩ := W
      refine zr_if_lt (tgt := 20) dX9_next_12 (by decide) c2 (fun h => ?_) (fun h => ?_)
      · have W := W.1 h
        refine zr_iconst dX9_next_20 ?_
        exact zt_iret dX9_next_21 rfl W
      · have W := W.2 h
        refine zr_iload_n 2 dX9_next_15 rfl ?_
        refine zr_iconst dX9_next_16 ?_
        refine zr_icmp_le (tgt := 22) dX9_next_17 (by decide) c2 ⟨by decide, by decide⟩ (fun h => ?_) (fun h => ?_)
        · have W := W.1 h
          refine zr_aload_n 0 dX9_next_22 rfl ?_
          refine zr_aload_n 0 dX9_next_23 rfl ?_
          refine zr_getr (b := 24) dX9_next_24 fX9_39 rfl rfl rfl (by decide) ?_
          refine zt_geti 3 rfl dX9_next_27 fX9_338 rfl (by decide) ?_
          refine zr_iload_n 1 dX9_next_30 rfl ?_
          obtain ⟨q3, k7, W⟩ := W
          refine zt_callVi (As := [zI (M 24 3), zI x1]) (rest := []) dX9_next_31 kX9_next_341 rfl rfl rfl rfl (Nat.le_of_ble_eq_true rfl) k7 (fun r4 M5 h6 => ?_)
          have W := W r4 M5 h6
          refine zr_istore_n (l' := [(0, zA g 1), (1, zI x1), (2, zI x2), (3, zI r4)]) dX9_next_34 (by decide) [1, 2, 3, 0] rfl ?_
          refine zr_iload_n 2 dX9_next_35 rfl ?_
          by_cases e0 : x2 = 0
          · have W := W.1 e0
            refine zr_look (tgt := 64) dX9_next_36 (by decide) c2 (by rw [e0] <;> rfl) (by decide) ?_
            refine zr_iload_n 1 dX9_next_64 rfl ?_
            refine zr_iload_n 3 dX9_next_65 rfl ?_
            refine zr_isub dX9_next_66 ?_
            exact zt_iret dX9_next_67 rfl W
          by_cases e1 : x2 = 1
          · have W := W.2.1 e1
            refine zr_look (tgt := 68) dX9_next_36 (by decide) c2 (by rw [e1] <;> rfl) (by decide) ?_
            refine zr_aload_n 0 dX9_next_68 rfl ?_
            refine zr_getr (b := 34) dX9_next_69 fX9_54 rfl rfl rfl (by decide) ?_
            refine zt_geti 3 rfl dX9_next_72 fX9_344 rfl (by decide) ?_
            exact zt_iret dX9_next_75 rfl W
          have W := W.2.2 ⟨e0, e1⟩
          refine zr_look (tgt := 76) (off := 40) dX9_next_36 (by decide) c2 (by simp [Op.lookupswitch.offset_cons, Op.lookupswitch.offset, e0, Ne.symm e0, e1, Ne.symm e1]) (by decide) ?_
          refine zr_aload_n 0 dX9_next_76 rfl ?_
          refine zr_getr (b := 34) dX9_next_77 fX9_54 rfl rfl rfl (by decide) ?_
          refine zt_geti 4 rfl dX9_next_80 fX9_347 rfl (by decide) ?_
          exact zt_iret dX9_next_83 rfl W
        · have W := W.2 h
          refine zr_iconst dX9_next_20 ?_
          exact zt_iret dX9_next_21 rfl W
theorem dX9_flux_0 : decode cX9_flux 0 = .ok (.iload_n 1, 1) := by decide +kernel
theorem dX9_flux_1 : decode cX9_flux 1 = .ok (.ifCond .lt 25, 3) := by decide +kernel
theorem dX9_flux_4 : decode cX9_flux 4 = .ok (.iload_n 1, 1) := by decide +kernel
theorem dX9_flux_5 : decode cX9_flux 5 = .ok (.aload_n 0, 1) := by decide +kernel
theorem dX9_flux_6 : decode cX9_flux 6 = .ok (.getfield 28, 3) := by decide +kernel
theorem dX9_flux_9 : decode cX9_flux 9 = .ok (.getfield 246, 3) := by decide +kernel
theorem dX9_flux_12 : decode cX9_flux 12 = .ok (.if_icmp .ge 14, 3) := by decide +kernel
theorem dX9_flux_15 : decode cX9_flux 15 = .ok (.iload_n 2, 1) := by decide +kernel
theorem dX9_flux_16 : decode cX9_flux 16 = .ok (.ifCond .lt 10, 3) := by decide +kernel
theorem dX9_flux_19 : decode cX9_flux 19 = .ok (.iload_n 2, 1) := by decide +kernel
theorem dX9_flux_20 : decode cX9_flux 20 = .ok (.sipush 500, 3) := by decide +kernel
theorem dX9_flux_23 : decode cX9_flux 23 = .ok (.if_icmp .le 5, 3) := by decide +kernel
theorem dX9_flux_26 : decode cX9_flux 26 = .ok (.iconst (-1), 1) := by decide +kernel
theorem dX9_flux_27 : decode cX9_flux 27 = .ok (.ireturn, 1) := by decide +kernel
theorem dX9_flux_28 : decode cX9_flux 28 = .ok (.aload_n 0, 1) := by decide +kernel
theorem dX9_flux_29 : decode cX9_flux 29 = .ok (.aload_n 0, 1) := by decide +kernel
theorem dX9_flux_30 : decode cX9_flux 30 = .ok (.getfield 39, 3) := by decide +kernel
theorem dX9_flux_33 : decode cX9_flux 33 = .ok (.getfield 338, 3) := by decide +kernel
theorem dX9_flux_36 : decode cX9_flux 36 = .ok (.iload_n 2, 1) := by decide +kernel
theorem dX9_flux_37 : decode cX9_flux 37 = .ok (.invokevirtual 341, 3) := by decide +kernel
theorem dX9_flux_40 : decode cX9_flux 40 = .ok (.pop, 1) := by decide +kernel
theorem dX9_flux_41 : decode cX9_flux 41 = .ok (.aload_n 0, 1) := by decide +kernel
theorem dX9_flux_42 : decode cX9_flux 42 = .ok (.getfield 54, 3) := by decide +kernel
theorem dX9_flux_45 : decode cX9_flux 45 = .ok (.getfield 350, 3) := by decide +kernel
theorem dX9_flux_48 : decode cX9_flux 48 = .ok (.iload_n 1, 1) := by decide +kernel
theorem dX9_flux_49 : decode cX9_flux 49 = .ok (.iaload, 1) := by decide +kernel
theorem dX9_flux_50 : decode cX9_flux 50 = .ok (.ireturn, 1) := by decide +kernel
set_option maxRecDepth 100000 in
theorem SX9_flux_0 {g : zG} {o : Bool} {M : zM} {q : Int → zM → Prop} {x1 x2 : Int} (W : (-2147483648 ≤ x1 ∧ x1 ≤ 2147483647) ∧ ((x1 < 0) → q (-1) M) ∧ ((¬ (x1 < 0)) → (-2147483648 ≤ (M 14 0) ∧ (M 14 0) ≤ 2147483647) ∧ (((M 14 0) ≤ x1) → q (-1) M) ∧ ((¬ ((M 14 0) ≤ x1)) → (-2147483648 ≤ x2 ∧ x2 ≤ 2147483647) ∧ ((x2 < 0) → q (-1) M) ∧ ((¬ (x2 < 0)) → ((x2 ≤ 500) → ∃ q4 : Int → zM → Prop, zKi g (z1 o) mX9_runTrial [zA g 1, zI (M 24 3), zI x2] M q4 ∧ ∀ (r5 : Int) (M6 : zM), q4 r5 M6 → (0 ≤ x1 ∧ x1 < 12) ∧ q (M6 35 x1) M6) ∧ ((¬ (x2 ≤ 500)) → q (-1) M))))) : zT g (z1 o) mX9_flux (zQi (z1 o) q) 0 [(0, zA g 1), (1, zI x1), (2, zI x2)] [] M := by
  refine zr_iload_n 1 dX9_flux_0 rfl ?_
  obtain ⟨c1, W⟩ := W
  refine zr_if_lt (tgt := 26) dX9_flux_1 (by decide) c1 (fun h => ?_) (fun h => ?_)
  · have W := W.1 h
    refine zr_iconst dX9_flux_26 ?_
    exact zt_iret dX9_flux_27 rfl W
  · have W := W.2 h
    refine zr_iload_n 1 dX9_flux_4 rfl ?_
    refine zr_aload_n 0 dX9_flux_5 rfl ?_
    refine zr_getr (b := 14) dX9_flux_6 fX9_28 rfl rfl rfl (by decide) ?_
    refine zt_geti 0 rfl dX9_flux_9 fX9_246 rfl (by decide) ?_
    obtain ⟨c2, W⟩ := W
    refine zr_icmp_ge (tgt := 26) dX9_flux_12 (by decide) c1 c2 (fun h => ?_) (fun h => ?_)
    · have W := W.1 h
      refine zr_iconst dX9_flux_26 ?_
      exact zt_iret dX9_flux_27 rfl W
    · have W := W.2 h
      refine zr_iload_n 2 dX9_flux_15 rfl ?_
      obtain ⟨c3, W⟩ := W
      refine zr_if_lt (tgt := 26) dX9_flux_16 (by decide) c3 (fun h => ?_) (fun h => ?_)
      · have W := W.1 h
        refine zr_iconst dX9_flux_26 ?_
        exact zt_iret dX9_flux_27 rfl W
      · have W := W.2 h
        refine zr_iload_n 2 dX9_flux_19 rfl ?_
        refine zr_sipush dX9_flux_20 (by decide) ?_
        refine zr_icmp_le (tgt := 28) dX9_flux_23 (by decide) c3 ⟨by decide, by decide⟩ (fun h => ?_) (fun h => ?_)
        · have W := W.1 h
          refine zr_aload_n 0 dX9_flux_28 rfl ?_
          refine zr_aload_n 0 dX9_flux_29 rfl ?_
          refine zr_getr (b := 24) dX9_flux_30 fX9_39 rfl rfl rfl (by decide) ?_
          refine zt_geti 3 rfl dX9_flux_33 fX9_338 rfl (by decide) ?_
          refine zr_iload_n 2 dX9_flux_36 rfl ?_
          obtain ⟨q4, k8, W⟩ := W
          refine zt_callVi (As := [zI (M 24 3), zI x2]) (rest := []) dX9_flux_37 kX9_flux_341 rfl rfl rfl rfl (Nat.le_of_ble_eq_true rfl) k8 (fun r5 M6 h7 => ?_)
          have W := W r5 M6 h7
          refine zr_pop dX9_flux_40 rfl ?_
          refine zr_aload_n 0 dX9_flux_41 rfl ?_
          refine zr_getr (b := 34) dX9_flux_42 fX9_54 rfl rfl rfl (by decide) ?_
          refine zr_getr (b := 35) dX9_flux_45 fX9_350 rfl rfl rfl (by decide) ?_
          refine zr_iload_n 1 dX9_flux_48 rfl ?_
          obtain ⟨c9, W⟩ := W
          refine zr_iald dX9_flux_49 rfl (by decide) c9 ?_
          exact zt_iret dX9_flux_50 rfl W
        · have W := W.2 h
          refine zr_iconst dX9_flux_26 ?_
          exact zt_iret dX9_flux_27 rfl W
theorem dX9_tallest_0 : decode cX9_tallest 0 = .ok (.iload_n 1, 1) := by decide +kernel
theorem dX9_tallest_1 : decode cX9_tallest 1 = .ok (.ifCond .lt 19, 3) := by decide +kernel
theorem dX9_tallest_4 : decode cX9_tallest 4 = .ok (.iload_n 1, 1) := by decide +kernel
theorem dX9_tallest_5 : decode cX9_tallest 5 = .ok (.sipush 200, 3) := by decide +kernel
theorem dX9_tallest_8 : decode cX9_tallest 8 = .ok (.if_icmp .gt 12, 3) := by decide +kernel
theorem dX9_tallest_11 : decode cX9_tallest 11 = .ok (.iload_n 2, 1) := by decide +kernel
theorem dX9_tallest_12 : decode cX9_tallest 12 = .ok (.ifCond .lt 8, 3) := by decide +kernel
theorem dX9_tallest_15 : decode cX9_tallest 15 = .ok (.iload_n 2, 1) := by decide +kernel
theorem dX9_tallest_16 : decode cX9_tallest 16 = .ok (.iconst 1, 1) := by decide +kernel
theorem dX9_tallest_17 : decode cX9_tallest 17 = .ok (.if_icmp .le 5, 3) := by decide +kernel
theorem dX9_tallest_20 : decode cX9_tallest 20 = .ok (.iconst (-1), 1) := by decide +kernel
theorem dX9_tallest_21 : decode cX9_tallest 21 = .ok (.ireturn, 1) := by decide +kernel
theorem dX9_tallest_22 : decode cX9_tallest 22 = .ok (.iconst 0, 1) := by decide +kernel
theorem dX9_tallest_23 : decode cX9_tallest 23 = .ok (.istore_n 3, 1) := by decide +kernel
theorem dX9_tallest_24 : decode cX9_tallest 24 = .ok (.iconst (-1), 1) := by decide +kernel
theorem dX9_tallest_25 : decode cX9_tallest 25 = .ok (.istore 4, 2) := by decide +kernel
theorem dX9_tallest_27 : decode cX9_tallest 27 = .ok (.iconst 0, 1) := by decide +kernel
theorem dX9_tallest_28 : decode cX9_tallest 28 = .ok (.istore 5, 2) := by decide +kernel
theorem dX9_tallest_30 : decode cX9_tallest 30 = .ok (.iload 5, 2) := by decide +kernel
theorem dX9_tallest_32 : decode cX9_tallest 32 = .ok (.bipush 50, 2) := by decide +kernel
theorem dX9_tallest_34 : decode cX9_tallest 34 = .ok (.if_icmp .ge 40, 3) := by decide +kernel
theorem dX9_tallest_37 : decode cX9_tallest 37 = .ok (.aload_n 0, 1) := by decide +kernel
theorem dX9_tallest_38 : decode cX9_tallest 38 = .ok (.iload 5, 2) := by decide +kernel
theorem dX9_tallest_40 : decode cX9_tallest 40 = .ok (.iload_n 1, 1) := by decide +kernel
theorem dX9_tallest_41 : decode cX9_tallest 41 = .ok (.invokevirtual 341, 3) := by decide +kernel
theorem dX9_tallest_44 : decode cX9_tallest 44 = .ok (.pop, 1) := by decide +kernel
theorem dX9_tallest_45 : decode cX9_tallest 45 = .ok (.aload_n 0, 1) := by decide +kernel
theorem dX9_tallest_46 : decode cX9_tallest 46 = .ok (.getfield 42, 3) := by decide +kernel
theorem dX9_tallest_49 : decode cX9_tallest 49 = .ok (.invokevirtual 222, 3) := by decide +kernel
theorem dX9_tallest_52 : decode cX9_tallest 52 = .ok (.istore 6, 2) := by decide +kernel
theorem dX9_tallest_54 : decode cX9_tallest 54 = .ok (.iload 6, 2) := by decide +kernel
theorem dX9_tallest_56 : decode cX9_tallest 56 = .ok (.iload 4, 2) := by decide +kernel
theorem dX9_tallest_58 : decode cX9_tallest 58 = .ok (.if_icmp .le 10, 3) := by decide +kernel
theorem dX9_tallest_61 : decode cX9_tallest 61 = .ok (.iload 6, 2) := by decide +kernel
theorem dX9_tallest_63 : decode cX9_tallest 63 = .ok (.istore 4, 2) := by decide +kernel
theorem dX9_tallest_65 : decode cX9_tallest 65 = .ok (.iload 5, 2) := by decide +kernel
theorem dX9_tallest_67 : decode cX9_tallest 67 = .ok (.istore_n 3, 1) := by decide +kernel
theorem dX9_tallest_68 : decode cX9_tallest 68 = .ok (.iinc 5 1, 3) := by decide +kernel
theorem dX9_tallest_71 : decode cX9_tallest 71 = .ok (.goto (-41), 3) := by decide +kernel
theorem dX9_tallest_74 : decode cX9_tallest 74 = .ok (.iload_n 2, 1) := by decide +kernel
theorem dX9_tallest_75 : decode cX9_tallest 75 = .ok (.ifCond .ne 7, 3) := by decide +kernel
theorem dX9_tallest_78 : decode cX9_tallest 78 = .ok (.iload_n 3, 1) := by decide +kernel
theorem dX9_tallest_79 : decode cX9_tallest 79 = .ok (.goto 5, 3) := by decide +kernel
theorem dX9_tallest_82 : decode cX9_tallest 82 = .ok (.iload 4, 2) := by decide +kernel
theorem dX9_tallest_84 : decode cX9_tallest 84 = .ok (.ireturn, 1) := by decide +kernel
set_option maxRecDepth 100000 in
theorem SX9_tallest_0 {g : zG} {o : Bool} {M : zM} {q : Int → zM → Prop} {x1 x2 : Int} (W : (-2147483648 ≤ x1 ∧ x1 ≤ 2147483647) ∧ ((x1 < 0) → q (-1) M) ∧ ((¬ (x1 < 0)) → ((200 < x1) → q (-1) M) ∧ ((¬ (200 < x1)) → (-2147483648 ≤ x2 ∧ x2 ≤ 2147483647) ∧ ((x2 < 0) → q (-1) M) ∧ ((¬ (x2 < 0)) → ((x2 ≤ 1) → zT g (z1 o) mX9_tallest (zQi (z1 o) q) 30 [(0, zA g 1), (1, zI x1), (2, zI x2), (3, zI 0), (4, zI (-1)), (5, zI 0)] [] M) ∧ ((¬ (x2 ≤ 1)) → q (-1) M))))) : zT g (z1 o) mX9_tallest (zQi (z1 o) q) 0 [(0, zA g 1), (1, zI x1), (2, zI x2)] [] M := by
  refine zr_iload_n 1 dX9_tallest_0 rfl ?_
  obtain ⟨c1, W⟩ := W
  refine zr_if_lt (tgt := 20) dX9_tallest_1 (by decide) c1 (fun h => ?_) (fun h => ?_)
  · have W := W.1 h
    refine zr_iconst dX9_tallest_20 ?_
    exact zt_iret dX9_tallest_21 rfl W
  · have W := W.2 h
    refine zr_iload_n 1 dX9_tallest_4 rfl ?_
    refine zr_sipush dX9_tallest_5 (by decide) ?_
    refine zr_icmp_gt (tgt := 20) dX9_tallest_8 (by decide) c1 ⟨by decide, by decide⟩ (fun h => ?_) (fun h => ?_)
    · have W := W.1 h
      refine zr_iconst dX9_tallest_20 ?_
      exact zt_iret dX9_tallest_21 rfl W
    · have W := W.2 h
      refine zr_iload_n 2 dX9_tallest_11 rfl ?_
      obtain ⟨c2, W⟩ := W
      refine zr_if_lt (tgt := 20) dX9_tallest_12 (by decide) c2 (fun h => ?_) (fun h => ?_)
      · have W := W.1 h
        refine zr_iconst dX9_tallest_20 ?_
        exact zt_iret dX9_tallest_21 rfl W
      · have W := W.2 h
        refine zr_iload_n 2 dX9_tallest_15 rfl ?_
        refine zr_iconst dX9_tallest_16 ?_
        refine zr_icmp_le (tgt := 22) dX9_tallest_17 (by decide) c2 ⟨by decide, by decide⟩ (fun h => ?_) (fun h => ?_)
        · have W := W.1 h
          refine zr_iconst dX9_tallest_22 ?_
          refine zr_istore_n (l' := [(0, zA g 1), (1, zI x1), (2, zI x2), (3, zI 0)]) dX9_tallest_23 (by decide) [1, 2, 3, 0] rfl ?_
          refine zr_iconst dX9_tallest_24 ?_
          refine zr_istore (l' := [(0, zA g 1), (1, zI x1), (2, zI x2), (3, zI 0), (4, zI (-1))]) dX9_tallest_25 (by decide) [1, 2, 3, 4, 0] rfl ?_
          refine zr_iconst dX9_tallest_27 ?_
          refine zr_istore (l' := [(0, zA g 1), (1, zI x1), (2, zI x2), (3, zI 0), (4, zI (-1)), (5, zI 0)]) dX9_tallest_28 (by decide) [1, 2, 3, 4, 5, 0] rfl ?_
          exact W
        · have W := W.2 h
          refine zr_iconst dX9_tallest_20 ?_
          exact zt_iret dX9_tallest_21 rfl W
set_option maxRecDepth 100000 in
theorem SX9_tallest_30 {g : zG} {o : Bool} {M : zM} {q : Int → zM → Prop} {x1 x2 x3 x4 x5 : Int} (W : (-2147483648 ≤ x5 ∧ x5 ≤ 2147483647) ∧ ((50 ≤ x5) → (-2147483648 ≤ x2 ∧ x2 ≤ 2147483647) ∧ ((x2 ≠ 0) → q x4 M) ∧ ((x2 = 0) → q x3 M)) ∧ ((¬ (50 ≤ x5)) → ∃ q3 : Int → zM → Prop, zKi g (z1 o) mX9_runTrial [zA g 1, zI x5, zI x1] M q3 ∧ ∀ (r4 : Int) (M5 : zM), q3 r4 M5 → (sOk M5 28) ∧ (-2147483648 ≤ (mxt (M5 29) 96) ∧ (mxt (M5 29) 96) ≤ 2147483647) ∧ (-2147483648 ≤ x4 ∧ x4 ≤ 2147483647) ∧ (((mxt (M5 29) 96) ≤ x4) → zT g (z1 o) mX9_tallest (zQi (z1 o) q) 30 [(0, zA g 1), (1, zI x1), (2, zI x2), (3, zI x3), (4, zI x4), (5, zI (x5 + 1))] [] M5) ∧ ((¬ ((mxt (M5 29) 96) ≤ x4)) → zT g (z1 o) mX9_tallest (zQi (z1 o) q) 30 [(0, zA g 1), (1, zI x1), (2, zI x2), (3, zI x5), (4, zI (mxt (M5 29) 96)), (5, zI (x5 + 1))] [] M5))) : zT g (z1 o) mX9_tallest (zQi (z1 o) q) 30 [(0, zA g 1), (1, zI x1), (2, zI x2), (3, zI x3), (4, zI x4), (5, zI x5)] [] M := by
  refine zr_iload 5 dX9_tallest_30 rfl ?_
  refine zr_bipush dX9_tallest_32 (by decide) ?_
  obtain ⟨c1, W⟩ := W
  refine zr_icmp_ge (tgt := 74) dX9_tallest_34 (by decide) c1 ⟨by decide, by decide⟩ (fun h => ?_) (fun h => ?_)
  · have W := W.1 h
    refine zr_iload_n 2 dX9_tallest_74 rfl ?_
    obtain ⟨c2, W⟩ := W
    refine zr_if_ne (tgt := 82) dX9_tallest_75 (by decide) c2 (fun h => ?_) (fun h => ?_)
    · have W := W.1 h
      refine zr_iload 4 dX9_tallest_82 rfl ?_
      exact zt_iret dX9_tallest_84 rfl W
    · have W := W.2 h
      refine zr_iload_n 3 dX9_tallest_78 rfl ?_
      refine zr_goto (tgt := 84) dX9_tallest_79 (by decide) ?_
      exact zt_iret dX9_tallest_84 rfl W
  · have W := W.2 h
    refine zr_aload_n 0 dX9_tallest_37 rfl ?_
    refine zr_iload 5 dX9_tallest_38 rfl ?_
    refine zr_iload_n 1 dX9_tallest_40 rfl ?_
    obtain ⟨q3, k7, W⟩ := W
    refine zt_callVi (As := [zI x5, zI x1]) (rest := []) dX9_tallest_41 kX9_tallest_341 rfl rfl rfl rfl (Nat.le_of_ble_eq_true rfl) k7 (fun r4 M5 h6 => ?_)
    have W := W r4 M5 h6
    refine zr_pop dX9_tallest_44 rfl ?_
    refine zr_aload_n 0 dX9_tallest_45 rfl ?_
    refine zr_getr (b := 28) dX9_tallest_46 fX9_42 rfl rfl rfl (by decide) ?_
    obtain ⟨c8, W⟩ := W
    refine zt_callVi (As := []) (rest := []) dX9_tallest_49 kX9_tallest_222 rfl rfl rfl rfl (Nat.le_of_ble_eq_true rfl) (c_highestK (show zSd 28 by unfold zSd; decide) c8) (fun r9 N11 h10 => ?_)
    rw [h10.1, h10.2]
    refine zr_istore (l' := [(0, zA g 1), (1, zI x1), (2, zI x2), (3, zI x3), (4, zI x4), (5, zI x5), (6, zI (mxt (M5 29) 96))]) dX9_tallest_52 (by decide) [1, 2, 3, 4, 5, 6, 0] rfl ?_
    refine zr_iload 6 dX9_tallest_54 rfl ?_
    refine zr_iload 4 dX9_tallest_56 rfl ?_
    obtain ⟨c12, W⟩ := W
    obtain ⟨c13, W⟩ := W
    refine zr_icmp_le (tgt := 68) dX9_tallest_58 (by decide) c12 c13 (fun h => ?_) (fun h => ?_)
    · have W := W.1 h
      refine zr_iinc (q := 5) (l' := [(0, zA g 1), (1, zI x1), (2, zI x2), (3, zI x3), (4, zI x4), (5, zI (x5 + 1))]) dX9_tallest_68 rfl (by decide) [1, 2, 3, 4, 5, 0] rfl ?_
      refine zr_goto (tgt := 30) dX9_tallest_71 (by decide) ?_
      exact W
    · have W := W.2 h
      refine zr_iload 6 dX9_tallest_61 rfl ?_
      refine zr_istore (l' := [(0, zA g 1), (1, zI x1), (2, zI x2), (4, zI (mxt (M5 29) 96)), (5, zI x5)]) dX9_tallest_63 (by decide) [1, 2, 3, 0, 5] rfl ?_
      refine zr_iload 4 dX9_tallest_65 rfl ?_
      refine zr_istore_n (l' := [(0, zA g 1), (1, zI x1), (2, zI x2), (3, zI x5), (4, zI (mxt (M5 29) 96)), (5, zI x5)]) dX9_tallest_67 (by decide) [1, 2, 3, 0, 4, 5] rfl ?_
      refine zr_iinc (q := 5) (l' := [(0, zA g 1), (1, zI x1), (2, zI x2), (3, zI x5), (4, zI (mxt (M5 29) 96)), (5, zI (x5 + 1))]) dX9_tallest_68 rfl (by decide) [1, 2, 3, 4, 5, 0] rfl ?_
      refine zr_goto (tgt := 30) dX9_tallest_71 (by decide) ?_
      exact W
theorem dX10_would_0 : decode cX10_would 0 = .ok (.iload_n 1, 1) := by decide +kernel
theorem dX10_would_1 : decode cX10_would 1 = .ok (.iconst 0, 1) := by decide +kernel
theorem dX10_would_2 : decode cX10_would 2 = .ok (.sipush 500, 3) := by decide +kernel
theorem dX10_would_5 : decode cX10_would 5 = .ok (.invokestatic 106, 3) := by decide +kernel
theorem dX10_would_8 : decode cX10_would 8 = .ok (.ifCond .eq 11, 3) := by decide +kernel
theorem dX10_would_11 : decode cX10_would 11 = .ok (.aload_n 0, 1) := by decide +kernel
theorem dX10_would_12 : decode cX10_would 12 = .ok (.iload_n 2, 1) := by decide +kernel
theorem dX10_would_13 : decode cX10_would 13 = .ok (.invokevirtual 336, 3) := by decide +kernel
theorem dX10_would_16 : decode cX10_would 16 = .ok (.ifCond .ne 5, 3) := by decide +kernel
theorem dX10_would_19 : decode cX10_would 19 = .ok (.iconst (-1), 1) := by decide +kernel
theorem dX10_would_20 : decode cX10_would 20 = .ok (.ireturn, 1) := by decide +kernel
theorem dX10_would_21 : decode cX10_would 21 = .ok (.aload_n 0, 1) := by decide +kernel
theorem dX10_would_22 : decode cX10_would 22 = .ok (.invokevirtual 327, 3) := by decide +kernel
theorem dX10_would_25 : decode cX10_would 25 = .ok (.aload_n 0, 1) := by decide +kernel
theorem dX10_would_26 : decode cX10_would 26 = .ok (.iload_n 1, 1) := by decide +kernel
theorem dX10_would_27 : decode cX10_would 27 = .ok (.invokevirtual 330, 3) := by decide +kernel
theorem dX10_would_30 : decode cX10_would 30 = .ok (.istore_n 3, 1) := by decide +kernel
theorem dX10_would_31 : decode cX10_would 31 = .ok (.aload_n 0, 1) := by decide +kernel
theorem dX10_would_32 : decode cX10_would 32 = .ok (.getfield 45, 3) := by decide +kernel
theorem dX10_would_35 : decode cX10_would 35 = .ok (.iload_n 2, 1) := by decide +kernel
theorem dX10_would_36 : decode cX10_would 36 = .ok (.iaload, 1) := by decide +kernel
theorem dX10_would_37 : decode cX10_would 37 = .ok (.ireturn, 1) := by decide +kernel
set_option maxRecDepth 100000 in
theorem SX10_would_0 {g : zG} {o : Bool} {C R : Int} {M : zM} {q : Int → zM → Prop} {x1 x2 : Int} (W : (-2147483648 ≤ x1 ∧ x1 ≤ 2147483647) ∧ ((¬ (0 ≤ x1 ∧ x1 ≤ 500)) → q (-1) M) ∧ ((0 ≤ x1 ∧ x1 ≤ 500) → (zRf M C R) ∧ (-2147483648 ≤ x2 ∧ x2 ≤ 2147483647) ∧ ((0 ≤ x2 ∧ x2 < C * R) → ∃ q10 : zM → Prop, zKv g (z2 o) mX10_goesOn [zA g 1] M q10 ∧ ∀ M12 : zM, q10 M12 → ∃ q15 : Int → zM → Prop, zKi g (z2 o) mX10_blows [zA g 1, zI x1] M12 q15 ∧ ∀ (r16 : Int) (M17 : zM), q15 r16 M17 → (0 ≤ x2 ∧ x2 < 198) ∧ q (M17 11 x2) M17) ∧ ((¬ (0 ≤ x2 ∧ x2 < C * R)) → q (-1) M))) : zT g (z2 o) mX10_would (zQi (z2 o) q) 0 [(0, zA g 1), (1, zI x1), (2, zI x2)] [] M := by
  refine zr_iload_n 1 dX10_would_0 rfl ?_
  refine zr_iconst dX10_would_1 ?_
  refine zr_sipush dX10_would_2 (by decide) ?_
  obtain ⟨c1, W⟩ := W
  refine zt_callSi (As := [zI x1, zI 0, zI 500]) (rest := []) dX10_would_5 kX10_would_106 rfl rfl (Nat.le_of_ble_eq_true rfl) (c_isIn c1 ⟨by decide, by decide⟩ ⟨by decide, by decide⟩) (fun r2 N4 h3 => ?_)
  rw [h3.1, h3.2]
  refine zt_ifeq_b (tgt := 19) dX10_would_8 (by decide) (fun h => ?_) (fun h => ?_)
  · have W := W.1 h
    refine zr_iconst dX10_would_19 ?_
    exact zt_iret dX10_would_20 rfl W
  · have W := W.2 h
    refine zr_aload_n 0 dX10_would_11 rfl ?_
    refine zr_iload_n 2 dX10_would_12 rfl ?_
    obtain ⟨c5, W⟩ := W
    obtain ⟨c6, W⟩ := W
    refine zt_callVi (As := [zI x2]) (rest := []) dX10_would_13 kX10_would_336 rfl rfl rfl rfl (Nat.le_of_ble_eq_true rfl) (c_isCell c5 c6) (fun r7 N9 h8 => ?_)
    rw [h8.1, h8.2]
    refine zt_ifne_b (tgt := 21) dX10_would_16 (by decide) (fun h => ?_) (fun h => ?_)
    · have W := W.1 h
      refine zr_aload_n 0 dX10_would_21 rfl ?_
      obtain ⟨q10, k14, W⟩ := W
      refine zt_callVv (As := []) (rest := []) dX10_would_22 kX10_would_327 rfl rfl rfl rfl (Nat.le_of_ble_eq_true rfl) k14 (fun M12 h13 => ?_)
      have W := W M12 h13
      refine zr_aload_n 0 dX10_would_25 rfl ?_
      refine zr_iload_n 1 dX10_would_26 rfl ?_
      obtain ⟨q15, k19, W⟩ := W
      refine zt_callVi (As := [zI x1]) (rest := []) dX10_would_27 kX10_would_330 rfl rfl rfl rfl (Nat.le_of_ble_eq_true rfl) k19 (fun r16 M17 h18 => ?_)
      have W := W r16 M17 h18
      refine zr_istore_n (l' := [(0, zA g 1), (2, zI x2)]) dX10_would_30 (by decide) [1, 3] rfl ?_
      refine zr_aload_n 0 dX10_would_31 rfl ?_
      refine zr_getr (b := 11) dX10_would_32 fX10_45 rfl rfl rfl (by decide) ?_
      refine zr_iload_n 1 dX10_would_35 rfl ?_
      obtain ⟨c20, W⟩ := W
      refine zr_iald dX10_would_36 rfl (by decide) c20 ?_
      exact zt_iret dX10_would_37 rfl W
    · have W := W.2 h
      refine zr_iconst dX10_would_19 ?_
      exact zt_iret dX10_would_20 rfl W
theorem dX10_next_0 : decode cX10_next 0 = .ok (.iload_n 1, 1) := by decide +kernel
theorem dX10_next_1 : decode cX10_next 1 = .ok (.iconst 0, 1) := by decide +kernel
theorem dX10_next_2 : decode cX10_next 2 = .ok (.sipush 500, 3) := by decide +kernel
theorem dX10_next_5 : decode cX10_next 5 = .ok (.invokestatic 106, 3) := by decide +kernel
theorem dX10_next_8 : decode cX10_next 8 = .ok (.ifCond .eq 12, 3) := by decide +kernel
theorem dX10_next_11 : decode cX10_next 11 = .ok (.iload_n 2, 1) := by decide +kernel
theorem dX10_next_12 : decode cX10_next 12 = .ok (.iconst 0, 1) := by decide +kernel
theorem dX10_next_13 : decode cX10_next 13 = .ok (.iconst 2, 1) := by decide +kernel
theorem dX10_next_14 : decode cX10_next 14 = .ok (.invokestatic 106, 3) := by decide +kernel
theorem dX10_next_17 : decode cX10_next 17 = .ok (.ifCond .ne 5, 3) := by decide +kernel
theorem dX10_next_20 : decode cX10_next 20 = .ok (.iconst (-1), 1) := by decide +kernel
theorem dX10_next_21 : decode cX10_next 21 = .ok (.ireturn, 1) := by decide +kernel
theorem dX10_next_22 : decode cX10_next 22 = .ok (.aload_n 0, 1) := by decide +kernel
theorem dX10_next_23 : decode cX10_next 23 = .ok (.invokevirtual 327, 3) := by decide +kernel
theorem dX10_next_26 : decode cX10_next 26 = .ok (.aload_n 0, 1) := by decide +kernel
theorem dX10_next_27 : decode cX10_next 27 = .ok (.iload_n 1, 1) := by decide +kernel
theorem dX10_next_28 : decode cX10_next 28 = .ok (.invokevirtual 330, 3) := by decide +kernel
theorem dX10_next_31 : decode cX10_next 31 = .ok (.istore_n 3, 1) := by decide +kernel
theorem dX10_next_32 : decode cX10_next 32 = .ok (.iload_n 2, 1) := by decide +kernel
theorem dX10_next_33 : decode cX10_next 33 = .ok (.ifCond .ne 9, 3) := by decide +kernel
theorem dX10_next_36 : decode cX10_next 36 = .ok (.iload_n 1, 1) := by decide +kernel
theorem dX10_next_37 : decode cX10_next 37 = .ok (.iload_n 3, 1) := by decide +kernel
theorem dX10_next_38 : decode cX10_next 38 = .ok (.isub, 1) := by decide +kernel
theorem dX10_next_39 : decode cX10_next 39 = .ok (.goto 19, 3) := by decide +kernel
theorem dX10_next_42 : decode cX10_next 42 = .ok (.iload_n 2, 1) := by decide +kernel
theorem dX10_next_43 : decode cX10_next 43 = .ok (.iconst 1, 1) := by decide +kernel
theorem dX10_next_44 : decode cX10_next 44 = .ok (.if_icmp .ne 10, 3) := by decide +kernel
theorem dX10_next_47 : decode cX10_next 47 = .ok (.aload_n 0, 1) := by decide +kernel
theorem dX10_next_48 : decode cX10_next 48 = .ok (.getfield 261, 3) := by decide +kernel
theorem dX10_next_51 : decode cX10_next 51 = .ok (.goto 7, 3) := by decide +kernel
theorem dX10_next_54 : decode cX10_next 54 = .ok (.aload_n 0, 1) := by decide +kernel
theorem dX10_next_55 : decode cX10_next 55 = .ok (.getfield 264, 3) := by decide +kernel
theorem dX10_next_58 : decode cX10_next 58 = .ok (.ireturn, 1) := by decide +kernel
set_option maxRecDepth 100000 in
theorem SX10_next_0 {g : zG} {o : Bool} {M : zM} {q : Int → zM → Prop} {x1 x2 : Int} (W : (-2147483648 ≤ x1 ∧ x1 ≤ 2147483647) ∧ ((¬ (0 ≤ x1 ∧ x1 ≤ 500)) → q (-1) M) ∧ ((0 ≤ x1 ∧ x1 ≤ 500) → (-2147483648 ≤ x2 ∧ x2 ≤ 2147483647) ∧ ((0 ≤ x2 ∧ x2 ≤ 2) → ∃ q9 : zM → Prop, zKv g (z2 o) mX10_goesOn [zA g 1] M q9 ∧ ∀ M11 : zM, q9 M11 → ∃ q14 : Int → zM → Prop, zKi g (z2 o) mX10_blows [zA g 1, zI x1] M11 q14 ∧ ∀ (r15 : Int) (M16 : zM), q14 r15 M16 → (-2147483648 ≤ x2 ∧ x2 ≤ 2147483647) ∧ ((x2 ≠ 0) → ((x2 ≠ 1) → q (M16 1 24) M16) ∧ ((x2 = 1) → q (M16 1 23) M16)) ∧ ((x2 = 0) → q (x1 - r15) M16)) ∧ ((¬ (0 ≤ x2 ∧ x2 ≤ 2)) → q (-1) M))) : zT g (z2 o) mX10_next (zQi (z2 o) q) 0 [(0, zA g 1), (1, zI x1), (2, zI x2)] [] M := by
  refine zr_iload_n 1 dX10_next_0 rfl ?_
  refine zr_iconst dX10_next_1 ?_
  refine zr_sipush dX10_next_2 (by decide) ?_
  obtain ⟨c1, W⟩ := W
  refine zt_callSi (As := [zI x1, zI 0, zI 500]) (rest := []) dX10_next_5 kX10_next_106 rfl rfl (Nat.le_of_ble_eq_true rfl) (c_isIn c1 ⟨by decide, by decide⟩ ⟨by decide, by decide⟩) (fun r2 N4 h3 => ?_)
  rw [h3.1, h3.2]
  refine zt_ifeq_b (tgt := 20) dX10_next_8 (by decide) (fun h => ?_) (fun h => ?_)
  · have W := W.1 h
    refine zr_iconst dX10_next_20 ?_
    exact zt_iret dX10_next_21 rfl W
  · have W := W.2 h
    refine zr_iload_n 2 dX10_next_11 rfl ?_
    refine zr_iconst dX10_next_12 ?_
    refine zr_iconst dX10_next_13 ?_
    obtain ⟨c5, W⟩ := W
    refine zt_callSi (As := [zI x2, zI 0, zI 2]) (rest := []) dX10_next_14 kX10_next_106 rfl rfl (Nat.le_of_ble_eq_true rfl) (c_isIn c5 ⟨by decide, by decide⟩ ⟨by decide, by decide⟩) (fun r6 N8 h7 => ?_)
    rw [h7.1, h7.2]
    refine zt_ifne_b (tgt := 22) dX10_next_17 (by decide) (fun h => ?_) (fun h => ?_)
    · have W := W.1 h
      refine zr_aload_n 0 dX10_next_22 rfl ?_
      obtain ⟨q9, k13, W⟩ := W
      refine zt_callVv (As := []) (rest := []) dX10_next_23 kX10_next_327 rfl rfl rfl rfl (Nat.le_of_ble_eq_true rfl) k13 (fun M11 h12 => ?_)
      have W := W M11 h12
      refine zr_aload_n 0 dX10_next_26 rfl ?_
      refine zr_iload_n 1 dX10_next_27 rfl ?_
      obtain ⟨q14, k18, W⟩ := W
      refine zt_callVi (As := [zI x1]) (rest := []) dX10_next_28 kX10_next_330 rfl rfl rfl rfl (Nat.le_of_ble_eq_true rfl) k18 (fun r15 M16 h17 => ?_)
      have W := W r15 M16 h17
      refine zr_istore_n (l' := [(0, zA g 1), (1, zI x1), (2, zI x2), (3, zI r15)]) dX10_next_31 (by decide) [1, 2, 3, 0] rfl ?_
      refine zr_iload_n 2 dX10_next_32 rfl ?_
      obtain ⟨c19, W⟩ := W
      refine zr_if_ne (tgt := 42) dX10_next_33 (by decide) c19 (fun h => ?_) (fun h => ?_)
      · have W := W.1 h
        refine zr_iload_n 2 dX10_next_42 rfl ?_
        refine zr_iconst dX10_next_43 ?_
        refine zr_icmp_ne (tgt := 54) dX10_next_44 (by decide) c19 ⟨by decide, by decide⟩ (fun h => ?_) (fun h => ?_)
        · have W := W.1 h
          refine zr_aload_n 0 dX10_next_54 rfl ?_
          refine zt_geti 24 rfl dX10_next_55 fX10_264 rfl (by decide) ?_
          exact zt_iret dX10_next_58 rfl W
        · have W := W.2 h
          refine zr_aload_n 0 dX10_next_47 rfl ?_
          refine zt_geti 23 rfl dX10_next_48 fX10_261 rfl (by decide) ?_
          refine zr_goto (tgt := 58) dX10_next_51 (by decide) ?_
          exact zt_iret dX10_next_58 rfl W
      · have W := W.2 h
        refine zr_iload_n 1 dX10_next_36 rfl ?_
        refine zr_iload_n 3 dX10_next_37 rfl ?_
        refine zr_isub dX10_next_38 ?_
        refine zr_goto (tgt := 58) dX10_next_39 (by decide) ?_
        exact zt_iret dX10_next_58 rfl W
    · have W := W.2 h
      refine zr_iconst dX10_next_20 ?_
      exact zt_iret dX10_next_21 rfl W
theorem dX10_flux_0 : decode cX10_flux 0 = .ok (.iload_n 1, 1) := by decide +kernel
theorem dX10_flux_1 : decode cX10_flux 1 = .ok (.iconst 0, 1) := by decide +kernel
theorem dX10_flux_2 : decode cX10_flux 2 = .ok (.aload_n 0, 1) := by decide +kernel
theorem dX10_flux_3 : decode cX10_flux 3 = .ok (.invokevirtual 255, 3) := by decide +kernel
theorem dX10_flux_6 : decode cX10_flux 6 = .ok (.iconst 1, 1) := by decide +kernel
theorem dX10_flux_7 : decode cX10_flux 7 = .ok (.isub, 1) := by decide +kernel
theorem dX10_flux_8 : decode cX10_flux 8 = .ok (.invokestatic 106, 3) := by decide +kernel
theorem dX10_flux_11 : decode cX10_flux 11 = .ok (.ifCond .eq 14, 3) := by decide +kernel
theorem dX10_flux_14 : decode cX10_flux 14 = .ok (.iload_n 2, 1) := by decide +kernel
theorem dX10_flux_15 : decode cX10_flux 15 = .ok (.iconst 0, 1) := by decide +kernel
theorem dX10_flux_16 : decode cX10_flux 16 = .ok (.sipush 500, 3) := by decide +kernel
theorem dX10_flux_19 : decode cX10_flux 19 = .ok (.invokestatic 106, 3) := by decide +kernel
theorem dX10_flux_22 : decode cX10_flux 22 = .ok (.ifCond .ne 5, 3) := by decide +kernel
theorem dX10_flux_25 : decode cX10_flux 25 = .ok (.iconst (-1), 1) := by decide +kernel
theorem dX10_flux_26 : decode cX10_flux 26 = .ok (.ireturn, 1) := by decide +kernel
theorem dX10_flux_27 : decode cX10_flux 27 = .ok (.aload_n 0, 1) := by decide +kernel
theorem dX10_flux_28 : decode cX10_flux 28 = .ok (.invokevirtual 327, 3) := by decide +kernel
theorem dX10_flux_31 : decode cX10_flux 31 = .ok (.aload_n 0, 1) := by decide +kernel
theorem dX10_flux_32 : decode cX10_flux 32 = .ok (.iload_n 1, 1) := by decide +kernel
theorem dX10_flux_33 : decode cX10_flux 33 = .ok (.putfield 48, 3) := by decide +kernel
theorem dX10_flux_36 : decode cX10_flux 36 = .ok (.aload_n 0, 1) := by decide +kernel
theorem dX10_flux_37 : decode cX10_flux 37 = .ok (.iload_n 2, 1) := by decide +kernel
theorem dX10_flux_38 : decode cX10_flux 38 = .ok (.invokevirtual 330, 3) := by decide +kernel
theorem dX10_flux_41 : decode cX10_flux 41 = .ok (.istore_n 3, 1) := by decide +kernel
theorem dX10_flux_42 : decode cX10_flux 42 = .ok (.aload_n 0, 1) := by decide +kernel
theorem dX10_flux_43 : decode cX10_flux 43 = .ok (.iconst (-1), 1) := by decide +kernel
theorem dX10_flux_44 : decode cX10_flux 44 = .ok (.putfield 48, 3) := by decide +kernel
theorem dX10_flux_47 : decode cX10_flux 47 = .ok (.aload_n 0, 1) := by decide +kernel
theorem dX10_flux_48 : decode cX10_flux 48 = .ok (.getfield 267, 3) := by decide +kernel
theorem dX10_flux_51 : decode cX10_flux 51 = .ok (.ireturn, 1) := by decide +kernel
set_option maxRecDepth 100000 in
theorem SX10_flux_0 {g : zG} {o : Bool} {C R : Int} {M : zM} {q : Int → zM → Prop} {x1 x2 : Int} (W : (zRf M C R) ∧ (-2147483648 ≤ x1 ∧ x1 ≤ 2147483647) ∧ (-2147483648 ≤ (C - 1) ∧ (C - 1) ≤ 2147483647) ∧ ((¬ (0 ≤ x1 ∧ x1 ≤ (C - 1))) → q (-1) M) ∧ ((0 ≤ x1 ∧ x1 ≤ (C - 1)) → (-2147483648 ≤ x2 ∧ x2 ≤ 2147483647) ∧ ((0 ≤ x2 ∧ x2 ≤ 500) → ∃ q14 : zM → Prop, zKv g (z2 o) mX10_goesOn [zA g 1] M q14 ∧ ∀ M16 : zM, q14 M16 → ∃ q19 : Int → zM → Prop, zKi g (z2 o) mX10_blows [zA g 1, zI x2] (zu M16 1 26 x1) q19 ∧ ∀ (r20 : Int) (M21 : zM), q19 r20 M21 → q ((zu M21 1 26 (-1)) 1 25) (zu M21 1 26 (-1))) ∧ ((¬ (0 ≤ x2 ∧ x2 ≤ 500)) → q (-1) M))) : zT g (z2 o) mX10_flux (zQi (z2 o) q) 0 [(0, zA g 1), (1, zI x1), (2, zI x2)] [] M := by
  refine zr_iload_n 1 dX10_flux_0 rfl ?_
  refine zr_iconst dX10_flux_1 ?_
  refine zr_aload_n 0 dX10_flux_2 rfl ?_
  obtain ⟨c1, W⟩ := W
  refine zt_callVi (As := []) (rest := [zI 0, zI x1]) dX10_flux_3 kX10_flux_255 rfl rfl rfl rfl (Nat.le_of_ble_eq_true rfl) (c_columnsC c1) (fun r2 N4 h3 => ?_)
  rw [h3.1, h3.2]
  refine zr_iconst dX10_flux_6 ?_
  refine zr_isub dX10_flux_7 ?_
  obtain ⟨c5, W⟩ := W
  obtain ⟨c6, W⟩ := W
  refine zt_callSi (As := [zI x1, zI 0, zI (C - 1)]) (rest := []) dX10_flux_8 kX10_flux_106 rfl rfl (Nat.le_of_ble_eq_true rfl) (c_isIn c5 ⟨by decide, by decide⟩ c6) (fun r7 N9 h8 => ?_)
  rw [h8.1, h8.2]
  refine zt_ifeq_b (tgt := 25) dX10_flux_11 (by decide) (fun h => ?_) (fun h => ?_)
  · have W := W.1 h
    refine zr_iconst dX10_flux_25 ?_
    exact zt_iret dX10_flux_26 rfl W
  · have W := W.2 h
    refine zr_iload_n 2 dX10_flux_14 rfl ?_
    refine zr_iconst dX10_flux_15 ?_
    refine zr_sipush dX10_flux_16 (by decide) ?_
    obtain ⟨c10, W⟩ := W
    refine zt_callSi (As := [zI x2, zI 0, zI 500]) (rest := []) dX10_flux_19 kX10_flux_106 rfl rfl (Nat.le_of_ble_eq_true rfl) (c_isIn c10 ⟨by decide, by decide⟩ ⟨by decide, by decide⟩) (fun r11 N13 h12 => ?_)
    rw [h12.1, h12.2]
    refine zt_ifne_b (tgt := 27) dX10_flux_22 (by decide) (fun h => ?_) (fun h => ?_)
    · have W := W.1 h
      refine zr_aload_n 0 dX10_flux_27 rfl ?_
      obtain ⟨q14, k18, W⟩ := W
      refine zt_callVv (As := []) (rest := []) dX10_flux_28 kX10_flux_327 rfl rfl rfl rfl (Nat.le_of_ble_eq_true rfl) k18 (fun M16 h17 => ?_)
      have W := W M16 h17
      refine zr_aload_n 0 dX10_flux_31 rfl ?_
      refine zr_iload_n 1 dX10_flux_32 rfl ?_
      refine zt_puti 26 rfl dX10_flux_33 fX10_48 lcX10 ltX10_26 rfl rfl ?_
      refine zr_aload_n 0 dX10_flux_36 rfl ?_
      refine zr_iload_n 2 dX10_flux_37 rfl ?_
      obtain ⟨q19, k23, W⟩ := W
      refine zt_callVi (As := [zI x2]) (rest := []) dX10_flux_38 kX10_flux_330 rfl rfl rfl rfl (Nat.le_of_ble_eq_true rfl) k23 (fun r20 M21 h22 => ?_)
      have W := W r20 M21 h22
      refine zr_istore_n (l' := [(0, zA g 1)]) dX10_flux_41 (by decide) [1] rfl ?_
      refine zr_aload_n 0 dX10_flux_42 rfl ?_
      refine zr_iconst dX10_flux_43 ?_
      refine zt_puti 26 rfl dX10_flux_44 fX10_48 lcX10 ltX10_26 rfl rfl ?_
      refine zr_aload_n 0 dX10_flux_47 rfl ?_
      refine zt_geti 25 rfl dX10_flux_48 fX10_267 rfl (by decide) ?_
      exact zt_iret dX10_flux_51 rfl W
    · have W := W.2 h
      refine zr_iconst dX10_flux_25 ?_
      exact zt_iret dX10_flux_26 rfl W
theorem dX10_tallest_0 : decode cX10_tallest 0 = .ok (.iload_n 1, 1) := by decide +kernel
theorem dX10_tallest_1 : decode cX10_tallest 1 = .ok (.iconst 0, 1) := by decide +kernel
theorem dX10_tallest_2 : decode cX10_tallest 2 = .ok (.sipush 200, 3) := by decide +kernel
theorem dX10_tallest_5 : decode cX10_tallest 5 = .ok (.invokestatic 106, 3) := by decide +kernel
theorem dX10_tallest_8 : decode cX10_tallest 8 = .ok (.ifCond .eq 12, 3) := by decide +kernel
theorem dX10_tallest_11 : decode cX10_tallest 11 = .ok (.iload_n 2, 1) := by decide +kernel
theorem dX10_tallest_12 : decode cX10_tallest 12 = .ok (.iconst 0, 1) := by decide +kernel
theorem dX10_tallest_13 : decode cX10_tallest 13 = .ok (.iconst 1, 1) := by decide +kernel
theorem dX10_tallest_14 : decode cX10_tallest 14 = .ok (.invokestatic 106, 3) := by decide +kernel
theorem dX10_tallest_17 : decode cX10_tallest 17 = .ok (.ifCond .ne 5, 3) := by decide +kernel
theorem dX10_tallest_20 : decode cX10_tallest 20 = .ok (.iconst (-1), 1) := by decide +kernel
theorem dX10_tallest_21 : decode cX10_tallest 21 = .ok (.ireturn, 1) := by decide +kernel
theorem dX10_tallest_22 : decode cX10_tallest 22 = .ok (.iconst 0, 1) := by decide +kernel
theorem dX10_tallest_23 : decode cX10_tallest 23 = .ok (.istore_n 3, 1) := by decide +kernel
theorem dX10_tallest_24 : decode cX10_tallest 24 = .ok (.iconst (-1), 1) := by decide +kernel
theorem dX10_tallest_25 : decode cX10_tallest 25 = .ok (.istore 4, 2) := by decide +kernel
theorem dX10_tallest_27 : decode cX10_tallest 27 = .ok (.iconst 0, 1) := by decide +kernel
theorem dX10_tallest_28 : decode cX10_tallest 28 = .ok (.istore 5, 2) := by decide +kernel
theorem dX10_tallest_30 : decode cX10_tallest 30 = .ok (.iload 5, 2) := by decide +kernel
theorem dX10_tallest_32 : decode cX10_tallest 32 = .ok (.bipush 50, 2) := by decide +kernel
theorem dX10_tallest_34 : decode cX10_tallest 34 = .ok (.if_icmp .ge 36, 3) := by decide +kernel
theorem dX10_tallest_37 : decode cX10_tallest 37 = .ok (.aload_n 0, 1) := by decide +kernel
theorem dX10_tallest_38 : decode cX10_tallest 38 = .ok (.iload 5, 2) := by decide +kernel
theorem dX10_tallest_40 : decode cX10_tallest 40 = .ok (.iload_n 1, 1) := by decide +kernel
theorem dX10_tallest_41 : decode cX10_tallest 41 = .ok (.iconst 0, 1) := by decide +kernel
theorem dX10_tallest_42 : decode cX10_tallest 42 = .ok (.invokevirtual 435, 3) := by decide +kernel
theorem dX10_tallest_45 : decode cX10_tallest 45 = .ok (.istore 6, 2) := by decide +kernel
theorem dX10_tallest_47 : decode cX10_tallest 47 = .ok (.iload 6, 2) := by decide +kernel
theorem dX10_tallest_49 : decode cX10_tallest 49 = .ok (.iload 4, 2) := by decide +kernel
theorem dX10_tallest_51 : decode cX10_tallest 51 = .ok (.if_icmp .gt 6, 3) := by decide +kernel
theorem dX10_tallest_54 : decode cX10_tallest 54 = .ok (.goto 10, 3) := by decide +kernel
theorem dX10_tallest_57 : decode cX10_tallest 57 = .ok (.iload 5, 2) := by decide +kernel
theorem dX10_tallest_59 : decode cX10_tallest 59 = .ok (.istore_n 3, 1) := by decide +kernel
theorem dX10_tallest_60 : decode cX10_tallest 60 = .ok (.iload 6, 2) := by decide +kernel
theorem dX10_tallest_62 : decode cX10_tallest 62 = .ok (.istore 4, 2) := by decide +kernel
theorem dX10_tallest_64 : decode cX10_tallest 64 = .ok (.iinc 5 1, 3) := by decide +kernel
theorem dX10_tallest_67 : decode cX10_tallest 67 = .ok (.goto (-37), 3) := by decide +kernel
theorem dX10_tallest_70 : decode cX10_tallest 70 = .ok (.iload_n 2, 1) := by decide +kernel
theorem dX10_tallest_71 : decode cX10_tallest 71 = .ok (.ifCond .ne 7, 3) := by decide +kernel
theorem dX10_tallest_74 : decode cX10_tallest 74 = .ok (.iload_n 3, 1) := by decide +kernel
theorem dX10_tallest_75 : decode cX10_tallest 75 = .ok (.goto 5, 3) := by decide +kernel
theorem dX10_tallest_78 : decode cX10_tallest 78 = .ok (.iload 4, 2) := by decide +kernel
theorem dX10_tallest_80 : decode cX10_tallest 80 = .ok (.ireturn, 1) := by decide +kernel
set_option maxRecDepth 100000 in
theorem SX10_tallest_0 {g : zG} {o : Bool} {M : zM} {q : Int → zM → Prop} {x1 x2 : Int} (W : (-2147483648 ≤ x1 ∧ x1 ≤ 2147483647) ∧ ((¬ (0 ≤ x1 ∧ x1 ≤ 200)) → q (-1) M) ∧ ((0 ≤ x1 ∧ x1 ≤ 200) → (-2147483648 ≤ x2 ∧ x2 ≤ 2147483647) ∧ ((0 ≤ x2 ∧ x2 ≤ 1) → zT g (z2 o) mX10_tallest (zQi (z2 o) q) 30 [(0, zA g 1), (1, zI x1), (2, zI x2), (3, zI 0), (4, zI (-1)), (5, zI 0)] [] M) ∧ ((¬ (0 ≤ x2 ∧ x2 ≤ 1)) → q (-1) M))) : zT g (z2 o) mX10_tallest (zQi (z2 o) q) 0 [(0, zA g 1), (1, zI x1), (2, zI x2)] [] M := by
  refine zr_iload_n 1 dX10_tallest_0 rfl ?_
  refine zr_iconst dX10_tallest_1 ?_
  refine zr_sipush dX10_tallest_2 (by decide) ?_
  obtain ⟨c1, W⟩ := W
  refine zt_callSi (As := [zI x1, zI 0, zI 200]) (rest := []) dX10_tallest_5 kX10_tallest_106 rfl rfl (Nat.le_of_ble_eq_true rfl) (c_isIn c1 ⟨by decide, by decide⟩ ⟨by decide, by decide⟩) (fun r2 N4 h3 => ?_)
  rw [h3.1, h3.2]
  refine zt_ifeq_b (tgt := 20) dX10_tallest_8 (by decide) (fun h => ?_) (fun h => ?_)
  · have W := W.1 h
    refine zr_iconst dX10_tallest_20 ?_
    exact zt_iret dX10_tallest_21 rfl W
  · have W := W.2 h
    refine zr_iload_n 2 dX10_tallest_11 rfl ?_
    refine zr_iconst dX10_tallest_12 ?_
    refine zr_iconst dX10_tallest_13 ?_
    obtain ⟨c5, W⟩ := W
    refine zt_callSi (As := [zI x2, zI 0, zI 1]) (rest := []) dX10_tallest_14 kX10_tallest_106 rfl rfl (Nat.le_of_ble_eq_true rfl) (c_isIn c5 ⟨by decide, by decide⟩ ⟨by decide, by decide⟩) (fun r6 N8 h7 => ?_)
    rw [h7.1, h7.2]
    refine zt_ifne_b (tgt := 22) dX10_tallest_17 (by decide) (fun h => ?_) (fun h => ?_)
    · have W := W.1 h
      refine zr_iconst dX10_tallest_22 ?_
      refine zr_istore_n (l' := [(0, zA g 1), (1, zI x1), (2, zI x2), (3, zI 0)]) dX10_tallest_23 (by decide) [1, 2, 3, 0] rfl ?_
      refine zr_iconst dX10_tallest_24 ?_
      refine zr_istore (l' := [(0, zA g 1), (1, zI x1), (2, zI x2), (3, zI 0), (4, zI (-1))]) dX10_tallest_25 (by decide) [1, 2, 3, 4, 0] rfl ?_
      refine zr_iconst dX10_tallest_27 ?_
      refine zr_istore (l' := [(0, zA g 1), (1, zI x1), (2, zI x2), (3, zI 0), (4, zI (-1)), (5, zI 0)]) dX10_tallest_28 (by decide) [1, 2, 3, 4, 5, 0] rfl ?_
      exact W
    · have W := W.2 h
      refine zr_iconst dX10_tallest_20 ?_
      exact zt_iret dX10_tallest_21 rfl W
set_option maxRecDepth 100000 in
theorem SX10_tallest_30 {g : zG} {o : Bool} {M : zM} {q : Int → zM → Prop} {x1 x2 x3 x4 x5 : Int} (W : (-2147483648 ≤ x5 ∧ x5 ≤ 2147483647) ∧ ((50 ≤ x5) → (-2147483648 ≤ x2 ∧ x2 ≤ 2147483647) ∧ ((x2 ≠ 0) → q x4 M) ∧ ((x2 = 0) → q x3 M)) ∧ ((¬ (50 ≤ x5)) → ∃ q3 : Int → zM → Prop, zKi g (z2 o) mX10_game [zA g 1, zI x5, zI x1, zI 0] M q3 ∧ ∀ (r4 : Int) (M5 : zM), q3 r4 M5 → (-2147483648 ≤ r4 ∧ r4 ≤ 2147483647) ∧ (-2147483648 ≤ x4 ∧ x4 ≤ 2147483647) ∧ ((x4 < r4) → zT g (z2 o) mX10_tallest (zQi (z2 o) q) 30 [(0, zA g 1), (1, zI x1), (2, zI x2), (3, zI x5), (4, zI r4), (5, zI (x5 + 1))] [] M5) ∧ ((¬ (x4 < r4)) → zT g (z2 o) mX10_tallest (zQi (z2 o) q) 30 [(0, zA g 1), (1, zI x1), (2, zI x2), (3, zI x3), (4, zI x4), (5, zI (x5 + 1))] [] M5))) : zT g (z2 o) mX10_tallest (zQi (z2 o) q) 30 [(0, zA g 1), (1, zI x1), (2, zI x2), (3, zI x3), (4, zI x4), (5, zI x5)] [] M := by
  refine zr_iload 5 dX10_tallest_30 rfl ?_
  refine zr_bipush dX10_tallest_32 (by decide) ?_
  obtain ⟨c1, W⟩ := W
  refine zr_icmp_ge (tgt := 70) dX10_tallest_34 (by decide) c1 ⟨by decide, by decide⟩ (fun h => ?_) (fun h => ?_)
  · have W := W.1 h
    refine zr_iload_n 2 dX10_tallest_70 rfl ?_
    obtain ⟨c2, W⟩ := W
    refine zr_if_ne (tgt := 78) dX10_tallest_71 (by decide) c2 (fun h => ?_) (fun h => ?_)
    · have W := W.1 h
      refine zr_iload 4 dX10_tallest_78 rfl ?_
      exact zt_iret dX10_tallest_80 rfl W
    · have W := W.2 h
      refine zr_iload_n 3 dX10_tallest_74 rfl ?_
      refine zr_goto (tgt := 80) dX10_tallest_75 (by decide) ?_
      exact zt_iret dX10_tallest_80 rfl W
  · have W := W.2 h
    refine zr_aload_n 0 dX10_tallest_37 rfl ?_
    refine zr_iload 5 dX10_tallest_38 rfl ?_
    refine zr_iload_n 1 dX10_tallest_40 rfl ?_
    refine zr_iconst dX10_tallest_41 ?_
    obtain ⟨q3, k7, W⟩ := W
    refine zt_callVi (As := [zI x5, zI x1, zI 0]) (rest := []) dX10_tallest_42 kX10_tallest_435 rfl rfl rfl rfl (Nat.le_of_ble_eq_true rfl) k7 (fun r4 M5 h6 => ?_)
    have W := W r4 M5 h6
    refine zr_istore (l' := [(0, zA g 1), (1, zI x1), (2, zI x2), (3, zI x3), (4, zI x4), (5, zI x5), (6, zI r4)]) dX10_tallest_45 (by decide) [1, 2, 3, 4, 5, 6, 0] rfl ?_
    refine zr_iload 6 dX10_tallest_47 rfl ?_
    refine zr_iload 4 dX10_tallest_49 rfl ?_
    obtain ⟨c8, W⟩ := W
    obtain ⟨c9, W⟩ := W
    refine zr_icmp_gt (tgt := 57) dX10_tallest_51 (by decide) c8 c9 (fun h => ?_) (fun h => ?_)
    · have W := W.1 h
      refine zr_iload 5 dX10_tallest_57 rfl ?_
      refine zr_istore_n (l' := [(0, zA g 1), (1, zI x1), (2, zI x2), (3, zI x5), (5, zI x5), (6, zI r4)]) dX10_tallest_59 (by decide) [1, 2, 3, 0, 5, 6] rfl ?_
      refine zr_iload 5 dX10_tallest_60 rfl ?_
      refine zr_istore (l' := [(0, zA g 1), (1, zI x1), (2, zI x2), (3, zI x5), (4, zI r4), (5, zI x5)]) dX10_tallest_62 (by decide) [1, 2, 3, 4, 0, 5] rfl ?_
      refine zr_iinc (q := 5) (l' := [(0, zA g 1), (1, zI x1), (2, zI x2), (3, zI x5), (4, zI r4), (5, zI (x5 + 1))]) dX10_tallest_64 rfl (by decide) [1, 2, 3, 4, 5, 0] rfl ?_
      refine zr_goto (tgt := 30) dX10_tallest_67 (by decide) ?_
      exact W
    · have W := W.2 h
      refine zr_goto (tgt := 64) dX10_tallest_54 (by decide) ?_
      refine zr_iinc (q := 5) (l' := [(0, zA g 1), (1, zI x1), (2, zI x2), (3, zI x3), (4, zI x4), (5, zI (x5 + 1))]) dX10_tallest_64 rfl (by decide) [1, 2, 3, 4, 5, 0] rfl ?_
      refine zr_goto (tgt := 30) dX10_tallest_67 (by decide) ?_
      exact W
def z12 (f : Int → Int) : Int → Int := fun i => if 0 ≤ i ∧ i < 12 then 0 else f i
def tgx (M : zM) (t : Nat) (sd : Int) : Sx := ((zcpy (M (t + 1)) (M 29) 0 0 96, 0, z12 (M 35)), 0, sd, M t 4)
def tgG (M : zM) (t : Nat) : Int → Int := zcpy (M (t + 2)) (M 30) 0 0 96
noncomputable def trS (C R : Int) (M : zM) (t : Nat) (sd : Int) (n : Nat) : Sx := blwS C R (M 14 3) (wnd M) (tgG M t) (M (t + 3) 0) (M (t + 3) 1) (M (t + 3) 2) (M (t + 3) 3) n (tgx M t sd)
noncomputable def trN (C R : Int) (M : zM) (t : Nat) (sd : Int) (n : Nat) : Int := blwN C R (M 14 3) (wnd M) (tgG M t) (M (t + 3) 0) (M (t + 3) 1) (M (t + 3) 2) (M (t + 3) 3) n (tgx M t sd)
theorem zki_mono {g : zG} {σ : zS} {d : zD} {as : List Value} {M : zM} {q q' : Int → zM → Prop} (h : zKi g σ d as M q) (hq : ∀ r M', q r M' → q' r M') : zKi g σ d as M q' := by
  intro l p e a b c s m args below hf happ hP hK
  obtain ⟨n, oo, h1, h2, h3, h4, L, h5⟩ := h l p e a b c s m args below hf happ hP hK
  obtain ⟨⟨v, σ', M', e1, ⟨e2, r, e3, e4⟩, e5⟩, e6⟩ := h4
  exact ⟨n, oo, h1, h2, h3, ⟨⟨v, σ', M', e1, ⟨e2, r, e3, hq r M' e4⟩, e5⟩, e6⟩, L, h5⟩
theorem zkv_mono {g : zG} {σ : zS} {d : zD} {as : List Value} {M : zM} {q q' : zM → Prop} (h : zKv g σ d as M q) (hq : ∀ M', q M' → q' M') : zKv g σ d as M q' := by
  intro l p e a b c s m args below hf happ hP hK
  obtain ⟨n, oo, h1, h2, h3, h4, L, h5⟩ := h l p e a b c s m args below hf happ hP hK
  obtain ⟨⟨v, σ', M', e1, ⟨e2, e3, e4⟩, e5⟩, e6⟩ := h4
  exact ⟨n, oo, h1, h2, h3, ⟨⟨v, σ', M', e1, ⟨e2, e3, hq M' e4⟩, e5⟩, e6⟩, L, h5⟩
section TR
variable {g g' : zG} {o o' : Bool} {M M' N A M1 M2 N1 N2 : zM} {k C R c x v B T sd x1 x2 x3 : Int} {s t : Nat} {f : Int → Int}
theorem zcpy_eq {f h : Int → Int} {n i : Int} (h0 : 0 ≤ i) (h1 : i < n) : zcpy f h 0 0 n i = f i := by
  unfold zcpy; rw [if_pos (by omega)]; congr 1; omega
theorem c_copyX (hs : zSd s) (ht : zSd t) (hne : s ≠ t) : zKv g (z1 o) mX5_copy [zA g s, zA g t] M (fun M' => M' (s + 1) = zcpy (M (t + 1)) (M (s + 1)) 0 0 96 ∧ M' (s + 2) = zcpy (M (t + 2)) (M (s + 2)) 0 0 96 ∧ M' (s + 3) = zcpy (M (t + 3)) (M (s + 3)) 0 0 4 ∧ M' s 4 = M t 4 ∧ zfs M M' s) := by
  have hap : s + 4 ≤ t ∨ t + 4 ≤ s := by
    rcases zsd_apart hs ht with h | h
    · exact absurd h hne
    · exact h
  refine zkv_of rfl (Nat.le_of_ble_eq_true rfl) (SX5_copy_0 hs ht fun N1 e1 N3 e3 N5 e5 N7 e7 => ?_)
  refine ⟨?_, ?_, ?_, ?_, fun b h1 h2 h3 h4 => ?_⟩
  · rw [zu_other (by omega), e7, zu_other (by omega), e5, zrw_other (by omega), e3, zrw_other (by omega), e1, zrw_row]
  · rw [zu_other (by omega), e7, zu_other (by omega), e5, zrw_other (by omega), e3, zrw_row, e1, zrw_other (by omega), zrw_other (by omega)]
  · rw [zu_other (by omega), e7, zu_other (by omega), e5, zrw_row, e3, zrw_other (by omega), zrw_other (by omega), e1, zrw_other (by omega), zrw_other (by omega)]
  · rw [zu_at, e7, zu_other (by omega), e5, zrw_other (by omega), e3, zrw_other (by omega), e1, zrw_other (by omega)]
  · rw [zu_other h1, e7, zu_other h1, e5, zrw_other h4, e3, zrw_other h3, e1, zrw_other h2]
theorem c_startFrom (ht : zSd t) (hne : t ≠ 28) : zKv g (z1 o) mX7_startFrom [zA g 34, zA g t, zI sd] M (fun N => zgx N 34 28 = tgx M t sd ∧ N 30 = tgG M t ∧ (∀ i : Int, 0 ≤ i → i < 4 → N 31 i = M (t + 3) i) ∧ frl [28, 29, 30, 31, 34, 35] M N) := by
  have h28 : zSd 28 := by unfold zSd; decide
  refine zkv_of rfl (Nat.le_of_ble_eq_true rfl) (SX7_startFrom_0 (a := 34) (s := 28) (by unfold zSt; decide) ht ⟨_, c_copyX h28 ht (Ne.symm hne), fun M3 hq N6 e6 N8 e8 => ⟨_, c_fill (n := 12) rfl (by decide) (by decide), fun M12 hq2 => ?_⟩⟩)
  obtain ⟨q1, q2, q3, q4, q5⟩ := hq
  have p : ∀ b : Nat, b ≠ 35 → M12 b = zu N8 34 4 0 b := fun b hb => by rw [hq2, zrw_other hb]
  have p35 : M12 35 = z12 (M 35) := by
    rw [hq2]
    show zrw _ 35 _ 35 = _
    rw [zrw_row]
    funext i
    have e35 : zu N8 34 4 0 35 = M 35 := by rw [zu_other (by decide), e8, zu_other (by decide), e6, zu_other (by decide), q5 35 (by decide) (by decide) (by decide) (by decide)]
    unfold z12
    by_cases hi : 0 ≤ i ∧ i < 12
    · rw [if_pos hi, if_pos ⟨hi.1, by simpa using hi.2⟩]
    · rw [if_neg hi, if_neg (fun h => hi ⟨h.1, by simpa using h.2⟩)]
      show zu N8 34 4 0 35 i = _
      rw [e35]
  have pb : ∀ b : Nat, b ≠ 35 → b ≠ 34 → b ≠ 28 → M12 b = M3 b := fun b a1 a2 a3 => by rw [p b a1, zu_other a2, e8, zu_other a2, e6, zu_other a3]
  refine ⟨?_, ?_, fun i a1 a2 => ?_, fun b hb => ?_⟩
  · show ((M12 29, M12 34 4, M12 35), M12 34 3, M12 28 3, M12 28 4) = _
    rw [pb 29 (by decide) (by decide) (by decide), p35, p 34 (by decide), zu_at, zu_row, if_neg (by decide), e8, zu_at, p 28 (by decide), zu_other (by decide), e8, zu_other (by decide), e6, zu_at, zu_row, if_neg (by decide)]
    rw [show M3 29 = _ from q1, q4]
    rfl
  · rw [pb 30 (by decide) (by decide) (by decide)]; exact q2
  · rw [pb 31 (by decide) (by decide) (by decide), show M3 31 = _ from q3, zcpy_eq a1 a2]
  · have hb' : b ≠ 28 ∧ b ≠ 29 ∧ b ≠ 30 ∧ b ≠ 31 ∧ b ≠ 34 ∧ b ≠ 35 := by simp at hb; omega
    rw [pb b hb'.2.2.2.2.2 hb'.2.2.2.2.1 hb'.1, q5 b hb'.1 hb'.2.1 hb'.2.2.1 hb'.2.2.2.1]
theorem frl.trans {l : List Nat} (h : frl l M M') (h' : frl l M' N) : frl l M N := fun b hb => (h' b hb).trans (h b hb)
/-- the trial has started: what it needs -/
theorem start_post {n : Nat} (hL : zLand M C R) (hO : SandOK M t B T) (hs : 0 ≤ sd ∧ sd ≤ 10006) (hq : zgx N 34 28 = tgx M t sd ∧ N 30 = tgG M t ∧ (∀ i : Int, 0 ≤ i → i < 4 → N 31 i = M (t + 3) i) ∧ frl [28, 29, 30, 31, 34, 35] M N) (hn : n ≤ 500) (hB : 0 ≤ B ∧ B < 900000000) (hT : T ≤ 1900000000) :
    zKi g (z1 o) mX7_blowOn [zA g 34, zI n] N (fun r N' => r = trN C R M t sd n ∧ zgx N' 34 28 = trS C R M t sd n ∧ frl [28, 29, 30, 31, 34, 35] M N' ∧ SandOK N' 28 (B + n) (T + n)) := by
  obtain ⟨q1, q2, q3, q4⟩ := hq
  obtain ⟨o1, o2, o3, o4, o5, o6, o7, o8⟩ := hO
  have hL' : zLand N C R := hL.of (fun b a1 a2 => q4 b (by simp; omega))
  have e14 : N 14 = M 14 := q4 14 (by decide)
  have eW : wnd N = wnd M := wnd_congr e14 (q4 18 (by decide)) (q4 19 (by decide))
  have e29 : N 29 = zcpy (M (t + 1)) (M 29) 0 0 96 := congrArg (fun z : Sx => z.1.1) q1
  have e3 : N 28 3 = sd := congrArg (fun z : Sx => z.2.2.1) q1
  have e4 : N 28 4 = M t 4 := congrArg (fun z : Sx => z.2.2.2) q1
  have hO' : SandOK N 28 B T := by
    refine ⟨fun i a1 a2 => by show 0 ≤ N 29 i ∧ N 29 i ≤ B; rw [e29, zcpy_eq a1 a2]; exact o1 i a1 a2, fun i a1 a2 => by show 0 ≤ N 30 i ∧ N 30 i ≤ 1; rw [q2, tgG, zcpy_eq a1 a2]; exact o2 i a1 a2, ?_, ?_, ?_, ?_, by rw [e3]; exact hs, by rw [e4]; exact o8⟩
    · show 1 ≤ N 31 0 ∧ N 31 0 ≤ 6; rw [q3 0 (by decide) (by decide)]; exact o3
    · show 1 ≤ N 31 1 ∧ N 31 1 ≤ 9; rw [q3 1 (by decide) (by decide)]; exact o4
    · show 0 ≤ N 31 2 ∧ N 31 2 ≤ 16; rw [q3 2 (by decide) (by decide)]; exact o5
    · show 0 ≤ N 31 3 ∧ N 31 3 ≤ 16; rw [q3 3 (by decide) (by decide)]; exact o6
  have hb := c_blow (g := g) (o := o) (show zSt 34 28 by unfold zSt; decide) n hn hL' hO' hB hT
  rw [q1, eW, e14, show N (28 + 2) = tgG M t from q2, show N (28 + 3) 0 = M (t + 3) 0 from q3 0 (by decide) (by decide), show N (28 + 3) 1 = M (t + 3) 1 from q3 1 (by decide) (by decide), show N (28 + 3) 2 = M (t + 3) 2 from q3 2 (by decide) (by decide), show N (28 + 3) 3 = M (t + 3) 3 from q3 3 (by decide) (by decide)] at hb
  have key : ∀ (r : Int) (N' : zM), (r = blwN C R (M 14 3) (wnd M) (tgG M t) (M (t + 3) 0) (M (t + 3) 1) (M (t + 3) 2) (M (t + 3) 3) n (tgx M t sd) ∧ zgx N' 34 28 = blwS C R (M 14 3) (wnd M) (tgG M t) (M (t + 3) 0) (M (t + 3) 1) (M (t + 3) 2) (M (t + 3) 3) n (tgx M t sd) ∧ zfr N N' 34 28 ∧ SandOK N' 28 (B + n) (T + n)) → (r = trN C R M t sd n ∧ zgx N' 34 28 = trS C R M t sd n ∧ frl [28, 29, 30, 31, 34, 35] M N' ∧ SandOK N' 28 (B + n) (T + n)) := by
    intro r N' h
    refine ⟨h.1, h.2.1, fun b hb => ?_, h.2.2.2⟩
    have hb' : b ≠ 28 ∧ b ≠ 29 ∧ b ≠ 30 ∧ b ≠ 31 ∧ b ≠ 34 ∧ b ≠ 35 := by simp at hb; omega
    rw [h.2.2.1 b hb'.1 hb'.2.1 hb'.2.2.2.2.1 hb'.2.2.2.2.2, q4 b hb]
  exact zki_mono hb key
theorem c_runTrial {n : Nat} (hL : zLand M C R) (hO : SandOK M 24 B T) (hs : 0 ≤ sd ∧ sd ≤ 10006) (hn : n ≤ 500) (hB : 0 ≤ B ∧ B < 900000000) (hT : T ≤ 1900000000) :
    zKi g (z1 o) mX9_runTrial [zA g 1, zI sd, zI n] M (fun r N' => r = trN C R M 24 sd n ∧ zgx N' 34 28 = trS C R M 24 sd n ∧ frl [28, 29, 30, 31, 34, 35] M N' ∧ SandOK N' 28 (B + n) (T + n)) :=
  zki_of rfl (Nat.le_of_ble_eq_true rfl) (SX9_runTrial_0 ⟨_, c_startFrom (show zSd 24 by unfold zSd; decide) (by decide), fun M3 hq => ⟨_, start_post hL hO hs hq hn hB hT, fun r7 M8 h => h⟩⟩)
/-- so many tries of the reference, from what is now by a seed -/
theorem Jt.blws {n : Nat} (hJ : Jt k C R M1 M2) (hn : n ≤ 500) (hs : 0 ≤ sd ∧ sd ≤ 10006) (hA : ∀ i : Int, 0 ≤ i → i < 198 → i ≠ 196 → A 11 i = M2 10 i) (h196 : A 11 196 = sd) (h23 : A 1 23 = 0) (h24 : A 1 24 = 0) (h25 : A 1 25 = 0) (h26 : -1 ≤ A 1 26 ∧ A 1 26 < 12) (e3 : A 3 = M2 3) (e4 : A 4 = M2 4) (e5 : A 5 = M2 5) :
    zKi g' (z2 o') mX10_blows [zA g' 1, zI n] A (fun r N => r = trN C R M1 24 sd n ∧ repx N (trS C R M1 24 sd n) ∧ rfx A N ∧ RefOK N (3000 + 600 * k + n) (600 * k + n)) := by
  obtain ⟨hL, hR⟩ := hJ.lr
  have hk0 := hJ.1
  obtain ⟨u1, u2, u3, u4, u5, u6, u7, u8, u9⟩ := hJ.2.2.1.2
  have hO : RefOK A (3000 + 600 * k) (600 * k) := by
    refine ⟨fun i p q => by rw [hA i p (by omega) (by omega)]; exact u1 i p q, fun i p q => by rw [hA _ (by omega) (by omega) (by omega)]; exact u2 i p q, ?_, ?_, ?_, ?_, by rw [h196]; exact hs, ?_⟩
    · rw [hA 192 (by decide) (by decide) (by decide)]; exact u3
    · rw [hA 193 (by decide) (by decide) (by decide)]; exact u4
    · rw [hA 194 (by decide) (by decide) (by decide)]; exact u5
    · rw [hA 195 (by decide) (by decide) (by decide)]; exact u6
    · rw [hA 197 (by decide) (by decide) (by decide)]; exact u8
  have hrep : repx A (tgx M1 24 sd) := by
    refine ⟨⟨fun i p q => ?_, h24, ?_⟩, h23, h196, ?_⟩
    · rw [hA i p (by omega) (by omega)]
      show _ = zcpy (M1 (24 + 1)) (M1 29) 0 0 96 i
      rw [zcpy_eq p q]; exact (hJ.eh i p q).symm
    · by_cases h : A 1 26 = -1
      · exact Or.inl h
      · refine Or.inr ?_
        show _ = z12 (M1 35) (A 1 26)
        unfold z12
        rw [if_pos (by omega)]; exact h25
    · rw [hA 197 (by decide) (by decide) (by decide)]; exact hJ.es.2.symm
  have hb := c_blows (g := g') (o := o') (G := tgG M1 24) (wd := wnd M1) n hn (hR.of e3 e4 e5) hO (by omega) (by omega) (by omega) hrep (fun i p q => by show A 11 (96 + i) = _; rw [hA _ (by omega) (by omega) (by omega), tgG, zcpy_eq p q]; exact (hJ.eg i p q).symm) (fun t _ => by rw [wnr_of e3 e4 e5, hJ.wq])
  have r0 : M1 27 0 = M2 10 192 := hJ.er 0 (by decide) (by decide)
  have r1 : M1 27 1 = M2 10 193 := hJ.er 1 (by decide) (by decide)
  have r2 : M1 27 2 = M2 10 194 := hJ.er 2 (by decide) (by decide)
  have r3 : M1 27 3 = M2 10 195 := hJ.er 3 (by decide) (by decide)
  rw [e3, hJ.sw.2.2.2.1, hA 192 (by decide) (by decide) (by decide), hA 193 (by decide) (by decide) (by decide), hA 194 (by decide) (by decide) (by decide), hA 195 (by decide) (by decide) (by decide), ← r0, ← r1, ← r2, ← r3] at hb
  exact hb
theorem Jt.run {n : Nat} (hJ : Jt k C R M1 M2) (hn : n ≤ 500) (hs : 0 ≤ sd ∧ sd ≤ 10006) : zKi g (z1 o) mX9_runTrial [zA g 1, zI sd, zI n] M1 (fun r N' => r = trN C R M1 24 sd n ∧ zgx N' 34 28 = trS C R M1 24 sd n ∧ frl [28, 29, 30, 31, 34, 35] M1 N' ∧ SandOK N' 28 (3000 + 600 * k + n) (600 * k + n)) :=
  c_runTrial hJ.lr.1 (hJ.2.2.1.1.sd hJ.2.2.1.2) hs hn (by have := hJ.1; omega) (by have := hJ.1; omega)
theorem rfx_fr (hb : ∀ b : Nat, b ≠ 1 → b ≠ 11 → A b = M b) (h1 : ∀ i : Int, i ≠ 23 → i ≠ 24 → i ≠ 25 → A 1 i = M 1 i) (h : rfx A N) : fr2 M N :=
  go_fr (fun b p q => (h.1 b p q).trans (hb b p q)) (fun i p q r => (h.2.1 i p q r).trans (h1 i p q r))
theorem Jt.sed (hJ : Jt k C R M1 M2) : 0 ≤ M1 24 3 ∧ M1 24 3 ≤ 10006 := hJ.sok.2.2.2.2.2.2.1
theorem p_would (hJ : Jt k C R M1 M2) (hk : k < 1000) (h1 : -2147483648 ≤ x1 ∧ x1 ≤ 2147483647) (h2 : -2147483648 ≤ x2 ∧ x2 ≤ 2147483647) : zE g g' o o' mX9_would mX10_would [zI x1, zI x2] k M1 M2 := by
  obtain ⟨hL, hR⟩ := hJ.lr
  have hgn := geo_n hL.1
  by_cases hx : 0 ≤ x1 ∧ x1 ≤ 500
  · by_cases hc : 0 ≤ x2 ∧ x2 < C * R
    · obtain ⟨n, hn⟩ := znn hx.1
      subst hn
      refine zE_of (A := (trS C R M1 24 (M1 24 3) n).1.1 x2) hJ hk (zki_of rfl (Nat.le_of_ble_eq_true rfl) (SX9_would_0 (C := C) (R := R) ⟨h1, fun h => by omega, fun _ => ⟨fun h => by omega, fun _ => ⟨h2, hL, fun _ => ⟨_, hJ.run (by omega) hJ.sed, fun r N hq => ⟨by omega, ?_, hq.2.2.1.fr1 rfl⟩⟩, fun h => absurd hc h⟩⟩⟩)) (zki_of rfl (Nat.le_of_ble_eq_true rfl) (SX10_would_0 (C := C) (R := R) ⟨h1, fun h => absurd hx h, fun _ => ⟨hR, h2, fun _ => ⟨_, c_goesOn, fun A hg => ?_⟩, fun h => absurd hc h⟩⟩))
      · exact congrArg (fun z : Sx => z.1.1 x2) hq.2.1
      · obtain ⟨g1, g2, g3, g4, g5, g6⟩ := hg
        have l26 : A 1 26 = -1 := by rw [g6 26 (by decide) (by decide) (by decide)]; exact hJ.2.2.2.2.2.2.2.2.2.2.2.2
        refine ⟨_, hJ.blws (by omega) hJ.sed (fun i a b _ => (g1 i a b).symm) (by rw [← g1 196 (by decide) (by decide)]; exact hJ.es.1.symm) g2 g3 g4 (by omega) (g5 3 (by decide) (by decide)) (g5 4 (by decide) (by decide)) (g5 5 (by decide) (by decide)), fun r N hq => ⟨by omega, ?_, rfx_fr g5 g6 hq.2.2.1⟩⟩
        exact hq.2.1.1.1 x2 hc.1 (by omega)
    · exact zE_of (A := -1) hJ hk (zki_of rfl (Nat.le_of_ble_eq_true rfl) (SX9_would_0 (C := C) (R := R) ⟨h1, fun _ => ⟨rfl, fr1.rf⟩, fun _ => ⟨fun _ => ⟨rfl, fr1.rf⟩, fun _ => ⟨h2, hL, fun h => absurd h hc, fun _ => ⟨rfl, fr1.rf⟩⟩⟩⟩)) (zki_of rfl (Nat.le_of_ble_eq_true rfl) (SX10_would_0 (C := C) (R := R) ⟨h1, fun _ => ⟨rfl, fr2.rf⟩, fun _ => ⟨hR, h2, fun h => absurd h hc, fun _ => ⟨rfl, fr2.rf⟩⟩⟩))
  · exact zE_of (A := -1) hJ hk (zki_of rfl (Nat.le_of_ble_eq_true rfl) (SX9_would_0 (C := C) (R := R) ⟨h1, fun _ => ⟨rfl, fr1.rf⟩, fun _ => ⟨fun _ => ⟨rfl, fr1.rf⟩, fun h => by omega⟩⟩)) (zki_of rfl (Nat.le_of_ble_eq_true rfl) (SX10_would_0 (C := C) (R := R) ⟨h1, fun _ => ⟨rfl, fr2.rf⟩, fun h => absurd h hx⟩))
theorem p_next (hJ : Jt k C R M1 M2) (hk : k < 1000) (h1 : -2147483648 ≤ x1 ∧ x1 ≤ 2147483647) (h2 : -2147483648 ≤ x2 ∧ x2 ≤ 2147483647) : zE g g' o o' mX9_next mX10_next [zI x1, zI x2] k M1 M2 := by
  obtain ⟨hL, hR⟩ := hJ.lr
  have hgn := geo_n hL.1
  by_cases hx : 0 ≤ x1 ∧ x1 ≤ 500
  · by_cases hc : 0 ≤ x2 ∧ x2 ≤ 2
    · obtain ⟨n, hn⟩ := znn hx.1
      subst hn
      refine zE_of (A := if x2 = 0 then n - trN C R M1 24 (M1 24 3) n else if x2 = 1 then (trS C R M1 24 (M1 24 3) n).2.1 else (trS C R M1 24 (M1 24 3) n).1.2.1) hJ hk (zki_of rfl (Nat.le_of_ble_eq_true rfl) (SX9_next_0 ⟨h1, fun h => by omega, fun _ => ⟨fun h => by omega, fun _ => ⟨h2, fun h => by omega, fun _ => ⟨fun _ => ⟨_, hJ.run (by omega) hJ.sed, fun r N hq => ⟨fun h => ⟨?_, hq.2.2.1.fr1 rfl⟩, fun h => ⟨?_, hq.2.2.1.fr1 rfl⟩, fun h => ⟨?_, hq.2.2.1.fr1 rfl⟩⟩⟩, fun h => by omega⟩⟩⟩⟩)) (zki_of rfl (Nat.le_of_ble_eq_true rfl) (SX10_next_0 ⟨h1, fun h => absurd hx h, fun _ => ⟨h2, fun _ => ⟨_, c_goesOn, fun A hg => ?_⟩, fun h => absurd hc h⟩⟩))
      · rw [if_pos h, hq.1]
      · rw [if_neg (by omega), if_pos h]; exact congrArg (fun z : Sx => z.2.1) hq.2.1
      · rw [if_neg h.1, if_neg h.2]; exact congrArg (fun z : Sx => z.1.2.1) hq.2.1
      · obtain ⟨g1, g2, g3, g4, g5, g6⟩ := hg
        have l26 : A 1 26 = -1 := by rw [g6 26 (by decide) (by decide) (by decide)]; exact hJ.2.2.2.2.2.2.2.2.2.2.2.2
        refine ⟨_, hJ.blws (by omega) hJ.sed (fun i a b _ => (g1 i a b).symm) (by rw [← g1 196 (by decide) (by decide)]; exact hJ.es.1.symm) g2 g3 g4 (by omega) (g5 3 (by decide) (by decide)) (g5 4 (by decide) (by decide)) (g5 5 (by decide) (by decide)), fun r N hq => ⟨h2, fun h => ⟨fun h' => ⟨?_, rfx_fr g5 g6 hq.2.2.1⟩, fun h' => ⟨?_, rfx_fr g5 g6 hq.2.2.1⟩⟩, fun h => ⟨?_, rfx_fr g5 g6 hq.2.2.1⟩⟩⟩
        · rw [if_neg h, if_neg h']; exact hq.2.1.1.2.1
        · rw [if_neg h, if_pos h']; exact hq.2.1.2.1
        · rw [if_pos h, hq.1]
    · exact zE_of (A := -1) hJ hk (zki_of rfl (Nat.le_of_ble_eq_true rfl) (SX9_next_0 ⟨h1, fun _ => ⟨rfl, fr1.rf⟩, fun _ => ⟨fun _ => ⟨rfl, fr1.rf⟩, fun _ => ⟨h2, fun _ => ⟨rfl, fr1.rf⟩, fun _ => ⟨fun h => by omega, fun _ => ⟨rfl, fr1.rf⟩⟩⟩⟩⟩)) (zki_of rfl (Nat.le_of_ble_eq_true rfl) (SX10_next_0 ⟨h1, fun _ => ⟨rfl, fr2.rf⟩, fun _ => ⟨h2, fun h => absurd h hc, fun _ => ⟨rfl, fr2.rf⟩⟩⟩))
  · exact zE_of (A := -1) hJ hk (zki_of rfl (Nat.le_of_ble_eq_true rfl) (SX9_next_0 ⟨h1, fun _ => ⟨rfl, fr1.rf⟩, fun _ => ⟨fun _ => ⟨rfl, fr1.rf⟩, fun h => by omega⟩⟩)) (zki_of rfl (Nat.le_of_ble_eq_true rfl) (SX10_next_0 ⟨h1, fun _ => ⟨rfl, fr2.rf⟩, fun h => absurd h hx⟩))
theorem p_flux (hJ : Jt k C R M1 M2) (hk : k < 1000) (h1 : -2147483648 ≤ x1 ∧ x1 ≤ 2147483647) (h2 : -2147483648 ≤ x2 ∧ x2 ≤ 2147483647) : zE g g' o o' mX9_flux mX10_flux [zI x1, zI x2] k M1 M2 := by
  obtain ⟨hL, hR⟩ := hJ.lr
  have hgn := geo_n hL.1
  have hC1 := hL.1.1
  have hC2 := hL.1.2.1
  have w0 := hJ.sw.1
  by_cases hx : 0 ≤ x1 ∧ x1 ≤ C - 1
  · by_cases hc : 0 ≤ x2 ∧ x2 ≤ 500
    · obtain ⟨n, hn⟩ := znn hc.1
      subst hn
      refine zE_of (A := (trS C R M1 24 (M1 24 3) n).1.2.2 x1) hJ hk (zki_of rfl (Nat.le_of_ble_eq_true rfl) (SX9_flux_0 ⟨h1, fun h => by omega, fun _ => ⟨by omega, fun h => by omega, fun _ => ⟨h2, fun h => by omega, fun _ => ⟨fun _ => ⟨_, hJ.run (by omega) hJ.sed, fun r N hq => ⟨by omega, ?_, hq.2.2.1.fr1 rfl⟩⟩, fun h => by omega⟩⟩⟩⟩)) (zki_of rfl (Nat.le_of_ble_eq_true rfl) (SX10_flux_0 (C := C) (R := R) ⟨hR, h1, by omega, fun h => absurd hx h, fun _ => ⟨h2, fun _ => ⟨_, c_goesOn, fun A hg => ?_⟩, fun h => absurd hc h⟩⟩))
      · exact congrArg (fun z : Sx => z.1.2.2 x1) hq.2.1
      · obtain ⟨g1, g2, g3, g4, g5, g6⟩ := hg
        have ob : ∀ b : Nat, b ≠ 1 → zu A 1 26 x1 b = A b := fun b hb => zu_other hb
        have o1 : ∀ i : Int, i ≠ 26 → zu A 1 26 x1 1 i = A 1 i := fun i hi => by rw [zu_row, if_neg hi]
        have hbl := hJ.blws (g' := g') (o' := o') (A := zu A 1 26 x1) (n := n) (by omega) hJ.sed (fun i a b _ => by rw [ob 11 (by decide)]; exact (g1 i a b).symm) (by rw [ob 11 (by decide), ← g1 196 (by decide) (by decide)]; exact hJ.es.1.symm) (by rw [o1 23 (by decide)]; exact g2) (by rw [o1 24 (by decide)]; exact g3) (by rw [o1 25 (by decide)]; exact g4) (by rw [zu_at]; omega) (by rw [ob 3 (by decide), g5 3 (by decide) (by decide)]) (by rw [ob 4 (by decide), g5 4 (by decide) (by decide)]) (by rw [ob 5 (by decide), g5 5 (by decide) (by decide)])
        refine ⟨_, hbl, fun r N hq => ⟨?_, ?_⟩⟩
        · obtain ⟨-, ⟨⟨-, -, hX⟩, -⟩, ⟨-, f2, -⟩, -⟩ := hq
          have e26 : N 1 26 = x1 := by rw [f2 26 (by decide) (by decide) (by decide), zu_at]
          rw [zu_row, if_neg (by decide)]
          rcases hX with h | h
          · omega
          · rw [e26] at h; exact h
        · obtain ⟨-, -, ⟨f1, f2, f3⟩, -⟩ := hq
          refine go_fr (fun b p q => by rw [zu_other p, f1 b p q, ob b p, g5 b p q]) (fun i p q r => ?_)
          rw [zu_row]
          by_cases hi : i = 26
          · rw [if_pos hi, hi]; exact hJ.2.2.2.2.2.2.2.2.2.2.2.2.symm
          · rw [if_neg hi, f2 i p q r, o1 i hi, g6 i p q r]
    · exact zE_of (A := -1) hJ hk (zki_of rfl (Nat.le_of_ble_eq_true rfl) (SX9_flux_0 ⟨h1, fun _ => ⟨rfl, fr1.rf⟩, fun _ => ⟨by omega, fun _ => ⟨rfl, fr1.rf⟩, fun _ => ⟨h2, fun _ => ⟨rfl, fr1.rf⟩, fun _ => ⟨fun h => by omega, fun _ => ⟨rfl, fr1.rf⟩⟩⟩⟩⟩)) (zki_of rfl (Nat.le_of_ble_eq_true rfl) (SX10_flux_0 (C := C) (R := R) ⟨hR, h1, by omega, fun _ => ⟨rfl, fr2.rf⟩, fun _ => ⟨h2, fun h => absurd h hc, fun _ => ⟨rfl, fr2.rf⟩⟩⟩))
  · exact zE_of (A := -1) hJ hk (zki_of rfl (Nat.le_of_ble_eq_true rfl) (SX9_flux_0 ⟨h1, fun _ => ⟨rfl, fr1.rf⟩, fun _ => ⟨by omega, fun _ => ⟨rfl, fr1.rf⟩, fun h => by omega⟩⟩)) (zki_of rfl (Nat.le_of_ble_eq_true rfl) (SX10_flux_0 (C := C) (R := R) ⟨hR, h1, by omega, fun _ => ⟨rfl, fr2.rf⟩, fun h => absurd h hx⟩))
end TR
