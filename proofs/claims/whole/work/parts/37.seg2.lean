theorem dX9_isKept_0 : decode cX9_isKept 0 = .ok (.iload_n 1, 1) := by decide +kernel
theorem dX9_isKept_1 : decode cX9_isKept 1 = .ok (.ifCond .lt 21, 3) := by decide +kernel
theorem dX9_isKept_4 : decode cX9_isKept 4 = .ok (.iload_n 1, 1) := by decide +kernel
theorem dX9_isKept_5 : decode cX9_isKept 5 = .ok (.iconst 3, 1) := by decide +kernel
theorem dX9_isKept_6 : decode cX9_isKept 6 = .ok (.if_icmp .ge 16, 3) := by decide +kernel
theorem dX9_isKept_9 : decode cX9_isKept 9 = .ok (.aload_n 0, 1) := by decide +kernel
theorem dX9_isKept_10 : decode cX9_isKept 10 = .ok (.getfield 89, 3) := by decide +kernel
theorem dX9_isKept_13 : decode cX9_isKept 13 = .ok (.iload_n 1, 1) := by decide +kernel
theorem dX9_isKept_14 : decode cX9_isKept 14 = .ok (.baload, 1) := by decide +kernel
theorem dX9_isKept_15 : decode cX9_isKept 15 = .ok (.ifCond .eq 7, 3) := by decide +kernel
theorem dX9_isKept_18 : decode cX9_isKept 18 = .ok (.iconst 1, 1) := by decide +kernel
theorem dX9_isKept_19 : decode cX9_isKept 19 = .ok (.goto 4, 3) := by decide +kernel
theorem dX9_isKept_22 : decode cX9_isKept 22 = .ok (.iconst 0, 1) := by decide +kernel
theorem dX9_isKept_23 : decode cX9_isKept 23 = .ok (.ireturn, 1) := by decide +kernel
set_option maxRecDepth 100000 in
theorem SX9_isKept_0 {g : zG} {o : Bool} {M : zM} {q : Int → zM → Prop} {x1 : Int} (W : (-2147483648 ≤ x1 ∧ x1 ≤ 2147483647) ∧ ((x1 < 0) → q 0 M) ∧ ((¬ (x1 < 0)) → ((3 ≤ x1) → q 0 M) ∧ ((¬ (3 ≤ x1)) → (0 ≤ x1 ∧ x1 < 3) ∧ (-2147483648 ≤ (M 148 x1) ∧ (M 148 x1) ≤ 2147483647) ∧ (((M 148 x1) = 0) → q 0 M) ∧ ((¬ ((M 148 x1) = 0)) → q 1 M)))) : zT g (z1 o) mX9_isKept (zQi (z1 o) q) 0 [(0, zA g 1), (1, zI x1)] [] M := by
  refine zr_iload_n 1 dX9_isKept_0 rfl ?_
  obtain ⟨c1, W⟩ := W
  refine zr_if_lt (tgt := 22) dX9_isKept_1 (by decide) c1 (fun h => ?_) (fun h => ?_)
  · have W := W.1 h
    refine zr_iconst dX9_isKept_22 ?_
    exact zt_zret dX9_isKept_23 rfl (by decide) W
  · have W := W.2 h
    refine zr_iload_n 1 dX9_isKept_4 rfl ?_
    refine zr_iconst dX9_isKept_5 ?_
    refine zr_icmp_ge (tgt := 22) dX9_isKept_6 (by decide) c1 ⟨by decide, by decide⟩ (fun h => ?_) (fun h => ?_)
    · have W := W.1 h
      refine zr_iconst dX9_isKept_22 ?_
      exact zt_zret dX9_isKept_23 rfl (by decide) W
    · have W := W.2 h
      refine zr_aload_n 0 dX9_isKept_9 rfl ?_
      refine zr_getr (b := 148) dX9_isKept_10 fX9_89 rfl rfl rfl (by decide) ?_
      refine zr_iload_n 1 dX9_isKept_13 rfl ?_
      obtain ⟨c2, W⟩ := W
      refine zr_zald dX9_isKept_14 rfl (by decide) c2 ?_
      obtain ⟨c3, W⟩ := W
      refine zr_if_eq (tgt := 22) dX9_isKept_15 (by decide) c3 (fun h => ?_) (fun h => ?_)
      · have W := W.1 h
        refine zr_iconst dX9_isKept_22 ?_
        exact zt_zret dX9_isKept_23 rfl (by decide) W
      · have W := W.2 h
        refine zr_iconst dX9_isKept_18 ?_
        refine zr_goto (tgt := 23) dX9_isKept_19 (by decide) ?_
        exact zt_zret dX9_isKept_23 rfl (by decide) W
theorem dX10_isRule_0 : decode cX10_isRule 0 = .ok (.iload_n 0, 1) := by decide +kernel
theorem dX10_isRule_1 : decode cX10_isRule 1 = .ok (.ifCond .ne 13, 3) := by decide +kernel
theorem dX10_isRule_4 : decode cX10_isRule 4 = .ok (.iload_n 1, 1) := by decide +kernel
theorem dX10_isRule_5 : decode cX10_isRule 5 = .ok (.iconst 1, 1) := by decide +kernel
theorem dX10_isRule_6 : decode cX10_isRule 6 = .ok (.bipush 6, 2) := by decide +kernel
theorem dX10_isRule_8 : decode cX10_isRule 8 = .ok (.invokestatic 106, 3) := by decide +kernel
theorem dX10_isRule_11 : decode cX10_isRule 11 = .ok (.goto 25, 3) := by decide +kernel
theorem dX10_isRule_14 : decode cX10_isRule 14 = .ok (.iload_n 0, 1) := by decide +kernel
theorem dX10_isRule_15 : decode cX10_isRule 15 = .ok (.iconst 1, 1) := by decide +kernel
theorem dX10_isRule_16 : decode cX10_isRule 16 = .ok (.if_icmp .ne 13, 3) := by decide +kernel
theorem dX10_isRule_19 : decode cX10_isRule 19 = .ok (.iload_n 1, 1) := by decide +kernel
theorem dX10_isRule_20 : decode cX10_isRule 20 = .ok (.iconst 1, 1) := by decide +kernel
theorem dX10_isRule_21 : decode cX10_isRule 21 = .ok (.bipush 9, 2) := by decide +kernel
theorem dX10_isRule_23 : decode cX10_isRule 23 = .ok (.invokestatic 106, 3) := by decide +kernel
theorem dX10_isRule_26 : decode cX10_isRule 26 = .ok (.goto 10, 3) := by decide +kernel
theorem dX10_isRule_29 : decode cX10_isRule 29 = .ok (.iload_n 1, 1) := by decide +kernel
theorem dX10_isRule_30 : decode cX10_isRule 30 = .ok (.iconst 0, 1) := by decide +kernel
theorem dX10_isRule_31 : decode cX10_isRule 31 = .ok (.bipush 16, 2) := by decide +kernel
theorem dX10_isRule_33 : decode cX10_isRule 33 = .ok (.invokestatic 106, 3) := by decide +kernel
theorem dX10_isRule_36 : decode cX10_isRule 36 = .ok (.ireturn, 1) := by decide +kernel
set_option maxRecDepth 100000 in
theorem SX10_isRule_0 {g : zG} {o : Bool} {M : zM} {q : Int → zM → Prop} {x0 x1 : Int} (W : (-2147483648 ≤ x0 ∧ x0 ≤ 2147483647) ∧ ((x0 ≠ 0) → ((x0 ≠ 1) → (-2147483648 ≤ x1 ∧ x1 ≤ 2147483647) ∧ q (zb (0 ≤ x1 ∧ x1 ≤ 16)) M) ∧ ((x0 = 1) → (-2147483648 ≤ x1 ∧ x1 ≤ 2147483647) ∧ q (zb (1 ≤ x1 ∧ x1 ≤ 9)) M)) ∧ ((x0 = 0) → (-2147483648 ≤ x1 ∧ x1 ≤ 2147483647) ∧ q (zb (1 ≤ x1 ∧ x1 ≤ 6)) M)) : zT g (z2 o) mX10_isRule (zQi (z2 o) q) 0 [(0, zI x0), (1, zI x1)] [] M := by
  refine zr_iload_n 0 dX10_isRule_0 rfl ?_
  obtain ⟨c1, W⟩ := W
  refine zr_if_ne (tgt := 14) dX10_isRule_1 (by decide) c1 (fun h => ?_) (fun h => ?_)
  · have W := W.1 h
    refine zr_iload_n 0 dX10_isRule_14 rfl ?_
    refine zr_iconst dX10_isRule_15 ?_
    refine zr_icmp_ne (tgt := 29) dX10_isRule_16 (by decide) c1 ⟨by decide, by decide⟩ (fun h => ?_) (fun h => ?_)
    · have W := W.1 h
      refine zr_iload_n 1 dX10_isRule_29 rfl ?_
      refine zr_iconst dX10_isRule_30 ?_
      refine zr_bipush dX10_isRule_31 (by decide) ?_
      obtain ⟨c2, W⟩ := W
      refine zt_callSi (As := [zI x1, zI 0, zI 16]) (rest := []) dX10_isRule_33 kX10_isRule_106 rfl rfl (Nat.le_of_ble_eq_true rfl) (c_isIn c2 ⟨by decide, by decide⟩ ⟨by decide, by decide⟩) (fun r3 N5 h4 => ?_)
      rw [h4.1, h4.2]
      exact zt_zret dX10_isRule_36 rfl (zb01 _) W
    · have W := W.2 h
      refine zr_iload_n 1 dX10_isRule_19 rfl ?_
      refine zr_iconst dX10_isRule_20 ?_
      refine zr_bipush dX10_isRule_21 (by decide) ?_
      obtain ⟨c6, W⟩ := W
      refine zt_callSi (As := [zI x1, zI 1, zI 9]) (rest := []) dX10_isRule_23 kX10_isRule_106 rfl rfl (Nat.le_of_ble_eq_true rfl) (c_isIn c6 ⟨by decide, by decide⟩ ⟨by decide, by decide⟩) (fun r7 N9 h8 => ?_)
      rw [h8.1, h8.2]
      refine zr_goto (tgt := 36) dX10_isRule_26 (by decide) ?_
      exact zt_zret dX10_isRule_36 rfl (zb01 _) W
  · have W := W.2 h
    refine zr_iload_n 1 dX10_isRule_4 rfl ?_
    refine zr_iconst dX10_isRule_5 ?_
    refine zr_bipush dX10_isRule_6 (by decide) ?_
    obtain ⟨c10, W⟩ := W
    refine zt_callSi (As := [zI x1, zI 1, zI 6]) (rest := []) dX10_isRule_8 kX10_isRule_106 rfl rfl (Nat.le_of_ble_eq_true rfl) (c_isIn c10 ⟨by decide, by decide⟩ ⟨by decide, by decide⟩) (fun r11 N13 h12 => ?_)
    rw [h12.1, h12.2]
    refine zr_goto (tgt := 36) dX10_isRule_11 (by decide) ?_
    exact zt_zret dX10_isRule_36 rfl (zb01 _) W
theorem dX10_isBox_0 : decode cX10_isBox 0 = .ok (.iload_n 1, 1) := by decide +kernel
theorem dX10_isBox_1 : decode cX10_isBox 1 = .ok (.iconst 0, 1) := by decide +kernel
theorem dX10_isBox_2 : decode cX10_isBox 2 = .ok (.iconst 2, 1) := by decide +kernel
theorem dX10_isBox_3 : decode cX10_isBox 3 = .ok (.invokestatic 106, 3) := by decide +kernel
theorem dX10_isBox_6 : decode cX10_isBox 6 = .ok (.ireturn, 1) := by decide +kernel
set_option maxRecDepth 100000 in
theorem SX10_isBox_0 {g : zG} {o : Bool} {M : zM} {q : Int → zM → Prop} {x1 : Int} (W : (-2147483648 ≤ x1 ∧ x1 ≤ 2147483647) ∧ q (zb (0 ≤ x1 ∧ x1 ≤ 2)) M) : zT g (z2 o) mX10_isBox (zQi (z2 o) q) 0 [(0, zA g 1), (1, zI x1)] [] M := by
  refine zr_iload_n 1 dX10_isBox_0 rfl ?_
  refine zr_iconst dX10_isBox_1 ?_
  refine zr_iconst dX10_isBox_2 ?_
  obtain ⟨c1, W⟩ := W
  refine zt_callSi (As := [zI x1, zI 0, zI 2]) (rest := []) dX10_isBox_3 kX10_isBox_106 rfl rfl (Nat.le_of_ble_eq_true rfl) (c_isIn c1 ⟨by decide, by decide⟩ ⟨by decide, by decide⟩) (fun r2 N4 h3 => ?_)
  rw [h3.1, h3.2]
  exact zt_zret dX10_isBox_6 rfl (zb01 _) W
def kOk (f : Int → Int) : Prop := ∀ i : Int, 0 ≤ i → i < 3 → f i = 0 ∨ f i = 1
def rul (x v : Int) : Prop := if x = 0 then 1 ≤ v ∧ v ≤ 6 else if x = 1 then 1 ≤ v ∧ v ≤ 9 else 0 ≤ v ∧ v ≤ 16
section HA
variable {g : zG} {o : Bool} {M : zM} {C R c x v : Int}
theorem c_isKept1 (h1 : -2147483648 ≤ x ∧ x ≤ 2147483647) (hk : kOk (M 148)) : zKi g (z1 o) mX9_isKept [zA g 1, zI x] M (fun r M' => r = zb ((0 ≤ x ∧ x < 3) ∧ M 148 x = 1) ∧ M' = M) := by
  refine zki_of rfl (Nat.le_of_ble_eq_true rfl) (SX9_isKept_0 ⟨h1, fun h => ⟨(zb_f (by omega)).symm, rfl⟩, fun h => ⟨fun h' => ⟨(zb_f (by omega)).symm, rfl⟩, fun h' => ?_⟩⟩)
  have := hk x (by omega) (by omega)
  exact ⟨by omega, by omega, fun h'' => ⟨(zb_f (by omega)).symm, rfl⟩, fun h'' => ⟨(zb_t (by omega)).symm, rfl⟩⟩
theorem c_isBox (h1 : -2147483648 ≤ x ∧ x ≤ 2147483647) : zKi g (z2 o) mX10_isBox [zA g 1, zI x] M (fun r M' => r = zb (0 ≤ x ∧ x ≤ 2) ∧ M' = M) := zki_of rfl (Nat.le_of_ble_eq_true rfl) (SX10_isBox_0 ⟨h1, rfl, rfl⟩)
theorem c_isRule (h1 : -2147483648 ≤ x ∧ x ≤ 2147483647) (h2 : -2147483648 ≤ v ∧ v ≤ 2147483647) : zKi g (z2 o) mX10_isRule [zI x, zI v] M (fun r M' => r = zb (rul x v) ∧ M' = M) := by
  refine zki_of rfl (Nat.le_of_ble_eq_true rfl) (SX10_isRule_0 ⟨h1, fun h => ⟨fun h' => ⟨h2, zb_congr ?_, rfl⟩, fun h' => ⟨h2, zb_congr ?_, rfl⟩⟩, fun h => ⟨h2, zb_congr ?_, rfl⟩⟩)
  · unfold rul; rw [if_neg h, if_neg h']
  · unfold rul; rw [if_neg h, if_pos h']
  · unfold rul; rw [if_pos h]
end HA
theorem dX10_isKept_0 : decode cX10_isKept 0 = .ok (.aload_n 0, 1) := by decide +kernel
theorem dX10_isKept_1 : decode cX10_isKept 1 = .ok (.iload_n 1, 1) := by decide +kernel
theorem dX10_isKept_2 : decode cX10_isKept 2 = .ok (.invokevirtual 419, 3) := by decide +kernel
theorem dX10_isKept_5 : decode cX10_isKept 5 = .ok (.ifCond .eq 16, 3) := by decide +kernel
theorem dX10_isKept_8 : decode cX10_isKept 8 = .ok (.aload_n 0, 1) := by decide +kernel
theorem dX10_isKept_9 : decode cX10_isKept 9 = .ok (.getfield 66, 3) := by decide +kernel
theorem dX10_isKept_12 : decode cX10_isKept 12 = .ok (.iload_n 1, 1) := by decide +kernel
theorem dX10_isKept_13 : decode cX10_isKept 13 = .ok (.baload, 1) := by decide +kernel
theorem dX10_isKept_14 : decode cX10_isKept 14 = .ok (.ifCond .eq 7, 3) := by decide +kernel
theorem dX10_isKept_17 : decode cX10_isKept 17 = .ok (.iconst 1, 1) := by decide +kernel
theorem dX10_isKept_18 : decode cX10_isKept 18 = .ok (.goto 4, 3) := by decide +kernel
theorem dX10_isKept_21 : decode cX10_isKept 21 = .ok (.iconst 0, 1) := by decide +kernel
theorem dX10_isKept_22 : decode cX10_isKept 22 = .ok (.ireturn, 1) := by decide +kernel
set_option maxRecDepth 100000 in
theorem SX10_isKept_0 {g : zG} {o : Bool} {M : zM} {q : Int → zM → Prop} {x1 : Int} (W : (-2147483648 ≤ x1 ∧ x1 ≤ 2147483647) ∧ ((¬ (0 ≤ x1 ∧ x1 ≤ 2)) → q 0 M) ∧ ((0 ≤ x1 ∧ x1 ≤ 2) → (0 ≤ x1 ∧ x1 < 3) ∧ (-2147483648 ≤ (M 17 x1) ∧ (M 17 x1) ≤ 2147483647) ∧ (((M 17 x1) = 0) → q 0 M) ∧ ((¬ ((M 17 x1) = 0)) → q 1 M))) : zT g (z2 o) mX10_isKept (zQi (z2 o) q) 0 [(0, zA g 1), (1, zI x1)] [] M := by
  refine zr_aload_n 0 dX10_isKept_0 rfl ?_
  refine zr_iload_n 1 dX10_isKept_1 rfl ?_
  obtain ⟨c1, W⟩ := W
  refine zt_callVi (As := [zI x1]) (rest := []) dX10_isKept_2 kX10_isKept_419 rfl rfl rfl rfl (Nat.le_of_ble_eq_true rfl) (c_isBox c1) (fun r2 N4 h3 => ?_)
  rw [h3.1, h3.2]
  refine zt_ifeq_b (tgt := 21) dX10_isKept_5 (by decide) (fun h => ?_) (fun h => ?_)
  · have W := W.1 h
    refine zr_iconst dX10_isKept_21 ?_
    exact zt_zret dX10_isKept_22 rfl (by decide) W
  · have W := W.2 h
    refine zr_aload_n 0 dX10_isKept_8 rfl ?_
    refine zr_getr (b := 17) dX10_isKept_9 fX10_66 rfl rfl rfl (by decide) ?_
    refine zr_iload_n 1 dX10_isKept_12 rfl ?_
    obtain ⟨c5, W⟩ := W
    refine zr_zald dX10_isKept_13 rfl (by decide) c5 ?_
    obtain ⟨c6, W⟩ := W
    refine zr_if_eq (tgt := 21) dX10_isKept_14 (by decide) c6 (fun h => ?_) (fun h => ?_)
    · have W := W.1 h
      refine zr_iconst dX10_isKept_21 ?_
      exact zt_zret dX10_isKept_22 rfl (by decide) W
    · have W := W.2 h
      refine zr_iconst dX10_isKept_17 ?_
      refine zr_goto (tgt := 22) dX10_isKept_18 (by decide) ?_
      exact zt_zret dX10_isKept_22 rfl (by decide) W
section HB
variable {g : zG} {o : Bool} {M : zM} {C R c x v : Int}
theorem c_isKept2 (h1 : -2147483648 ≤ x ∧ x ≤ 2147483647) (hk : kOk (M 17)) : zKi g (z2 o) mX10_isKept [zA g 1, zI x] M (fun r M' => r = zb ((0 ≤ x ∧ x < 3) ∧ M 17 x = 1) ∧ M' = M) := by
  refine zki_of rfl (Nat.le_of_ble_eq_true rfl) (SX10_isKept_0 ⟨h1, fun h => ⟨(zb_f (by omega)).symm, rfl⟩, fun h => ?_⟩)
  have := hk x (by omega) (by omega)
  exact ⟨by omega, by omega, fun h'' => ⟨(zb_f (by omega)).symm, rfl⟩, fun h'' => ⟨(zb_t (by omega)).symm, rfl⟩⟩
end HB
theorem dX1_dropOldest_0 : decode cX1_dropOldest 0 = .ok (.aload_n 0, 1) := by decide +kernel
theorem dX1_dropOldest_1 : decode cX1_dropOldest 1 = .ok (.getfield 11, 3) := by decide +kernel
theorem dX1_dropOldest_4 : decode cX1_dropOldest 4 = .ok (.iconst 0, 1) := by decide +kernel
theorem dX1_dropOldest_5 : decode cX1_dropOldest 5 = .ok (.aaload, 1) := by decide +kernel
theorem dX1_dropOldest_6 : decode cX1_dropOldest 6 = .ok (.astore_n 1, 1) := by decide +kernel
theorem dX1_dropOldest_7 : decode cX1_dropOldest 7 = .ok (.iconst 0, 1) := by decide +kernel
theorem dX1_dropOldest_8 : decode cX1_dropOldest 8 = .ok (.istore_n 2, 1) := by decide +kernel
theorem dX1_dropOldest_9 : decode cX1_dropOldest 9 = .ok (.iload_n 2, 1) := by decide +kernel
theorem dX1_dropOldest_10 : decode cX1_dropOldest 10 = .ok (.bipush 20, 2) := by decide +kernel
theorem dX1_dropOldest_12 : decode cX1_dropOldest 12 = .ok (.if_icmp .ge 23, 3) := by decide +kernel
theorem dX1_dropOldest_15 : decode cX1_dropOldest 15 = .ok (.aload_n 0, 1) := by decide +kernel
theorem dX1_dropOldest_16 : decode cX1_dropOldest 16 = .ok (.getfield 11, 3) := by decide +kernel
theorem dX1_dropOldest_19 : decode cX1_dropOldest 19 = .ok (.iload_n 2, 1) := by decide +kernel
theorem dX1_dropOldest_20 : decode cX1_dropOldest 20 = .ok (.aload_n 0, 1) := by decide +kernel
theorem dX1_dropOldest_21 : decode cX1_dropOldest 21 = .ok (.getfield 11, 3) := by decide +kernel
theorem dX1_dropOldest_24 : decode cX1_dropOldest 24 = .ok (.iload_n 2, 1) := by decide +kernel
theorem dX1_dropOldest_25 : decode cX1_dropOldest 25 = .ok (.iconst 1, 1) := by decide +kernel
theorem dX1_dropOldest_26 : decode cX1_dropOldest 26 = .ok (.iadd, 1) := by decide +kernel
theorem dX1_dropOldest_27 : decode cX1_dropOldest 27 = .ok (.aaload, 1) := by decide +kernel
theorem dX1_dropOldest_28 : decode cX1_dropOldest 28 = .ok (.aastore, 1) := by decide +kernel
theorem dX1_dropOldest_29 : decode cX1_dropOldest 29 = .ok (.iinc 2 1, 3) := by decide +kernel
theorem dX1_dropOldest_32 : decode cX1_dropOldest 32 = .ok (.goto (-23), 3) := by decide +kernel
theorem dX1_dropOldest_35 : decode cX1_dropOldest 35 = .ok (.aload_n 0, 1) := by decide +kernel
theorem dX1_dropOldest_36 : decode cX1_dropOldest 36 = .ok (.getfield 11, 3) := by decide +kernel
theorem dX1_dropOldest_39 : decode cX1_dropOldest 39 = .ok (.bipush 20, 2) := by decide +kernel
theorem dX1_dropOldest_41 : decode cX1_dropOldest 41 = .ok (.aload_n 1, 1) := by decide +kernel
theorem dX1_dropOldest_42 : decode cX1_dropOldest 42 = .ok (.aastore, 1) := by decide +kernel
theorem dX1_dropOldest_43 : decode cX1_dropOldest 43 = .ok (.return_, 1) := by decide +kernel
set_option maxRecDepth 100000 in
theorem SX1_dropOldest_0 {g : zG} {o : Bool} {M : zM} {q : zM → Prop} (W : ∃ b1 : Nat, (M 37 0 = (b1 : Int)) ∧ zSd b1 ∧ zT g (z1 o) mX1_dropOldest (zQv (z1 o) q) 9 [(0, zA g 36), (1, zA g b1), (2, zI 0)] [] M) : zT g (z1 o) mX1_dropOldest (zQv (z1 o) q) 0 [(0, zA g 36)] [] M := by
  refine zr_aload_n 0 dX1_dropOldest_0 rfl ?_
  refine zr_getr (b := 37) dX1_dropOldest_1 fX1_11 rfl rfl rfl (by decide) ?_
  refine zr_iconst dX1_dropOldest_4 ?_
  obtain ⟨b1, eb1, hb1, W⟩ := W
  refine zr_aald dX1_dropOldest_5 rfl (by decide) ⟨by decide, by decide⟩ eb1 (zsd_nz hb1) ?_
  refine zr_astore_n (l' := [(0, zA g 36), (1, zA g b1)]) dX1_dropOldest_6 (by decide) [1, 0] rfl ?_
  refine zr_iconst dX1_dropOldest_7 ?_
  refine zr_istore_n (l' := [(0, zA g 36), (1, zA g b1), (2, zI 0)]) dX1_dropOldest_8 (by decide) [1, 2, 0] rfl ?_
  exact W
set_option maxRecDepth 100000 in
theorem SX1_dropOldest_9 {g : zG} {o : Bool} {a1 : Nat} (ha1 : zSd a1) {M : zM} {q : zM → Prop} {x2 : Int} (W : (-2147483648 ≤ x2 ∧ x2 ≤ 2147483647) ∧ ((20 ≤ x2) → q (zu M 37 20 (a1 : Nat))) ∧ ((¬ (20 ≤ x2)) → (0 ≤ (x2 + 1) ∧ (x2 + 1) < 21) ∧ ∃ b2 : Nat, (M 37 (x2 + 1) = (b2 : Int)) ∧ zSd b2 ∧ (0 ≤ x2 ∧ x2 < 21) ∧ zT g (z1 o) mX1_dropOldest (zQv (z1 o) q) 9 [(0, zA g 36), (1, zA g a1), (2, zI (x2 + 1))] [] (zu M 37 x2 (b2 : Nat)))) : zT g (z1 o) mX1_dropOldest (zQv (z1 o) q) 9 [(0, zA g 36), (1, zA g a1), (2, zI x2)] [] M := by
  refine zr_iload_n 2 dX1_dropOldest_9 rfl ?_
  refine zr_bipush dX1_dropOldest_10 (by decide) ?_
  obtain ⟨c1, W⟩ := W
  refine zr_icmp_ge (tgt := 35) dX1_dropOldest_12 (by decide) c1 ⟨by decide, by decide⟩ (fun h => ?_) (fun h => ?_)
  · have W := W.1 h
    refine zr_aload_n 0 dX1_dropOldest_35 rfl ?_
    refine zr_getr (b := 37) dX1_dropOldest_36 fX1_11 rfl rfl rfl (by decide) ?_
    refine zr_bipush dX1_dropOldest_39 (by decide) ?_
    refine zr_aload_n 1 dX1_dropOldest_41 rfl ?_
    refine zr_aast (ci := 5) dX1_dropOldest_42 rfl (by decide) ⟨by decide, by decide⟩ (zsd_0 ha1) ?_
    exact zt_ret dX1_dropOldest_43 rfl W
  · have W := W.2 h
    refine zr_aload_n 0 dX1_dropOldest_15 rfl ?_
    refine zr_getr (b := 37) dX1_dropOldest_16 fX1_11 rfl rfl rfl (by decide) ?_
    refine zr_iload_n 2 dX1_dropOldest_19 rfl ?_
    refine zr_aload_n 0 dX1_dropOldest_20 rfl ?_
    refine zr_getr (b := 37) dX1_dropOldest_21 fX1_11 rfl rfl rfl (by decide) ?_
    refine zr_iload_n 2 dX1_dropOldest_24 rfl ?_
    refine zr_iconst dX1_dropOldest_25 ?_
    refine zr_iadd dX1_dropOldest_26 ?_
    obtain ⟨c3, W⟩ := W
    obtain ⟨b2, eb2, hb2, W⟩ := W
    refine zr_aald dX1_dropOldest_27 rfl (by decide) c3 eb2 (zsd_nz hb2) ?_
    obtain ⟨c4, W⟩ := W
    refine zr_aast (ci := 5) dX1_dropOldest_28 rfl (by decide) c4 (zsd_0 hb2) ?_
    refine zr_iinc (q := 2) (l' := [(0, zA g 36), (1, zA g a1), (2, zI (x2 + 1))]) dX1_dropOldest_29 rfl (by decide) [1, 2, 0] rfl ?_
    refine zr_goto (tgt := 9) dX1_dropOldest_32 (by decide) ?_
    exact W
theorem dX1_add_0 : decode cX1_add 0 = .ok (.aload_n 0, 1) := by decide +kernel
theorem dX1_add_1 : decode cX1_add 1 = .ok (.iconst 0, 1) := by decide +kernel
theorem dX1_add_2 : decode cX1_add 2 = .ok (.putfield 21, 3) := by decide +kernel
theorem dX1_add_5 : decode cX1_add 5 = .ok (.aload_n 0, 1) := by decide +kernel
theorem dX1_add_6 : decode cX1_add 6 = .ok (.getfield 17, 3) := by decide +kernel
theorem dX1_add_9 : decode cX1_add 9 = .ok (.bipush 20, 2) := by decide +kernel
theorem dX1_add_11 : decode cX1_add 11 = .ok (.if_icmp .ge 16, 3) := by decide +kernel
theorem dX1_add_14 : decode cX1_add 14 = .ok (.aload_n 0, 1) := by decide +kernel
theorem dX1_add_15 : decode cX1_add 15 = .ok (.dup, 1) := by decide +kernel
theorem dX1_add_16 : decode cX1_add 16 = .ok (.getfield 17, 3) := by decide +kernel
theorem dX1_add_19 : decode cX1_add 19 = .ok (.iconst 1, 1) := by decide +kernel
theorem dX1_add_20 : decode cX1_add 20 = .ok (.iadd, 1) := by decide +kernel
theorem dX1_add_21 : decode cX1_add 21 = .ok (.putfield 17, 3) := by decide +kernel
theorem dX1_add_24 : decode cX1_add 24 = .ok (.goto 7, 3) := by decide +kernel
theorem dX1_add_27 : decode cX1_add 27 = .ok (.aload_n 0, 1) := by decide +kernel
theorem dX1_add_28 : decode cX1_add 28 = .ok (.invokevirtual 29, 3) := by decide +kernel
theorem dX1_add_31 : decode cX1_add 31 = .ok (.aload_n 0, 1) := by decide +kernel
theorem dX1_add_32 : decode cX1_add 32 = .ok (.getfield 11, 3) := by decide +kernel
theorem dX1_add_35 : decode cX1_add 35 = .ok (.aload_n 0, 1) := by decide +kernel
theorem dX1_add_36 : decode cX1_add 36 = .ok (.getfield 17, 3) := by decide +kernel
theorem dX1_add_39 : decode cX1_add 39 = .ok (.aaload, 1) := by decide +kernel
theorem dX1_add_40 : decode cX1_add 40 = .ok (.aload_n 1, 1) := by decide +kernel
theorem dX1_add_41 : decode cX1_add 41 = .ok (.invokevirtual 25, 3) := by decide +kernel
theorem dX1_add_44 : decode cX1_add 44 = .ok (.return_, 1) := by decide +kernel
set_option maxRecDepth 100000 in
theorem SX1_add_0 {g : zG} {o : Bool} {t : Nat} (ht : zSd t) {M : zM} {q : zM → Prop} (W : (-2147483648 ≤ ((zu M 36 2 0) 36 1) ∧ ((zu M 36 2 0) 36 1) ≤ 2147483647) ∧ ((20 ≤ ((zu M 36 2 0) 36 1)) → ∃ q2 : zM → Prop, zKv g (z1 o) mX1_dropOldest [zA g 36] (zu M 36 2 0) q2 ∧ ∀ M4 : zM, q2 M4 → (0 ≤ (M4 36 1) ∧ (M4 36 1) < 21) ∧ ∃ b7 : Nat, (M4 37 (M4 36 1) = (b7 : Int)) ∧ zSd b7 ∧ ∃ q9 : zM → Prop, zKv g (z1 o) mX5_copy [zA g b7, zA g t] M4 q9 ∧ ∀ M11 : zM, q9 M11 → q M11) ∧ ((¬ (20 ≤ ((zu M 36 2 0) 36 1))) → ∀ N14 : zM, N14 = zu M 36 2 0 → (0 ≤ ((zu N14 36 1 ((N14 36 1) + 1)) 36 1) ∧ ((zu N14 36 1 ((N14 36 1) + 1)) 36 1) < 21) ∧ ∃ b16 : Nat, ((zu N14 36 1 ((N14 36 1) + 1)) 37 ((zu N14 36 1 ((N14 36 1) + 1)) 36 1) = (b16 : Int)) ∧ zSd b16 ∧ ∃ q18 : zM → Prop, zKv g (z1 o) mX5_copy [zA g b16, zA g t] (zu N14 36 1 ((N14 36 1) + 1)) q18 ∧ ∀ M20 : zM, q18 M20 → q M20)) : zT g (z1 o) mX1_add (zQv (z1 o) q) 0 [(0, zA g 36), (1, zA g t)] [] M := by
  refine zr_aload_n 0 dX1_add_0 rfl ?_
  refine zr_iconst dX1_add_1 ?_
  refine zt_puti 2 rfl dX1_add_2 fX1_21 lcX1 ltX1_2 rfl rfl ?_
  refine zr_aload_n 0 dX1_add_5 rfl ?_
  refine zt_geti 1 rfl dX1_add_6 fX1_17 rfl (by decide) ?_
  refine zr_bipush dX1_add_9 (by decide) ?_
  obtain ⟨c1, W⟩ := W
  refine zr_icmp_ge (tgt := 27) dX1_add_11 (by decide) c1 ⟨by decide, by decide⟩ (fun h => ?_) (fun h => ?_)
  · have W := W.1 h
    refine zr_aload_n 0 dX1_add_27 rfl ?_
    obtain ⟨q2, k6, W⟩ := W
    refine zt_callVv (As := []) (rest := []) dX1_add_28 kX1_add_29 rfl rfl rfl rfl (Nat.le_of_ble_eq_true rfl) k6 (fun M4 h5 => ?_)
    have W := W M4 h5
    refine zr_aload_n 0 dX1_add_31 rfl ?_
    refine zr_getr (b := 37) dX1_add_32 fX1_11 rfl rfl rfl (by decide) ?_
    refine zr_aload_n 0 dX1_add_35 rfl ?_
    refine zt_geti 1 rfl dX1_add_36 fX1_17 rfl (by decide) ?_
    obtain ⟨c8, W⟩ := W
    obtain ⟨b7, eb7, hb7, W⟩ := W
    refine zr_aald dX1_add_39 rfl (by decide) c8 eb7 (zsd_nz hb7) ?_
    refine zr_aload_n 1 dX1_add_40 rfl ?_
    obtain ⟨q9, k13, W⟩ := W
    refine zt_callVv (As := [zA g t]) (rest := []) dX1_add_41 kX1_add_25 (zsd_0 hb7) rfl rfl rfl (Nat.le_of_ble_eq_true rfl) k13 (fun M11 h12 => ?_)
    have W := W M11 h12
    exact zt_ret dX1_add_44 rfl W
  · have W := W.2 h
    refine zr_aload_n 0 dX1_add_14 rfl ?_
    refine zr_dup dX1_add_15 rfl ?_
    refine zt_geti 1 rfl dX1_add_16 fX1_17 rfl (by decide) ?_
    refine zr_iconst dX1_add_19 ?_
    refine zr_iadd dX1_add_20 ?_
    obtain ⟨N14, e15⟩ : ∃ N : zM, N = zu M 36 2 0 := ⟨_, rfl⟩
    rw [← e15]
    have W := W N14 e15
    refine zt_puti 1 rfl dX1_add_21 fX1_17 lcX1 ltX1_1 rfl rfl ?_
    refine zr_goto (tgt := 31) dX1_add_24 (by decide) ?_
    refine zr_aload_n 0 dX1_add_31 rfl ?_
    refine zr_getr (b := 37) dX1_add_32 fX1_11 rfl rfl rfl (by decide) ?_
    refine zr_aload_n 0 dX1_add_35 rfl ?_
    refine zt_geti 1 rfl dX1_add_36 fX1_17 rfl (by decide) ?_
    obtain ⟨c17, W⟩ := W
    obtain ⟨b16, eb16, hb16, W⟩ := W
    refine zr_aald dX1_add_39 rfl (by decide) c17 eb16 (zsd_nz hb16) ?_
    refine zr_aload_n 1 dX1_add_40 rfl ?_
    obtain ⟨q18, k22, W⟩ := W
    refine zt_callVv (As := [zA g t]) (rest := []) dX1_add_41 kX1_add_25 (zsd_0 hb16) rfl rfl rfl (Nat.le_of_ble_eq_true rfl) k22 (fun M20 h21 => ?_)
    have W := W M20 h21
    exact zt_ret dX1_add_44 rfl W
theorem dX1_forget_0 : decode cX1_forget 0 = .ok (.aload_n 0, 1) := by decide +kernel
theorem dX1_forget_1 : decode cX1_forget 1 = .ok (.iconst 0, 1) := by decide +kernel
theorem dX1_forget_2 : decode cX1_forget 2 = .ok (.putfield 17, 3) := by decide +kernel
theorem dX1_forget_5 : decode cX1_forget 5 = .ok (.aload_n 0, 1) := by decide +kernel
theorem dX1_forget_6 : decode cX1_forget 6 = .ok (.iconst 0, 1) := by decide +kernel
theorem dX1_forget_7 : decode cX1_forget 7 = .ok (.putfield 21, 3) := by decide +kernel
theorem dX1_forget_10 : decode cX1_forget 10 = .ok (.aload_n 0, 1) := by decide +kernel
theorem dX1_forget_11 : decode cX1_forget 11 = .ok (.getfield 11, 3) := by decide +kernel
theorem dX1_forget_14 : decode cX1_forget 14 = .ok (.iconst 0, 1) := by decide +kernel
theorem dX1_forget_15 : decode cX1_forget 15 = .ok (.aaload, 1) := by decide +kernel
theorem dX1_forget_16 : decode cX1_forget 16 = .ok (.aload_n 1, 1) := by decide +kernel
theorem dX1_forget_17 : decode cX1_forget 17 = .ok (.invokevirtual 25, 3) := by decide +kernel
theorem dX1_forget_20 : decode cX1_forget 20 = .ok (.return_, 1) := by decide +kernel
set_option maxRecDepth 100000 in
theorem SX1_forget_0 {g : zG} {o : Bool} {t : Nat} (ht : zSd t) {M : zM} {q : zM → Prop} (W : ∀ N1 : zM, N1 = zu M 36 1 0 → ∃ b3 : Nat, ((zu N1 36 2 0) 37 0 = (b3 : Int)) ∧ zSd b3 ∧ ∃ q4 : zM → Prop, zKv g (z1 o) mX5_copy [zA g b3, zA g t] (zu N1 36 2 0) q4 ∧ ∀ M6 : zM, q4 M6 → q M6) : zT g (z1 o) mX1_forget (zQv (z1 o) q) 0 [(0, zA g 36), (1, zA g t)] [] M := by
  refine zr_aload_n 0 dX1_forget_0 rfl ?_
  refine zr_iconst dX1_forget_1 ?_
  refine zt_puti 1 rfl dX1_forget_2 fX1_17 lcX1 ltX1_1 rfl rfl ?_
  refine zr_aload_n 0 dX1_forget_5 rfl ?_
  refine zr_iconst dX1_forget_6 ?_
  obtain ⟨N1, e2⟩ : ∃ N : zM, N = zu M 36 1 0 := ⟨_, rfl⟩
  rw [← e2]
  have W := W N1 e2
  refine zt_puti 2 rfl dX1_forget_7 fX1_21 lcX1 ltX1_2 rfl rfl ?_
  refine zr_aload_n 0 dX1_forget_10 rfl ?_
  refine zr_getr (b := 37) dX1_forget_11 fX1_11 rfl rfl rfl (by decide) ?_
  refine zr_iconst dX1_forget_14 ?_
  obtain ⟨b3, eb3, hb3, W⟩ := W
  refine zr_aald dX1_forget_15 rfl (by decide) ⟨by decide, by decide⟩ eb3 (zsd_nz hb3) ?_
  refine zr_aload_n 1 dX1_forget_16 rfl ?_
  obtain ⟨q4, k8, W⟩ := W
  refine zt_callVv (As := [zA g t]) (rest := []) dX1_forget_17 kX1_forget_25 (zsd_0 hb3) rfl rfl rfl (Nat.le_of_ble_eq_true rfl) k8 (fun M6 h7 => ?_)
  have W := W M6 h7
  exact zt_ret dX1_forget_20 rfl W
theorem dX1_goBack_0 : decode cX1_goBack 0 = .ok (.aload_n 0, 1) := by decide +kernel
theorem dX1_goBack_1 : decode cX1_goBack 1 = .ok (.getfield 17, 3) := by decide +kernel
theorem dX1_goBack_4 : decode cX1_goBack 4 = .ok (.ifCond .ne 5, 3) := by decide +kernel
theorem dX1_goBack_7 : decode cX1_goBack 7 = .ok (.iconst 0, 1) := by decide +kernel
theorem dX1_goBack_8 : decode cX1_goBack 8 = .ok (.ireturn, 1) := by decide +kernel
theorem dX1_goBack_9 : decode cX1_goBack 9 = .ok (.aload_n 0, 1) := by decide +kernel
theorem dX1_goBack_10 : decode cX1_goBack 10 = .ok (.dup, 1) := by decide +kernel
theorem dX1_goBack_11 : decode cX1_goBack 11 = .ok (.getfield 17, 3) := by decide +kernel
theorem dX1_goBack_14 : decode cX1_goBack 14 = .ok (.iconst 1, 1) := by decide +kernel
theorem dX1_goBack_15 : decode cX1_goBack 15 = .ok (.isub, 1) := by decide +kernel
theorem dX1_goBack_16 : decode cX1_goBack 16 = .ok (.putfield 17, 3) := by decide +kernel
theorem dX1_goBack_19 : decode cX1_goBack 19 = .ok (.aload_n 0, 1) := by decide +kernel
theorem dX1_goBack_20 : decode cX1_goBack 20 = .ok (.dup, 1) := by decide +kernel
theorem dX1_goBack_21 : decode cX1_goBack 21 = .ok (.getfield 21, 3) := by decide +kernel
theorem dX1_goBack_24 : decode cX1_goBack 24 = .ok (.iconst 1, 1) := by decide +kernel
theorem dX1_goBack_25 : decode cX1_goBack 25 = .ok (.iadd, 1) := by decide +kernel
theorem dX1_goBack_26 : decode cX1_goBack 26 = .ok (.putfield 21, 3) := by decide +kernel
theorem dX1_goBack_29 : decode cX1_goBack 29 = .ok (.aload_n 1, 1) := by decide +kernel
theorem dX1_goBack_30 : decode cX1_goBack 30 = .ok (.aload_n 0, 1) := by decide +kernel
theorem dX1_goBack_31 : decode cX1_goBack 31 = .ok (.getfield 11, 3) := by decide +kernel
theorem dX1_goBack_34 : decode cX1_goBack 34 = .ok (.aload_n 0, 1) := by decide +kernel
theorem dX1_goBack_35 : decode cX1_goBack 35 = .ok (.getfield 17, 3) := by decide +kernel
theorem dX1_goBack_38 : decode cX1_goBack 38 = .ok (.aaload, 1) := by decide +kernel
theorem dX1_goBack_39 : decode cX1_goBack 39 = .ok (.invokevirtual 25, 3) := by decide +kernel
theorem dX1_goBack_42 : decode cX1_goBack 42 = .ok (.iconst 1, 1) := by decide +kernel
theorem dX1_goBack_43 : decode cX1_goBack 43 = .ok (.ireturn, 1) := by decide +kernel
set_option maxRecDepth 100000 in
theorem SX1_goBack_0 {g : zG} {o : Bool} {t : Nat} (ht : zSd t) {M : zM} {q : Int → zM → Prop} (W : (-2147483648 ≤ (M 36 1) ∧ (M 36 1) ≤ 2147483647) ∧ (((M 36 1) ≠ 0) → ∀ N2 : zM, N2 = zu M 36 1 ((M 36 1) - 1) → (0 ≤ ((zu N2 36 2 ((N2 36 2) + 1)) 36 1) ∧ ((zu N2 36 2 ((N2 36 2) + 1)) 36 1) < 21) ∧ ∃ b4 : Nat, ((zu N2 36 2 ((N2 36 2) + 1)) 37 ((zu N2 36 2 ((N2 36 2) + 1)) 36 1) = (b4 : Int)) ∧ zSd b4 ∧ ∃ q6 : zM → Prop, zKv g (z1 o) mX5_copy [zA g t, zA g b4] (zu N2 36 2 ((N2 36 2) + 1)) q6 ∧ ∀ M8 : zM, q6 M8 → q 1 M8) ∧ (((M 36 1) = 0) → q 0 M)) : zT g (z1 o) mX1_goBack (zQi (z1 o) q) 0 [(0, zA g 36), (1, zA g t)] [] M := by
  refine zr_aload_n 0 dX1_goBack_0 rfl ?_
  refine zt_geti 1 rfl dX1_goBack_1 fX1_17 rfl (by decide) ?_
  obtain ⟨c1, W⟩ := W
  refine zr_if_ne (tgt := 9) dX1_goBack_4 (by decide) c1 (fun h => ?_) (fun h => ?_)
  · have W := W.1 h
    refine zr_aload_n 0 dX1_goBack_9 rfl ?_
    refine zr_dup dX1_goBack_10 rfl ?_
    refine zt_geti 1 rfl dX1_goBack_11 fX1_17 rfl (by decide) ?_
    refine zr_iconst dX1_goBack_14 ?_
    refine zr_isub dX1_goBack_15 ?_
    refine zt_puti 1 rfl dX1_goBack_16 fX1_17 lcX1 ltX1_1 rfl rfl ?_
    refine zr_aload_n 0 dX1_goBack_19 rfl ?_
    refine zr_dup dX1_goBack_20 rfl ?_
    refine zt_geti 2 rfl dX1_goBack_21 fX1_21 rfl (by decide) ?_
    refine zr_iconst dX1_goBack_24 ?_
    refine zr_iadd dX1_goBack_25 ?_
    obtain ⟨N2, e3⟩ : ∃ N : zM, N = zu M 36 1 ((M 36 1) - 1) := ⟨_, rfl⟩
    rw [← e3]
    have W := W N2 e3
    refine zt_puti 2 rfl dX1_goBack_26 fX1_21 lcX1 ltX1_2 rfl rfl ?_
    refine zr_aload_n 1 dX1_goBack_29 rfl ?_
    refine zr_aload_n 0 dX1_goBack_30 rfl ?_
    refine zr_getr (b := 37) dX1_goBack_31 fX1_11 rfl rfl rfl (by decide) ?_
    refine zr_aload_n 0 dX1_goBack_34 rfl ?_
    refine zt_geti 1 rfl dX1_goBack_35 fX1_17 rfl (by decide) ?_
    obtain ⟨c5, W⟩ := W
    obtain ⟨b4, eb4, hb4, W⟩ := W
    refine zr_aald dX1_goBack_38 rfl (by decide) c5 eb4 (zsd_nz hb4) ?_
    obtain ⟨q6, k10, W⟩ := W
    refine zt_callVv (As := [zA g b4]) (rest := []) dX1_goBack_39 kX1_goBack_25 (zsd_0 ht) rfl rfl rfl (Nat.le_of_ble_eq_true rfl) k10 (fun M8 h9 => ?_)
    have W := W M8 h9
    refine zr_iconst dX1_goBack_42 ?_
    exact zt_zret dX1_goBack_43 rfl (by decide) W
  · have W := W.2 h
    refine zr_iconst dX1_goBack_7 ?_
    exact zt_zret dX1_goBack_8 rfl (by decide) W
theorem dX1_goOn_0 : decode cX1_goOn 0 = .ok (.aload_n 0, 1) := by decide +kernel
theorem dX1_goOn_1 : decode cX1_goOn 1 = .ok (.getfield 21, 3) := by decide +kernel
theorem dX1_goOn_4 : decode cX1_goOn 4 = .ok (.ifCond .ne 5, 3) := by decide +kernel
theorem dX1_goOn_7 : decode cX1_goOn 7 = .ok (.iconst 0, 1) := by decide +kernel
theorem dX1_goOn_8 : decode cX1_goOn 8 = .ok (.ireturn, 1) := by decide +kernel
theorem dX1_goOn_9 : decode cX1_goOn 9 = .ok (.aload_n 0, 1) := by decide +kernel
theorem dX1_goOn_10 : decode cX1_goOn 10 = .ok (.dup, 1) := by decide +kernel
theorem dX1_goOn_11 : decode cX1_goOn 11 = .ok (.getfield 21, 3) := by decide +kernel
theorem dX1_goOn_14 : decode cX1_goOn 14 = .ok (.iconst 1, 1) := by decide +kernel
theorem dX1_goOn_15 : decode cX1_goOn 15 = .ok (.isub, 1) := by decide +kernel
theorem dX1_goOn_16 : decode cX1_goOn 16 = .ok (.putfield 21, 3) := by decide +kernel
theorem dX1_goOn_19 : decode cX1_goOn 19 = .ok (.aload_n 0, 1) := by decide +kernel
theorem dX1_goOn_20 : decode cX1_goOn 20 = .ok (.dup, 1) := by decide +kernel
theorem dX1_goOn_21 : decode cX1_goOn 21 = .ok (.getfield 17, 3) := by decide +kernel
theorem dX1_goOn_24 : decode cX1_goOn 24 = .ok (.iconst 1, 1) := by decide +kernel
theorem dX1_goOn_25 : decode cX1_goOn 25 = .ok (.iadd, 1) := by decide +kernel
theorem dX1_goOn_26 : decode cX1_goOn 26 = .ok (.putfield 17, 3) := by decide +kernel
theorem dX1_goOn_29 : decode cX1_goOn 29 = .ok (.aload_n 1, 1) := by decide +kernel
theorem dX1_goOn_30 : decode cX1_goOn 30 = .ok (.aload_n 0, 1) := by decide +kernel
theorem dX1_goOn_31 : decode cX1_goOn 31 = .ok (.getfield 11, 3) := by decide +kernel
theorem dX1_goOn_34 : decode cX1_goOn 34 = .ok (.aload_n 0, 1) := by decide +kernel
theorem dX1_goOn_35 : decode cX1_goOn 35 = .ok (.getfield 17, 3) := by decide +kernel
theorem dX1_goOn_38 : decode cX1_goOn 38 = .ok (.aaload, 1) := by decide +kernel
theorem dX1_goOn_39 : decode cX1_goOn 39 = .ok (.invokevirtual 25, 3) := by decide +kernel
theorem dX1_goOn_42 : decode cX1_goOn 42 = .ok (.iconst 1, 1) := by decide +kernel
theorem dX1_goOn_43 : decode cX1_goOn 43 = .ok (.ireturn, 1) := by decide +kernel
set_option maxRecDepth 100000 in
theorem SX1_goOn_0 {g : zG} {o : Bool} {t : Nat} (ht : zSd t) {M : zM} {q : Int → zM → Prop} (W : (-2147483648 ≤ (M 36 2) ∧ (M 36 2) ≤ 2147483647) ∧ (((M 36 2) ≠ 0) → ∀ N2 : zM, N2 = zu M 36 2 ((M 36 2) - 1) → (0 ≤ ((zu N2 36 1 ((N2 36 1) + 1)) 36 1) ∧ ((zu N2 36 1 ((N2 36 1) + 1)) 36 1) < 21) ∧ ∃ b4 : Nat, ((zu N2 36 1 ((N2 36 1) + 1)) 37 ((zu N2 36 1 ((N2 36 1) + 1)) 36 1) = (b4 : Int)) ∧ zSd b4 ∧ ∃ q6 : zM → Prop, zKv g (z1 o) mX5_copy [zA g t, zA g b4] (zu N2 36 1 ((N2 36 1) + 1)) q6 ∧ ∀ M8 : zM, q6 M8 → q 1 M8) ∧ (((M 36 2) = 0) → q 0 M)) : zT g (z1 o) mX1_goOn (zQi (z1 o) q) 0 [(0, zA g 36), (1, zA g t)] [] M := by
  refine zr_aload_n 0 dX1_goOn_0 rfl ?_
  refine zt_geti 2 rfl dX1_goOn_1 fX1_21 rfl (by decide) ?_
  obtain ⟨c1, W⟩ := W
  refine zr_if_ne (tgt := 9) dX1_goOn_4 (by decide) c1 (fun h => ?_) (fun h => ?_)
  · have W := W.1 h
    refine zr_aload_n 0 dX1_goOn_9 rfl ?_
    refine zr_dup dX1_goOn_10 rfl ?_
    refine zt_geti 2 rfl dX1_goOn_11 fX1_21 rfl (by decide) ?_
    refine zr_iconst dX1_goOn_14 ?_
    refine zr_isub dX1_goOn_15 ?_
    refine zt_puti 2 rfl dX1_goOn_16 fX1_21 lcX1 ltX1_2 rfl rfl ?_
    refine zr_aload_n 0 dX1_goOn_19 rfl ?_
    refine zr_dup dX1_goOn_20 rfl ?_
    refine zt_geti 1 rfl dX1_goOn_21 fX1_17 rfl (by decide) ?_
    refine zr_iconst dX1_goOn_24 ?_
    refine zr_iadd dX1_goOn_25 ?_
    obtain ⟨N2, e3⟩ : ∃ N : zM, N = zu M 36 2 ((M 36 2) - 1) := ⟨_, rfl⟩
    rw [← e3]
    have W := W N2 e3
    refine zt_puti 1 rfl dX1_goOn_26 fX1_17 lcX1 ltX1_1 rfl rfl ?_
    refine zr_aload_n 1 dX1_goOn_29 rfl ?_
    refine zr_aload_n 0 dX1_goOn_30 rfl ?_
    refine zr_getr (b := 37) dX1_goOn_31 fX1_11 rfl rfl rfl (by decide) ?_
    refine zr_aload_n 0 dX1_goOn_34 rfl ?_
    refine zt_geti 1 rfl dX1_goOn_35 fX1_17 rfl (by decide) ?_
    obtain ⟨c5, W⟩ := W
    obtain ⟨b4, eb4, hb4, W⟩ := W
    refine zr_aald dX1_goOn_38 rfl (by decide) c5 eb4 (zsd_nz hb4) ?_
    obtain ⟨q6, k10, W⟩ := W
    refine zt_callVv (As := [zA g b4]) (rest := []) dX1_goOn_39 kX1_goOn_25 (zsd_0 ht) rfl rfl rfl (Nat.le_of_ble_eq_true rfl) k10 (fun M8 h9 => ?_)
    have W := W M8 h9
    refine zr_iconst dX1_goOn_42 ?_
    exact zt_zret dX1_goOn_43 rfl (by decide) W
  · have W := W.2 h
    refine zr_iconst dX1_goOn_7 ?_
    exact zt_zret dX1_goOn_8 rfl (by decide) W
theorem dX9_undo_0 : decode cX9_undo 0 = .ok (.aload_n 0, 1) := by decide +kernel
theorem dX9_undo_1 : decode cX9_undo 1 = .ok (.getfield 60, 3) := by decide +kernel
theorem dX9_undo_4 : decode cX9_undo 4 = .ok (.aload_n 0, 1) := by decide +kernel
theorem dX9_undo_5 : decode cX9_undo 5 = .ok (.getfield 39, 3) := by decide +kernel
theorem dX9_undo_8 : decode cX9_undo 8 = .ok (.invokevirtual 212, 3) := by decide +kernel
theorem dX9_undo_11 : decode cX9_undo 11 = .ok (.ireturn, 1) := by decide +kernel
set_option maxRecDepth 100000 in
theorem SX9_undo_0 {g : zG} {o : Bool} {M : zM} {q : Int → zM → Prop} (W : ∃ q1 : Int → zM → Prop, zKi g (z1 o) mX1_goBack [zA g 36, zA g 24] M q1 ∧ ∀ (r2 : Int) (M3 : zM), q1 r2 M3 → (r2 = 0 ∨ r2 = 1) ∧ q r2 M3) : zT g (z1 o) mX9_undo (zQi (z1 o) q) 0 [(0, zA g 1)] [] M := by
  refine zr_aload_n 0 dX9_undo_0 rfl ?_
  refine zr_getr (b := 36) dX9_undo_1 fX9_60 rfl rfl rfl (by decide) ?_
  refine zr_aload_n 0 dX9_undo_4 rfl ?_
  refine zr_getr (b := 24) dX9_undo_5 fX9_39 rfl rfl rfl (by decide) ?_
  obtain ⟨q1, k5, W⟩ := W
  refine zt_callVi (As := [zA g 24]) (rest := []) dX9_undo_8 kX9_undo_212 rfl rfl rfl rfl (Nat.le_of_ble_eq_true rfl) k5 (fun r2 M3 h4 => ?_)
  have W := W r2 M3 h4
  exact zt_zret dX9_undo_11 rfl W.1 W.2
theorem dX9_redo_0 : decode cX9_redo 0 = .ok (.aload_n 0, 1) := by decide +kernel
theorem dX9_redo_1 : decode cX9_redo 1 = .ok (.getfield 60, 3) := by decide +kernel
theorem dX9_redo_4 : decode cX9_redo 4 = .ok (.aload_n 0, 1) := by decide +kernel
theorem dX9_redo_5 : decode cX9_redo 5 = .ok (.getfield 39, 3) := by decide +kernel
theorem dX9_redo_8 : decode cX9_redo 8 = .ok (.invokevirtual 216, 3) := by decide +kernel
theorem dX9_redo_11 : decode cX9_redo 11 = .ok (.ireturn, 1) := by decide +kernel
set_option maxRecDepth 100000 in
theorem SX9_redo_0 {g : zG} {o : Bool} {M : zM} {q : Int → zM → Prop} (W : ∃ q1 : Int → zM → Prop, zKi g (z1 o) mX1_goOn [zA g 36, zA g 24] M q1 ∧ ∀ (r2 : Int) (M3 : zM), q1 r2 M3 → (r2 = 0 ∨ r2 = 1) ∧ q r2 M3) : zT g (z1 o) mX9_redo (zQi (z1 o) q) 0 [(0, zA g 1)] [] M := by
  refine zr_aload_n 0 dX9_redo_0 rfl ?_
  refine zr_getr (b := 36) dX9_redo_1 fX9_60 rfl rfl rfl (by decide) ?_
  refine zr_aload_n 0 dX9_redo_4 rfl ?_
  refine zr_getr (b := 24) dX9_redo_5 fX9_39 rfl rfl rfl (by decide) ?_
  obtain ⟨q1, k5, W⟩ := W
  refine zt_callVi (As := [zA g 24]) (rest := []) dX9_redo_8 kX9_redo_216 rfl rfl rfl rfl (Nat.le_of_ble_eq_true rfl) k5 (fun r2 M3 h4 => ?_)
  have W := W r2 M3 h4
  exact zt_zret dX9_redo_11 rfl W.1 W.2
theorem dX9_blow_0 : decode cX9_blow 0 = .ok (.iload_n 1, 1) := by decide +kernel
theorem dX9_blow_1 : decode cX9_blow 1 = .ok (.iconst 1, 1) := by decide +kernel
theorem dX9_blow_2 : decode cX9_blow 2 = .ok (.if_icmp .lt 10, 3) := by decide +kernel
theorem dX9_blow_5 : decode cX9_blow 5 = .ok (.iload_n 1, 1) := by decide +kernel
theorem dX9_blow_6 : decode cX9_blow 6 = .ok (.sipush 500, 3) := by decide +kernel
theorem dX9_blow_9 : decode cX9_blow 9 = .ok (.if_icmp .le 5, 3) := by decide +kernel
theorem dX9_blow_12 : decode cX9_blow 12 = .ok (.iconst (-1), 1) := by decide +kernel
theorem dX9_blow_13 : decode cX9_blow 13 = .ok (.ireturn, 1) := by decide +kernel
theorem dX9_blow_14 : decode cX9_blow 14 = .ok (.aload_n 0, 1) := by decide +kernel
theorem dX9_blow_15 : decode cX9_blow 15 = .ok (.getfield 50, 3) := by decide +kernel
theorem dX9_blow_18 : decode cX9_blow 18 = .ok (.iload_n 1, 1) := by decide +kernel
theorem dX9_blow_19 : decode cX9_blow 19 = .ok (.invokevirtual 188, 3) := by decide +kernel
theorem dX9_blow_22 : decode cX9_blow 22 = .ok (.istore_n 2, 1) := by decide +kernel
theorem dX9_blow_23 : decode cX9_blow 23 = .ok (.aload_n 0, 1) := by decide +kernel
theorem dX9_blow_24 : decode cX9_blow 24 = .ok (.getfield 60, 3) := by decide +kernel
theorem dX9_blow_27 : decode cX9_blow 27 = .ok (.aload_n 0, 1) := by decide +kernel
theorem dX9_blow_28 : decode cX9_blow 28 = .ok (.getfield 39, 3) := by decide +kernel
theorem dX9_blow_31 : decode cX9_blow 31 = .ok (.invokevirtual 191, 3) := by decide +kernel
theorem dX9_blow_34 : decode cX9_blow 34 = .ok (.iload_n 2, 1) := by decide +kernel
theorem dX9_blow_35 : decode cX9_blow 35 = .ok (.ireturn, 1) := by decide +kernel
set_option maxRecDepth 100000 in
theorem SX9_blow_0 {g : zG} {o : Bool} {M : zM} {q : Int → zM → Prop} {x1 : Int} (W : (-2147483648 ≤ x1 ∧ x1 ≤ 2147483647) ∧ ((x1 < 1) → q (-1) M) ∧ ((¬ (x1 < 1)) → ((x1 ≤ 500) → ∃ q2 : Int → zM → Prop, zKi g (z1 o) mX7_blowOn [zA g 32, zI x1] M q2 ∧ ∀ (r3 : Int) (M4 : zM), q2 r3 M4 → ∃ q7 : zM → Prop, zKv g (z1 o) mX1_add [zA g 36, zA g 24] M4 q7 ∧ ∀ M9 : zM, q7 M9 → q r3 M9) ∧ ((¬ (x1 ≤ 500)) → q (-1) M))) : zT g (z1 o) mX9_blow (zQi (z1 o) q) 0 [(0, zA g 1), (1, zI x1)] [] M := by
  refine zr_iload_n 1 dX9_blow_0 rfl ?_
  refine zr_iconst dX9_blow_1 ?_
  obtain ⟨c1, W⟩ := W
  refine zr_icmp_lt (tgt := 12) dX9_blow_2 (by decide) c1 ⟨by decide, by decide⟩ (fun h => ?_) (fun h => ?_)
  · have W := W.1 h
    refine zr_iconst dX9_blow_12 ?_
    exact zt_iret dX9_blow_13 rfl W
  · have W := W.2 h
    refine zr_iload_n 1 dX9_blow_5 rfl ?_
    refine zr_sipush dX9_blow_6 (by decide) ?_
    refine zr_icmp_le (tgt := 14) dX9_blow_9 (by decide) c1 ⟨by decide, by decide⟩ (fun h => ?_) (fun h => ?_)
    · have W := W.1 h
      refine zr_aload_n 0 dX9_blow_14 rfl ?_
      refine zr_getr (b := 32) dX9_blow_15 fX9_50 rfl rfl rfl (by decide) ?_
      refine zr_iload_n 1 dX9_blow_18 rfl ?_
      obtain ⟨q2, k6, W⟩ := W
      refine zt_callVi (As := [zI x1]) (rest := []) dX9_blow_19 kX9_blow_188 rfl rfl rfl rfl (Nat.le_of_ble_eq_true rfl) k6 (fun r3 M4 h5 => ?_)
      have W := W r3 M4 h5
      refine zr_istore_n (l' := [(0, zA g 1), (2, zI r3)]) dX9_blow_22 (by decide) [1, 0] rfl ?_
      refine zr_aload_n 0 dX9_blow_23 rfl ?_
      refine zr_getr (b := 36) dX9_blow_24 fX9_60 rfl rfl rfl (by decide) ?_
      refine zr_aload_n 0 dX9_blow_27 rfl ?_
      refine zr_getr (b := 24) dX9_blow_28 fX9_39 rfl rfl rfl (by decide) ?_
      obtain ⟨q7, k11, W⟩ := W
      refine zt_callVv (As := [zA g 24]) (rest := []) dX9_blow_31 kX9_blow_191 rfl rfl rfl rfl (Nat.le_of_ble_eq_true rfl) k11 (fun M9 h10 => ?_)
      have W := W M9 h10
      refine zr_iload_n 1 dX9_blow_34 rfl ?_
      exact zt_iret dX9_blow_35 rfl W
    · have W := W.2 h
      refine zr_iconst dX9_blow_12 ?_
      exact zt_iret dX9_blow_13 rfl W
theorem dX9_put_0 : decode cX9_put 0 = .ok (.aload_n 0, 1) := by decide +kernel
theorem dX9_put_1 : decode cX9_put 1 = .ok (.getfield 28, 3) := by decide +kernel
theorem dX9_put_4 : decode cX9_put 4 = .ok (.iload_n 1, 1) := by decide +kernel
theorem dX9_put_5 : decode cX9_put 5 = .ok (.invokevirtual 148, 3) := by decide +kernel
theorem dX9_put_8 : decode cX9_put 8 = .ok (.ifCond .eq 14, 3) := by decide +kernel
theorem dX9_put_11 : decode cX9_put 11 = .ok (.iload_n 2, 1) := by decide +kernel
theorem dX9_put_12 : decode cX9_put 12 = .ok (.iconst 1, 1) := by decide +kernel
theorem dX9_put_13 : decode cX9_put 13 = .ok (.if_icmp .lt 9, 3) := by decide +kernel
theorem dX9_put_16 : decode cX9_put 16 = .ok (.iload_n 2, 1) := by decide +kernel
theorem dX9_put_17 : decode cX9_put 17 = .ok (.bipush 50, 2) := by decide +kernel
theorem dX9_put_19 : decode cX9_put 19 = .ok (.if_icmp .le 5, 3) := by decide +kernel
theorem dX9_put_22 : decode cX9_put 22 = .ok (.iconst (-1), 1) := by decide +kernel
theorem dX9_put_23 : decode cX9_put 23 = .ok (.ireturn, 1) := by decide +kernel
theorem dX9_put_24 : decode cX9_put 24 = .ok (.iconst 0, 1) := by decide +kernel
theorem dX9_put_25 : decode cX9_put 25 = .ok (.istore_n 3, 1) := by decide +kernel
theorem dX9_put_26 : decode cX9_put 26 = .ok (.iload_n 3, 1) := by decide +kernel
theorem dX9_put_27 : decode cX9_put 27 = .ok (.iload_n 2, 1) := by decide +kernel
theorem dX9_put_28 : decode cX9_put 28 = .ok (.if_icmp .ge 17, 3) := by decide +kernel
theorem dX9_put_31 : decode cX9_put 31 = .ok (.aload_n 0, 1) := by decide +kernel
theorem dX9_put_32 : decode cX9_put 32 = .ok (.getfield 50, 3) := by decide +kernel
theorem dX9_put_35 : decode cX9_put 35 = .ok (.iload_n 1, 1) := by decide +kernel
theorem dX9_put_36 : decode cX9_put 36 = .ok (.invokevirtual 194, 3) := by decide +kernel
theorem dX9_put_39 : decode cX9_put 39 = .ok (.iinc 3 1, 3) := by decide +kernel
theorem dX9_put_42 : decode cX9_put 42 = .ok (.goto (-16), 3) := by decide +kernel
theorem dX9_put_45 : decode cX9_put 45 = .ok (.aload_n 0, 1) := by decide +kernel
theorem dX9_put_46 : decode cX9_put 46 = .ok (.getfield 60, 3) := by decide +kernel
theorem dX9_put_49 : decode cX9_put 49 = .ok (.aload_n 0, 1) := by decide +kernel
theorem dX9_put_50 : decode cX9_put 50 = .ok (.getfield 39, 3) := by decide +kernel
theorem dX9_put_53 : decode cX9_put 53 = .ok (.invokevirtual 191, 3) := by decide +kernel
theorem dX9_put_56 : decode cX9_put 56 = .ok (.aload_n 0, 1) := by decide +kernel
theorem dX9_put_57 : decode cX9_put 57 = .ok (.getfield 39, 3) := by decide +kernel
theorem dX9_put_60 : decode cX9_put 60 = .ok (.getfield 152, 3) := by decide +kernel
theorem dX9_put_63 : decode cX9_put 63 = .ok (.iload_n 1, 1) := by decide +kernel
theorem dX9_put_64 : decode cX9_put 64 = .ok (.iaload, 1) := by decide +kernel
theorem dX9_put_65 : decode cX9_put 65 = .ok (.ireturn, 1) := by decide +kernel
set_option maxRecDepth 100000 in
theorem SX9_put_0 {g : zG} {o : Bool} {C R : Int} {M : zM} {q : Int → zM → Prop} {x1 x2 : Int} (W : (-2147483648 ≤ x1 ∧ x1 ≤ 2147483647) ∧ (zLand M C R) ∧ ((¬ (0 ≤ x1 ∧ x1 < C * R)) → q (-1) M) ∧ ((0 ≤ x1 ∧ x1 < C * R) → (-2147483648 ≤ x2 ∧ x2 ≤ 2147483647) ∧ ((x2 < 1) → q (-1) M) ∧ ((¬ (x2 < 1)) → ((x2 ≤ 50) → zT g (z1 o) mX9_put (zQi (z1 o) q) 26 [(0, zA g 1), (1, zI x1), (2, zI x2), (3, zI 0)] [] M) ∧ ((¬ (x2 ≤ 50)) → q (-1) M)))) : zT g (z1 o) mX9_put (zQi (z1 o) q) 0 [(0, zA g 1), (1, zI x1), (2, zI x2)] [] M := by
  refine zr_aload_n 0 dX9_put_0 rfl ?_
  refine zr_getr (b := 14) dX9_put_1 fX9_28 rfl rfl rfl (by decide) ?_
  refine zr_iload_n 1 dX9_put_4 rfl ?_
  obtain ⟨c1, W⟩ := W
  obtain ⟨c2, W⟩ := W
  refine zt_callVi (As := [zI x1]) (rest := []) dX9_put_5 kX9_put_148 rfl rfl rfl rfl (Nat.le_of_ble_eq_true rfl) (c_has c1 c2) (fun r3 N5 h4 => ?_)
  rw [h4.1, h4.2]
  refine zt_ifeq_b (tgt := 22) dX9_put_8 (by decide) (fun h => ?_) (fun h => ?_)
  · have W := W.1 h
    refine zr_iconst dX9_put_22 ?_
    exact zt_iret dX9_put_23 rfl W
  · have W := W.2 h
    refine zr_iload_n 2 dX9_put_11 rfl ?_
    refine zr_iconst dX9_put_12 ?_
    obtain ⟨c6, W⟩ := W
    refine zr_icmp_lt (tgt := 22) dX9_put_13 (by decide) c6 ⟨by decide, by decide⟩ (fun h => ?_) (fun h => ?_)
    · have W := W.1 h
      refine zr_iconst dX9_put_22 ?_
      exact zt_iret dX9_put_23 rfl W
    · have W := W.2 h
      refine zr_iload_n 2 dX9_put_16 rfl ?_
      refine zr_bipush dX9_put_17 (by decide) ?_
      refine zr_icmp_le (tgt := 24) dX9_put_19 (by decide) c6 ⟨by decide, by decide⟩ (fun h => ?_) (fun h => ?_)
      · have W := W.1 h
        refine zr_iconst dX9_put_24 ?_
        refine zr_istore_n (l' := [(0, zA g 1), (1, zI x1), (2, zI x2), (3, zI 0)]) dX9_put_25 (by decide) [1, 2, 3, 0] rfl ?_
        exact W
      · have W := W.2 h
        refine zr_iconst dX9_put_22 ?_
        exact zt_iret dX9_put_23 rfl W
set_option maxRecDepth 100000 in
theorem SX9_put_26 {g : zG} {o : Bool} {M : zM} {q : Int → zM → Prop} {x1 x2 x3 : Int} (W : (-2147483648 ≤ x3 ∧ x3 ≤ 2147483647) ∧ (-2147483648 ≤ x2 ∧ x2 ≤ 2147483647) ∧ ((x2 ≤ x3) → ∃ q3 : zM → Prop, zKv g (z1 o) mX1_add [zA g 36, zA g 24] M q3 ∧ ∀ M5 : zM, q3 M5 → (0 ≤ x1 ∧ x1 < 96) ∧ q (M5 25 x1) M5) ∧ ((¬ (x2 ≤ x3)) → ∃ q9 : zM → Prop, zKv g (z1 o) mX7_drop [zA g 32, zI x1] M q9 ∧ ∀ M11 : zM, q9 M11 → zT g (z1 o) mX9_put (zQi (z1 o) q) 26 [(0, zA g 1), (1, zI x1), (2, zI x2), (3, zI (x3 + 1))] [] M11)) : zT g (z1 o) mX9_put (zQi (z1 o) q) 26 [(0, zA g 1), (1, zI x1), (2, zI x2), (3, zI x3)] [] M := by
  refine zr_iload_n 3 dX9_put_26 rfl ?_
  refine zr_iload_n 2 dX9_put_27 rfl ?_
  obtain ⟨c1, W⟩ := W
  obtain ⟨c2, W⟩ := W
  refine zr_icmp_ge (tgt := 45) dX9_put_28 (by decide) c1 c2 (fun h => ?_) (fun h => ?_)
  · have W := W.1 h
    refine zr_aload_n 0 dX9_put_45 rfl ?_
    refine zr_getr (b := 36) dX9_put_46 fX9_60 rfl rfl rfl (by decide) ?_
    refine zr_aload_n 0 dX9_put_49 rfl ?_
    refine zr_getr (b := 24) dX9_put_50 fX9_39 rfl rfl rfl (by decide) ?_
    obtain ⟨q3, k7, W⟩ := W
    refine zt_callVv (As := [zA g 24]) (rest := []) dX9_put_53 kX9_put_191 rfl rfl rfl rfl (Nat.le_of_ble_eq_true rfl) k7 (fun M5 h6 => ?_)
    have W := W M5 h6
    refine zr_aload_n 0 dX9_put_56 rfl ?_
    refine zr_getr (b := 24) dX9_put_57 fX9_39 rfl rfl rfl (by decide) ?_
    refine zr_getr (b := 25) dX9_put_60 fX9_152 rfl rfl rfl (by decide) ?_
    refine zr_iload_n 1 dX9_put_63 rfl ?_
    obtain ⟨c8, W⟩ := W
    refine zr_iald dX9_put_64 rfl (by decide) c8 ?_
    exact zt_iret dX9_put_65 rfl W
  · have W := W.2 h
    refine zr_aload_n 0 dX9_put_31 rfl ?_
    refine zr_getr (b := 32) dX9_put_32 fX9_50 rfl rfl rfl (by decide) ?_
    refine zr_iload_n 1 dX9_put_35 rfl ?_
    obtain ⟨q9, k13, W⟩ := W
    refine zt_callVv (As := [zI x1]) (rest := []) dX9_put_36 kX9_put_194 rfl rfl rfl rfl (Nat.le_of_ble_eq_true rfl) k13 (fun M11 h12 => ?_)
    have W := W M11 h12
    refine zr_iinc (q := 3) (l' := [(0, zA g 1), (1, zI x1), (2, zI x2), (3, zI (x3 + 1))]) dX9_put_39 rfl (by decide) [1, 2, 3, 0] rfl ?_
    refine zr_goto (tgt := 26) dX9_put_42 (by decide) ?_
    exact W
theorem dX9_take_0 : decode cX9_take 0 = .ok (.aload_n 0, 1) := by decide +kernel
theorem dX9_take_1 : decode cX9_take 1 = .ok (.getfield 28, 3) := by decide +kernel
theorem dX9_take_4 : decode cX9_take 4 = .ok (.iload_n 1, 1) := by decide +kernel
theorem dX9_take_5 : decode cX9_take 5 = .ok (.invokevirtual 148, 3) := by decide +kernel
theorem dX9_take_8 : decode cX9_take 8 = .ok (.ifCond .eq 15, 3) := by decide +kernel
theorem dX9_take_11 : decode cX9_take 11 = .ok (.aload_n 0, 1) := by decide +kernel
theorem dX9_take_12 : decode cX9_take 12 = .ok (.getfield 39, 3) := by decide +kernel
theorem dX9_take_15 : decode cX9_take 15 = .ok (.getfield 152, 3) := by decide +kernel
theorem dX9_take_18 : decode cX9_take 18 = .ok (.iload_n 1, 1) := by decide +kernel
theorem dX9_take_19 : decode cX9_take 19 = .ok (.iaload, 1) := by decide +kernel
theorem dX9_take_20 : decode cX9_take 20 = .ok (.ifCond .ne 5, 3) := by decide +kernel
theorem dX9_take_23 : decode cX9_take 23 = .ok (.iconst (-1), 1) := by decide +kernel
theorem dX9_take_24 : decode cX9_take 24 = .ok (.ireturn, 1) := by decide +kernel
theorem dX9_take_25 : decode cX9_take 25 = .ok (.aload_n 0, 1) := by decide +kernel
theorem dX9_take_26 : decode cX9_take 26 = .ok (.getfield 50, 3) := by decide +kernel
theorem dX9_take_29 : decode cX9_take 29 = .ok (.iload_n 1, 1) := by decide +kernel
theorem dX9_take_30 : decode cX9_take 30 = .ok (.invokevirtual 197, 3) := by decide +kernel
theorem dX9_take_33 : decode cX9_take 33 = .ok (.aload_n 0, 1) := by decide +kernel
theorem dX9_take_34 : decode cX9_take 34 = .ok (.getfield 60, 3) := by decide +kernel
theorem dX9_take_37 : decode cX9_take 37 = .ok (.aload_n 0, 1) := by decide +kernel
theorem dX9_take_38 : decode cX9_take 38 = .ok (.getfield 39, 3) := by decide +kernel
theorem dX9_take_41 : decode cX9_take 41 = .ok (.invokevirtual 191, 3) := by decide +kernel
theorem dX9_take_44 : decode cX9_take 44 = .ok (.aload_n 0, 1) := by decide +kernel
theorem dX9_take_45 : decode cX9_take 45 = .ok (.getfield 39, 3) := by decide +kernel
theorem dX9_take_48 : decode cX9_take 48 = .ok (.getfield 152, 3) := by decide +kernel
theorem dX9_take_51 : decode cX9_take 51 = .ok (.iload_n 1, 1) := by decide +kernel
theorem dX9_take_52 : decode cX9_take 52 = .ok (.iaload, 1) := by decide +kernel
theorem dX9_take_53 : decode cX9_take 53 = .ok (.ireturn, 1) := by decide +kernel
set_option maxRecDepth 100000 in
theorem SX9_take_0 {g : zG} {o : Bool} {C R : Int} {M : zM} {q : Int → zM → Prop} {x1 : Int} (W : (-2147483648 ≤ x1 ∧ x1 ≤ 2147483647) ∧ (zLand M C R) ∧ ((¬ (0 ≤ x1 ∧ x1 < C * R)) → q (-1) M) ∧ ((0 ≤ x1 ∧ x1 < C * R) → (0 ≤ x1 ∧ x1 < 96) ∧ (-2147483648 ≤ (M 25 x1) ∧ (M 25 x1) ≤ 2147483647) ∧ (((M 25 x1) ≠ 0) → ∃ q8 : zM → Prop, zKv g (z1 o) mX7_lift [zA g 32, zI x1] M q8 ∧ ∀ M10 : zM, q8 M10 → ∃ q13 : zM → Prop, zKv g (z1 o) mX1_add [zA g 36, zA g 24] M10 q13 ∧ ∀ M15 : zM, q13 M15 → q (M15 25 x1) M15) ∧ (((M 25 x1) = 0) → q (-1) M))) : zT g (z1 o) mX9_take (zQi (z1 o) q) 0 [(0, zA g 1), (1, zI x1)] [] M := by
  refine zr_aload_n 0 dX9_take_0 rfl ?_
  refine zr_getr (b := 14) dX9_take_1 fX9_28 rfl rfl rfl (by decide) ?_
  refine zr_iload_n 1 dX9_take_4 rfl ?_
  obtain ⟨c1, W⟩ := W
  obtain ⟨c2, W⟩ := W
  refine zt_callVi (As := [zI x1]) (rest := []) dX9_take_5 kX9_take_148 rfl rfl rfl rfl (Nat.le_of_ble_eq_true rfl) (c_has c1 c2) (fun r3 N5 h4 => ?_)
  rw [h4.1, h4.2]
  refine zt_ifeq_b (tgt := 23) dX9_take_8 (by decide) (fun h => ?_) (fun h => ?_)
  · have W := W.1 h
    refine zr_iconst dX9_take_23 ?_
    exact zt_iret dX9_take_24 rfl W
  · have W := W.2 h
    refine zr_aload_n 0 dX9_take_11 rfl ?_
    refine zr_getr (b := 24) dX9_take_12 fX9_39 rfl rfl rfl (by decide) ?_
    refine zr_getr (b := 25) dX9_take_15 fX9_152 rfl rfl rfl (by decide) ?_
    refine zr_iload_n 1 dX9_take_18 rfl ?_
    obtain ⟨c6, W⟩ := W
    refine zr_iald dX9_take_19 rfl (by decide) c6 ?_
    obtain ⟨c7, W⟩ := W
    refine zr_if_ne (tgt := 25) dX9_take_20 (by decide) c7 (fun h => ?_) (fun h => ?_)
    · have W := W.1 h
      refine zr_aload_n 0 dX9_take_25 rfl ?_
      refine zr_getr (b := 32) dX9_take_26 fX9_50 rfl rfl rfl (by decide) ?_
      refine zr_iload_n 1 dX9_take_29 rfl ?_
      obtain ⟨q8, k12, W⟩ := W
      refine zt_callVv (As := [zI x1]) (rest := []) dX9_take_30 kX9_take_197 rfl rfl rfl rfl (Nat.le_of_ble_eq_true rfl) k12 (fun M10 h11 => ?_)
      have W := W M10 h11
      refine zr_aload_n 0 dX9_take_33 rfl ?_
      refine zr_getr (b := 36) dX9_take_34 fX9_60 rfl rfl rfl (by decide) ?_
      refine zr_aload_n 0 dX9_take_37 rfl ?_
      refine zr_getr (b := 24) dX9_take_38 fX9_39 rfl rfl rfl (by decide) ?_
      obtain ⟨q13, k17, W⟩ := W
      refine zt_callVv (As := [zA g 24]) (rest := []) dX9_take_41 kX9_take_191 rfl rfl rfl rfl (Nat.le_of_ble_eq_true rfl) k17 (fun M15 h16 => ?_)
      have W := W M15 h16
      refine zr_aload_n 0 dX9_take_44 rfl ?_
      refine zr_getr (b := 24) dX9_take_45 fX9_39 rfl rfl rfl (by decide) ?_
      refine zr_getr (b := 25) dX9_take_48 fX9_152 rfl rfl rfl (by decide) ?_
      refine zr_iload_n 1 dX9_take_51 rfl ?_
      refine zr_iald dX9_take_52 rfl (by decide) c6 ?_
      exact zt_iret dX9_take_53 rfl W
    · have W := W.2 h
      refine zr_iconst dX9_take_23 ?_
      exact zt_iret dX9_take_24 rfl W
theorem dX9_sow_0 : decode cX9_sow 0 = .ok (.aload_n 0, 1) := by decide +kernel
theorem dX9_sow_1 : decode cX9_sow 1 = .ok (.getfield 28, 3) := by decide +kernel
theorem dX9_sow_4 : decode cX9_sow 4 = .ok (.iload_n 1, 1) := by decide +kernel
theorem dX9_sow_5 : decode cX9_sow 5 = .ok (.invokevirtual 148, 3) := by decide +kernel
theorem dX9_sow_8 : decode cX9_sow 8 = .ok (.ifCond .eq 24, 3) := by decide +kernel
theorem dX9_sow_11 : decode cX9_sow 11 = .ok (.aload_n 0, 1) := by decide +kernel
theorem dX9_sow_12 : decode cX9_sow 12 = .ok (.getfield 39, 3) := by decide +kernel
theorem dX9_sow_15 : decode cX9_sow 15 = .ok (.getfield 163, 3) := by decide +kernel
theorem dX9_sow_18 : decode cX9_sow 18 = .ok (.iload_n 1, 1) := by decide +kernel
theorem dX9_sow_19 : decode cX9_sow 19 = .ok (.iaload, 1) := by decide +kernel
theorem dX9_sow_20 : decode cX9_sow 20 = .ok (.iload_n 2, 1) := by decide +kernel
theorem dX9_sow_21 : decode cX9_sow 21 = .ok (.ifCond .eq 7, 3) := by decide +kernel
theorem dX9_sow_24 : decode cX9_sow 24 = .ok (.iconst 1, 1) := by decide +kernel
theorem dX9_sow_25 : decode cX9_sow 25 = .ok (.goto 4, 3) := by decide +kernel
theorem dX9_sow_28 : decode cX9_sow 28 = .ok (.iconst 0, 1) := by decide +kernel
theorem dX9_sow_29 : decode cX9_sow 29 = .ok (.if_icmp .ne 5, 3) := by decide +kernel
theorem dX9_sow_32 : decode cX9_sow 32 = .ok (.iconst (-1), 1) := by decide +kernel
theorem dX9_sow_33 : decode cX9_sow 33 = .ok (.ireturn, 1) := by decide +kernel
theorem dX9_sow_34 : decode cX9_sow 34 = .ok (.aload_n 0, 1) := by decide +kernel
theorem dX9_sow_35 : decode cX9_sow 35 = .ok (.getfield 39, 3) := by decide +kernel
theorem dX9_sow_38 : decode cX9_sow 38 = .ok (.getfield 163, 3) := by decide +kernel
theorem dX9_sow_41 : decode cX9_sow 41 = .ok (.iload_n 1, 1) := by decide +kernel
theorem dX9_sow_42 : decode cX9_sow 42 = .ok (.iload_n 2, 1) := by decide +kernel
theorem dX9_sow_43 : decode cX9_sow 43 = .ok (.ifCond .eq 7, 3) := by decide +kernel
theorem dX9_sow_46 : decode cX9_sow 46 = .ok (.iconst 1, 1) := by decide +kernel
theorem dX9_sow_47 : decode cX9_sow 47 = .ok (.goto 4, 3) := by decide +kernel
theorem dX9_sow_50 : decode cX9_sow 50 = .ok (.iconst 0, 1) := by decide +kernel
theorem dX9_sow_51 : decode cX9_sow 51 = .ok (.iastore, 1) := by decide +kernel
theorem dX9_sow_52 : decode cX9_sow 52 = .ok (.aload_n 0, 1) := by decide +kernel
theorem dX9_sow_53 : decode cX9_sow 53 = .ok (.getfield 60, 3) := by decide +kernel
theorem dX9_sow_56 : decode cX9_sow 56 = .ok (.aload_n 0, 1) := by decide +kernel
theorem dX9_sow_57 : decode cX9_sow 57 = .ok (.getfield 39, 3) := by decide +kernel
theorem dX9_sow_60 : decode cX9_sow 60 = .ok (.invokevirtual 191, 3) := by decide +kernel
theorem dX9_sow_63 : decode cX9_sow 63 = .ok (.aload_n 0, 1) := by decide +kernel
theorem dX9_sow_64 : decode cX9_sow 64 = .ok (.invokevirtual 200, 3) := by decide +kernel
theorem dX9_sow_67 : decode cX9_sow 67 = .ok (.ireturn, 1) := by decide +kernel
set_option maxRecDepth 100000 in
theorem SX9_sow_0 {g : zG} {o : Bool} {C R : Int} {M : zM} {q : Int → zM → Prop} {x1 x2 : Int} (W : (-2147483648 ≤ x1 ∧ x1 ≤ 2147483647) ∧ (zLand M C R) ∧ ((¬ (0 ≤ x1 ∧ x1 < C * R)) → q (-1) M) ∧ ((0 ≤ x1 ∧ x1 < C * R) → (0 ≤ x1 ∧ x1 < 96) ∧ (-2147483648 ≤ x2 ∧ x2 ≤ 2147483647) ∧ ((x2 = 0) → (-2147483648 ≤ (M 26 x1) ∧ (M 26 x1) ≤ 2147483647) ∧ (((M 26 x1) ≠ 0) → ((x2 = 0) → ∃ q9 : zM → Prop, zKv g (z1 o) mX1_add [zA g 36, zA g 24] (zu M 26 x1 0) q9 ∧ ∀ M11 : zM, q9 M11 → (zLand M11 C R) ∧ (sOk M11 24) ∧ q (smt (M11 26) (C * R).toNat) M11) ∧ ((¬ (x2 = 0)) → ∃ q19 : zM → Prop, zKv g (z1 o) mX1_add [zA g 36, zA g 24] (zu M 26 x1 1) q19 ∧ ∀ M21 : zM, q19 M21 → (zLand M21 C R) ∧ (sOk M21 24) ∧ q (smt (M21 26) (C * R).toNat) M21)) ∧ (((M 26 x1) = 0) → q (-1) M)) ∧ ((¬ (x2 = 0)) → (-2147483648 ≤ (M 26 x1) ∧ (M 26 x1) ≤ 2147483647) ∧ (((M 26 x1) ≠ 1) → ((x2 = 0) → ∃ q30 : zM → Prop, zKv g (z1 o) mX1_add [zA g 36, zA g 24] (zu M 26 x1 0) q30 ∧ ∀ M32 : zM, q30 M32 → (zLand M32 C R) ∧ (sOk M32 24) ∧ q (smt (M32 26) (C * R).toNat) M32) ∧ ((¬ (x2 = 0)) → ∃ q40 : zM → Prop, zKv g (z1 o) mX1_add [zA g 36, zA g 24] (zu M 26 x1 1) q40 ∧ ∀ M42 : zM, q40 M42 → (zLand M42 C R) ∧ (sOk M42 24) ∧ q (smt (M42 26) (C * R).toNat) M42)) ∧ (((M 26 x1) = 1) → q (-1) M)))) : zT g (z1 o) mX9_sow (zQi (z1 o) q) 0 [(0, zA g 1), (1, zI x1), (2, zI x2)] [] M := by
  refine zr_aload_n 0 dX9_sow_0 rfl ?_
  refine zr_getr (b := 14) dX9_sow_1 fX9_28 rfl rfl rfl (by decide) ?_
  refine zr_iload_n 1 dX9_sow_4 rfl ?_
  obtain ⟨c1, W⟩ := W
  obtain ⟨c2, W⟩ := W
  refine zt_callVi (As := [zI x1]) (rest := []) dX9_sow_5 kX9_sow_148 rfl rfl rfl rfl (Nat.le_of_ble_eq_true rfl) (c_has c1 c2) (fun r3 N5 h4 => ?_)
  rw [h4.1, h4.2]
  refine zt_ifeq_b (tgt := 32) dX9_sow_8 (by decide) (fun h => ?_) (fun h => ?_)
  · have W := W.1 h
    refine zr_iconst dX9_sow_32 ?_
    exact zt_iret dX9_sow_33 rfl W
  · have W := W.2 h
    refine zr_aload_n 0 dX9_sow_11 rfl ?_
    refine zr_getr (b := 24) dX9_sow_12 fX9_39 rfl rfl rfl (by decide) ?_
    refine zr_getr (b := 26) dX9_sow_15 fX9_163 rfl rfl rfl (by decide) ?_
    refine zr_iload_n 1 dX9_sow_18 rfl ?_
    obtain ⟨c6, W⟩ := W
    refine zr_iald dX9_sow_19 rfl (by decide) c6 ?_
    refine zr_iload_n 2 dX9_sow_20 rfl ?_
    obtain ⟨c7, W⟩ := W
    refine zr_if_eq (tgt := 28) dX9_sow_21 (by decide) c7 (fun h => ?_) (fun h => ?_)
    · have W := W.1 h
      refine zr_iconst dX9_sow_28 ?_
      obtain ⟨c8, W⟩ := W
      refine zr_icmp_ne (tgt := 34) dX9_sow_29 (by decide) c8 ⟨by decide, by decide⟩ (fun h => ?_) (fun h => ?_)
      · have W := W.1 h
        refine zr_aload_n 0 dX9_sow_34 rfl ?_
        refine zr_getr (b := 24) dX9_sow_35 fX9_39 rfl rfl rfl (by decide) ?_
        refine zr_getr (b := 26) dX9_sow_38 fX9_163 rfl rfl rfl (by decide) ?_
        refine zr_iload_n 1 dX9_sow_41 rfl ?_
        refine zr_iload_n 2 dX9_sow_42 rfl ?_
        refine zr_if_eq (tgt := 50) dX9_sow_43 (by decide) c7 (fun h => ?_) (fun h => ?_)
        · have W := W.1 h
          refine zr_iconst dX9_sow_50 ?_
          refine zr_iast dX9_sow_51 rfl (by decide) c6 ?_
          refine zr_aload_n 0 dX9_sow_52 rfl ?_
          refine zr_getr (b := 36) dX9_sow_53 fX9_60 rfl rfl rfl (by decide) ?_
          refine zr_aload_n 0 dX9_sow_56 rfl ?_
          refine zr_getr (b := 24) dX9_sow_57 fX9_39 rfl rfl rfl (by decide) ?_
          obtain ⟨q9, k13, W⟩ := W
          refine zt_callVv (As := [zA g 24]) (rest := []) dX9_sow_60 kX9_sow_191 rfl rfl rfl rfl (Nat.le_of_ble_eq_true rfl) k13 (fun M11 h12 => ?_)
          have W := W M11 h12
          refine zr_aload_n 0 dX9_sow_63 rfl ?_
          obtain ⟨c14, W⟩ := W
          obtain ⟨c15, W⟩ := W
          refine zt_callVi (As := []) (rest := []) dX9_sow_64 kX9_sow_200 rfl rfl rfl rfl (Nat.le_of_ble_eq_true rfl) (c_grassy c14 c15) (fun r16 N18 h17 => ?_)
          rw [h17.1, h17.2]
          exact zt_iret dX9_sow_67 rfl W
        · have W := W.2 h
          refine zr_iconst dX9_sow_46 ?_
          refine zr_goto (tgt := 51) dX9_sow_47 (by decide) ?_
          refine zr_iast dX9_sow_51 rfl (by decide) c6 ?_
          refine zr_aload_n 0 dX9_sow_52 rfl ?_
          refine zr_getr (b := 36) dX9_sow_53 fX9_60 rfl rfl rfl (by decide) ?_
          refine zr_aload_n 0 dX9_sow_56 rfl ?_
          refine zr_getr (b := 24) dX9_sow_57 fX9_39 rfl rfl rfl (by decide) ?_
          obtain ⟨q19, k23, W⟩ := W
          refine zt_callVv (As := [zA g 24]) (rest := []) dX9_sow_60 kX9_sow_191 rfl rfl rfl rfl (Nat.le_of_ble_eq_true rfl) k23 (fun M21 h22 => ?_)
          have W := W M21 h22
          refine zr_aload_n 0 dX9_sow_63 rfl ?_
          obtain ⟨c24, W⟩ := W
          obtain ⟨c25, W⟩ := W
          refine zt_callVi (As := []) (rest := []) dX9_sow_64 kX9_sow_200 rfl rfl rfl rfl (Nat.le_of_ble_eq_true rfl) (c_grassy c24 c25) (fun r26 N28 h27 => ?_)
          rw [h27.1, h27.2]
          exact zt_iret dX9_sow_67 rfl W
      · have W := W.2 h
        refine zr_iconst dX9_sow_32 ?_
        exact zt_iret dX9_sow_33 rfl W
    · have W := W.2 h
      refine zr_iconst dX9_sow_24 ?_
      refine zr_goto (tgt := 29) dX9_sow_25 (by decide) ?_
      obtain ⟨c29, W⟩ := W
      refine zr_icmp_ne (tgt := 34) dX9_sow_29 (by decide) c29 ⟨by decide, by decide⟩ (fun h => ?_) (fun h => ?_)
      · have W := W.1 h
        refine zr_aload_n 0 dX9_sow_34 rfl ?_
        refine zr_getr (b := 24) dX9_sow_35 fX9_39 rfl rfl rfl (by decide) ?_
        refine zr_getr (b := 26) dX9_sow_38 fX9_163 rfl rfl rfl (by decide) ?_
        refine zr_iload_n 1 dX9_sow_41 rfl ?_
        refine zr_iload_n 2 dX9_sow_42 rfl ?_
        refine zr_if_eq (tgt := 50) dX9_sow_43 (by decide) c7 (fun h => ?_) (fun h => ?_)
        · have W := W.1 h
          refine zr_iconst dX9_sow_50 ?_
          refine zr_iast dX9_sow_51 rfl (by decide) c6 ?_
          refine zr_aload_n 0 dX9_sow_52 rfl ?_
          refine zr_getr (b := 36) dX9_sow_53 fX9_60 rfl rfl rfl (by decide) ?_
          refine zr_aload_n 0 dX9_sow_56 rfl ?_
          refine zr_getr (b := 24) dX9_sow_57 fX9_39 rfl rfl rfl (by decide) ?_
          obtain ⟨q30, k34, W⟩ := W
          refine zt_callVv (As := [zA g 24]) (rest := []) dX9_sow_60 kX9_sow_191 rfl rfl rfl rfl (Nat.le_of_ble_eq_true rfl) k34 (fun M32 h33 => ?_)
          have W := W M32 h33
          refine zr_aload_n 0 dX9_sow_63 rfl ?_
          obtain ⟨c35, W⟩ := W
          obtain ⟨c36, W⟩ := W
          refine zt_callVi (As := []) (rest := []) dX9_sow_64 kX9_sow_200 rfl rfl rfl rfl (Nat.le_of_ble_eq_true rfl) (c_grassy c35 c36) (fun r37 N39 h38 => ?_)
          rw [h38.1, h38.2]
          exact zt_iret dX9_sow_67 rfl W
        · have W := W.2 h
          refine zr_iconst dX9_sow_46 ?_
          refine zr_goto (tgt := 51) dX9_sow_47 (by decide) ?_
          refine zr_iast dX9_sow_51 rfl (by decide) c6 ?_
          refine zr_aload_n 0 dX9_sow_52 rfl ?_
          refine zr_getr (b := 36) dX9_sow_53 fX9_60 rfl rfl rfl (by decide) ?_
          refine zr_aload_n 0 dX9_sow_56 rfl ?_
          refine zr_getr (b := 24) dX9_sow_57 fX9_39 rfl rfl rfl (by decide) ?_
          obtain ⟨q40, k44, W⟩ := W
          refine zt_callVv (As := [zA g 24]) (rest := []) dX9_sow_60 kX9_sow_191 rfl rfl rfl rfl (Nat.le_of_ble_eq_true rfl) k44 (fun M42 h43 => ?_)
          have W := W M42 h43
          refine zr_aload_n 0 dX9_sow_63 rfl ?_
          obtain ⟨c45, W⟩ := W
          obtain ⟨c46, W⟩ := W
          refine zt_callVi (As := []) (rest := []) dX9_sow_64 kX9_sow_200 rfl rfl rfl rfl (Nat.le_of_ble_eq_true rfl) (c_grassy c45 c46) (fun r47 N49 h48 => ?_)
          rw [h48.1, h48.2]
          exact zt_iret dX9_sow_67 rfl W
      · have W := W.2 h
        refine zr_iconst dX9_sow_32 ?_
        exact zt_iret dX9_sow_33 rfl W
theorem dX9_turn_0 : decode cX9_turn 0 = .ok (.iload_n 1, 1) := by decide +kernel
theorem dX9_turn_1 : decode cX9_turn 1 = .ok (.ifCond .lt 26, 3) := by decide +kernel
theorem dX9_turn_4 : decode cX9_turn 4 = .ok (.iload_n 1, 1) := by decide +kernel
theorem dX9_turn_5 : decode cX9_turn 5 = .ok (.iconst 4, 1) := by decide +kernel
theorem dX9_turn_6 : decode cX9_turn 6 = .ok (.if_icmp .ge 21, 3) := by decide +kernel
theorem dX9_turn_9 : decode cX9_turn 9 = .ok (.iload_n 2, 1) := by decide +kernel
theorem dX9_turn_10 : decode cX9_turn 10 = .ok (.getstatic 203, 3) := by decide +kernel
theorem dX9_turn_13 : decode cX9_turn 13 = .ok (.iload_n 1, 1) := by decide +kernel
theorem dX9_turn_14 : decode cX9_turn 14 = .ok (.iaload, 1) := by decide +kernel
theorem dX9_turn_15 : decode cX9_turn 15 = .ok (.if_icmp .lt 12, 3) := by decide +kernel
theorem dX9_turn_18 : decode cX9_turn 18 = .ok (.iload_n 2, 1) := by decide +kernel
theorem dX9_turn_19 : decode cX9_turn 19 = .ok (.getstatic 206, 3) := by decide +kernel
theorem dX9_turn_22 : decode cX9_turn 22 = .ok (.iload_n 1, 1) := by decide +kernel
theorem dX9_turn_23 : decode cX9_turn 23 = .ok (.iaload, 1) := by decide +kernel
theorem dX9_turn_24 : decode cX9_turn 24 = .ok (.if_icmp .le 5, 3) := by decide +kernel
theorem dX9_turn_27 : decode cX9_turn 27 = .ok (.iconst (-1), 1) := by decide +kernel
theorem dX9_turn_28 : decode cX9_turn 28 = .ok (.ireturn, 1) := by decide +kernel
theorem dX9_turn_29 : decode cX9_turn 29 = .ok (.aload_n 0, 1) := by decide +kernel
theorem dX9_turn_30 : decode cX9_turn 30 = .ok (.getfield 39, 3) := by decide +kernel
theorem dX9_turn_33 : decode cX9_turn 33 = .ok (.getfield 209, 3) := by decide +kernel
theorem dX9_turn_36 : decode cX9_turn 36 = .ok (.iload_n 1, 1) := by decide +kernel
theorem dX9_turn_37 : decode cX9_turn 37 = .ok (.iaload, 1) := by decide +kernel
theorem dX9_turn_38 : decode cX9_turn 38 = .ok (.istore_n 3, 1) := by decide +kernel
theorem dX9_turn_39 : decode cX9_turn 39 = .ok (.aload_n 0, 1) := by decide +kernel
theorem dX9_turn_40 : decode cX9_turn 40 = .ok (.getfield 39, 3) := by decide +kernel
theorem dX9_turn_43 : decode cX9_turn 43 = .ok (.getfield 209, 3) := by decide +kernel
theorem dX9_turn_46 : decode cX9_turn 46 = .ok (.iload_n 1, 1) := by decide +kernel
theorem dX9_turn_47 : decode cX9_turn 47 = .ok (.iload_n 2, 1) := by decide +kernel
theorem dX9_turn_48 : decode cX9_turn 48 = .ok (.iastore, 1) := by decide +kernel
theorem dX9_turn_49 : decode cX9_turn 49 = .ok (.aload_n 0, 1) := by decide +kernel
theorem dX9_turn_50 : decode cX9_turn 50 = .ok (.getfield 60, 3) := by decide +kernel
theorem dX9_turn_53 : decode cX9_turn 53 = .ok (.aload_n 0, 1) := by decide +kernel
theorem dX9_turn_54 : decode cX9_turn 54 = .ok (.getfield 39, 3) := by decide +kernel
theorem dX9_turn_57 : decode cX9_turn 57 = .ok (.invokevirtual 191, 3) := by decide +kernel
theorem dX9_turn_60 : decode cX9_turn 60 = .ok (.iload_n 3, 1) := by decide +kernel
theorem dX9_turn_61 : decode cX9_turn 61 = .ok (.ireturn, 1) := by decide +kernel
set_option maxRecDepth 100000 in
theorem SX9_turn_0 {g : zG} {o : Bool} {M : zM} {q : Int → zM → Prop} {x1 x2 : Int} (W : (-2147483648 ≤ x1 ∧ x1 ≤ 2147483647) ∧ ((x1 < 0) → q (-1) M) ∧ ((¬ (x1 < 0)) → ((4 ≤ x1) → q (-1) M) ∧ ((¬ (4 ≤ x1)) → (0 ≤ x1 ∧ x1 < 4) ∧ (-2147483648 ≤ x2 ∧ x2 ≤ 2147483647) ∧ (-2147483648 ≤ (zTv 0 x1.toNat) ∧ (zTv 0 x1.toNat) ≤ 2147483647) ∧ ((x2 < (zTv 0 x1.toNat)) → q (-1) M) ∧ ((¬ (x2 < (zTv 0 x1.toNat))) → (-2147483648 ≤ (zTv 1 x1.toNat) ∧ (zTv 1 x1.toNat) ≤ 2147483647) ∧ ((x2 ≤ (zTv 1 x1.toNat)) → ∃ q6 : zM → Prop, zKv g (z1 o) mX1_add [zA g 36, zA g 24] (zu M 27 x1 x2) q6 ∧ ∀ M8 : zM, q6 M8 → q (M 27 x1) M8) ∧ ((¬ (x2 ≤ (zTv 1 x1.toNat))) → q (-1) M))))) : zT g (z1 o) mX9_turn (zQi (z1 o) q) 0 [(0, zA g 1), (1, zI x1), (2, zI x2)] [] M := by
  refine zr_iload_n 1 dX9_turn_0 rfl ?_
  obtain ⟨c1, W⟩ := W
  refine zr_if_lt (tgt := 27) dX9_turn_1 (by decide) c1 (fun h => ?_) (fun h => ?_)
  · have W := W.1 h
    refine zr_iconst dX9_turn_27 ?_
    exact zt_iret dX9_turn_28 rfl W
  · have W := W.2 h
    refine zr_iload_n 1 dX9_turn_4 rfl ?_
    refine zr_iconst dX9_turn_5 ?_
    refine zr_icmp_ge (tgt := 27) dX9_turn_6 (by decide) c1 ⟨by decide, by decide⟩ (fun h => ?_) (fun h => ?_)
    · have W := W.1 h
      refine zr_iconst dX9_turn_27 ?_
      exact zt_iret dX9_turn_28 rfl W
    · have W := W.2 h
      refine zr_iload_n 2 dX9_turn_9 rfl ?_
      refine zr_gets (i := 0) (nm := "RULE_LEAST") dX9_turn_10 (by decide) (Or.inl (zc4 38 (by decide +kernel) rfl)) ?_
      refine zr_iload_n 1 dX9_turn_13 rfl ?_
      obtain ⟨c2, W⟩ := W
      refine zr_tald dX9_turn_14 (by decide) c2 ?_
      obtain ⟨c3, W⟩ := W
      obtain ⟨c4, W⟩ := W
      refine zr_icmp_lt (tgt := 27) dX9_turn_15 (by decide) c3 c4 (fun h => ?_) (fun h => ?_)
      · have W := W.1 h
        refine zr_iconst dX9_turn_27 ?_
        exact zt_iret dX9_turn_28 rfl W
      · have W := W.2 h
        refine zr_iload_n 2 dX9_turn_18 rfl ?_
        refine zr_gets (i := 1) (nm := "RULE_MOST") dX9_turn_19 (by decide) (Or.inl (zc4 39 (by decide +kernel) rfl)) ?_
        refine zr_iload_n 1 dX9_turn_22 rfl ?_
        refine zr_tald dX9_turn_23 (by decide) c2 ?_
        obtain ⟨c5, W⟩ := W
        refine zr_icmp_le (tgt := 29) dX9_turn_24 (by decide) c3 c5 (fun h => ?_) (fun h => ?_)
        · have W := W.1 h
          refine zr_aload_n 0 dX9_turn_29 rfl ?_
          refine zr_getr (b := 24) dX9_turn_30 fX9_39 rfl rfl rfl (by decide) ?_
          refine zr_getr (b := 27) dX9_turn_33 fX9_209 rfl rfl rfl (by decide) ?_
          refine zr_iload_n 1 dX9_turn_36 rfl ?_
          refine zr_iald dX9_turn_37 rfl (by decide) c2 ?_
          refine zr_istore_n (l' := [(0, zA g 1), (1, zI x1), (2, zI x2), (3, zI (M 27 x1))]) dX9_turn_38 (by decide) [1, 2, 3, 0] rfl ?_
          refine zr_aload_n 0 dX9_turn_39 rfl ?_
          refine zr_getr (b := 24) dX9_turn_40 fX9_39 rfl rfl rfl (by decide) ?_
          refine zr_getr (b := 27) dX9_turn_43 fX9_209 rfl rfl rfl (by decide) ?_
          refine zr_iload_n 1 dX9_turn_46 rfl ?_
          refine zr_iload_n 2 dX9_turn_47 rfl ?_
          refine zr_iast dX9_turn_48 rfl (by decide) c2 ?_
          refine zr_aload_n 0 dX9_turn_49 rfl ?_
          refine zr_getr (b := 36) dX9_turn_50 fX9_60 rfl rfl rfl (by decide) ?_
          refine zr_aload_n 0 dX9_turn_53 rfl ?_
          refine zr_getr (b := 24) dX9_turn_54 fX9_39 rfl rfl rfl (by decide) ?_
          obtain ⟨q6, k10, W⟩ := W
          refine zt_callVv (As := [zA g 24]) (rest := []) dX9_turn_57 kX9_turn_191 rfl rfl rfl rfl (Nat.le_of_ble_eq_true rfl) k10 (fun M8 h9 => ?_)
          have W := W M8 h9
          refine zr_iload_n 3 dX9_turn_60 rfl ?_
          exact zt_iret dX9_turn_61 rfl W
        · have W := W.2 h
          refine zr_iconst dX9_turn_27 ?_
          exact zt_iret dX9_turn_28 rfl W
theorem dX9_image_0 : decode cX9_image 0 = .ok (.iload_n 1, 1) := by decide +kernel
theorem dX9_image_1 : decode cX9_image 1 = .ok (.ifCond .lt 8, 3) := by decide +kernel
theorem dX9_image_4 : decode cX9_image 4 = .ok (.iload_n 1, 1) := by decide +kernel
theorem dX9_image_5 : decode cX9_image 5 = .ok (.iconst 3, 1) := by decide +kernel
theorem dX9_image_6 : decode cX9_image 6 = .ok (.if_icmp .lt 5, 3) := by decide +kernel
theorem dX9_image_9 : decode cX9_image 9 = .ok (.iconst (-1), 1) := by decide +kernel
theorem dX9_image_10 : decode cX9_image 10 = .ok (.ireturn, 1) := by decide +kernel
theorem dX9_image_11 : decode cX9_image 11 = .ok (.aload_n 0, 1) := by decide +kernel
theorem dX9_image_12 : decode cX9_image 12 = .ok (.getfield 85, 3) := by decide +kernel
theorem dX9_image_15 : decode cX9_image 15 = .ok (.iload_n 1, 1) := by decide +kernel
theorem dX9_image_16 : decode cX9_image 16 = .ok (.aaload, 1) := by decide +kernel
theorem dX9_image_17 : decode cX9_image 17 = .ok (.aload_n 0, 1) := by decide +kernel
theorem dX9_image_18 : decode cX9_image 18 = .ok (.getfield 39, 3) := by decide +kernel
theorem dX9_image_21 : decode cX9_image 21 = .ok (.invokevirtual 138, 3) := by decide +kernel
theorem dX9_image_24 : decode cX9_image 24 = .ok (.aload_n 0, 1) := by decide +kernel
theorem dX9_image_25 : decode cX9_image 25 = .ok (.getfield 89, 3) := by decide +kernel
theorem dX9_image_28 : decode cX9_image 28 = .ok (.iload_n 1, 1) := by decide +kernel
theorem dX9_image_29 : decode cX9_image 29 = .ok (.iconst 1, 1) := by decide +kernel
theorem dX9_image_30 : decode cX9_image 30 = .ok (.bastore, 1) := by decide +kernel
theorem dX9_image_31 : decode cX9_image 31 = .ok (.aload_n 0, 1) := by decide +kernel
theorem dX9_image_32 : decode cX9_image 32 = .ok (.getfield 39, 3) := by decide +kernel
theorem dX9_image_35 : decode cX9_image 35 = .ok (.invokevirtual 219, 3) := by decide +kernel
theorem dX9_image_38 : decode cX9_image 38 = .ok (.ireturn, 1) := by decide +kernel
set_option maxRecDepth 100000 in
theorem SX9_image_0 {g : zG} {o : Bool} {M : zM} {q : Int → zM → Prop} {x1 : Int} (W : (-2147483648 ≤ x1 ∧ x1 ≤ 2147483647) ∧ ((x1 < 0) → q (-1) M) ∧ ((¬ (x1 < 0)) → ((x1 < 3) → (0 ≤ x1 ∧ x1 < 3) ∧ ∃ b2 : Nat, (M 135 x1 = (b2 : Int)) ∧ zSd b2 ∧ ∃ q4 : zM → Prop, zKv g (z1 o) mX5_copy [zA g b2, zA g 24] M q4 ∧ ∀ M6 : zM, q4 M6 → (sOk (zu M6 148 x1 1) 24) ∧ q (smt ((zu M6 148 x1 1) 25) 96) (zu M6 148 x1 1)) ∧ ((¬ (x1 < 3)) → q (-1) M))) : zT g (z1 o) mX9_image (zQi (z1 o) q) 0 [(0, zA g 1), (1, zI x1)] [] M := by
  refine zr_iload_n 1 dX9_image_0 rfl ?_
  obtain ⟨c1, W⟩ := W
  refine zr_if_lt (tgt := 9) dX9_image_1 (by decide) c1 (fun h => ?_) (fun h => ?_)
  · have W := W.1 h
    refine zr_iconst dX9_image_9 ?_
    exact zt_iret dX9_image_10 rfl W
  · have W := W.2 h
    refine zr_iload_n 1 dX9_image_4 rfl ?_
    refine zr_iconst dX9_image_5 ?_
    refine zr_icmp_lt (tgt := 11) dX9_image_6 (by decide) c1 ⟨by decide, by decide⟩ (fun h => ?_) (fun h => ?_)
    · have W := W.1 h
      refine zr_aload_n 0 dX9_image_11 rfl ?_
      refine zr_getr (b := 135) dX9_image_12 fX9_85 rfl rfl rfl (by decide) ?_
      refine zr_iload_n 1 dX9_image_15 rfl ?_
      obtain ⟨c3, W⟩ := W
      obtain ⟨b2, eb2, hb2, W⟩ := W
      refine zr_aald dX9_image_16 rfl (by decide) c3 eb2 (zsd_nz hb2) ?_
      refine zr_aload_n 0 dX9_image_17 rfl ?_
      refine zr_getr (b := 24) dX9_image_18 fX9_39 rfl rfl rfl (by decide) ?_
      obtain ⟨q4, k8, W⟩ := W
      refine zt_callVv (As := [zA g 24]) (rest := []) dX9_image_21 kX9_image_138 (zsd_0 hb2) rfl rfl rfl (Nat.le_of_ble_eq_true rfl) k8 (fun M6 h7 => ?_)
      have W := W M6 h7
      refine zr_aload_n 0 dX9_image_24 rfl ?_
      refine zr_getr (b := 148) dX9_image_25 fX9_89 rfl rfl rfl (by decide) ?_
      refine zr_iload_n 1 dX9_image_28 rfl ?_
      refine zr_iconst dX9_image_29 ?_
      refine zr_zast dX9_image_30 rfl (by decide) c3 (by decide) ?_
      refine zr_aload_n 0 dX9_image_31 rfl ?_
      refine zr_getr (b := 24) dX9_image_32 fX9_39 rfl rfl rfl (by decide) ?_
      obtain ⟨c9, W⟩ := W
      refine zt_callVi (As := []) (rest := []) dX9_image_35 kX9_image_219 rfl rfl rfl rfl (Nat.le_of_ble_eq_true rfl) (c_slabsK (show zSd 24 by unfold zSd; decide) c9) (fun r10 N12 h11 => ?_)
      rw [h11.1, h11.2]
      exact zt_iret dX9_image_38 rfl W
    · have W := W.2 h
      refine zr_iconst dX9_image_9 ?_
      exact zt_iret dX9_image_10 rfl W
theorem dX9_back_0 : decode cX9_back 0 = .ok (.aload_n 0, 1) := by decide +kernel
theorem dX9_back_1 : decode cX9_back 1 = .ok (.iload_n 1, 1) := by decide +kernel
theorem dX9_back_2 : decode cX9_back 2 = .ok (.invokevirtual 316, 3) := by decide +kernel
theorem dX9_back_5 : decode cX9_back 5 = .ok (.ifCond .ne 5, 3) := by decide +kernel
theorem dX9_back_8 : decode cX9_back 8 = .ok (.iconst (-1), 1) := by decide +kernel
theorem dX9_back_9 : decode cX9_back 9 = .ok (.ireturn, 1) := by decide +kernel
theorem dX9_back_10 : decode cX9_back 10 = .ok (.aload_n 0, 1) := by decide +kernel
theorem dX9_back_11 : decode cX9_back 11 = .ok (.getfield 39, 3) := by decide +kernel
theorem dX9_back_14 : decode cX9_back 14 = .ok (.aload_n 0, 1) := by decide +kernel
theorem dX9_back_15 : decode cX9_back 15 = .ok (.getfield 85, 3) := by decide +kernel
theorem dX9_back_18 : decode cX9_back 18 = .ok (.iload_n 1, 1) := by decide +kernel
theorem dX9_back_19 : decode cX9_back 19 = .ok (.aaload, 1) := by decide +kernel
theorem dX9_back_20 : decode cX9_back 20 = .ok (.invokevirtual 138, 3) := by decide +kernel
theorem dX9_back_23 : decode cX9_back 23 = .ok (.aload_n 0, 1) := by decide +kernel
theorem dX9_back_24 : decode cX9_back 24 = .ok (.getfield 60, 3) := by decide +kernel
theorem dX9_back_27 : decode cX9_back 27 = .ok (.aload_n 0, 1) := by decide +kernel
theorem dX9_back_28 : decode cX9_back 28 = .ok (.getfield 39, 3) := by decide +kernel
theorem dX9_back_31 : decode cX9_back 31 = .ok (.invokevirtual 142, 3) := by decide +kernel
theorem dX9_back_34 : decode cX9_back 34 = .ok (.aload_n 0, 1) := by decide +kernel
theorem dX9_back_35 : decode cX9_back 35 = .ok (.getfield 39, 3) := by decide +kernel
theorem dX9_back_38 : decode cX9_back 38 = .ok (.invokevirtual 219, 3) := by decide +kernel
theorem dX9_back_41 : decode cX9_back 41 = .ok (.ireturn, 1) := by decide +kernel
set_option maxRecDepth 100000 in
theorem SX9_back_0 {g : zG} {o : Bool} {M : zM} {q : Int → zM → Prop} {x1 : Int} (W : (-2147483648 ≤ x1 ∧ x1 ≤ 2147483647) ∧ (kOk (M 148)) ∧ (((0 ≤ x1 ∧ x1 < 3) ∧ M 148 x1 = 1) → (0 ≤ x1 ∧ x1 < 3) ∧ ∃ b6 : Nat, (M 135 x1 = (b6 : Int)) ∧ zSd b6 ∧ ∃ q8 : zM → Prop, zKv g (z1 o) mX5_copy [zA g 24, zA g b6] M q8 ∧ ∀ M10 : zM, q8 M10 → ∃ q13 : zM → Prop, zKv g (z1 o) mX1_forget [zA g 36, zA g 24] M10 q13 ∧ ∀ M15 : zM, q13 M15 → (sOk M15 24) ∧ q (smt (M15 25) 96) M15) ∧ ((¬ ((0 ≤ x1 ∧ x1 < 3) ∧ M 148 x1 = 1)) → q (-1) M)) : zT g (z1 o) mX9_back (zQi (z1 o) q) 0 [(0, zA g 1), (1, zI x1)] [] M := by
  refine zr_aload_n 0 dX9_back_0 rfl ?_
  refine zr_iload_n 1 dX9_back_1 rfl ?_
  obtain ⟨c1, W⟩ := W
  obtain ⟨c2, W⟩ := W
  refine zt_callVi (As := [zI x1]) (rest := []) dX9_back_2 kX9_back_316 rfl rfl rfl rfl (Nat.le_of_ble_eq_true rfl) (c_isKept1 c1 c2) (fun r3 N5 h4 => ?_)
  rw [h4.1, h4.2]
  refine zt_ifne_b (tgt := 10) dX9_back_5 (by decide) (fun h => ?_) (fun h => ?_)
  · have W := W.1 h
    refine zr_aload_n 0 dX9_back_10 rfl ?_
    refine zr_getr (b := 24) dX9_back_11 fX9_39 rfl rfl rfl (by decide) ?_
    refine zr_aload_n 0 dX9_back_14 rfl ?_
    refine zr_getr (b := 135) dX9_back_15 fX9_85 rfl rfl rfl (by decide) ?_
    refine zr_iload_n 1 dX9_back_18 rfl ?_
    obtain ⟨c7, W⟩ := W
    obtain ⟨b6, eb6, hb6, W⟩ := W
    refine zr_aald dX9_back_19 rfl (by decide) c7 eb6 (zsd_nz hb6) ?_
    obtain ⟨q8, k12, W⟩ := W
    refine zt_callVv (As := [zA g b6]) (rest := []) dX9_back_20 kX9_back_138 rfl rfl rfl rfl (Nat.le_of_ble_eq_true rfl) k12 (fun M10 h11 => ?_)
    have W := W M10 h11
    refine zr_aload_n 0 dX9_back_23 rfl ?_
    refine zr_getr (b := 36) dX9_back_24 fX9_60 rfl rfl rfl (by decide) ?_
    refine zr_aload_n 0 dX9_back_27 rfl ?_
    refine zr_getr (b := 24) dX9_back_28 fX9_39 rfl rfl rfl (by decide) ?_
    obtain ⟨q13, k17, W⟩ := W
    refine zt_callVv (As := [zA g 24]) (rest := []) dX9_back_31 kX9_back_142 rfl rfl rfl rfl (Nat.le_of_ble_eq_true rfl) k17 (fun M15 h16 => ?_)
    have W := W M15 h16
    refine zr_aload_n 0 dX9_back_34 rfl ?_
    refine zr_getr (b := 24) dX9_back_35 fX9_39 rfl rfl rfl (by decide) ?_
    obtain ⟨c18, W⟩ := W
    refine zt_callVi (As := []) (rest := []) dX9_back_38 kX9_back_219 rfl rfl rfl rfl (Nat.le_of_ble_eq_true rfl) (c_slabsK (show zSd 24 by unfold zSd; decide) c18) (fun r19 N21 h20 => ?_)
    rw [h20.1, h20.2]
    exact zt_iret dX9_back_41 rfl W
  · have W := W.2 h
    refine zr_iconst dX9_back_8 ?_
    exact zt_iret dX9_back_9 rfl W
theorem dX10_act_0 : decode cX10_act 0 = .ok (.aload_n 0, 1) := by decide +kernel
theorem dX10_act_1 : decode cX10_act 1 = .ok (.getfield 235, 3) := by decide +kernel
theorem dX10_act_4 : decode cX10_act 4 = .ok (.bipush 20, 2) := by decide +kernel
theorem dX10_act_6 : decode cX10_act 6 = .ok (.if_icmp .ne 46, 3) := by decide +kernel
theorem dX10_act_9 : decode cX10_act 9 = .ok (.sipush 198, 3) := by decide +kernel
theorem dX10_act_12 : decode cX10_act 12 = .ok (.istore_n 1, 1) := by decide +kernel
theorem dX10_act_13 : decode cX10_act 13 = .ok (.iload_n 1, 1) := by decide +kernel
theorem dX10_act_14 : decode cX10_act 14 = .ok (.sipush 3960, 3) := by decide +kernel
theorem dX10_act_17 : decode cX10_act 17 = .ok (.if_icmp .ge 25, 3) := by decide +kernel
theorem dX10_act_20 : decode cX10_act 20 = .ok (.aload_n 0, 1) := by decide +kernel
theorem dX10_act_21 : decode cX10_act 21 = .ok (.getfield 51, 3) := by decide +kernel
theorem dX10_act_24 : decode cX10_act 24 = .ok (.iload_n 1, 1) := by decide +kernel
theorem dX10_act_25 : decode cX10_act 25 = .ok (.sipush 198, 3) := by decide +kernel
theorem dX10_act_28 : decode cX10_act 28 = .ok (.isub, 1) := by decide +kernel
theorem dX10_act_29 : decode cX10_act 29 = .ok (.aload_n 0, 1) := by decide +kernel
theorem dX10_act_30 : decode cX10_act 30 = .ok (.getfield 51, 3) := by decide +kernel
theorem dX10_act_33 : decode cX10_act 33 = .ok (.iload_n 1, 1) := by decide +kernel
theorem dX10_act_34 : decode cX10_act 34 = .ok (.iaload, 1) := by decide +kernel
theorem dX10_act_35 : decode cX10_act 35 = .ok (.iastore, 1) := by decide +kernel
theorem dX10_act_36 : decode cX10_act 36 = .ok (.iinc 1 1, 3) := by decide +kernel
theorem dX10_act_39 : decode cX10_act 39 = .ok (.goto (-26), 3) := by decide +kernel
theorem dX10_act_42 : decode cX10_act 42 = .ok (.aload_n 0, 1) := by decide +kernel
theorem dX10_act_43 : decode cX10_act 43 = .ok (.dup, 1) := by decide +kernel
theorem dX10_act_44 : decode cX10_act 44 = .ok (.getfield 235, 3) := by decide +kernel
theorem dX10_act_47 : decode cX10_act 47 = .ok (.iconst 1, 1) := by decide +kernel
theorem dX10_act_48 : decode cX10_act 48 = .ok (.isub, 1) := by decide +kernel
theorem dX10_act_49 : decode cX10_act 49 = .ok (.putfield 235, 3) := by decide +kernel
theorem dX10_act_52 : decode cX10_act 52 = .ok (.iconst 0, 1) := by decide +kernel
theorem dX10_act_53 : decode cX10_act 53 = .ok (.istore_n 1, 1) := by decide +kernel
theorem dX10_act_54 : decode cX10_act 54 = .ok (.iload_n 1, 1) := by decide +kernel
theorem dX10_act_55 : decode cX10_act 55 = .ok (.sipush 198, 3) := by decide +kernel
theorem dX10_act_58 : decode cX10_act 58 = .ok (.if_icmp .ge 30, 3) := by decide +kernel
theorem dX10_act_61 : decode cX10_act 61 = .ok (.aload_n 0, 1) := by decide +kernel
theorem dX10_act_62 : decode cX10_act 62 = .ok (.getfield 51, 3) := by decide +kernel
theorem dX10_act_65 : decode cX10_act 65 = .ok (.sipush 198, 3) := by decide +kernel
theorem dX10_act_68 : decode cX10_act 68 = .ok (.aload_n 0, 1) := by decide +kernel
theorem dX10_act_69 : decode cX10_act 69 = .ok (.getfield 235, 3) := by decide +kernel
theorem dX10_act_72 : decode cX10_act 72 = .ok (.imul, 1) := by decide +kernel
theorem dX10_act_73 : decode cX10_act 73 = .ok (.iload_n 1, 1) := by decide +kernel
theorem dX10_act_74 : decode cX10_act 74 = .ok (.iadd, 1) := by decide +kernel
theorem dX10_act_75 : decode cX10_act 75 = .ok (.aload_n 0, 1) := by decide +kernel
theorem dX10_act_76 : decode cX10_act 76 = .ok (.getfield 42, 3) := by decide +kernel
theorem dX10_act_79 : decode cX10_act 79 = .ok (.iload_n 1, 1) := by decide +kernel
theorem dX10_act_80 : decode cX10_act 80 = .ok (.iaload, 1) := by decide +kernel
theorem dX10_act_81 : decode cX10_act 81 = .ok (.iastore, 1) := by decide +kernel
theorem dX10_act_82 : decode cX10_act 82 = .ok (.iinc 1 1, 3) := by decide +kernel
theorem dX10_act_85 : decode cX10_act 85 = .ok (.goto (-31), 3) := by decide +kernel
theorem dX10_act_88 : decode cX10_act 88 = .ok (.aload_n 0, 1) := by decide +kernel
theorem dX10_act_89 : decode cX10_act 89 = .ok (.dup, 1) := by decide +kernel
theorem dX10_act_90 : decode cX10_act 90 = .ok (.getfield 235, 3) := by decide +kernel
theorem dX10_act_93 : decode cX10_act 93 = .ok (.iconst 1, 1) := by decide +kernel
theorem dX10_act_94 : decode cX10_act 94 = .ok (.iadd, 1) := by decide +kernel
theorem dX10_act_95 : decode cX10_act 95 = .ok (.putfield 235, 3) := by decide +kernel
theorem dX10_act_98 : decode cX10_act 98 = .ok (.aload_n 0, 1) := by decide +kernel
theorem dX10_act_99 : decode cX10_act 99 = .ok (.iconst 0, 1) := by decide +kernel
theorem dX10_act_100 : decode cX10_act 100 = .ok (.putfield 238, 3) := by decide +kernel
theorem dX10_act_103 : decode cX10_act 103 = .ok (.return_, 1) := by decide +kernel
set_option maxRecDepth 100000 in
theorem SX10_act_0 {g : zG} {o : Bool} {M : zM} {q : zM → Prop} (W : (-2147483648 ≤ (M 1 28) ∧ (M 1 28) ≤ 2147483647) ∧ (((M 1 28) ≠ 20) → zT g (z2 o) mX10_act (zQv (z2 o) q) 54 [(0, zA g 1), (1, zI 0)] [] M) ∧ (((M 1 28) = 20) → zT g (z2 o) mX10_act (zQv (z2 o) q) 13 [(0, zA g 1), (1, zI 198)] [] M)) : zT g (z2 o) mX10_act (zQv (z2 o) q) 0 [(0, zA g 1)] [] M := by
  refine zr_aload_n 0 dX10_act_0 rfl ?_
  refine zt_geti 28 rfl dX10_act_1 fX10_235 rfl (by decide) ?_
  refine zr_bipush dX10_act_4 (by decide) ?_
  obtain ⟨c1, W⟩ := W
  refine zr_icmp_ne (tgt := 52) dX10_act_6 (by decide) c1 ⟨by decide, by decide⟩ (fun h => ?_) (fun h => ?_)
  · have W := W.1 h
    refine zr_iconst dX10_act_52 ?_
    refine zr_istore_n (l' := [(0, zA g 1), (1, zI 0)]) dX10_act_53 (by decide) [1, 0] rfl ?_
    exact W
  · have W := W.2 h
    refine zr_sipush dX10_act_9 (by decide) ?_
    refine zr_istore_n (l' := [(0, zA g 1), (1, zI 198)]) dX10_act_12 (by decide) [1, 0] rfl ?_
    exact W
set_option maxRecDepth 100000 in
theorem SX10_act_54 {g : zG} {o : Bool} {M : zM} {q : zM → Prop} {x1 : Int} (W : (-2147483648 ≤ x1 ∧ x1 ≤ 2147483647) ∧ ((198 ≤ x1) → ∀ N2 : zM, N2 = zu M 1 28 ((M 1 28) + 1) → q (zu N2 1 29 0)) ∧ ((¬ (198 ≤ x1)) → (0 ≤ x1 ∧ x1 < 198) ∧ (0 ≤ ((198 * (M 1 28)) + x1) ∧ ((198 * (M 1 28)) + x1) < 3960) ∧ zT g (z2 o) mX10_act (zQv (z2 o) q) 54 [(0, zA g 1), (1, zI (x1 + 1))] [] (zu M 12 ((198 * (M 1 28)) + x1) (M 10 x1)))) : zT g (z2 o) mX10_act (zQv (z2 o) q) 54 [(0, zA g 1), (1, zI x1)] [] M := by
  refine zr_iload_n 1 dX10_act_54 rfl ?_
  refine zr_sipush dX10_act_55 (by decide) ?_
  obtain ⟨c1, W⟩ := W
  refine zr_icmp_ge (tgt := 88) dX10_act_58 (by decide) c1 ⟨by decide, by decide⟩ (fun h => ?_) (fun h => ?_)
  · have W := W.1 h
    refine zr_aload_n 0 dX10_act_88 rfl ?_
    refine zr_dup dX10_act_89 rfl ?_
    refine zt_geti 28 rfl dX10_act_90 fX10_235 rfl (by decide) ?_
    refine zr_iconst dX10_act_93 ?_
    refine zr_iadd dX10_act_94 ?_
    refine zt_puti 28 rfl dX10_act_95 fX10_235 lcX10 ltX10_28 rfl rfl ?_
    refine zr_aload_n 0 dX10_act_98 rfl ?_
    refine zr_iconst dX10_act_99 ?_
    obtain ⟨N2, e3⟩ : ∃ N : zM, N = zu M 1 28 ((M 1 28) + 1) := ⟨_, rfl⟩
    rw [← e3]
    have W := W N2 e3
    refine zt_puti 29 rfl dX10_act_100 fX10_238 lcX10 ltX10_29 rfl rfl ?_
    exact zt_ret dX10_act_103 rfl W
  · have W := W.2 h
    refine zr_aload_n 0 dX10_act_61 rfl ?_
    refine zr_getr (b := 12) dX10_act_62 fX10_51 rfl rfl rfl (by decide) ?_
    refine zr_sipush dX10_act_65 (by decide) ?_
    refine zr_aload_n 0 dX10_act_68 rfl ?_
    refine zt_geti 28 rfl dX10_act_69 fX10_235 rfl (by decide) ?_
    refine zr_imul dX10_act_72 ?_
    refine zr_iload_n 1 dX10_act_73 rfl ?_
    refine zr_iadd dX10_act_74 ?_
    refine zr_aload_n 0 dX10_act_75 rfl ?_
    refine zr_getr (b := 10) dX10_act_76 fX10_42 rfl rfl rfl (by decide) ?_
    refine zr_iload_n 1 dX10_act_79 rfl ?_
    obtain ⟨c4, W⟩ := W
    refine zr_iald dX10_act_80 rfl (by decide) c4 ?_
    obtain ⟨c5, W⟩ := W
    refine zr_iast dX10_act_81 rfl (by decide) c5 ?_
    refine zr_iinc (q := 1) (l' := [(0, zA g 1), (1, zI (x1 + 1))]) dX10_act_82 rfl (by decide) [1, 0] rfl ?_
    refine zr_goto (tgt := 54) dX10_act_85 (by decide) ?_
    exact W
set_option maxRecDepth 100000 in
theorem SX10_act_13 {g : zG} {o : Bool} {M : zM} {q : zM → Prop} {x1 : Int} (W : (-2147483648 ≤ x1 ∧ x1 ≤ 2147483647) ∧ ((3960 ≤ x1) → zT g (z2 o) mX10_act (zQv (z2 o) q) 54 [(0, zA g 1), (1, zI 0)] [] (zu M 1 28 ((M 1 28) - 1))) ∧ ((¬ (3960 ≤ x1)) → (0 ≤ x1 ∧ x1 < 3960) ∧ (0 ≤ (x1 - 198) ∧ (x1 - 198) < 3960) ∧ zT g (z2 o) mX10_act (zQv (z2 o) q) 13 [(0, zA g 1), (1, zI (x1 + 1))] [] (zu M 12 (x1 - 198) (M 12 x1)))) : zT g (z2 o) mX10_act (zQv (z2 o) q) 13 [(0, zA g 1), (1, zI x1)] [] M := by
  refine zr_iload_n 1 dX10_act_13 rfl ?_
  refine zr_sipush dX10_act_14 (by decide) ?_
  obtain ⟨c1, W⟩ := W
  refine zr_icmp_ge (tgt := 42) dX10_act_17 (by decide) c1 ⟨by decide, by decide⟩ (fun h => ?_) (fun h => ?_)
  · have W := W.1 h
    refine zr_aload_n 0 dX10_act_42 rfl ?_
    refine zr_dup dX10_act_43 rfl ?_
    refine zt_geti 28 rfl dX10_act_44 fX10_235 rfl (by decide) ?_
    refine zr_iconst dX10_act_47 ?_
    refine zr_isub dX10_act_48 ?_
    refine zt_puti 28 rfl dX10_act_49 fX10_235 lcX10 ltX10_28 rfl rfl ?_
    refine zr_iconst dX10_act_52 ?_
    refine zr_istore_n (l' := [(0, zA g 1), (1, zI 0)]) dX10_act_53 (by decide) [1, 0] rfl ?_
    exact W
  · have W := W.2 h
    refine zr_aload_n 0 dX10_act_20 rfl ?_
    refine zr_getr (b := 12) dX10_act_21 fX10_51 rfl rfl rfl (by decide) ?_
    refine zr_iload_n 1 dX10_act_24 rfl ?_
    refine zr_sipush dX10_act_25 (by decide) ?_
    refine zr_isub dX10_act_28 ?_
    refine zr_aload_n 0 dX10_act_29 rfl ?_
    refine zr_getr (b := 12) dX10_act_30 fX10_51 rfl rfl rfl (by decide) ?_
    refine zr_iload_n 1 dX10_act_33 rfl ?_
    obtain ⟨c2, W⟩ := W
    refine zr_iald dX10_act_34 rfl (by decide) c2 ?_
    obtain ⟨c3, W⟩ := W
    refine zr_iast dX10_act_35 rfl (by decide) c3 ?_
    refine zr_iinc (q := 1) (l' := [(0, zA g 1), (1, zI (x1 + 1))]) dX10_act_36 rfl (by decide) [1, 0] rfl ?_
    refine zr_goto (tgt := 13) dX10_act_39 (by decide) ?_
    exact W
theorem dX10_exchanges_0 : decode cX10_exchanges 0 = .ok (.iconst 0, 1) := by decide +kernel
theorem dX10_exchanges_1 : decode cX10_exchanges 1 = .ok (.istore_n 2, 1) := by decide +kernel
theorem dX10_exchanges_2 : decode cX10_exchanges 2 = .ok (.iload_n 2, 1) := by decide +kernel
theorem dX10_exchanges_3 : decode cX10_exchanges 3 = .ok (.sipush 198, 3) := by decide +kernel
theorem dX10_exchanges_6 : decode cX10_exchanges 6 = .ok (.if_icmp .ge 47, 3) := by decide +kernel
theorem dX10_exchanges_9 : decode cX10_exchanges 9 = .ok (.aload_n 0, 1) := by decide +kernel
theorem dX10_exchanges_10 : decode cX10_exchanges 10 = .ok (.getfield 51, 3) := by decide +kernel
theorem dX10_exchanges_13 : decode cX10_exchanges 13 = .ok (.sipush 198, 3) := by decide +kernel
theorem dX10_exchanges_16 : decode cX10_exchanges 16 = .ok (.iload_n 1, 1) := by decide +kernel
theorem dX10_exchanges_17 : decode cX10_exchanges 17 = .ok (.imul, 1) := by decide +kernel
theorem dX10_exchanges_18 : decode cX10_exchanges 18 = .ok (.iload_n 2, 1) := by decide +kernel
theorem dX10_exchanges_19 : decode cX10_exchanges 19 = .ok (.iadd, 1) := by decide +kernel
theorem dX10_exchanges_20 : decode cX10_exchanges 20 = .ok (.iaload, 1) := by decide +kernel
theorem dX10_exchanges_21 : decode cX10_exchanges 21 = .ok (.istore_n 3, 1) := by decide +kernel
theorem dX10_exchanges_22 : decode cX10_exchanges 22 = .ok (.aload_n 0, 1) := by decide +kernel
theorem dX10_exchanges_23 : decode cX10_exchanges 23 = .ok (.getfield 51, 3) := by decide +kernel
theorem dX10_exchanges_26 : decode cX10_exchanges 26 = .ok (.sipush 198, 3) := by decide +kernel
theorem dX10_exchanges_29 : decode cX10_exchanges 29 = .ok (.iload_n 1, 1) := by decide +kernel
theorem dX10_exchanges_30 : decode cX10_exchanges 30 = .ok (.imul, 1) := by decide +kernel
theorem dX10_exchanges_31 : decode cX10_exchanges 31 = .ok (.iload_n 2, 1) := by decide +kernel
theorem dX10_exchanges_32 : decode cX10_exchanges 32 = .ok (.iadd, 1) := by decide +kernel
theorem dX10_exchanges_33 : decode cX10_exchanges 33 = .ok (.aload_n 0, 1) := by decide +kernel
theorem dX10_exchanges_34 : decode cX10_exchanges 34 = .ok (.getfield 42, 3) := by decide +kernel
theorem dX10_exchanges_37 : decode cX10_exchanges 37 = .ok (.iload_n 2, 1) := by decide +kernel
theorem dX10_exchanges_38 : decode cX10_exchanges 38 = .ok (.iaload, 1) := by decide +kernel
theorem dX10_exchanges_39 : decode cX10_exchanges 39 = .ok (.iastore, 1) := by decide +kernel
theorem dX10_exchanges_40 : decode cX10_exchanges 40 = .ok (.aload_n 0, 1) := by decide +kernel
theorem dX10_exchanges_41 : decode cX10_exchanges 41 = .ok (.getfield 42, 3) := by decide +kernel
theorem dX10_exchanges_44 : decode cX10_exchanges 44 = .ok (.iload_n 2, 1) := by decide +kernel
theorem dX10_exchanges_45 : decode cX10_exchanges 45 = .ok (.iload_n 3, 1) := by decide +kernel
theorem dX10_exchanges_46 : decode cX10_exchanges 46 = .ok (.iastore, 1) := by decide +kernel
theorem dX10_exchanges_47 : decode cX10_exchanges 47 = .ok (.iinc 2 1, 3) := by decide +kernel
theorem dX10_exchanges_50 : decode cX10_exchanges 50 = .ok (.goto (-48), 3) := by decide +kernel
theorem dX10_exchanges_53 : decode cX10_exchanges 53 = .ok (.return_, 1) := by decide +kernel
set_option maxRecDepth 100000 in
theorem SX10_exchanges_0 {g : zG} {o : Bool} {M : zM} {q : zM → Prop} {x1 : Int} (W : zT g (z2 o) mX10_exchanges (zQv (z2 o) q) 2 [(0, zA g 1), (1, zI x1), (2, zI 0)] [] M) : zT g (z2 o) mX10_exchanges (zQv (z2 o) q) 0 [(0, zA g 1), (1, zI x1)] [] M := by
  refine zr_iconst dX10_exchanges_0 ?_
  refine zr_istore_n (l' := [(0, zA g 1), (1, zI x1), (2, zI 0)]) dX10_exchanges_1 (by decide) [1, 2, 0] rfl ?_
  exact W
set_option maxRecDepth 100000 in
theorem SX10_exchanges_2 {g : zG} {o : Bool} {M : zM} {q : zM → Prop} {x1 x2 : Int} (W : (-2147483648 ≤ x2 ∧ x2 ≤ 2147483647) ∧ ((198 ≤ x2) → q M) ∧ ((¬ (198 ≤ x2)) → (0 ≤ ((198 * x1) + x2) ∧ ((198 * x1) + x2) < 3960) ∧ (0 ≤ x2 ∧ x2 < 198) ∧ ∀ N4 : zM, N4 = zu M 12 ((198 * x1) + x2) (M 10 x2) → zT g (z2 o) mX10_exchanges (zQv (z2 o) q) 2 [(0, zA g 1), (1, zI x1), (2, zI (x2 + 1))] [] (zu N4 10 x2 (M 12 ((198 * x1) + x2))))) : zT g (z2 o) mX10_exchanges (zQv (z2 o) q) 2 [(0, zA g 1), (1, zI x1), (2, zI x2)] [] M := by
  refine zr_iload_n 2 dX10_exchanges_2 rfl ?_
  refine zr_sipush dX10_exchanges_3 (by decide) ?_
  obtain ⟨c1, W⟩ := W
  refine zr_icmp_ge (tgt := 53) dX10_exchanges_6 (by decide) c1 ⟨by decide, by decide⟩ (fun h => ?_) (fun h => ?_)
  · have W := W.1 h
    exact zt_ret dX10_exchanges_53 rfl W
  · have W := W.2 h
    refine zr_aload_n 0 dX10_exchanges_9 rfl ?_
    refine zr_getr (b := 12) dX10_exchanges_10 fX10_51 rfl rfl rfl (by decide) ?_
    refine zr_sipush dX10_exchanges_13 (by decide) ?_
    refine zr_iload_n 1 dX10_exchanges_16 rfl ?_
    refine zr_imul dX10_exchanges_17 ?_
    refine zr_iload_n 2 dX10_exchanges_18 rfl ?_
    refine zr_iadd dX10_exchanges_19 ?_
    obtain ⟨c2, W⟩ := W
    refine zr_iald dX10_exchanges_20 rfl (by decide) c2 ?_
    refine zr_istore_n (l' := [(0, zA g 1), (1, zI x1), (2, zI x2), (3, zI (M 12 ((198 * x1) + x2)))]) dX10_exchanges_21 (by decide) [1, 2, 3, 0] rfl ?_
    refine zr_aload_n 0 dX10_exchanges_22 rfl ?_
    refine zr_getr (b := 12) dX10_exchanges_23 fX10_51 rfl rfl rfl (by decide) ?_
    refine zr_sipush dX10_exchanges_26 (by decide) ?_
    refine zr_iload_n 1 dX10_exchanges_29 rfl ?_
    refine zr_imul dX10_exchanges_30 ?_
    refine zr_iload_n 2 dX10_exchanges_31 rfl ?_
    refine zr_iadd dX10_exchanges_32 ?_
    refine zr_aload_n 0 dX10_exchanges_33 rfl ?_
    refine zr_getr (b := 10) dX10_exchanges_34 fX10_42 rfl rfl rfl (by decide) ?_
    refine zr_iload_n 2 dX10_exchanges_37 rfl ?_
    obtain ⟨c3, W⟩ := W
    refine zr_iald dX10_exchanges_38 rfl (by decide) c3 ?_
    refine zr_iast dX10_exchanges_39 rfl (by decide) c2 ?_
    refine zr_aload_n 0 dX10_exchanges_40 rfl ?_
    refine zr_getr (b := 10) dX10_exchanges_41 fX10_42 rfl rfl rfl (by decide) ?_
    refine zr_iload_n 2 dX10_exchanges_44 rfl ?_
    refine zr_iload_n 3 dX10_exchanges_45 rfl ?_
    obtain ⟨N4, e5⟩ : ∃ N : zM, N = zu M 12 ((198 * x1) + x2) (M 10 x2) := ⟨_, rfl⟩
    rw [← e5]
    have W := W N4 e5
    refine zr_iast dX10_exchanges_46 rfl (by decide) c3 ?_
    refine zr_iinc (q := 2) (l' := [(0, zA g 1), (1, zI x1), (2, zI (x2 + 1))]) dX10_exchanges_47 rfl (by decide) [1, 2, 0] rfl ?_
    refine zr_goto (tgt := 2) dX10_exchanges_50 (by decide) ?_
    exact W
theorem dX10_undo_0 : decode cX10_undo 0 = .ok (.aload_n 0, 1) := by decide +kernel
theorem dX10_undo_1 : decode cX10_undo 1 = .ok (.getfield 235, 3) := by decide +kernel
theorem dX10_undo_4 : decode cX10_undo 4 = .ok (.ifCond .ne 5, 3) := by decide +kernel
theorem dX10_undo_7 : decode cX10_undo 7 = .ok (.iconst 0, 1) := by decide +kernel
theorem dX10_undo_8 : decode cX10_undo 8 = .ok (.ireturn, 1) := by decide +kernel
theorem dX10_undo_9 : decode cX10_undo 9 = .ok (.aload_n 0, 1) := by decide +kernel
theorem dX10_undo_10 : decode cX10_undo 10 = .ok (.dup, 1) := by decide +kernel
theorem dX10_undo_11 : decode cX10_undo 11 = .ok (.getfield 235, 3) := by decide +kernel
theorem dX10_undo_14 : decode cX10_undo 14 = .ok (.iconst 1, 1) := by decide +kernel
theorem dX10_undo_15 : decode cX10_undo 15 = .ok (.isub, 1) := by decide +kernel
theorem dX10_undo_16 : decode cX10_undo 16 = .ok (.putfield 235, 3) := by decide +kernel
theorem dX10_undo_19 : decode cX10_undo 19 = .ok (.aload_n 0, 1) := by decide +kernel
theorem dX10_undo_20 : decode cX10_undo 20 = .ok (.dup, 1) := by decide +kernel
theorem dX10_undo_21 : decode cX10_undo 21 = .ok (.getfield 238, 3) := by decide +kernel
theorem dX10_undo_24 : decode cX10_undo 24 = .ok (.iconst 1, 1) := by decide +kernel
theorem dX10_undo_25 : decode cX10_undo 25 = .ok (.iadd, 1) := by decide +kernel
theorem dX10_undo_26 : decode cX10_undo 26 = .ok (.putfield 238, 3) := by decide +kernel
theorem dX10_undo_29 : decode cX10_undo 29 = .ok (.aload_n 0, 1) := by decide +kernel
theorem dX10_undo_30 : decode cX10_undo 30 = .ok (.aload_n 0, 1) := by decide +kernel
theorem dX10_undo_31 : decode cX10_undo 31 = .ok (.getfield 235, 3) := by decide +kernel
theorem dX10_undo_34 : decode cX10_undo 34 = .ok (.invokevirtual 321, 3) := by decide +kernel
theorem dX10_undo_37 : decode cX10_undo 37 = .ok (.iconst 1, 1) := by decide +kernel
theorem dX10_undo_38 : decode cX10_undo 38 = .ok (.ireturn, 1) := by decide +kernel
set_option maxRecDepth 100000 in
theorem SX10_undo_0 {g : zG} {o : Bool} {M : zM} {q : Int → zM → Prop} (W : (-2147483648 ≤ (M 1 28) ∧ (M 1 28) ≤ 2147483647) ∧ (((M 1 28) ≠ 0) → ∀ N2 : zM, N2 = zu M 1 28 ((M 1 28) - 1) → ∃ q4 : zM → Prop, zKv g (z2 o) mX10_exchanges [zA g 1, zI ((zu N2 1 29 ((N2 1 29) + 1)) 1 28)] (zu N2 1 29 ((N2 1 29) + 1)) q4 ∧ ∀ M6 : zM, q4 M6 → q 1 M6) ∧ (((M 1 28) = 0) → q 0 M)) : zT g (z2 o) mX10_undo (zQi (z2 o) q) 0 [(0, zA g 1)] [] M := by
  refine zr_aload_n 0 dX10_undo_0 rfl ?_
  refine zt_geti 28 rfl dX10_undo_1 fX10_235 rfl (by decide) ?_
  obtain ⟨c1, W⟩ := W
  refine zr_if_ne (tgt := 9) dX10_undo_4 (by decide) c1 (fun h => ?_) (fun h => ?_)
  · have W := W.1 h
    refine zr_aload_n 0 dX10_undo_9 rfl ?_
    refine zr_dup dX10_undo_10 rfl ?_
    refine zt_geti 28 rfl dX10_undo_11 fX10_235 rfl (by decide) ?_
    refine zr_iconst dX10_undo_14 ?_
    refine zr_isub dX10_undo_15 ?_
    refine zt_puti 28 rfl dX10_undo_16 fX10_235 lcX10 ltX10_28 rfl rfl ?_
    refine zr_aload_n 0 dX10_undo_19 rfl ?_
    refine zr_dup dX10_undo_20 rfl ?_
    refine zt_geti 29 rfl dX10_undo_21 fX10_238 rfl (by decide) ?_
    refine zr_iconst dX10_undo_24 ?_
    refine zr_iadd dX10_undo_25 ?_
    obtain ⟨N2, e3⟩ : ∃ N : zM, N = zu M 1 28 ((M 1 28) - 1) := ⟨_, rfl⟩
    rw [← e3]
    have W := W N2 e3
    refine zt_puti 29 rfl dX10_undo_26 fX10_238 lcX10 ltX10_29 rfl rfl ?_
    refine zr_aload_n 0 dX10_undo_29 rfl ?_
    refine zr_aload_n 0 dX10_undo_30 rfl ?_
    refine zt_geti 28 rfl dX10_undo_31 fX10_235 rfl (by decide) ?_
    obtain ⟨q4, k8, W⟩ := W
    refine zt_callVv (As := [zI ((zu N2 1 29 ((N2 1 29) + 1)) 1 28)]) (rest := []) dX10_undo_34 kX10_undo_321 rfl rfl rfl rfl (Nat.le_of_ble_eq_true rfl) k8 (fun M6 h7 => ?_)
    have W := W M6 h7
    refine zr_iconst dX10_undo_37 ?_
    exact zt_zret dX10_undo_38 rfl (by decide) W
  · have W := W.2 h
    refine zr_iconst dX10_undo_7 ?_
    exact zt_zret dX10_undo_8 rfl (by decide) W
theorem dX10_redo_0 : decode cX10_redo 0 = .ok (.aload_n 0, 1) := by decide +kernel
theorem dX10_redo_1 : decode cX10_redo 1 = .ok (.getfield 238, 3) := by decide +kernel
theorem dX10_redo_4 : decode cX10_redo 4 = .ok (.ifCond .ne 5, 3) := by decide +kernel
theorem dX10_redo_7 : decode cX10_redo 7 = .ok (.iconst 0, 1) := by decide +kernel
theorem dX10_redo_8 : decode cX10_redo 8 = .ok (.ireturn, 1) := by decide +kernel
theorem dX10_redo_9 : decode cX10_redo 9 = .ok (.aload_n 0, 1) := by decide +kernel
theorem dX10_redo_10 : decode cX10_redo 10 = .ok (.dup, 1) := by decide +kernel
theorem dX10_redo_11 : decode cX10_redo 11 = .ok (.getfield 238, 3) := by decide +kernel
theorem dX10_redo_14 : decode cX10_redo 14 = .ok (.iconst 1, 1) := by decide +kernel
theorem dX10_redo_15 : decode cX10_redo 15 = .ok (.isub, 1) := by decide +kernel
theorem dX10_redo_16 : decode cX10_redo 16 = .ok (.putfield 238, 3) := by decide +kernel
theorem dX10_redo_19 : decode cX10_redo 19 = .ok (.aload_n 0, 1) := by decide +kernel
theorem dX10_redo_20 : decode cX10_redo 20 = .ok (.aload_n 0, 1) := by decide +kernel
theorem dX10_redo_21 : decode cX10_redo 21 = .ok (.getfield 235, 3) := by decide +kernel
theorem dX10_redo_24 : decode cX10_redo 24 = .ok (.invokevirtual 321, 3) := by decide +kernel
theorem dX10_redo_27 : decode cX10_redo 27 = .ok (.aload_n 0, 1) := by decide +kernel
theorem dX10_redo_28 : decode cX10_redo 28 = .ok (.dup, 1) := by decide +kernel
theorem dX10_redo_29 : decode cX10_redo 29 = .ok (.getfield 235, 3) := by decide +kernel
theorem dX10_redo_32 : decode cX10_redo 32 = .ok (.iconst 1, 1) := by decide +kernel
theorem dX10_redo_33 : decode cX10_redo 33 = .ok (.iadd, 1) := by decide +kernel
theorem dX10_redo_34 : decode cX10_redo 34 = .ok (.putfield 235, 3) := by decide +kernel
theorem dX10_redo_37 : decode cX10_redo 37 = .ok (.iconst 1, 1) := by decide +kernel
theorem dX10_redo_38 : decode cX10_redo 38 = .ok (.ireturn, 1) := by decide +kernel
set_option maxRecDepth 100000 in
theorem SX10_redo_0 {g : zG} {o : Bool} {M : zM} {q : Int → zM → Prop} (W : (-2147483648 ≤ (M 1 29) ∧ (M 1 29) ≤ 2147483647) ∧ (((M 1 29) ≠ 0) → ∃ q2 : zM → Prop, zKv g (z2 o) mX10_exchanges [zA g 1, zI ((zu M 1 29 ((M 1 29) - 1)) 1 28)] (zu M 1 29 ((M 1 29) - 1)) q2 ∧ ∀ M4 : zM, q2 M4 → q 1 (zu M4 1 28 ((M4 1 28) + 1))) ∧ (((M 1 29) = 0) → q 0 M)) : zT g (z2 o) mX10_redo (zQi (z2 o) q) 0 [(0, zA g 1)] [] M := by
  refine zr_aload_n 0 dX10_redo_0 rfl ?_
  refine zt_geti 29 rfl dX10_redo_1 fX10_238 rfl (by decide) ?_
  obtain ⟨c1, W⟩ := W
  refine zr_if_ne (tgt := 9) dX10_redo_4 (by decide) c1 (fun h => ?_) (fun h => ?_)
  · have W := W.1 h
    refine zr_aload_n 0 dX10_redo_9 rfl ?_
    refine zr_dup dX10_redo_10 rfl ?_
    refine zt_geti 29 rfl dX10_redo_11 fX10_238 rfl (by decide) ?_
    refine zr_iconst dX10_redo_14 ?_
    refine zr_isub dX10_redo_15 ?_
    refine zt_puti 29 rfl dX10_redo_16 fX10_238 lcX10 ltX10_29 rfl rfl ?_
    refine zr_aload_n 0 dX10_redo_19 rfl ?_
    refine zr_aload_n 0 dX10_redo_20 rfl ?_
    refine zt_geti 28 rfl dX10_redo_21 fX10_235 rfl (by decide) ?_
    obtain ⟨q2, k6, W⟩ := W
    refine zt_callVv (As := [zI ((zu M 1 29 ((M 1 29) - 1)) 1 28)]) (rest := []) dX10_redo_24 kX10_redo_321 rfl rfl rfl rfl (Nat.le_of_ble_eq_true rfl) k6 (fun M4 h5 => ?_)
    have W := W M4 h5
    refine zr_aload_n 0 dX10_redo_27 rfl ?_
    refine zr_dup dX10_redo_28 rfl ?_
    refine zt_geti 28 rfl dX10_redo_29 fX10_235 rfl (by decide) ?_
    refine zr_iconst dX10_redo_32 ?_
    refine zr_iadd dX10_redo_33 ?_
    refine zt_puti 28 rfl dX10_redo_34 fX10_235 lcX10 ltX10_28 rfl rfl ?_
    refine zr_iconst dX10_redo_37 ?_
    exact zt_zret dX10_redo_38 rfl (by decide) W
  · have W := W.2 h
    refine zr_iconst dX10_redo_7 ?_
    exact zt_zret dX10_redo_8 rfl (by decide) W
theorem dX10_blow_0 : decode cX10_blow 0 = .ok (.iload_n 1, 1) := by decide +kernel
theorem dX10_blow_1 : decode cX10_blow 1 = .ok (.iconst 1, 1) := by decide +kernel
theorem dX10_blow_2 : decode cX10_blow 2 = .ok (.sipush 500, 3) := by decide +kernel
theorem dX10_blow_5 : decode cX10_blow 5 = .ok (.invokestatic 106, 3) := by decide +kernel
theorem dX10_blow_8 : decode cX10_blow 8 = .ok (.ifCond .ne 5, 3) := by decide +kernel
theorem dX10_blow_11 : decode cX10_blow 11 = .ok (.iconst (-1), 1) := by decide +kernel
theorem dX10_blow_12 : decode cX10_blow 12 = .ok (.ireturn, 1) := by decide +kernel
theorem dX10_blow_13 : decode cX10_blow 13 = .ok (.aload_n 0, 1) := by decide +kernel
theorem dX10_blow_14 : decode cX10_blow 14 = .ok (.invokevirtual 324, 3) := by decide +kernel
theorem dX10_blow_17 : decode cX10_blow 17 = .ok (.aload_n 0, 1) := by decide +kernel
theorem dX10_blow_18 : decode cX10_blow 18 = .ok (.invokevirtual 327, 3) := by decide +kernel
theorem dX10_blow_21 : decode cX10_blow 21 = .ok (.aload_n 0, 1) := by decide +kernel
theorem dX10_blow_22 : decode cX10_blow 22 = .ok (.iload_n 1, 1) := by decide +kernel
theorem dX10_blow_23 : decode cX10_blow 23 = .ok (.invokevirtual 330, 3) := by decide +kernel
theorem dX10_blow_26 : decode cX10_blow 26 = .ok (.istore_n 2, 1) := by decide +kernel
theorem dX10_blow_27 : decode cX10_blow 27 = .ok (.aload_n 0, 1) := by decide +kernel
theorem dX10_blow_28 : decode cX10_blow 28 = .ok (.invokevirtual 333, 3) := by decide +kernel
theorem dX10_blow_31 : decode cX10_blow 31 = .ok (.iload_n 2, 1) := by decide +kernel
theorem dX10_blow_32 : decode cX10_blow 32 = .ok (.ireturn, 1) := by decide +kernel
set_option maxRecDepth 100000 in
theorem SX10_blow_0 {g : zG} {o : Bool} {M : zM} {q : Int → zM → Prop} {x1 : Int} (W : (-2147483648 ≤ x1 ∧ x1 ≤ 2147483647) ∧ ((1 ≤ x1 ∧ x1 ≤ 500) → ∃ q5 : zM → Prop, zKv g (z2 o) mX10_act [zA g 1] M q5 ∧ ∀ M7 : zM, q5 M7 → ∃ q10 : zM → Prop, zKv g (z2 o) mX10_goesOn [zA g 1] M7 q10 ∧ ∀ M12 : zM, q10 M12 → ∃ q15 : Int → zM → Prop, zKi g (z2 o) mX10_blows [zA g 1, zI x1] M12 q15 ∧ ∀ (r16 : Int) (M17 : zM), q15 r16 M17 → ∃ q20 : zM → Prop, zKv g (z2 o) mX10_keepsRow [zA g 1] M17 q20 ∧ ∀ M22 : zM, q20 M22 → q r16 M22) ∧ ((¬ (1 ≤ x1 ∧ x1 ≤ 500)) → q (-1) M)) : zT g (z2 o) mX10_blow (zQi (z2 o) q) 0 [(0, zA g 1), (1, zI x1)] [] M := by
  refine zr_iload_n 1 dX10_blow_0 rfl ?_
  refine zr_iconst dX10_blow_1 ?_
  refine zr_sipush dX10_blow_2 (by decide) ?_
  obtain ⟨c1, W⟩ := W
  refine zt_callSi (As := [zI x1, zI 1, zI 500]) (rest := []) dX10_blow_5 kX10_blow_106 rfl rfl (Nat.le_of_ble_eq_true rfl) (c_isIn c1 ⟨by decide, by decide⟩ ⟨by decide, by decide⟩) (fun r2 N4 h3 => ?_)
  rw [h3.1, h3.2]
  refine zt_ifne_b (tgt := 13) dX10_blow_8 (by decide) (fun h => ?_) (fun h => ?_)
  · have W := W.1 h
    refine zr_aload_n 0 dX10_blow_13 rfl ?_
    obtain ⟨q5, k9, W⟩ := W
    refine zt_callVv (As := []) (rest := []) dX10_blow_14 kX10_blow_324 rfl rfl rfl rfl (Nat.le_of_ble_eq_true rfl) k9 (fun M7 h8 => ?_)
    have W := W M7 h8
    refine zr_aload_n 0 dX10_blow_17 rfl ?_
    obtain ⟨q10, k14, W⟩ := W
    refine zt_callVv (As := []) (rest := []) dX10_blow_18 kX10_blow_327 rfl rfl rfl rfl (Nat.le_of_ble_eq_true rfl) k14 (fun M12 h13 => ?_)
    have W := W M12 h13
    refine zr_aload_n 0 dX10_blow_21 rfl ?_
    refine zr_iload_n 1 dX10_blow_22 rfl ?_
    obtain ⟨q15, k19, W⟩ := W
    refine zt_callVi (As := [zI x1]) (rest := []) dX10_blow_23 kX10_blow_330 rfl rfl rfl rfl (Nat.le_of_ble_eq_true rfl) k19 (fun r16 M17 h18 => ?_)
    have W := W r16 M17 h18
    refine zr_istore_n (l' := [(0, zA g 1), (2, zI r16)]) dX10_blow_26 (by decide) [1, 0] rfl ?_
    refine zr_aload_n 0 dX10_blow_27 rfl ?_
    obtain ⟨q20, k24, W⟩ := W
    refine zt_callVv (As := []) (rest := []) dX10_blow_28 kX10_blow_333 rfl rfl rfl rfl (Nat.le_of_ble_eq_true rfl) k24 (fun M22 h23 => ?_)
    have W := W M22 h23
    refine zr_iload_n 1 dX10_blow_31 rfl ?_
    exact zt_iret dX10_blow_32 rfl W
  · have W := W.2 h
    refine zr_iconst dX10_blow_11 ?_
    exact zt_iret dX10_blow_12 rfl W
theorem dX10_put_0 : decode cX10_put 0 = .ok (.aload_n 0, 1) := by decide +kernel
theorem dX10_put_1 : decode cX10_put 1 = .ok (.iload_n 1, 1) := by decide +kernel
theorem dX10_put_2 : decode cX10_put 2 = .ok (.invokevirtual 336, 3) := by decide +kernel
theorem dX10_put_5 : decode cX10_put 5 = .ok (.ifCond .eq 13, 3) := by decide +kernel
theorem dX10_put_8 : decode cX10_put 8 = .ok (.iload_n 2, 1) := by decide +kernel
theorem dX10_put_9 : decode cX10_put 9 = .ok (.iconst 1, 1) := by decide +kernel
theorem dX10_put_10 : decode cX10_put 10 = .ok (.bipush 50, 2) := by decide +kernel
theorem dX10_put_12 : decode cX10_put 12 = .ok (.invokestatic 106, 3) := by decide +kernel
theorem dX10_put_15 : decode cX10_put 15 = .ok (.ifCond .ne 5, 3) := by decide +kernel
theorem dX10_put_18 : decode cX10_put 18 = .ok (.iconst (-1), 1) := by decide +kernel
theorem dX10_put_19 : decode cX10_put 19 = .ok (.ireturn, 1) := by decide +kernel
theorem dX10_put_20 : decode cX10_put 20 = .ok (.aload_n 0, 1) := by decide +kernel
theorem dX10_put_21 : decode cX10_put 21 = .ok (.invokevirtual 324, 3) := by decide +kernel
theorem dX10_put_24 : decode cX10_put 24 = .ok (.aload_n 0, 1) := by decide +kernel
theorem dX10_put_25 : decode cX10_put 25 = .ok (.invokevirtual 327, 3) := by decide +kernel
theorem dX10_put_28 : decode cX10_put 28 = .ok (.iconst 0, 1) := by decide +kernel
theorem dX10_put_29 : decode cX10_put 29 = .ok (.istore_n 3, 1) := by decide +kernel
theorem dX10_put_30 : decode cX10_put 30 = .ok (.iload_n 3, 1) := by decide +kernel
theorem dX10_put_31 : decode cX10_put 31 = .ok (.iload_n 2, 1) := by decide +kernel
theorem dX10_put_32 : decode cX10_put 32 = .ok (.if_icmp .ge 24, 3) := by decide +kernel
theorem dX10_put_35 : decode cX10_put 35 = .ok (.aload_n 0, 1) := by decide +kernel
theorem dX10_put_36 : decode cX10_put 36 = .ok (.getfield 45, 3) := by decide +kernel
theorem dX10_put_39 : decode cX10_put 39 = .ok (.iload_n 1, 1) := by decide +kernel
theorem dX10_put_40 : decode cX10_put 40 = .ok (.dup2, 1) := by decide +kernel
theorem dX10_put_41 : decode cX10_put 41 = .ok (.iaload, 1) := by decide +kernel
theorem dX10_put_42 : decode cX10_put 42 = .ok (.iconst 1, 1) := by decide +kernel
theorem dX10_put_43 : decode cX10_put 43 = .ok (.iadd, 1) := by decide +kernel
theorem dX10_put_44 : decode cX10_put 44 = .ok (.iastore, 1) := by decide +kernel
theorem dX10_put_45 : decode cX10_put 45 = .ok (.aload_n 0, 1) := by decide +kernel
theorem dX10_put_46 : decode cX10_put 46 = .ok (.iload_n 1, 1) := by decide +kernel
theorem dX10_put_47 : decode cX10_put 47 = .ok (.invokevirtual 312, 3) := by decide +kernel
theorem dX10_put_50 : decode cX10_put 50 = .ok (.iinc 3 1, 3) := by decide +kernel
theorem dX10_put_53 : decode cX10_put 53 = .ok (.goto (-23), 3) := by decide +kernel
theorem dX10_put_56 : decode cX10_put 56 = .ok (.aload_n 0, 1) := by decide +kernel
theorem dX10_put_57 : decode cX10_put 57 = .ok (.invokevirtual 333, 3) := by decide +kernel
theorem dX10_put_60 : decode cX10_put 60 = .ok (.aload_n 0, 1) := by decide +kernel
theorem dX10_put_61 : decode cX10_put 61 = .ok (.getfield 42, 3) := by decide +kernel
theorem dX10_put_64 : decode cX10_put 64 = .ok (.iload_n 1, 1) := by decide +kernel
theorem dX10_put_65 : decode cX10_put 65 = .ok (.iaload, 1) := by decide +kernel
theorem dX10_put_66 : decode cX10_put 66 = .ok (.ireturn, 1) := by decide +kernel
set_option maxRecDepth 100000 in
theorem SX10_put_0 {g : zG} {o : Bool} {C R : Int} {M : zM} {q : Int → zM → Prop} {x1 x2 : Int} (W : (zRf M C R) ∧ (-2147483648 ≤ x1 ∧ x1 ≤ 2147483647) ∧ ((¬ (0 ≤ x1 ∧ x1 < C * R)) → q (-1) M) ∧ ((0 ≤ x1 ∧ x1 < C * R) → (-2147483648 ≤ x2 ∧ x2 ≤ 2147483647) ∧ ((1 ≤ x2 ∧ x2 ≤ 50) → ∃ q10 : zM → Prop, zKv g (z2 o) mX10_act [zA g 1] M q10 ∧ ∀ M12 : zM, q10 M12 → ∃ q15 : zM → Prop, zKv g (z2 o) mX10_goesOn [zA g 1] M12 q15 ∧ ∀ M17 : zM, q15 M17 → zT g (z2 o) mX10_put (zQi (z2 o) q) 30 [(0, zA g 1), (1, zI x1), (2, zI x2), (3, zI 0)] [] M17) ∧ ((¬ (1 ≤ x2 ∧ x2 ≤ 50)) → q (-1) M))) : zT g (z2 o) mX10_put (zQi (z2 o) q) 0 [(0, zA g 1), (1, zI x1), (2, zI x2)] [] M := by
  refine zr_aload_n 0 dX10_put_0 rfl ?_
  refine zr_iload_n 1 dX10_put_1 rfl ?_
  obtain ⟨c1, W⟩ := W
  obtain ⟨c2, W⟩ := W
  refine zt_callVi (As := [zI x1]) (rest := []) dX10_put_2 kX10_put_336 rfl rfl rfl rfl (Nat.le_of_ble_eq_true rfl) (c_isCell c1 c2) (fun r3 N5 h4 => ?_)
  rw [h4.1, h4.2]
  refine zt_ifeq_b (tgt := 18) dX10_put_5 (by decide) (fun h => ?_) (fun h => ?_)
  · have W := W.1 h
    refine zr_iconst dX10_put_18 ?_
    exact zt_iret dX10_put_19 rfl W
  · have W := W.2 h
    refine zr_iload_n 2 dX10_put_8 rfl ?_
    refine zr_iconst dX10_put_9 ?_
    refine zr_bipush dX10_put_10 (by decide) ?_
    obtain ⟨c6, W⟩ := W
    refine zt_callSi (As := [zI x2, zI 1, zI 50]) (rest := []) dX10_put_12 kX10_put_106 rfl rfl (Nat.le_of_ble_eq_true rfl) (c_isIn c6 ⟨by decide, by decide⟩ ⟨by decide, by decide⟩) (fun r7 N9 h8 => ?_)
    rw [h8.1, h8.2]
    refine zt_ifne_b (tgt := 20) dX10_put_15 (by decide) (fun h => ?_) (fun h => ?_)
    · have W := W.1 h
      refine zr_aload_n 0 dX10_put_20 rfl ?_
      obtain ⟨q10, k14, W⟩ := W
      refine zt_callVv (As := []) (rest := []) dX10_put_21 kX10_put_324 rfl rfl rfl rfl (Nat.le_of_ble_eq_true rfl) k14 (fun M12 h13 => ?_)
      have W := W M12 h13
      refine zr_aload_n 0 dX10_put_24 rfl ?_
      obtain ⟨q15, k19, W⟩ := W
      refine zt_callVv (As := []) (rest := []) dX10_put_25 kX10_put_327 rfl rfl rfl rfl (Nat.le_of_ble_eq_true rfl) k19 (fun M17 h18 => ?_)
      have W := W M17 h18
      refine zr_iconst dX10_put_28 ?_
      refine zr_istore_n (l' := [(0, zA g 1), (1, zI x1), (2, zI x2), (3, zI 0)]) dX10_put_29 (by decide) [1, 2, 3, 0] rfl ?_
      exact W
    · have W := W.2 h
      refine zr_iconst dX10_put_18 ?_
      exact zt_iret dX10_put_19 rfl W
set_option maxRecDepth 100000 in
theorem SX10_put_30 {g : zG} {o : Bool} {M : zM} {q : Int → zM → Prop} {x1 x2 x3 : Int} (W : (-2147483648 ≤ x3 ∧ x3 ≤ 2147483647) ∧ (-2147483648 ≤ x2 ∧ x2 ≤ 2147483647) ∧ ((x2 ≤ x3) → ∃ q3 : zM → Prop, zKv g (z2 o) mX10_keepsRow [zA g 1] M q3 ∧ ∀ M5 : zM, q3 M5 → (0 ≤ x1 ∧ x1 < 198) ∧ q (M5 10 x1) M5) ∧ ((¬ (x2 ≤ x3)) → (0 ≤ x1 ∧ x1 < 198) ∧ ∃ q10 : zM → Prop, zKv g (z2 o) mX10_spills [zA g 1, zI x1] (zu M 11 x1 ((M 11 x1) + 1)) q10 ∧ ∀ M12 : zM, q10 M12 → zT g (z2 o) mX10_put (zQi (z2 o) q) 30 [(0, zA g 1), (1, zI x1), (2, zI x2), (3, zI (x3 + 1))] [] M12)) : zT g (z2 o) mX10_put (zQi (z2 o) q) 30 [(0, zA g 1), (1, zI x1), (2, zI x2), (3, zI x3)] [] M := by
  refine zr_iload_n 3 dX10_put_30 rfl ?_
  refine zr_iload_n 2 dX10_put_31 rfl ?_
  obtain ⟨c1, W⟩ := W
  obtain ⟨c2, W⟩ := W
  refine zr_icmp_ge (tgt := 56) dX10_put_32 (by decide) c1 c2 (fun h => ?_) (fun h => ?_)
  · have W := W.1 h
    refine zr_aload_n 0 dX10_put_56 rfl ?_
    obtain ⟨q3, k7, W⟩ := W
    refine zt_callVv (As := []) (rest := []) dX10_put_57 kX10_put_333 rfl rfl rfl rfl (Nat.le_of_ble_eq_true rfl) k7 (fun M5 h6 => ?_)
    have W := W M5 h6
    refine zr_aload_n 0 dX10_put_60 rfl ?_
    refine zr_getr (b := 10) dX10_put_61 fX10_42 rfl rfl rfl (by decide) ?_
    refine zr_iload_n 1 dX10_put_64 rfl ?_
    obtain ⟨c8, W⟩ := W
    refine zr_iald dX10_put_65 rfl (by decide) c8 ?_
    exact zt_iret dX10_put_66 rfl W
  · have W := W.2 h
    refine zr_aload_n 0 dX10_put_35 rfl ?_
    refine zr_getr (b := 11) dX10_put_36 fX10_45 rfl rfl rfl (by decide) ?_
    refine zr_iload_n 1 dX10_put_39 rfl ?_
    refine zr_dup2 dX10_put_40 rfl rfl ?_
    obtain ⟨c9, W⟩ := W
    refine zr_iald dX10_put_41 rfl (by decide) c9 ?_
    refine zr_iconst dX10_put_42 ?_
    refine zr_iadd dX10_put_43 ?_
    refine zr_iast dX10_put_44 rfl (by decide) c9 ?_
    refine zr_aload_n 0 dX10_put_45 rfl ?_
    refine zr_iload_n 1 dX10_put_46 rfl ?_
    obtain ⟨q10, k14, W⟩ := W
    refine zt_callVv (As := [zI x1]) (rest := []) dX10_put_47 kX10_put_312 rfl rfl rfl rfl (Nat.le_of_ble_eq_true rfl) k14 (fun M12 h13 => ?_)
    have W := W M12 h13
    refine zr_iinc (q := 3) (l' := [(0, zA g 1), (1, zI x1), (2, zI x2), (3, zI (x3 + 1))]) dX10_put_50 rfl (by decide) [1, 2, 3, 0] rfl ?_
    refine zr_goto (tgt := 30) dX10_put_53 (by decide) ?_
    exact W
theorem dX10_take_0 : decode cX10_take 0 = .ok (.aload_n 0, 1) := by decide +kernel
theorem dX10_take_1 : decode cX10_take 1 = .ok (.iload_n 1, 1) := by decide +kernel
theorem dX10_take_2 : decode cX10_take 2 = .ok (.invokevirtual 336, 3) := by decide +kernel
theorem dX10_take_5 : decode cX10_take 5 = .ok (.ifCond .eq 12, 3) := by decide +kernel
theorem dX10_take_8 : decode cX10_take 8 = .ok (.aload_n 0, 1) := by decide +kernel
theorem dX10_take_9 : decode cX10_take 9 = .ok (.getfield 42, 3) := by decide +kernel
theorem dX10_take_12 : decode cX10_take 12 = .ok (.iload_n 1, 1) := by decide +kernel
theorem dX10_take_13 : decode cX10_take 13 = .ok (.iaload, 1) := by decide +kernel
theorem dX10_take_14 : decode cX10_take 14 = .ok (.ifCond .ne 5, 3) := by decide +kernel
theorem dX10_take_17 : decode cX10_take 17 = .ok (.iconst (-1), 1) := by decide +kernel
theorem dX10_take_18 : decode cX10_take 18 = .ok (.ireturn, 1) := by decide +kernel
theorem dX10_take_19 : decode cX10_take 19 = .ok (.aload_n 0, 1) := by decide +kernel
theorem dX10_take_20 : decode cX10_take 20 = .ok (.invokevirtual 324, 3) := by decide +kernel
theorem dX10_take_23 : decode cX10_take 23 = .ok (.aload_n 0, 1) := by decide +kernel
theorem dX10_take_24 : decode cX10_take 24 = .ok (.invokevirtual 327, 3) := by decide +kernel
theorem dX10_take_27 : decode cX10_take 27 = .ok (.aload_n 0, 1) := by decide +kernel
theorem dX10_take_28 : decode cX10_take 28 = .ok (.getfield 45, 3) := by decide +kernel
theorem dX10_take_31 : decode cX10_take 31 = .ok (.iload_n 1, 1) := by decide +kernel
theorem dX10_take_32 : decode cX10_take 32 = .ok (.dup2, 1) := by decide +kernel
theorem dX10_take_33 : decode cX10_take 33 = .ok (.iaload, 1) := by decide +kernel
theorem dX10_take_34 : decode cX10_take 34 = .ok (.iconst 1, 1) := by decide +kernel
theorem dX10_take_35 : decode cX10_take 35 = .ok (.isub, 1) := by decide +kernel
theorem dX10_take_36 : decode cX10_take 36 = .ok (.iastore, 1) := by decide +kernel
theorem dX10_take_37 : decode cX10_take 37 = .ok (.aload_n 0, 1) := by decide +kernel
theorem dX10_take_38 : decode cX10_take 38 = .ok (.iload_n 1, 1) := by decide +kernel
theorem dX10_take_39 : decode cX10_take 39 = .ok (.invokevirtual 306, 3) := by decide +kernel
theorem dX10_take_42 : decode cX10_take 42 = .ok (.aload_n 0, 1) := by decide +kernel
theorem dX10_take_43 : decode cX10_take 43 = .ok (.invokevirtual 333, 3) := by decide +kernel
theorem dX10_take_46 : decode cX10_take 46 = .ok (.aload_n 0, 1) := by decide +kernel
theorem dX10_take_47 : decode cX10_take 47 = .ok (.getfield 42, 3) := by decide +kernel
theorem dX10_take_50 : decode cX10_take 50 = .ok (.iload_n 1, 1) := by decide +kernel
theorem dX10_take_51 : decode cX10_take 51 = .ok (.iaload, 1) := by decide +kernel
theorem dX10_take_52 : decode cX10_take 52 = .ok (.ireturn, 1) := by decide +kernel
set_option maxRecDepth 100000 in
theorem SX10_take_0 {g : zG} {o : Bool} {C R : Int} {M : zM} {q : Int → zM → Prop} {x1 : Int} (W : (zRf M C R) ∧ (-2147483648 ≤ x1 ∧ x1 ≤ 2147483647) ∧ ((¬ (0 ≤ x1 ∧ x1 < C * R)) → q (-1) M) ∧ ((0 ≤ x1 ∧ x1 < C * R) → (0 ≤ x1 ∧ x1 < 198) ∧ (-2147483648 ≤ (M 10 x1) ∧ (M 10 x1) ≤ 2147483647) ∧ (((M 10 x1) ≠ 0) → ∃ q8 : zM → Prop, zKv g (z2 o) mX10_act [zA g 1] M q8 ∧ ∀ M10 : zM, q8 M10 → ∃ q13 : zM → Prop, zKv g (z2 o) mX10_goesOn [zA g 1] M10 q13 ∧ ∀ M15 : zM, q13 M15 → ∃ q18 : zM → Prop, zKv g (z2 o) mX10_fills [zA g 1, zI x1] (zu M15 11 x1 ((M15 11 x1) - 1)) q18 ∧ ∀ M20 : zM, q18 M20 → ∃ q23 : zM → Prop, zKv g (z2 o) mX10_keepsRow [zA g 1] M20 q23 ∧ ∀ M25 : zM, q23 M25 → q (M25 10 x1) M25) ∧ (((M 10 x1) = 0) → q (-1) M))) : zT g (z2 o) mX10_take (zQi (z2 o) q) 0 [(0, zA g 1), (1, zI x1)] [] M := by
  refine zr_aload_n 0 dX10_take_0 rfl ?_
  refine zr_iload_n 1 dX10_take_1 rfl ?_
  obtain ⟨c1, W⟩ := W
  obtain ⟨c2, W⟩ := W
  refine zt_callVi (As := [zI x1]) (rest := []) dX10_take_2 kX10_take_336 rfl rfl rfl rfl (Nat.le_of_ble_eq_true rfl) (c_isCell c1 c2) (fun r3 N5 h4 => ?_)
  rw [h4.1, h4.2]
  refine zt_ifeq_b (tgt := 17) dX10_take_5 (by decide) (fun h => ?_) (fun h => ?_)
  · have W := W.1 h
    refine zr_iconst dX10_take_17 ?_
    exact zt_iret dX10_take_18 rfl W
  · have W := W.2 h
    refine zr_aload_n 0 dX10_take_8 rfl ?_
    refine zr_getr (b := 10) dX10_take_9 fX10_42 rfl rfl rfl (by decide) ?_
    refine zr_iload_n 1 dX10_take_12 rfl ?_
    obtain ⟨c6, W⟩ := W
    refine zr_iald dX10_take_13 rfl (by decide) c6 ?_
    obtain ⟨c7, W⟩ := W
    refine zr_if_ne (tgt := 19) dX10_take_14 (by decide) c7 (fun h => ?_) (fun h => ?_)
    · have W := W.1 h
      refine zr_aload_n 0 dX10_take_19 rfl ?_
      obtain ⟨q8, k12, W⟩ := W
      refine zt_callVv (As := []) (rest := []) dX10_take_20 kX10_take_324 rfl rfl rfl rfl (Nat.le_of_ble_eq_true rfl) k12 (fun M10 h11 => ?_)
      have W := W M10 h11
      refine zr_aload_n 0 dX10_take_23 rfl ?_
      obtain ⟨q13, k17, W⟩ := W
      refine zt_callVv (As := []) (rest := []) dX10_take_24 kX10_take_327 rfl rfl rfl rfl (Nat.le_of_ble_eq_true rfl) k17 (fun M15 h16 => ?_)
      have W := W M15 h16
      refine zr_aload_n 0 dX10_take_27 rfl ?_
      refine zr_getr (b := 11) dX10_take_28 fX10_45 rfl rfl rfl (by decide) ?_
      refine zr_iload_n 1 dX10_take_31 rfl ?_
      refine zr_dup2 dX10_take_32 rfl rfl ?_
      refine zr_iald dX10_take_33 rfl (by decide) c6 ?_
      refine zr_iconst dX10_take_34 ?_
      refine zr_isub dX10_take_35 ?_
      refine zr_iast dX10_take_36 rfl (by decide) c6 ?_
      refine zr_aload_n 0 dX10_take_37 rfl ?_
      refine zr_iload_n 1 dX10_take_38 rfl ?_
      obtain ⟨q18, k22, W⟩ := W
      refine zt_callVv (As := [zI x1]) (rest := []) dX10_take_39 kX10_take_306 rfl rfl rfl rfl (Nat.le_of_ble_eq_true rfl) k22 (fun M20 h21 => ?_)
      have W := W M20 h21
      refine zr_aload_n 0 dX10_take_42 rfl ?_
      obtain ⟨q23, k27, W⟩ := W
      refine zt_callVv (As := []) (rest := []) dX10_take_43 kX10_take_333 rfl rfl rfl rfl (Nat.le_of_ble_eq_true rfl) k27 (fun M25 h26 => ?_)
      have W := W M25 h26
      refine zr_aload_n 0 dX10_take_46 rfl ?_
      refine zr_getr (b := 10) dX10_take_47 fX10_42 rfl rfl rfl (by decide) ?_
      refine zr_iload_n 1 dX10_take_50 rfl ?_
      refine zr_iald dX10_take_51 rfl (by decide) c6 ?_
      exact zt_iret dX10_take_52 rfl W
    · have W := W.2 h
      refine zr_iconst dX10_take_17 ?_
      exact zt_iret dX10_take_18 rfl W
theorem dX10_sow_0 : decode cX10_sow 0 = .ok (.aload_n 0, 1) := by decide +kernel
theorem dX10_sow_1 : decode cX10_sow 1 = .ok (.iload_n 1, 1) := by decide +kernel
theorem dX10_sow_2 : decode cX10_sow 2 = .ok (.invokevirtual 336, 3) := by decide +kernel
theorem dX10_sow_5 : decode cX10_sow 5 = .ok (.ifCond .eq 19, 3) := by decide +kernel
theorem dX10_sow_8 : decode cX10_sow 8 = .ok (.aload_n 0, 1) := by decide +kernel
theorem dX10_sow_9 : decode cX10_sow 9 = .ok (.getfield 42, 3) := by decide +kernel
theorem dX10_sow_12 : decode cX10_sow 12 = .ok (.bipush 96, 2) := by decide +kernel
theorem dX10_sow_14 : decode cX10_sow 14 = .ok (.iload_n 1, 1) := by decide +kernel
theorem dX10_sow_15 : decode cX10_sow 15 = .ok (.iadd, 1) := by decide +kernel
theorem dX10_sow_16 : decode cX10_sow 16 = .ok (.iaload, 1) := by decide +kernel
theorem dX10_sow_17 : decode cX10_sow 17 = .ok (.iload_n 2, 1) := by decide +kernel
theorem dX10_sow_18 : decode cX10_sow 18 = .ok (.invokestatic 317, 3) := by decide +kernel
theorem dX10_sow_21 : decode cX10_sow 21 = .ok (.if_icmp .ne 5, 3) := by decide +kernel
theorem dX10_sow_24 : decode cX10_sow 24 = .ok (.iconst (-1), 1) := by decide +kernel
theorem dX10_sow_25 : decode cX10_sow 25 = .ok (.ireturn, 1) := by decide +kernel
theorem dX10_sow_26 : decode cX10_sow 26 = .ok (.aload_n 0, 1) := by decide +kernel
theorem dX10_sow_27 : decode cX10_sow 27 = .ok (.invokevirtual 324, 3) := by decide +kernel
theorem dX10_sow_30 : decode cX10_sow 30 = .ok (.aload_n 0, 1) := by decide +kernel
theorem dX10_sow_31 : decode cX10_sow 31 = .ok (.getfield 42, 3) := by decide +kernel
theorem dX10_sow_34 : decode cX10_sow 34 = .ok (.bipush 96, 2) := by decide +kernel
theorem dX10_sow_36 : decode cX10_sow 36 = .ok (.iload_n 1, 1) := by decide +kernel
theorem dX10_sow_37 : decode cX10_sow 37 = .ok (.iadd, 1) := by decide +kernel
theorem dX10_sow_38 : decode cX10_sow 38 = .ok (.iload_n 2, 1) := by decide +kernel
theorem dX10_sow_39 : decode cX10_sow 39 = .ok (.invokestatic 317, 3) := by decide +kernel
theorem dX10_sow_42 : decode cX10_sow 42 = .ok (.iastore, 1) := by decide +kernel
theorem dX10_sow_43 : decode cX10_sow 43 = .ok (.aload_n 0, 1) := by decide +kernel
theorem dX10_sow_44 : decode cX10_sow 44 = .ok (.invokevirtual 339, 3) := by decide +kernel
theorem dX10_sow_47 : decode cX10_sow 47 = .ok (.ireturn, 1) := by decide +kernel
set_option maxRecDepth 100000 in
theorem SX10_sow_0 {g : zG} {o : Bool} {C R : Int} {M : zM} {q : Int → zM → Prop} {x1 x2 : Int} (W : (zRf M C R) ∧ (-2147483648 ≤ x1 ∧ x1 ≤ 2147483647) ∧ ((¬ (0 ≤ x1 ∧ x1 < C * R)) → q (-1) M) ∧ ((0 ≤ x1 ∧ x1 < C * R) → (0 ≤ (96 + x1) ∧ (96 + x1) < 198) ∧ (x2 = 0 ∨ x2 = 1) ∧ (-2147483648 ≤ (M 10 (96 + x1)) ∧ (M 10 (96 + x1)) ≤ 2147483647) ∧ (-2147483648 ≤ x2 ∧ x2 ≤ 2147483647) ∧ (((M 10 (96 + x1)) ≠ x2) → ∃ q13 : zM → Prop, zKv g (z2 o) mX10_act [zA g 1] M q13 ∧ ∀ M15 : zM, q13 M15 → (zRf (zu M15 10 (96 + x1) x2) C R) ∧ q (smt (fun i => (zu M15 10 (96 + x1) x2) 10 (96 + i)) (C * R).toNat) (zu M15 10 (96 + x1) x2)) ∧ (((M 10 (96 + x1)) = x2) → q (-1) M))) : zT g (z2 o) mX10_sow (zQi (z2 o) q) 0 [(0, zA g 1), (1, zI x1), (2, zI x2)] [] M := by
  refine zr_aload_n 0 dX10_sow_0 rfl ?_
  refine zr_iload_n 1 dX10_sow_1 rfl ?_
  obtain ⟨c1, W⟩ := W
  obtain ⟨c2, W⟩ := W
  refine zt_callVi (As := [zI x1]) (rest := []) dX10_sow_2 kX10_sow_336 rfl rfl rfl rfl (Nat.le_of_ble_eq_true rfl) (c_isCell c1 c2) (fun r3 N5 h4 => ?_)
  rw [h4.1, h4.2]
  refine zt_ifeq_b (tgt := 24) dX10_sow_5 (by decide) (fun h => ?_) (fun h => ?_)
  · have W := W.1 h
    refine zr_iconst dX10_sow_24 ?_
    exact zt_iret dX10_sow_25 rfl W
  · have W := W.2 h
    refine zr_aload_n 0 dX10_sow_8 rfl ?_
    refine zr_getr (b := 10) dX10_sow_9 fX10_42 rfl rfl rfl (by decide) ?_
    refine zr_bipush dX10_sow_12 (by decide) ?_
    refine zr_iload_n 1 dX10_sow_14 rfl ?_
    refine zr_iadd dX10_sow_15 ?_
    obtain ⟨c6, W⟩ := W
    refine zr_iald dX10_sow_16 rfl (by decide) c6 ?_
    refine zr_iload_n 2 dX10_sow_17 rfl ?_
    obtain ⟨c7, W⟩ := W
    refine zt_callSi (As := [zI x2]) (rest := [zI (M 10 (96 + x1))]) dX10_sow_18 kX10_sow_317 rfl rfl (Nat.le_of_ble_eq_true rfl) (c_truthi c7) (fun r8 N10 h9 => ?_)
    rw [h9.1, h9.2]
    obtain ⟨c11, W⟩ := W
    obtain ⟨c12, W⟩ := W
    refine zr_icmp_ne (tgt := 26) dX10_sow_21 (by decide) c11 c12 (fun h => ?_) (fun h => ?_)
    · have W := W.1 h
      refine zr_aload_n 0 dX10_sow_26 rfl ?_
      obtain ⟨q13, k17, W⟩ := W
      refine zt_callVv (As := []) (rest := []) dX10_sow_27 kX10_sow_324 rfl rfl rfl rfl (Nat.le_of_ble_eq_true rfl) k17 (fun M15 h16 => ?_)
      have W := W M15 h16
      refine zr_aload_n 0 dX10_sow_30 rfl ?_
      refine zr_getr (b := 10) dX10_sow_31 fX10_42 rfl rfl rfl (by decide) ?_
      refine zr_bipush dX10_sow_34 (by decide) ?_
      refine zr_iload_n 1 dX10_sow_36 rfl ?_
      refine zr_iadd dX10_sow_37 ?_
      refine zr_iload_n 2 dX10_sow_38 rfl ?_
      refine zt_callSi (As := [zI x2]) (rest := [zI (96 + x1), zA g 10]) dX10_sow_39 kX10_sow_317 rfl rfl (Nat.le_of_ble_eq_true rfl) (c_truthi c7) (fun r18 N20 h19 => ?_)
      rw [h19.1, h19.2]
      refine zr_iast dX10_sow_42 rfl (by decide) c6 ?_
      refine zr_aload_n 0 dX10_sow_43 rfl ?_
      obtain ⟨c21, W⟩ := W
      refine zt_callVi (As := []) (rest := []) dX10_sow_44 kX10_sow_339 rfl rfl rfl rfl (Nat.le_of_ble_eq_true rfl) (c_sownMany c21) (fun r22 N24 h23 => ?_)
      rw [h23.1, h23.2]
      exact zt_iret dX10_sow_47 rfl W
    · have W := W.2 h
      refine zr_iconst dX10_sow_24 ?_
      exact zt_iret dX10_sow_25 rfl W
theorem dX10_turn_0 : decode cX10_turn 0 = .ok (.iload_n 1, 1) := by decide +kernel
theorem dX10_turn_1 : decode cX10_turn 1 = .ok (.iconst 0, 1) := by decide +kernel
theorem dX10_turn_2 : decode cX10_turn 2 = .ok (.iconst 3, 1) := by decide +kernel
theorem dX10_turn_3 : decode cX10_turn 3 = .ok (.invokestatic 106, 3) := by decide +kernel
theorem dX10_turn_6 : decode cX10_turn 6 = .ok (.ifCond .eq 11, 3) := by decide +kernel
theorem dX10_turn_9 : decode cX10_turn 9 = .ok (.iload_n 1, 1) := by decide +kernel
theorem dX10_turn_10 : decode cX10_turn 10 = .ok (.iload_n 2, 1) := by decide +kernel
theorem dX10_turn_11 : decode cX10_turn 11 = .ok (.invokestatic 342, 3) := by decide +kernel
theorem dX10_turn_14 : decode cX10_turn 14 = .ok (.ifCond .ne 5, 3) := by decide +kernel
theorem dX10_turn_17 : decode cX10_turn 17 = .ok (.iconst (-1), 1) := by decide +kernel
theorem dX10_turn_18 : decode cX10_turn 18 = .ok (.ireturn, 1) := by decide +kernel
theorem dX10_turn_19 : decode cX10_turn 19 = .ok (.aload_n 0, 1) := by decide +kernel
theorem dX10_turn_20 : decode cX10_turn 20 = .ok (.invokevirtual 324, 3) := by decide +kernel
theorem dX10_turn_23 : decode cX10_turn 23 = .ok (.aload_n 0, 1) := by decide +kernel
theorem dX10_turn_24 : decode cX10_turn 24 = .ok (.getfield 42, 3) := by decide +kernel
theorem dX10_turn_27 : decode cX10_turn 27 = .ok (.sipush 192, 3) := by decide +kernel
theorem dX10_turn_30 : decode cX10_turn 30 = .ok (.iload_n 1, 1) := by decide +kernel
theorem dX10_turn_31 : decode cX10_turn 31 = .ok (.iadd, 1) := by decide +kernel
theorem dX10_turn_32 : decode cX10_turn 32 = .ok (.iaload, 1) := by decide +kernel
theorem dX10_turn_33 : decode cX10_turn 33 = .ok (.istore_n 3, 1) := by decide +kernel
theorem dX10_turn_34 : decode cX10_turn 34 = .ok (.aload_n 0, 1) := by decide +kernel
theorem dX10_turn_35 : decode cX10_turn 35 = .ok (.getfield 42, 3) := by decide +kernel
theorem dX10_turn_38 : decode cX10_turn 38 = .ok (.sipush 192, 3) := by decide +kernel
theorem dX10_turn_41 : decode cX10_turn 41 = .ok (.iload_n 1, 1) := by decide +kernel
theorem dX10_turn_42 : decode cX10_turn 42 = .ok (.iadd, 1) := by decide +kernel
theorem dX10_turn_43 : decode cX10_turn 43 = .ok (.iload_n 2, 1) := by decide +kernel
theorem dX10_turn_44 : decode cX10_turn 44 = .ok (.iastore, 1) := by decide +kernel
theorem dX10_turn_45 : decode cX10_turn 45 = .ok (.iload_n 3, 1) := by decide +kernel
theorem dX10_turn_46 : decode cX10_turn 46 = .ok (.ireturn, 1) := by decide +kernel
set_option maxRecDepth 100000 in
theorem SX10_turn_0 {g : zG} {o : Bool} {M : zM} {q : Int → zM → Prop} {x1 x2 : Int} (W : (-2147483648 ≤ x1 ∧ x1 ≤ 2147483647) ∧ ((¬ (0 ≤ x1 ∧ x1 ≤ 3)) → q (-1) M) ∧ ((0 ≤ x1 ∧ x1 ≤ 3) → (-2147483648 ≤ x2 ∧ x2 ≤ 2147483647) ∧ ((rul x1 x2) → ∃ q9 : zM → Prop, zKv g (z2 o) mX10_act [zA g 1] M q9 ∧ ∀ M11 : zM, q9 M11 → (0 ≤ (192 + x1) ∧ (192 + x1) < 198) ∧ q (M11 10 (192 + x1)) (zu M11 10 (192 + x1) x2)) ∧ ((¬ (rul x1 x2)) → q (-1) M))) : zT g (z2 o) mX10_turn (zQi (z2 o) q) 0 [(0, zA g 1), (1, zI x1), (2, zI x2)] [] M := by
  refine zr_iload_n 1 dX10_turn_0 rfl ?_
  refine zr_iconst dX10_turn_1 ?_
  refine zr_iconst dX10_turn_2 ?_
  obtain ⟨c1, W⟩ := W
  refine zt_callSi (As := [zI x1, zI 0, zI 3]) (rest := []) dX10_turn_3 kX10_turn_106 rfl rfl (Nat.le_of_ble_eq_true rfl) (c_isIn c1 ⟨by decide, by decide⟩ ⟨by decide, by decide⟩) (fun r2 N4 h3 => ?_)
  rw [h3.1, h3.2]
  refine zt_ifeq_b (tgt := 17) dX10_turn_6 (by decide) (fun h => ?_) (fun h => ?_)
  · have W := W.1 h
    refine zr_iconst dX10_turn_17 ?_
    exact zt_iret dX10_turn_18 rfl W
  · have W := W.2 h
    refine zr_iload_n 1 dX10_turn_9 rfl ?_
    refine zr_iload_n 2 dX10_turn_10 rfl ?_
    obtain ⟨c5, W⟩ := W
    refine zt_callSi (As := [zI x1, zI x2]) (rest := []) dX10_turn_11 kX10_turn_342 rfl rfl (Nat.le_of_ble_eq_true rfl) (c_isRule c1 c5) (fun r6 N8 h7 => ?_)
    rw [h7.1, h7.2]
    refine zt_ifne_b (tgt := 19) dX10_turn_14 (by decide) (fun h => ?_) (fun h => ?_)
    · have W := W.1 h
      refine zr_aload_n 0 dX10_turn_19 rfl ?_
      obtain ⟨q9, k13, W⟩ := W
      refine zt_callVv (As := []) (rest := []) dX10_turn_20 kX10_turn_324 rfl rfl rfl rfl (Nat.le_of_ble_eq_true rfl) k13 (fun M11 h12 => ?_)
      have W := W M11 h12
      refine zr_aload_n 0 dX10_turn_23 rfl ?_
      refine zr_getr (b := 10) dX10_turn_24 fX10_42 rfl rfl rfl (by decide) ?_
      refine zr_sipush dX10_turn_27 (by decide) ?_
      refine zr_iload_n 1 dX10_turn_30 rfl ?_
      refine zr_iadd dX10_turn_31 ?_
      obtain ⟨c14, W⟩ := W
      refine zr_iald dX10_turn_32 rfl (by decide) c14 ?_
      refine zr_istore_n (l' := [(0, zA g 1), (1, zI x1), (2, zI x2), (3, zI (M11 10 (192 + x1)))]) dX10_turn_33 (by decide) [1, 2, 3, 0] rfl ?_
      refine zr_aload_n 0 dX10_turn_34 rfl ?_
      refine zr_getr (b := 10) dX10_turn_35 fX10_42 rfl rfl rfl (by decide) ?_
      refine zr_sipush dX10_turn_38 (by decide) ?_
      refine zr_iload_n 1 dX10_turn_41 rfl ?_
      refine zr_iadd dX10_turn_42 ?_
      refine zr_iload_n 2 dX10_turn_43 rfl ?_
      refine zr_iast dX10_turn_44 rfl (by decide) c14 ?_
      refine zr_iload_n 3 dX10_turn_45 rfl ?_
      exact zt_iret dX10_turn_46 rfl W
    · have W := W.2 h
      refine zr_iconst dX10_turn_17 ?_
      exact zt_iret dX10_turn_18 rfl W
theorem dX10_image_0 : decode cX10_image 0 = .ok (.aload_n 0, 1) := by decide +kernel
theorem dX10_image_1 : decode cX10_image 1 = .ok (.iload_n 1, 1) := by decide +kernel
theorem dX10_image_2 : decode cX10_image 2 = .ok (.invokevirtual 419, 3) := by decide +kernel
theorem dX10_image_5 : decode cX10_image 5 = .ok (.ifCond .ne 5, 3) := by decide +kernel
theorem dX10_image_8 : decode cX10_image 8 = .ok (.iconst (-1), 1) := by decide +kernel
theorem dX10_image_9 : decode cX10_image 9 = .ok (.ireturn, 1) := by decide +kernel
theorem dX10_image_10 : decode cX10_image 10 = .ok (.aload_n 0, 1) := by decide +kernel
theorem dX10_image_11 : decode cX10_image 11 = .ok (.getfield 66, 3) := by decide +kernel
theorem dX10_image_14 : decode cX10_image 14 = .ok (.iload_n 1, 1) := by decide +kernel
theorem dX10_image_15 : decode cX10_image 15 = .ok (.iconst 1, 1) := by decide +kernel
theorem dX10_image_16 : decode cX10_image 16 = .ok (.bastore, 1) := by decide +kernel
theorem dX10_image_17 : decode cX10_image 17 = .ok (.iconst 0, 1) := by decide +kernel
theorem dX10_image_18 : decode cX10_image 18 = .ok (.istore_n 2, 1) := by decide +kernel
theorem dX10_image_19 : decode cX10_image 19 = .ok (.iload_n 2, 1) := by decide +kernel
theorem dX10_image_20 : decode cX10_image 20 = .ok (.sipush 198, 3) := by decide +kernel
theorem dX10_image_23 : decode cX10_image 23 = .ok (.if_icmp .ge 27, 3) := by decide +kernel
theorem dX10_image_26 : decode cX10_image 26 = .ok (.aload_n 0, 1) := by decide +kernel
theorem dX10_image_27 : decode cX10_image 27 = .ok (.getfield 63, 3) := by decide +kernel
theorem dX10_image_30 : decode cX10_image 30 = .ok (.sipush 198, 3) := by decide +kernel
theorem dX10_image_33 : decode cX10_image 33 = .ok (.iload_n 1, 1) := by decide +kernel
theorem dX10_image_34 : decode cX10_image 34 = .ok (.imul, 1) := by decide +kernel
theorem dX10_image_35 : decode cX10_image 35 = .ok (.iload_n 2, 1) := by decide +kernel
theorem dX10_image_36 : decode cX10_image 36 = .ok (.iadd, 1) := by decide +kernel
theorem dX10_image_37 : decode cX10_image 37 = .ok (.aload_n 0, 1) := by decide +kernel
theorem dX10_image_38 : decode cX10_image 38 = .ok (.getfield 42, 3) := by decide +kernel
theorem dX10_image_41 : decode cX10_image 41 = .ok (.iload_n 2, 1) := by decide +kernel
theorem dX10_image_42 : decode cX10_image 42 = .ok (.iaload, 1) := by decide +kernel
theorem dX10_image_43 : decode cX10_image 43 = .ok (.iastore, 1) := by decide +kernel
theorem dX10_image_44 : decode cX10_image 44 = .ok (.iinc 2 1, 3) := by decide +kernel
theorem dX10_image_47 : decode cX10_image 47 = .ok (.goto (-28), 3) := by decide +kernel
theorem dX10_image_50 : decode cX10_image 50 = .ok (.aload_n 0, 1) := by decide +kernel
theorem dX10_image_51 : decode cX10_image 51 = .ok (.iconst 0, 1) := by decide +kernel
theorem dX10_image_52 : decode cX10_image 52 = .ok (.invokevirtual 460, 3) := by decide +kernel
theorem dX10_image_55 : decode cX10_image 55 = .ok (.ireturn, 1) := by decide +kernel
set_option maxRecDepth 100000 in
theorem SX10_image_0 {g : zG} {o : Bool} {M : zM} {q : Int → zM → Prop} {x1 : Int} (W : (-2147483648 ≤ x1 ∧ x1 ≤ 2147483647) ∧ ((0 ≤ x1 ∧ x1 ≤ 2) → (0 ≤ x1 ∧ x1 < 3) ∧ zT g (z2 o) mX10_image (zQi (z2 o) q) 19 [(0, zA g 1), (1, zI x1), (2, zI 0)] [] (zu M 17 x1 1)) ∧ ((¬ (0 ≤ x1 ∧ x1 ≤ 2)) → q (-1) M)) : zT g (z2 o) mX10_image (zQi (z2 o) q) 0 [(0, zA g 1), (1, zI x1)] [] M := by
  refine zr_aload_n 0 dX10_image_0 rfl ?_
  refine zr_iload_n 1 dX10_image_1 rfl ?_
  obtain ⟨c1, W⟩ := W
  refine zt_callVi (As := [zI x1]) (rest := []) dX10_image_2 kX10_image_419 rfl rfl rfl rfl (Nat.le_of_ble_eq_true rfl) (c_isBox c1) (fun r2 N4 h3 => ?_)
  rw [h3.1, h3.2]
  refine zt_ifne_b (tgt := 10) dX10_image_5 (by decide) (fun h => ?_) (fun h => ?_)
  · have W := W.1 h
    refine zr_aload_n 0 dX10_image_10 rfl ?_
    refine zr_getr (b := 17) dX10_image_11 fX10_66 rfl rfl rfl (by decide) ?_
    refine zr_iload_n 1 dX10_image_14 rfl ?_
    refine zr_iconst dX10_image_15 ?_
    obtain ⟨c5, W⟩ := W
    refine zr_zast dX10_image_16 rfl (by decide) c5 (by decide) ?_
    refine zr_iconst dX10_image_17 ?_
    refine zr_istore_n (l' := [(0, zA g 1), (1, zI x1), (2, zI 0)]) dX10_image_18 (by decide) [1, 2, 0] rfl ?_
    exact W
  · have W := W.2 h
    refine zr_iconst dX10_image_8 ?_
    exact zt_iret dX10_image_9 rfl W
set_option maxRecDepth 100000 in
theorem SX10_image_19 {g : zG} {o : Bool} {M : zM} {q : Int → zM → Prop} {x1 x2 : Int} (W : (-2147483648 ≤ x2 ∧ x2 ≤ 2147483647) ∧ ((198 ≤ x2) → ∃ q2 : Int → zM → Prop, zKi g (z2 o) mX10_all [zA g 1, zI 0] M q2 ∧ ∀ (r3 : Int) (M4 : zM), q2 r3 M4 → q r3 M4) ∧ ((¬ (198 ≤ x2)) → (0 ≤ x2 ∧ x2 < 198) ∧ (0 ≤ ((198 * x1) + x2) ∧ ((198 * x1) + x2) < 594) ∧ zT g (z2 o) mX10_image (zQi (z2 o) q) 19 [(0, zA g 1), (1, zI x1), (2, zI (x2 + 1))] [] (zu M 16 ((198 * x1) + x2) (M 10 x2)))) : zT g (z2 o) mX10_image (zQi (z2 o) q) 19 [(0, zA g 1), (1, zI x1), (2, zI x2)] [] M := by
  refine zr_iload_n 2 dX10_image_19 rfl ?_
  refine zr_sipush dX10_image_20 (by decide) ?_
  obtain ⟨c1, W⟩ := W
  refine zr_icmp_ge (tgt := 50) dX10_image_23 (by decide) c1 ⟨by decide, by decide⟩ (fun h => ?_) (fun h => ?_)
  · have W := W.1 h
    refine zr_aload_n 0 dX10_image_50 rfl ?_
    refine zr_iconst dX10_image_51 ?_
    obtain ⟨q2, k6, W⟩ := W
    refine zt_callVi (As := [zI 0]) (rest := []) dX10_image_52 kX10_image_460 rfl rfl rfl rfl (Nat.le_of_ble_eq_true rfl) k6 (fun r3 M4 h5 => ?_)
    have W := W r3 M4 h5
    exact zt_iret dX10_image_55 rfl W
  · have W := W.2 h
    refine zr_aload_n 0 dX10_image_26 rfl ?_
    refine zr_getr (b := 16) dX10_image_27 fX10_63 rfl rfl rfl (by decide) ?_
    refine zr_sipush dX10_image_30 (by decide) ?_
    refine zr_iload_n 1 dX10_image_33 rfl ?_
    refine zr_imul dX10_image_34 ?_
    refine zr_iload_n 2 dX10_image_35 rfl ?_
    refine zr_iadd dX10_image_36 ?_
    refine zr_aload_n 0 dX10_image_37 rfl ?_
    refine zr_getr (b := 10) dX10_image_38 fX10_42 rfl rfl rfl (by decide) ?_
    refine zr_iload_n 2 dX10_image_41 rfl ?_
    obtain ⟨c7, W⟩ := W
    refine zr_iald dX10_image_42 rfl (by decide) c7 ?_
    obtain ⟨c8, W⟩ := W
    refine zr_iast dX10_image_43 rfl (by decide) c8 ?_
    refine zr_iinc (q := 2) (l' := [(0, zA g 1), (1, zI x1), (2, zI (x2 + 1))]) dX10_image_44 rfl (by decide) [1, 2, 0] rfl ?_
    refine zr_goto (tgt := 19) dX10_image_47 (by decide) ?_
    exact W
theorem dX10_back_0 : decode cX10_back 0 = .ok (.aload_n 0, 1) := by decide +kernel
theorem dX10_back_1 : decode cX10_back 1 = .ok (.iload_n 1, 1) := by decide +kernel
theorem dX10_back_2 : decode cX10_back 2 = .ok (.invokevirtual 422, 3) := by decide +kernel
theorem dX10_back_5 : decode cX10_back 5 = .ok (.ifCond .ne 5, 3) := by decide +kernel
theorem dX10_back_8 : decode cX10_back 8 = .ok (.iconst (-1), 1) := by decide +kernel
theorem dX10_back_9 : decode cX10_back 9 = .ok (.ireturn, 1) := by decide +kernel
theorem dX10_back_10 : decode cX10_back 10 = .ok (.iconst 0, 1) := by decide +kernel
theorem dX10_back_11 : decode cX10_back 11 = .ok (.istore_n 2, 1) := by decide +kernel
theorem dX10_back_12 : decode cX10_back 12 = .ok (.iload_n 2, 1) := by decide +kernel
theorem dX10_back_13 : decode cX10_back 13 = .ok (.sipush 198, 3) := by decide +kernel
theorem dX10_back_16 : decode cX10_back 16 = .ok (.if_icmp .ge 27, 3) := by decide +kernel
theorem dX10_back_19 : decode cX10_back 19 = .ok (.aload_n 0, 1) := by decide +kernel
theorem dX10_back_20 : decode cX10_back 20 = .ok (.getfield 42, 3) := by decide +kernel
theorem dX10_back_23 : decode cX10_back 23 = .ok (.iload_n 2, 1) := by decide +kernel
theorem dX10_back_24 : decode cX10_back 24 = .ok (.aload_n 0, 1) := by decide +kernel
theorem dX10_back_25 : decode cX10_back 25 = .ok (.getfield 63, 3) := by decide +kernel
theorem dX10_back_28 : decode cX10_back 28 = .ok (.sipush 198, 3) := by decide +kernel
theorem dX10_back_31 : decode cX10_back 31 = .ok (.iload_n 1, 1) := by decide +kernel
theorem dX10_back_32 : decode cX10_back 32 = .ok (.imul, 1) := by decide +kernel
theorem dX10_back_33 : decode cX10_back 33 = .ok (.iload_n 2, 1) := by decide +kernel
theorem dX10_back_34 : decode cX10_back 34 = .ok (.iadd, 1) := by decide +kernel
theorem dX10_back_35 : decode cX10_back 35 = .ok (.iaload, 1) := by decide +kernel
theorem dX10_back_36 : decode cX10_back 36 = .ok (.iastore, 1) := by decide +kernel
theorem dX10_back_37 : decode cX10_back 37 = .ok (.iinc 2 1, 3) := by decide +kernel
theorem dX10_back_40 : decode cX10_back 40 = .ok (.goto (-28), 3) := by decide +kernel
theorem dX10_back_43 : decode cX10_back 43 = .ok (.aload_n 0, 1) := by decide +kernel
theorem dX10_back_44 : decode cX10_back 44 = .ok (.iconst 0, 1) := by decide +kernel
theorem dX10_back_45 : decode cX10_back 45 = .ok (.putfield 235, 3) := by decide +kernel
theorem dX10_back_48 : decode cX10_back 48 = .ok (.aload_n 0, 1) := by decide +kernel
theorem dX10_back_49 : decode cX10_back 49 = .ok (.iconst 0, 1) := by decide +kernel
theorem dX10_back_50 : decode cX10_back 50 = .ok (.putfield 238, 3) := by decide +kernel
theorem dX10_back_53 : decode cX10_back 53 = .ok (.aload_n 0, 1) := by decide +kernel
theorem dX10_back_54 : decode cX10_back 54 = .ok (.iconst 0, 1) := by decide +kernel
theorem dX10_back_55 : decode cX10_back 55 = .ok (.invokevirtual 460, 3) := by decide +kernel
theorem dX10_back_58 : decode cX10_back 58 = .ok (.ireturn, 1) := by decide +kernel
set_option maxRecDepth 100000 in
theorem SX10_back_0 {g : zG} {o : Bool} {M : zM} {q : Int → zM → Prop} {x1 : Int} (W : (-2147483648 ≤ x1 ∧ x1 ≤ 2147483647) ∧ (kOk (M 17)) ∧ (((0 ≤ x1 ∧ x1 < 3) ∧ M 17 x1 = 1) → zT g (z2 o) mX10_back (zQi (z2 o) q) 12 [(0, zA g 1), (1, zI x1), (2, zI 0)] [] M) ∧ ((¬ ((0 ≤ x1 ∧ x1 < 3) ∧ M 17 x1 = 1)) → q (-1) M)) : zT g (z2 o) mX10_back (zQi (z2 o) q) 0 [(0, zA g 1), (1, zI x1)] [] M := by
  refine zr_aload_n 0 dX10_back_0 rfl ?_
  refine zr_iload_n 1 dX10_back_1 rfl ?_
  obtain ⟨c1, W⟩ := W
  obtain ⟨c2, W⟩ := W
  refine zt_callVi (As := [zI x1]) (rest := []) dX10_back_2 kX10_back_422 rfl rfl rfl rfl (Nat.le_of_ble_eq_true rfl) (c_isKept2 c1 c2) (fun r3 N5 h4 => ?_)
  rw [h4.1, h4.2]
  refine zt_ifne_b (tgt := 10) dX10_back_5 (by decide) (fun h => ?_) (fun h => ?_)
  · have W := W.1 h
    refine zr_iconst dX10_back_10 ?_
    refine zr_istore_n (l' := [(0, zA g 1), (1, zI x1), (2, zI 0)]) dX10_back_11 (by decide) [1, 2, 0] rfl ?_
    exact W
  · have W := W.2 h
    refine zr_iconst dX10_back_8 ?_
    exact zt_iret dX10_back_9 rfl W
set_option maxRecDepth 100000 in
theorem SX10_back_12 {g : zG} {o : Bool} {M : zM} {q : Int → zM → Prop} {x1 x2 : Int} (W : (-2147483648 ≤ x2 ∧ x2 ≤ 2147483647) ∧ ((198 ≤ x2) → ∀ N2 : zM, N2 = zu M 1 28 0 → ∃ q4 : Int → zM → Prop, zKi g (z2 o) mX10_all [zA g 1, zI 0] (zu N2 1 29 0) q4 ∧ ∀ (r5 : Int) (M6 : zM), q4 r5 M6 → q r5 M6) ∧ ((¬ (198 ≤ x2)) → (0 ≤ ((198 * x1) + x2) ∧ ((198 * x1) + x2) < 594) ∧ (0 ≤ x2 ∧ x2 < 198) ∧ zT g (z2 o) mX10_back (zQi (z2 o) q) 12 [(0, zA g 1), (1, zI x1), (2, zI (x2 + 1))] [] (zu M 10 x2 (M 16 ((198 * x1) + x2))))) : zT g (z2 o) mX10_back (zQi (z2 o) q) 12 [(0, zA g 1), (1, zI x1), (2, zI x2)] [] M := by
  refine zr_iload_n 2 dX10_back_12 rfl ?_
  refine zr_sipush dX10_back_13 (by decide) ?_
  obtain ⟨c1, W⟩ := W
  refine zr_icmp_ge (tgt := 43) dX10_back_16 (by decide) c1 ⟨by decide, by decide⟩ (fun h => ?_) (fun h => ?_)
  · have W := W.1 h
    refine zr_aload_n 0 dX10_back_43 rfl ?_
    refine zr_iconst dX10_back_44 ?_
    refine zt_puti 28 rfl dX10_back_45 fX10_235 lcX10 ltX10_28 rfl rfl ?_
    refine zr_aload_n 0 dX10_back_48 rfl ?_
    refine zr_iconst dX10_back_49 ?_
    obtain ⟨N2, e3⟩ : ∃ N : zM, N = zu M 1 28 0 := ⟨_, rfl⟩
    rw [← e3]
    have W := W N2 e3
    refine zt_puti 29 rfl dX10_back_50 fX10_238 lcX10 ltX10_29 rfl rfl ?_
    refine zr_aload_n 0 dX10_back_53 rfl ?_
    refine zr_iconst dX10_back_54 ?_
    obtain ⟨q4, k8, W⟩ := W
    refine zt_callVi (As := [zI 0]) (rest := []) dX10_back_55 kX10_back_460 rfl rfl rfl rfl (Nat.le_of_ble_eq_true rfl) k8 (fun r5 M6 h7 => ?_)
    have W := W r5 M6 h7
    exact zt_iret dX10_back_58 rfl W
  · have W := W.2 h
    refine zr_aload_n 0 dX10_back_19 rfl ?_
    refine zr_getr (b := 10) dX10_back_20 fX10_42 rfl rfl rfl (by decide) ?_
    refine zr_iload_n 2 dX10_back_23 rfl ?_
    refine zr_aload_n 0 dX10_back_24 rfl ?_
    refine zr_getr (b := 16) dX10_back_25 fX10_63 rfl rfl rfl (by decide) ?_
    refine zr_sipush dX10_back_28 (by decide) ?_
    refine zr_iload_n 1 dX10_back_31 rfl ?_
    refine zr_imul dX10_back_32 ?_
    refine zr_iload_n 2 dX10_back_33 rfl ?_
    refine zr_iadd dX10_back_34 ?_
    obtain ⟨c9, W⟩ := W
    refine zr_iald dX10_back_35 rfl (by decide) c9 ?_
    obtain ⟨c10, W⟩ := W
    refine zr_iast dX10_back_36 rfl (by decide) c10 ?_
    refine zr_iinc (q := 2) (l' := [(0, zA g 1), (1, zI x1), (2, zI (x2 + 1))]) dX10_back_37 rfl (by decide) [1, 2, 0] rfl ?_
    refine zr_goto (tgt := 12) dX10_back_40 (by decide) ?_
    exact W
