theorem dX7_lift_0 : decode cX7_lift 0 = .ok (.aload_n 0, 1) := by decide +kernel
theorem dX7_lift_1 : decode cX7_lift 1 = .ok (.getfield 26, 3) := by decide +kernel
theorem dX7_lift_4 : decode cX7_lift 4 = .ok (.getfield 79, 3) := by decide +kernel
theorem dX7_lift_7 : decode cX7_lift 7 = .ok (.iload_n 1, 1) := by decide +kernel
theorem dX7_lift_8 : decode cX7_lift 8 = .ok (.dup2, 1) := by decide +kernel
theorem dX7_lift_9 : decode cX7_lift 9 = .ok (.iaload, 1) := by decide +kernel
theorem dX7_lift_10 : decode cX7_lift 10 = .ok (.iconst 1, 1) := by decide +kernel
theorem dX7_lift_11 : decode cX7_lift 11 = .ok (.isub, 1) := by decide +kernel
theorem dX7_lift_12 : decode cX7_lift 12 = .ok (.iastore, 1) := by decide +kernel
theorem dX7_lift_13 : decode cX7_lift 13 = .ok (.iload_n 1, 1) := by decide +kernel
theorem dX7_lift_14 : decode cX7_lift 14 = .ok (.istore_n 2, 1) := by decide +kernel
theorem dX7_lift_15 : decode cX7_lift 15 = .ok (.iconst 0, 1) := by decide +kernel
theorem dX7_lift_16 : decode cX7_lift 16 = .ok (.istore_n 3, 1) := by decide +kernel
theorem dX7_lift_17 : decode cX7_lift 17 = .ok (.iload_n 3, 1) := by decide +kernel
theorem dX7_lift_18 : decode cX7_lift 18 = .ok (.bipush 96, 2) := by decide +kernel
theorem dX7_lift_20 : decode cX7_lift 20 = .ok (.if_icmp .ge 48, 3) := by decide +kernel
theorem dX7_lift_23 : decode cX7_lift 23 = .ok (.aload_n 0, 1) := by decide +kernel
theorem dX7_lift_24 : decode cX7_lift 24 = .ok (.iload_n 2, 1) := by decide +kernel
theorem dX7_lift_25 : decode cX7_lift 25 = .ok (.invokevirtual 107, 3) := by decide +kernel
theorem dX7_lift_28 : decode cX7_lift 28 = .ok (.istore 4, 2) := by decide +kernel
theorem dX7_lift_30 : decode cX7_lift 30 = .ok (.iload 4, 2) := by decide +kernel
theorem dX7_lift_32 : decode cX7_lift 32 = .ok (.iconst (-1), 1) := by decide +kernel
theorem dX7_lift_33 : decode cX7_lift 33 = .ok (.if_icmp .ne 4, 3) := by decide +kernel
theorem dX7_lift_36 : decode cX7_lift 36 = .ok (.return_, 1) := by decide +kernel
theorem dX7_lift_37 : decode cX7_lift 37 = .ok (.aload_n 0, 1) := by decide +kernel
theorem dX7_lift_38 : decode cX7_lift 38 = .ok (.getfield 22, 3) := by decide +kernel
theorem dX7_lift_41 : decode cX7_lift 41 = .ok (.iload_n 2, 1) := by decide +kernel
theorem dX7_lift_42 : decode cX7_lift 42 = .ok (.iload 4, 2) := by decide +kernel
theorem dX7_lift_44 : decode cX7_lift 44 = .ok (.invokevirtual 97, 3) := by decide +kernel
theorem dX7_lift_47 : decode cX7_lift 47 = .ok (.istore 5, 2) := by decide +kernel
theorem dX7_lift_49 : decode cX7_lift 49 = .ok (.aload_n 0, 1) := by decide +kernel
theorem dX7_lift_50 : decode cX7_lift 50 = .ok (.iload 5, 2) := by decide +kernel
theorem dX7_lift_52 : decode cX7_lift 52 = .ok (.iload 4, 2) := by decide +kernel
theorem dX7_lift_54 : decode cX7_lift 54 = .ok (.iconst 2, 1) := by decide +kernel
theorem dX7_lift_55 : decode cX7_lift 55 = .ok (.ixor, 1) := by decide +kernel
theorem dX7_lift_56 : decode cX7_lift 56 = .ok (.invokevirtual 110, 3) := by decide +kernel
theorem dX7_lift_59 : decode cX7_lift 59 = .ok (.iload 5, 2) := by decide +kernel
theorem dX7_lift_61 : decode cX7_lift 61 = .ok (.istore_n 2, 1) := by decide +kernel
theorem dX7_lift_62 : decode cX7_lift 62 = .ok (.iinc 3 1, 3) := by decide +kernel
theorem dX7_lift_65 : decode cX7_lift 65 = .ok (.goto (-48), 3) := by decide +kernel
theorem dX7_lift_68 : decode cX7_lift 68 = .ok (.return_, 1) := by decide +kernel
set_option maxRecDepth 100000 in
theorem SX7_lift_0 {g : zG} {o : Bool} {a s : Nat} (ha : zSt a s) {M : zM} {q : zM → Prop} {x1 : Int} (W : (0 ≤ x1 ∧ x1 < 96) ∧ zT g (z1 o) mX7_lift (zQv (z1 o) q) 17 [(0, zA g a), (2, zI x1), (3, zI 0)] [] (zu M (s + 1) x1 ((M (s + 1) x1) - 1))) : zT g (z1 o) mX7_lift (zQv (z1 o) q) 0 [(0, zA g a), (1, zI x1)] [] M := by
  refine zr_aload_n 0 dX7_lift_0 rfl ?_
  refine zr_getr (b := s) dX7_lift_1 fX7_26 (zst_0 ha) rfl (zst_f1 ha) (zsd_nz (zst_s ha)) ?_
  refine zr_getr (b := (s + 1)) dX7_lift_4 fX7_79 (zsd_0 (zst_s ha)) rfl (zsd_f0 (zst_s ha)) (Nat.succ_ne_zero _) ?_
  refine zr_iload_n 1 dX7_lift_7 rfl ?_
  refine zr_dup2 dX7_lift_8 rfl rfl ?_
  obtain ⟨c1, W⟩ := W
  refine zr_iald dX7_lift_9 (zsd_1 (zst_s ha)) (by decide) c1 ?_
  refine zr_iconst dX7_lift_10 ?_
  refine zr_isub dX7_lift_11 ?_
  refine zr_iast dX7_lift_12 (zsd_1 (zst_s ha)) (by decide) c1 ?_
  refine zr_iload_n 1 dX7_lift_13 rfl ?_
  refine zr_istore_n (l' := [(0, zA g a), (2, zI x1)]) dX7_lift_14 (by decide) [1, 0] rfl ?_
  refine zr_iconst dX7_lift_15 ?_
  refine zr_istore_n (l' := [(0, zA g a), (2, zI x1), (3, zI 0)]) dX7_lift_16 (by decide) [1, 2, 0] rfl ?_
  exact W
set_option maxRecDepth 100000 in
theorem SX7_lift_17 {g : zG} {o : Bool} {a s : Nat} (ha : zSt a s) {C R : Int} {M : zM} {q : zM → Prop} {x2 x3 : Int} (W : (-2147483648 ≤ x3 ∧ x3 ≤ 2147483647) ∧ ((96 ≤ x3) → q M) ∧ ((¬ (96 ≤ x3)) → (zLand M C R) ∧ (0 ≤ x2 ∧ x2 < C * R) ∧ (Bd (M (s + 1))) ∧ (-2147483648 ≤ (wup C R (M (s + 1)) (M 14 3) x2) ∧ (wup C R (M (s + 1)) (M 14 3) x2) ≤ 2147483647) ∧ (((wup C R (M (s + 1)) (M 14 3) x2) ≠ (-1)) → (0 ≤ (wup C R (M (s + 1)) (M 14 3) x2) ∧ (wup C R (M (s + 1)) (M 14 3) x2) ≤ 3) ∧ (0 ≤ (alg C R x2 (wup C R (M (s + 1)) (M 14 3) x2) 1) ∧ (alg C R x2 (wup C R (M (s + 1)) (M 14 3) x2) 1) < C * R) ∧ (0 ≤ (if (wup C R (M (s + 1)) (M 14 3) x2) < 2 then (wup C R (M (s + 1)) (M 14 3) x2) + 2 else (wup C R (M (s + 1)) (M 14 3) x2) - 2) ∧ (if (wup C R (M (s + 1)) (M 14 3) x2) < 2 then (wup C R (M (s + 1)) (M 14 3) x2) + 2 else (wup C R (M (s + 1)) (M 14 3) x2) - 2) ≤ 3) ∧ zT g (z1 o) mX7_lift (zQv (z1 o) q) 17 [(0, zA g a), (2, zI (alg C R x2 (wup C R (M (s + 1)) (M 14 3) x2) 1)), (3, zI (x3 + 1))] [] (zput M a s (sldz C R (zget M a s) (alg C R x2 (wup C R (M (s + 1)) (M 14 3) x2) 1) (if (wup C R (M (s + 1)) (M 14 3) x2) < 2 then (wup C R (M (s + 1)) (M 14 3) x2) + 2 else (wup C R (M (s + 1)) (M 14 3) x2) - 2)))) ∧ (((wup C R (M (s + 1)) (M 14 3) x2) = (-1)) → q M))) : zT g (z1 o) mX7_lift (zQv (z1 o) q) 17 [(0, zA g a), (2, zI x2), (3, zI x3)] [] M := by
  refine zr_iload_n 2 dX7_lift_17 rfl ?_
  refine zr_bipush dX7_lift_18 (by decide) ?_
  obtain ⟨c1, W⟩ := W
  refine zr_icmp_ge (tgt := 68) dX7_lift_20 (by decide) c1 ⟨by decide, by decide⟩ (fun h => ?_) (fun h => ?_)
  · have W := W.1 h
    exact zt_ret dX7_lift_68 rfl W
  · have W := W.2 h
    refine zr_aload_n 0 dX7_lift_23 rfl ?_
    refine zr_iload_n 1 dX7_lift_24 rfl ?_
    obtain ⟨c2, W⟩ := W
    obtain ⟨c3, W⟩ := W
    obtain ⟨c4, W⟩ := W
    refine zt_callVi (As := [zI x2]) (rest := []) dX7_lift_25 kX7_lift_107 (zst_0 ha) rfl rfl rfl (Nat.le_of_ble_eq_true rfl) (c_wayUp ha c2 c3 c4) (fun r15 N17 h16 => ?_)
    rw [h16.1, h16.2]
    refine zr_istore (l' := [(0, zA g a), (2, zI x2), (3, zI x3), (4, zI (wup C R (M (s + 1)) (M 14 3) x2))]) dX7_lift_28 (by decide) [1, 2, 3, 0] rfl ?_
    refine zr_iload 3 dX7_lift_30 rfl ?_
    refine zr_iconst dX7_lift_32 ?_
    obtain ⟨c5, W⟩ := W
    refine zr_icmp_ne (tgt := 37) dX7_lift_33 (by decide) c5 ⟨by decide, by decide⟩ (fun h => ?_) (fun h => ?_)
    · have W := W.1 h
      refine zr_aload_n 0 dX7_lift_37 rfl ?_
      refine zr_getr (b := 14) dX7_lift_38 fX7_22 (zst_0 ha) rfl (zst_f0 ha) (by decide) ?_
      refine zr_iload_n 1 dX7_lift_41 rfl ?_
      refine zr_iload 3 dX7_lift_42 rfl ?_
      obtain ⟨c6, W⟩ := W
      refine zt_callVi (As := [zI x2, zI (wup C R (M (s + 1)) (M 14 3) x2)]) (rest := []) dX7_lift_44 kX7_lift_97 rfl rfl rfl rfl (Nat.le_of_ble_eq_true rfl) (c_nbr c2 c3 c6) (fun r12 N14 h13 => ?_)
      rw [h13.1, h13.2]
      refine zr_istore (l' := [(0, zA g a), (3, zI x3), (4, zI (wup C R (M (s + 1)) (M 14 3) x2)), (5, zI (alg C R x2 (wup C R (M (s + 1)) (M 14 3) x2) 1))]) dX7_lift_47 (by decide) [1, 3, 4, 0] rfl ?_
      refine zr_aload_n 0 dX7_lift_49 rfl ?_
      refine zr_iload 3 dX7_lift_50 rfl ?_
      refine zr_iload 2 dX7_lift_52 rfl ?_
      refine zr_iconst dX7_lift_54 ?_
      refine zr_ixor dX7_lift_55 c6 ?_
      obtain ⟨c7, W⟩ := W
      obtain ⟨c8, W⟩ := W
      refine zt_callVv (As := [zI (alg C R x2 (wup C R (M (s + 1)) (M 14 3) x2) 1), zI (if (wup C R (M (s + 1)) (M 14 3) x2) < 2 then (wup C R (M (s + 1)) (M 14 3) x2) + 2 else (wup C R (M (s + 1)) (M 14 3) x2) - 2)]) (rest := []) dX7_lift_56 kX7_lift_110 (zst_0 ha) rfl rfl rfl (Nat.le_of_ble_eq_true rfl) (c_slide ha c2 c7 c8) (fun N11 h10 => ?_)
      rw [h10]
      refine zr_iload 3 dX7_lift_59 rfl ?_
      refine zr_istore_n (l' := [(0, zA g a), (2, zI (alg C R x2 (wup C R (M (s + 1)) (M 14 3) x2) 1)), (3, zI x3)]) dX7_lift_61 (by decide) [1, 0, 2] rfl ?_
      refine zr_iinc (q := 2) (l' := [(0, zA g a), (2, zI (alg C R x2 (wup C R (M (s + 1)) (M 14 3) x2) 1)), (3, zI (x3 + 1))]) dX7_lift_62 rfl (by decide) [1, 2, 0] rfl ?_
      refine zr_goto (tgt := 17) dX7_lift_65 (by decide) ?_
      exact W
    · have W := W.2 h
      exact zt_ret dX7_lift_36 rfl W
theorem dX7_drop_0 : decode cX7_drop 0 = .ok (.aload_n 0, 1) := by decide +kernel
theorem dX7_drop_1 : decode cX7_drop 1 = .ok (.getfield 26, 3) := by decide +kernel
theorem dX7_drop_4 : decode cX7_drop 4 = .ok (.getfield 79, 3) := by decide +kernel
theorem dX7_drop_7 : decode cX7_drop 7 = .ok (.iload_n 1, 1) := by decide +kernel
theorem dX7_drop_8 : decode cX7_drop 8 = .ok (.dup2, 1) := by decide +kernel
theorem dX7_drop_9 : decode cX7_drop 9 = .ok (.iaload, 1) := by decide +kernel
theorem dX7_drop_10 : decode cX7_drop 10 = .ok (.iconst 1, 1) := by decide +kernel
theorem dX7_drop_11 : decode cX7_drop 11 = .ok (.iadd, 1) := by decide +kernel
theorem dX7_drop_12 : decode cX7_drop 12 = .ok (.iastore, 1) := by decide +kernel
theorem dX7_drop_13 : decode cX7_drop 13 = .ok (.iload_n 1, 1) := by decide +kernel
theorem dX7_drop_14 : decode cX7_drop 14 = .ok (.istore_n 2, 1) := by decide +kernel
theorem dX7_drop_15 : decode cX7_drop 15 = .ok (.iconst 0, 1) := by decide +kernel
theorem dX7_drop_16 : decode cX7_drop 16 = .ok (.istore_n 3, 1) := by decide +kernel
theorem dX7_drop_17 : decode cX7_drop 17 = .ok (.iload_n 3, 1) := by decide +kernel
theorem dX7_drop_18 : decode cX7_drop 18 = .ok (.bipush 96, 2) := by decide +kernel
theorem dX7_drop_20 : decode cX7_drop 20 = .ok (.if_icmp .ge 41, 3) := by decide +kernel
theorem dX7_drop_23 : decode cX7_drop 23 = .ok (.aload_n 0, 1) := by decide +kernel
theorem dX7_drop_24 : decode cX7_drop 24 = .ok (.iload_n 2, 1) := by decide +kernel
theorem dX7_drop_25 : decode cX7_drop 25 = .ok (.invokevirtual 114, 3) := by decide +kernel
theorem dX7_drop_28 : decode cX7_drop 28 = .ok (.istore 4, 2) := by decide +kernel
theorem dX7_drop_30 : decode cX7_drop 30 = .ok (.iload 4, 2) := by decide +kernel
theorem dX7_drop_32 : decode cX7_drop 32 = .ok (.iconst (-1), 1) := by decide +kernel
theorem dX7_drop_33 : decode cX7_drop 33 = .ok (.if_icmp .ne 4, 3) := by decide +kernel
theorem dX7_drop_36 : decode cX7_drop 36 = .ok (.return_, 1) := by decide +kernel
theorem dX7_drop_37 : decode cX7_drop 37 = .ok (.aload_n 0, 1) := by decide +kernel
theorem dX7_drop_38 : decode cX7_drop 38 = .ok (.iload_n 2, 1) := by decide +kernel
theorem dX7_drop_39 : decode cX7_drop 39 = .ok (.iload 4, 2) := by decide +kernel
theorem dX7_drop_41 : decode cX7_drop 41 = .ok (.invokevirtual 110, 3) := by decide +kernel
theorem dX7_drop_44 : decode cX7_drop 44 = .ok (.aload_n 0, 1) := by decide +kernel
theorem dX7_drop_45 : decode cX7_drop 45 = .ok (.getfield 22, 3) := by decide +kernel
theorem dX7_drop_48 : decode cX7_drop 48 = .ok (.iload_n 2, 1) := by decide +kernel
theorem dX7_drop_49 : decode cX7_drop 49 = .ok (.iload 4, 2) := by decide +kernel
theorem dX7_drop_51 : decode cX7_drop 51 = .ok (.invokevirtual 97, 3) := by decide +kernel
theorem dX7_drop_54 : decode cX7_drop 54 = .ok (.istore_n 2, 1) := by decide +kernel
theorem dX7_drop_55 : decode cX7_drop 55 = .ok (.iinc 3 1, 3) := by decide +kernel
theorem dX7_drop_58 : decode cX7_drop 58 = .ok (.goto (-41), 3) := by decide +kernel
theorem dX7_drop_61 : decode cX7_drop 61 = .ok (.return_, 1) := by decide +kernel
set_option maxRecDepth 100000 in
theorem SX7_drop_0 {g : zG} {o : Bool} {a s : Nat} (ha : zSt a s) {M : zM} {q : zM → Prop} {x1 : Int} (W : (0 ≤ x1 ∧ x1 < 96) ∧ zT g (z1 o) mX7_drop (zQv (z1 o) q) 17 [(0, zA g a), (2, zI x1), (3, zI 0)] [] (zu M (s + 1) x1 ((M (s + 1) x1) + 1))) : zT g (z1 o) mX7_drop (zQv (z1 o) q) 0 [(0, zA g a), (1, zI x1)] [] M := by
  refine zr_aload_n 0 dX7_drop_0 rfl ?_
  refine zr_getr (b := s) dX7_drop_1 fX7_26 (zst_0 ha) rfl (zst_f1 ha) (zsd_nz (zst_s ha)) ?_
  refine zr_getr (b := (s + 1)) dX7_drop_4 fX7_79 (zsd_0 (zst_s ha)) rfl (zsd_f0 (zst_s ha)) (Nat.succ_ne_zero _) ?_
  refine zr_iload_n 1 dX7_drop_7 rfl ?_
  refine zr_dup2 dX7_drop_8 rfl rfl ?_
  obtain ⟨c1, W⟩ := W
  refine zr_iald dX7_drop_9 (zsd_1 (zst_s ha)) (by decide) c1 ?_
  refine zr_iconst dX7_drop_10 ?_
  refine zr_iadd dX7_drop_11 ?_
  refine zr_iast dX7_drop_12 (zsd_1 (zst_s ha)) (by decide) c1 ?_
  refine zr_iload_n 1 dX7_drop_13 rfl ?_
  refine zr_istore_n (l' := [(0, zA g a), (2, zI x1)]) dX7_drop_14 (by decide) [1, 0] rfl ?_
  refine zr_iconst dX7_drop_15 ?_
  refine zr_istore_n (l' := [(0, zA g a), (2, zI x1), (3, zI 0)]) dX7_drop_16 (by decide) [1, 2, 0] rfl ?_
  exact W
set_option maxRecDepth 100000 in
theorem SX7_drop_17 {g : zG} {o : Bool} {a s : Nat} (ha : zSt a s) {C R : Int} {M : zM} {q : zM → Prop} {x2 x3 : Int} (W : (-2147483648 ≤ x3 ∧ x3 ≤ 2147483647) ∧ ((96 ≤ x3) → q M) ∧ ((¬ (96 ≤ x3)) → (zLand M C R) ∧ (0 ≤ x2 ∧ x2 < C * R) ∧ (Bd (M (s + 1))) ∧ (-2147483648 ≤ (wdn C R (M (s + 1)) (M 14 3) x2) ∧ (wdn C R (M (s + 1)) (M 14 3) x2) ≤ 2147483647) ∧ (((wdn C R (M (s + 1)) (M 14 3) x2) ≠ (-1)) → (0 ≤ (wdn C R (M (s + 1)) (M 14 3) x2) ∧ (wdn C R (M (s + 1)) (M 14 3) x2) ≤ 3) ∧ (zLand (zput M a s (sldz C R (zget M a s) x2 (wdn C R (M (s + 1)) (M 14 3) x2))) C R) ∧ zT g (z1 o) mX7_drop (zQv (z1 o) q) 17 [(0, zA g a), (2, zI (alg C R x2 (wdn C R (M (s + 1)) (M 14 3) x2) 1)), (3, zI (x3 + 1))] [] (zput M a s (sldz C R (zget M a s) x2 (wdn C R (M (s + 1)) (M 14 3) x2)))) ∧ (((wdn C R (M (s + 1)) (M 14 3) x2) = (-1)) → q M))) : zT g (z1 o) mX7_drop (zQv (z1 o) q) 17 [(0, zA g a), (2, zI x2), (3, zI x3)] [] M := by
  refine zr_iload_n 2 dX7_drop_17 rfl ?_
  refine zr_bipush dX7_drop_18 (by decide) ?_
  obtain ⟨c1, W⟩ := W
  refine zr_icmp_ge (tgt := 61) dX7_drop_20 (by decide) c1 ⟨by decide, by decide⟩ (fun h => ?_) (fun h => ?_)
  · have W := W.1 h
    exact zt_ret dX7_drop_61 rfl W
  · have W := W.2 h
    refine zr_aload_n 0 dX7_drop_23 rfl ?_
    refine zr_iload_n 1 dX7_drop_24 rfl ?_
    obtain ⟨c2, W⟩ := W
    obtain ⟨c3, W⟩ := W
    obtain ⟨c4, W⟩ := W
    refine zt_callVi (As := [zI x2]) (rest := []) dX7_drop_25 kX7_drop_114 (zst_0 ha) rfl rfl rfl (Nat.le_of_ble_eq_true rfl) (c_wayDown ha c2 c3 c4) (fun r14 N16 h15 => ?_)
    rw [h15.1, h15.2]
    refine zr_istore (l' := [(0, zA g a), (2, zI x2), (3, zI x3), (4, zI (wdn C R (M (s + 1)) (M 14 3) x2))]) dX7_drop_28 (by decide) [1, 2, 3, 0] rfl ?_
    refine zr_iload 3 dX7_drop_30 rfl ?_
    refine zr_iconst dX7_drop_32 ?_
    obtain ⟨c5, W⟩ := W
    refine zr_icmp_ne (tgt := 37) dX7_drop_33 (by decide) c5 ⟨by decide, by decide⟩ (fun h => ?_) (fun h => ?_)
    · have W := W.1 h
      refine zr_aload_n 0 dX7_drop_37 rfl ?_
      refine zr_iload_n 1 dX7_drop_38 rfl ?_
      refine zr_iload 3 dX7_drop_39 rfl ?_
      obtain ⟨c6, W⟩ := W
      refine zt_callVv (As := [zI x2, zI (wdn C R (M (s + 1)) (M 14 3) x2)]) (rest := []) dX7_drop_41 kX7_drop_110 (zst_0 ha) rfl rfl rfl (Nat.le_of_ble_eq_true rfl) (c_slide ha c2 c3 c6) (fun N13 h12 => ?_)
      rw [h12]
      refine zr_aload_n 0 dX7_drop_44 rfl ?_
      refine zr_getr (b := 14) dX7_drop_45 fX7_22 (zst_0 ha) rfl (zst_f0 ha) (by decide) ?_
      refine zr_iload_n 1 dX7_drop_48 rfl ?_
      refine zr_iload 3 dX7_drop_49 rfl ?_
      obtain ⟨c7, W⟩ := W
      refine zt_callVi (As := [zI x2, zI (wdn C R (M (s + 1)) (M 14 3) x2)]) (rest := []) dX7_drop_51 kX7_drop_97 rfl rfl rfl rfl (Nat.le_of_ble_eq_true rfl) (c_nbr c7 c3 c6) (fun r8 N10 h9 => ?_)
      rw [h9.1, h9.2]
      refine zr_istore_n (l' := [(0, zA g a), (2, zI (alg C R x2 (wdn C R (M (s + 1)) (M 14 3) x2) 1)), (3, zI x3)]) dX7_drop_54 (by decide) [1, 0, 2] rfl ?_
      refine zr_iinc (q := 2) (l' := [(0, zA g a), (2, zI (alg C R x2 (wdn C R (M (s + 1)) (M 14 3) x2) 1)), (3, zI (x3 + 1))]) dX7_drop_55 rfl (by decide) [1, 2, 0] rfl ?_
      refine zr_goto (tgt := 17) dX7_drop_58 (by decide) ?_
      exact W
    · have W := W.2 h
      exact zt_ret dX7_drop_36 rfl W
theorem dX7_firstSteep_0 : decode cX7_firstSteep 0 = .ok (.iconst 0, 1) := by decide +kernel
theorem dX7_firstSteep_1 : decode cX7_firstSteep 1 = .ok (.istore_n 1, 1) := by decide +kernel
theorem dX7_firstSteep_2 : decode cX7_firstSteep 2 = .ok (.iload_n 1, 1) := by decide +kernel
theorem dX7_firstSteep_3 : decode cX7_firstSteep 3 = .ok (.aload_n 0, 1) := by decide +kernel
theorem dX7_firstSteep_4 : decode cX7_firstSteep 4 = .ok (.getfield 22, 3) := by decide +kernel
theorem dX7_firstSteep_7 : decode cX7_firstSteep 7 = .ok (.getfield 58, 3) := by decide +kernel
theorem dX7_firstSteep_10 : decode cX7_firstSteep 10 = .ok (.if_icmp .ge 20, 3) := by decide +kernel
theorem dX7_firstSteep_13 : decode cX7_firstSteep 13 = .ok (.aload_n 0, 1) := by decide +kernel
theorem dX7_firstSteep_14 : decode cX7_firstSteep 14 = .ok (.iload_n 1, 1) := by decide +kernel
theorem dX7_firstSteep_15 : decode cX7_firstSteep 15 = .ok (.invokevirtual 114, 3) := by decide +kernel
theorem dX7_firstSteep_18 : decode cX7_firstSteep 18 = .ok (.iconst (-1), 1) := by decide +kernel
theorem dX7_firstSteep_19 : decode cX7_firstSteep 19 = .ok (.if_icmp .eq 5, 3) := by decide +kernel
theorem dX7_firstSteep_22 : decode cX7_firstSteep 22 = .ok (.iload_n 1, 1) := by decide +kernel
theorem dX7_firstSteep_23 : decode cX7_firstSteep 23 = .ok (.ireturn, 1) := by decide +kernel
theorem dX7_firstSteep_24 : decode cX7_firstSteep 24 = .ok (.iinc 1 1, 3) := by decide +kernel
theorem dX7_firstSteep_27 : decode cX7_firstSteep 27 = .ok (.goto (-25), 3) := by decide +kernel
theorem dX7_firstSteep_30 : decode cX7_firstSteep 30 = .ok (.iconst (-1), 1) := by decide +kernel
theorem dX7_firstSteep_31 : decode cX7_firstSteep 31 = .ok (.ireturn, 1) := by decide +kernel
set_option maxRecDepth 100000 in
theorem SX7_firstSteep_0 {g : zG} {o : Bool} {a s : Nat} (ha : zSt a s) {M : zM} {q : Int → zM → Prop} (W : zT g (z1 o) mX7_firstSteep (zQi (z1 o) q) 2 [(0, zA g a), (1, zI 0)] [] M) : zT g (z1 o) mX7_firstSteep (zQi (z1 o) q) 0 [(0, zA g a)] [] M := by
  refine zr_iconst dX7_firstSteep_0 ?_
  refine zr_istore_n (l' := [(0, zA g a), (1, zI 0)]) dX7_firstSteep_1 (by decide) [1, 0] rfl ?_
  exact W
set_option maxRecDepth 100000 in
theorem SX7_firstSteep_2 {g : zG} {o : Bool} {a s : Nat} (ha : zSt a s) {C R : Int} {M : zM} {q : Int → zM → Prop} {x1 : Int} (W : (-2147483648 ≤ x1 ∧ x1 ≤ 2147483647) ∧ (-2147483648 ≤ (M 14 2) ∧ (M 14 2) ≤ 2147483647) ∧ (((M 14 2) ≤ x1) → q (-1) M) ∧ ((¬ ((M 14 2) ≤ x1)) → (zLand M C R) ∧ (0 ≤ x1 ∧ x1 < C * R) ∧ (Bd (M (s + 1))) ∧ (-2147483648 ≤ (wdn C R (M (s + 1)) (M 14 3) x1) ∧ (wdn C R (M (s + 1)) (M 14 3) x1) ≤ 2147483647) ∧ (((wdn C R (M (s + 1)) (M 14 3) x1) = (-1)) → zT g (z1 o) mX7_firstSteep (zQi (z1 o) q) 2 [(0, zA g a), (1, zI (x1 + 1))] [] M) ∧ ((¬ ((wdn C R (M (s + 1)) (M 14 3) x1) = (-1))) → q x1 M))) : zT g (z1 o) mX7_firstSteep (zQi (z1 o) q) 2 [(0, zA g a), (1, zI x1)] [] M := by
  refine zr_iload_n 1 dX7_firstSteep_2 rfl ?_
  refine zr_aload_n 0 dX7_firstSteep_3 rfl ?_
  refine zr_getr (b := 14) dX7_firstSteep_4 fX7_22 (zst_0 ha) rfl (zst_f0 ha) (by decide) ?_
  refine zt_geti 2 rfl dX7_firstSteep_7 fX7_58 rfl (by decide) ?_
  obtain ⟨c1, W⟩ := W
  obtain ⟨c2, W⟩ := W
  refine zr_icmp_ge (tgt := 30) dX7_firstSteep_10 (by decide) c1 c2 (fun h => ?_) (fun h => ?_)
  · have W := W.1 h
    refine zr_iconst dX7_firstSteep_30 ?_
    exact zt_iret dX7_firstSteep_31 rfl W
  · have W := W.2 h
    refine zr_aload_n 0 dX7_firstSteep_13 rfl ?_
    refine zr_iload_n 1 dX7_firstSteep_14 rfl ?_
    obtain ⟨c3, W⟩ := W
    obtain ⟨c4, W⟩ := W
    obtain ⟨c5, W⟩ := W
    refine zt_callVi (As := [zI x1]) (rest := []) dX7_firstSteep_15 kX7_firstSteep_114 (zst_0 ha) rfl rfl rfl (Nat.le_of_ble_eq_true rfl) (c_wayDown ha c3 c4 c5) (fun r7 N9 h8 => ?_)
    rw [h8.1, h8.2]
    refine zr_iconst dX7_firstSteep_18 ?_
    obtain ⟨c6, W⟩ := W
    refine zr_icmp_eq (tgt := 24) dX7_firstSteep_19 (by decide) c6 ⟨by decide, by decide⟩ (fun h => ?_) (fun h => ?_)
    · have W := W.1 h
      refine zr_iinc (q := 1) (l' := [(0, zA g a), (1, zI (x1 + 1))]) dX7_firstSteep_24 rfl (by decide) [1, 0] rfl ?_
      refine zr_goto (tgt := 2) dX7_firstSteep_27 (by decide) ?_
      exact W
    · have W := W.2 h
      refine zr_iload_n 1 dX7_firstSteep_22 rfl ?_
      exact zt_iret dX7_firstSteep_23 rfl W
theorem dX7_settle_0 : decode cX7_settle 0 = .ok (.iconst 0, 1) := by decide +kernel
theorem dX7_settle_1 : decode cX7_settle 1 = .ok (.istore_n 1, 1) := by decide +kernel
theorem dX7_settle_2 : decode cX7_settle 2 = .ok (.iload_n 1, 1) := by decide +kernel
theorem dX7_settle_3 : decode cX7_settle 3 = .ok (.ldc 117, 2) := by decide +kernel
theorem dX7_settle_5 : decode cX7_settle 5 = .ok (.if_icmp .ge 30, 3) := by decide +kernel
theorem dX7_settle_8 : decode cX7_settle 8 = .ok (.aload_n 0, 1) := by decide +kernel
theorem dX7_settle_9 : decode cX7_settle 9 = .ok (.invokevirtual 118, 3) := by decide +kernel
theorem dX7_settle_12 : decode cX7_settle 12 = .ok (.istore_n 2, 1) := by decide +kernel
theorem dX7_settle_13 : decode cX7_settle 13 = .ok (.iload_n 2, 1) := by decide +kernel
theorem dX7_settle_14 : decode cX7_settle 14 = .ok (.iconst (-1), 1) := by decide +kernel
theorem dX7_settle_15 : decode cX7_settle 15 = .ok (.if_icmp .ne 4, 3) := by decide +kernel
theorem dX7_settle_18 : decode cX7_settle 18 = .ok (.return_, 1) := by decide +kernel
theorem dX7_settle_19 : decode cX7_settle 19 = .ok (.aload_n 0, 1) := by decide +kernel
theorem dX7_settle_20 : decode cX7_settle 20 = .ok (.iload_n 2, 1) := by decide +kernel
theorem dX7_settle_21 : decode cX7_settle 21 = .ok (.aload_n 0, 1) := by decide +kernel
theorem dX7_settle_22 : decode cX7_settle 22 = .ok (.iload_n 2, 1) := by decide +kernel
theorem dX7_settle_23 : decode cX7_settle 23 = .ok (.invokevirtual 114, 3) := by decide +kernel
theorem dX7_settle_26 : decode cX7_settle 26 = .ok (.invokevirtual 110, 3) := by decide +kernel
theorem dX7_settle_29 : decode cX7_settle 29 = .ok (.iinc 1 1, 3) := by decide +kernel
theorem dX7_settle_32 : decode cX7_settle 32 = .ok (.goto (-30), 3) := by decide +kernel
theorem dX7_settle_35 : decode cX7_settle 35 = .ok (.return_, 1) := by decide +kernel
set_option maxRecDepth 100000 in
theorem SX7_settle_0 {g : zG} {o : Bool} {a s : Nat} (ha : zSt a s) {M : zM} {q : zM → Prop} (W : zT g (z1 o) mX7_settle (zQv (z1 o) q) 2 [(0, zA g a), (1, zI 0)] [] M) : zT g (z1 o) mX7_settle (zQv (z1 o) q) 0 [(0, zA g a)] [] M := by
  refine zr_iconst dX7_settle_0 ?_
  refine zr_istore_n (l' := [(0, zA g a), (1, zI 0)]) dX7_settle_1 (by decide) [1, 0] rfl ?_
  exact W
set_option maxRecDepth 100000 in
theorem SX7_settle_2 {g : zG} {o : Bool} {a s : Nat} (ha : zSt a s) {C R : Int} {M : zM} {q : zM → Prop} {x1 : Int} (W : (-2147483648 ≤ x1 ∧ x1 ≤ 2147483647) ∧ ((1000000 ≤ x1) → q M) ∧ ((¬ (1000000 ≤ x1)) → ∃ q2 : Int → zM → Prop, zKi g (z1 o) mX7_firstSteep [zA g a] M q2 ∧ ∀ (r3 : Int) (M4 : zM), q2 r3 M4 → (-2147483648 ≤ r3 ∧ r3 ≤ 2147483647) ∧ ((r3 ≠ (-1)) → (zLand M4 C R) ∧ (0 ≤ r3 ∧ r3 < C * R) ∧ (Bd (M4 (s + 1))) ∧ (0 ≤ (wdn C R (M4 (s + 1)) (M4 14 3) r3) ∧ (wdn C R (M4 (s + 1)) (M4 14 3) r3) ≤ 3) ∧ zT g (z1 o) mX7_settle (zQv (z1 o) q) 2 [(0, zA g a), (1, zI (x1 + 1))] [] (zput M4 a s (sldz C R (zget M4 a s) r3 (wdn C R (M4 (s + 1)) (M4 14 3) r3)))) ∧ ((r3 = (-1)) → q M4))) : zT g (z1 o) mX7_settle (zQv (z1 o) q) 2 [(0, zA g a), (1, zI x1)] [] M := by
  refine zr_iload_n 1 dX7_settle_2 rfl ?_
  refine zr_ldc (x := 1000000) dX7_settle_3 (zc2 147 (by decide +kernel) rfl) ?_
  obtain ⟨c1, W⟩ := W
  refine zr_icmp_ge (tgt := 35) dX7_settle_5 (by decide) c1 ⟨by decide, by decide⟩ (fun h => ?_) (fun h => ?_)
  · have W := W.1 h
    exact zt_ret dX7_settle_35 rfl W
  · have W := W.2 h
    refine zr_aload_n 0 dX7_settle_8 rfl ?_
    obtain ⟨q2, k6, W⟩ := W
    refine zt_callVi (As := []) (rest := []) dX7_settle_9 kX7_settle_118 (zst_0 ha) rfl rfl rfl (Nat.le_of_ble_eq_true rfl) k6 (fun r3 M4 h5 => ?_)
    have W := W r3 M4 h5
    refine zr_istore_n (l' := [(0, zA g a), (1, zI x1), (2, zI r3)]) dX7_settle_12 (by decide) [1, 2, 0] rfl ?_
    refine zr_iload_n 2 dX7_settle_13 rfl ?_
    refine zr_iconst dX7_settle_14 ?_
    obtain ⟨c7, W⟩ := W
    refine zr_icmp_ne (tgt := 19) dX7_settle_15 (by decide) c7 ⟨by decide, by decide⟩ (fun h => ?_) (fun h => ?_)
    · have W := W.1 h
      refine zr_aload_n 0 dX7_settle_19 rfl ?_
      refine zr_iload_n 2 dX7_settle_20 rfl ?_
      refine zr_aload_n 0 dX7_settle_21 rfl ?_
      refine zr_iload_n 2 dX7_settle_22 rfl ?_
      obtain ⟨c8, W⟩ := W
      obtain ⟨c9, W⟩ := W
      obtain ⟨c10, W⟩ := W
      refine zt_callVi (As := [zI r3]) (rest := [zI r3, zA g a]) dX7_settle_23 kX7_settle_114 (zst_0 ha) rfl rfl rfl (Nat.le_of_ble_eq_true rfl) (c_wayDown ha c8 c9 c10) (fun r15 N17 h16 => ?_)
      rw [h16.1, h16.2]
      obtain ⟨c11, W⟩ := W
      refine zt_callVv (As := [zI r3, zI (wdn C R (M4 (s + 1)) (M4 14 3) r3)]) (rest := []) dX7_settle_26 kX7_settle_110 (zst_0 ha) rfl rfl rfl (Nat.le_of_ble_eq_true rfl) (c_slide ha c8 c9 c11) (fun N14 h13 => ?_)
      rw [h13]
      refine zr_iinc (q := 1) (l' := [(0, zA g a), (1, zI (x1 + 1))]) dX7_settle_29 rfl (by decide) [1, 0] rfl ?_
      refine zr_goto (tgt := 2) dX7_settle_32 (by decide) ?_
      exact W
    · have W := W.2 h
      exact zt_ret dX7_settle_18 rfl W
theorem dX7_yields_0 : decode cX7_yields 0 = .ok (.aload_n 0, 1) := by decide +kernel
theorem dX7_yields_1 : decode cX7_yields 1 = .ok (.getfield 26, 3) := by decide +kernel
theorem dX7_yields_4 : decode cX7_yields 4 = .ok (.getfield 79, 3) := by decide +kernel
theorem dX7_yields_7 : decode cX7_yields 7 = .ok (.iload_n 1, 1) := by decide +kernel
theorem dX7_yields_8 : decode cX7_yields 8 = .ok (.iaload, 1) := by decide +kernel
theorem dX7_yields_9 : decode cX7_yields 9 = .ok (.ifCond .le 28, 3) := by decide +kernel
theorem dX7_yields_12 : decode cX7_yields 12 = .ok (.aload_n 0, 1) := by decide +kernel
theorem dX7_yields_13 : decode cX7_yields 13 = .ok (.getfield 26, 3) := by decide +kernel
theorem dX7_yields_16 : decode cX7_yields 16 = .ok (.getfield 82, 3) := by decide +kernel
theorem dX7_yields_19 : decode cX7_yields 19 = .ok (.iload_n 1, 1) := by decide +kernel
theorem dX7_yields_20 : decode cX7_yields 20 = .ok (.iaload, 1) := by decide +kernel
theorem dX7_yields_21 : decode cX7_yields 21 = .ok (.ifCond .ne 16, 3) := by decide +kernel
theorem dX7_yields_24 : decode cX7_yields 24 = .ok (.aload_n 0, 1) := by decide +kernel
theorem dX7_yields_25 : decode cX7_yields 25 = .ok (.iload_n 1, 1) := by decide +kernel
theorem dX7_yields_26 : decode cX7_yields 26 = .ok (.iload_n 2, 1) := by decide +kernel
theorem dX7_yields_27 : decode cX7_yields 27 = .ok (.invokevirtual 85, 3) := by decide +kernel
theorem dX7_yields_30 : decode cX7_yields 30 = .ok (.ifCond .ne 7, 3) := by decide +kernel
theorem dX7_yields_33 : decode cX7_yields 33 = .ok (.iconst 1, 1) := by decide +kernel
theorem dX7_yields_34 : decode cX7_yields 34 = .ok (.goto 4, 3) := by decide +kernel
theorem dX7_yields_37 : decode cX7_yields 37 = .ok (.iconst 0, 1) := by decide +kernel
theorem dX7_yields_38 : decode cX7_yields 38 = .ok (.ireturn, 1) := by decide +kernel
set_option maxRecDepth 100000 in
theorem SX7_yields_0 {g : zG} {o : Bool} {a s : Nat} (ha : zSt a s) {C R : Int} {M : zM} {q : Int → zM → Prop} {x1 x2 : Int} (W : (0 ≤ x1 ∧ x1 < 96) ∧ (-2147483648 ≤ (M (s + 1) x1) ∧ (M (s + 1) x1) ≤ 2147483647) ∧ (((M (s + 1) x1) ≤ 0) → q 0 M) ∧ ((¬ ((M (s + 1) x1) ≤ 0)) → (-2147483648 ≤ (M (s + 2) x1) ∧ (M (s + 2) x1) ≤ 2147483647) ∧ (((M (s + 2) x1) ≠ 0) → q 0 M) ∧ (((M (s + 2) x1) = 0) → (zLand M C R) ∧ (0 ≤ x1 ∧ x1 < C * R) ∧ (0 ≤ x2 ∧ x2 ≤ 3) ∧ (Bd (M (s + 1))) ∧ (0 ≤ M (s + 3) 1 ∧ M (s + 3) 1 ≤ 9) ∧ ((shd C R (M (s + 1)) (M (s + 3) 1) x1 x2) → q 0 M) ∧ ((¬ (shd C R (M (s + 1)) (M (s + 3) 1) x1 x2)) → q 1 M)))) : zT g (z1 o) mX7_yields (zQi (z1 o) q) 0 [(0, zA g a), (1, zI x1), (2, zI x2)] [] M := by
  refine zr_aload_n 0 dX7_yields_0 rfl ?_
  refine zr_getr (b := s) dX7_yields_1 fX7_26 (zst_0 ha) rfl (zst_f1 ha) (zsd_nz (zst_s ha)) ?_
  refine zr_getr (b := (s + 1)) dX7_yields_4 fX7_79 (zsd_0 (zst_s ha)) rfl (zsd_f0 (zst_s ha)) (Nat.succ_ne_zero _) ?_
  refine zr_iload_n 1 dX7_yields_7 rfl ?_
  obtain ⟨c1, W⟩ := W
  refine zr_iald dX7_yields_8 (zsd_1 (zst_s ha)) (by decide) c1 ?_
  obtain ⟨c2, W⟩ := W
  refine zr_if_le (tgt := 37) dX7_yields_9 (by decide) c2 (fun h => ?_) (fun h => ?_)
  · have W := W.1 h
    refine zr_iconst dX7_yields_37 ?_
    exact zt_zret dX7_yields_38 rfl (by decide) W
  · have W := W.2 h
    refine zr_aload_n 0 dX7_yields_12 rfl ?_
    refine zr_getr (b := s) dX7_yields_13 fX7_26 (zst_0 ha) rfl (zst_f1 ha) (zsd_nz (zst_s ha)) ?_
    refine zr_getr (b := (s + 2)) dX7_yields_16 fX7_82 (zsd_0 (zst_s ha)) rfl (zsd_f1 (zst_s ha)) (Nat.succ_ne_zero _) ?_
    refine zr_iload_n 1 dX7_yields_19 rfl ?_
    refine zr_iald dX7_yields_20 (zsd_2 (zst_s ha)) (by decide) c1 ?_
    obtain ⟨c3, W⟩ := W
    refine zr_if_ne (tgt := 37) dX7_yields_21 (by decide) c3 (fun h => ?_) (fun h => ?_)
    · have W := W.1 h
      refine zr_iconst dX7_yields_37 ?_
      exact zt_zret dX7_yields_38 rfl (by decide) W
    · have W := W.2 h
      refine zr_aload_n 0 dX7_yields_24 rfl ?_
      refine zr_iload_n 1 dX7_yields_25 rfl ?_
      refine zr_iload_n 2 dX7_yields_26 rfl ?_
      obtain ⟨c4, W⟩ := W
      obtain ⟨c5, W⟩ := W
      obtain ⟨c6, W⟩ := W
      obtain ⟨c7, W⟩ := W
      obtain ⟨c8, W⟩ := W
      refine zt_callVi (As := [zI x1, zI x2]) (rest := []) dX7_yields_27 kX7_yields_85 (zst_0 ha) rfl rfl rfl (Nat.le_of_ble_eq_true rfl) (c_shaded ha c4 c5 c6 c7 c8) (fun r9 N11 h10 => ?_)
      rw [h10.1, h10.2]
      refine zt_ifne_b (tgt := 37) dX7_yields_30 (by decide) (fun h => ?_) (fun h => ?_)
      · have W := W.1 h
        refine zr_iconst dX7_yields_37 ?_
        exact zt_zret dX7_yields_38 rfl (by decide) W
      · have W := W.2 h
        refine zr_iconst dX7_yields_33 ?_
        refine zr_goto (tgt := 38) dX7_yields_34 (by decide) ?_
        exact zt_zret dX7_yields_38 rfl (by decide) W
theorem dX7_hopOn_0 : decode cX7_hopOn 0 = .ok (.iload_n 1, 1) := by decide +kernel
theorem dX7_hopOn_1 : decode cX7_hopOn 1 = .ok (.istore_n 3, 1) := by decide +kernel
theorem dX7_hopOn_2 : decode cX7_hopOn 2 = .ok (.iconst 0, 1) := by decide +kernel
theorem dX7_hopOn_3 : decode cX7_hopOn 3 = .ok (.istore 4, 2) := by decide +kernel
theorem dX7_hopOn_5 : decode cX7_hopOn 5 = .ok (.iload 4, 2) := by decide +kernel
theorem dX7_hopOn_7 : decode cX7_hopOn 7 = .ok (.aload_n 0, 1) := by decide +kernel
theorem dX7_hopOn_8 : decode cX7_hopOn 8 = .ok (.getfield 26, 3) := by decide +kernel
theorem dX7_hopOn_11 : decode cX7_hopOn 11 = .ok (.getfield 94, 3) := by decide +kernel
theorem dX7_hopOn_14 : decode cX7_hopOn 14 = .ok (.iconst 0, 1) := by decide +kernel
theorem dX7_hopOn_15 : decode cX7_hopOn 15 = .ok (.iaload, 1) := by decide +kernel
theorem dX7_hopOn_16 : decode cX7_hopOn 16 = .ok (.if_icmp .ge 31, 3) := by decide +kernel
theorem dX7_hopOn_19 : decode cX7_hopOn 19 = .ok (.aload_n 0, 1) := by decide +kernel
theorem dX7_hopOn_20 : decode cX7_hopOn 20 = .ok (.getfield 22, 3) := by decide +kernel
theorem dX7_hopOn_23 : decode cX7_hopOn 23 = .ok (.iload_n 3, 1) := by decide +kernel
theorem dX7_hopOn_24 : decode cX7_hopOn 24 = .ok (.iload_n 2, 1) := by decide +kernel
theorem dX7_hopOn_25 : decode cX7_hopOn 25 = .ok (.invokevirtual 97, 3) := by decide +kernel
theorem dX7_hopOn_28 : decode cX7_hopOn 28 = .ok (.istore 5, 2) := by decide +kernel
theorem dX7_hopOn_30 : decode cX7_hopOn 30 = .ok (.aload_n 0, 1) := by decide +kernel
theorem dX7_hopOn_31 : decode cX7_hopOn 31 = .ok (.iload_n 3, 1) := by decide +kernel
theorem dX7_hopOn_32 : decode cX7_hopOn 32 = .ok (.iload 5, 2) := by decide +kernel
theorem dX7_hopOn_34 : decode cX7_hopOn 34 = .ok (.iload_n 2, 1) := by decide +kernel
theorem dX7_hopOn_35 : decode cX7_hopOn 35 = .ok (.invokevirtual 100, 3) := by decide +kernel
theorem dX7_hopOn_38 : decode cX7_hopOn 38 = .ok (.iload 5, 2) := by decide +kernel
theorem dX7_hopOn_40 : decode cX7_hopOn 40 = .ok (.istore_n 3, 1) := by decide +kernel
theorem dX7_hopOn_41 : decode cX7_hopOn 41 = .ok (.iinc 4 1, 3) := by decide +kernel
theorem dX7_hopOn_44 : decode cX7_hopOn 44 = .ok (.goto (-39), 3) := by decide +kernel
theorem dX7_hopOn_47 : decode cX7_hopOn 47 = .ok (.aload_n 0, 1) := by decide +kernel
theorem dX7_hopOn_48 : decode cX7_hopOn 48 = .ok (.dup, 1) := by decide +kernel
theorem dX7_hopOn_49 : decode cX7_hopOn 49 = .ok (.getfield 15, 3) := by decide +kernel
theorem dX7_hopOn_52 : decode cX7_hopOn 52 = .ok (.iconst 1, 1) := by decide +kernel
theorem dX7_hopOn_53 : decode cX7_hopOn 53 = .ok (.iadd, 1) := by decide +kernel
theorem dX7_hopOn_54 : decode cX7_hopOn 54 = .ok (.putfield 15, 3) := by decide +kernel
theorem dX7_hopOn_57 : decode cX7_hopOn 57 = .ok (.iload_n 3, 1) := by decide +kernel
theorem dX7_hopOn_58 : decode cX7_hopOn 58 = .ok (.ireturn, 1) := by decide +kernel
set_option maxRecDepth 100000 in
theorem SX7_hopOn_0 {g : zG} {o : Bool} {a s : Nat} (ha : zSt a s) {M : zM} {q : Int → zM → Prop} {x1 x2 : Int} (W : zT g (z1 o) mX7_hopOn (zQi (z1 o) q) 5 [(0, zA g a), (2, zI x2), (3, zI x1), (4, zI 0)] [] M) : zT g (z1 o) mX7_hopOn (zQi (z1 o) q) 0 [(0, zA g a), (1, zI x1), (2, zI x2)] [] M := by
  refine zr_iload_n 1 dX7_hopOn_0 rfl ?_
  refine zr_istore_n (l' := [(0, zA g a), (2, zI x2), (3, zI x1)]) dX7_hopOn_1 (by decide) [1, 3, 0] rfl ?_
  refine zr_iconst dX7_hopOn_2 ?_
  refine zr_istore (l' := [(0, zA g a), (2, zI x2), (3, zI x1), (4, zI 0)]) dX7_hopOn_3 (by decide) [1, 2, 3, 0] rfl ?_
  exact W
set_option maxRecDepth 100000 in
theorem SX7_hopOn_5 {g : zG} {o : Bool} {a s : Nat} (ha : zSt a s) {C R : Int} {M : zM} {q : Int → zM → Prop} {x2 x3 x4 : Int} (W : (-2147483648 ≤ x4 ∧ x4 ≤ 2147483647) ∧ (-2147483648 ≤ (M (s + 3) 0) ∧ (M (s + 3) 0) ≤ 2147483647) ∧ (((M (s + 3) 0) ≤ x4) → q x3 (zu M a 3 ((M a 3) + 1))) ∧ ((¬ ((M (s + 3) 0) ≤ x4)) → (zLand M C R) ∧ (0 ≤ x3 ∧ x3 < C * R) ∧ (0 ≤ x2 ∧ x2 ≤ 3) ∧ (0 ≤ (alg C R x3 x2 1) ∧ (alg C R x3 x2 1) < C * R) ∧ zT g (z1 o) mX7_hopOn (zQi (z1 o) q) 5 [(0, zA g a), (2, zI x2), (3, zI (alg C R x3 x2 1)), (4, zI (x4 + 1))] [] (zrw M (a + 1) (crs C (M (a + 1)) x3 (alg C R x3 x2 1) x2)))) : zT g (z1 o) mX7_hopOn (zQi (z1 o) q) 5 [(0, zA g a), (2, zI x2), (3, zI x3), (4, zI x4)] [] M := by
  refine zr_iload 3 dX7_hopOn_5 rfl ?_
  refine zr_aload_n 0 dX7_hopOn_7 rfl ?_
  refine zr_getr (b := s) dX7_hopOn_8 fX7_26 (zst_0 ha) rfl (zst_f1 ha) (zsd_nz (zst_s ha)) ?_
  refine zr_getr (b := (s + 3)) dX7_hopOn_11 fX7_94 (zsd_0 (zst_s ha)) rfl (zsd_f2 (zst_s ha)) (Nat.succ_ne_zero _) ?_
  refine zr_iconst dX7_hopOn_14 ?_
  refine zr_iald dX7_hopOn_15 (zsd_3 (zst_s ha)) (by decide) ⟨by decide, by decide⟩ ?_
  obtain ⟨c1, W⟩ := W
  obtain ⟨c2, W⟩ := W
  refine zr_icmp_ge (tgt := 47) dX7_hopOn_16 (by decide) c1 c2 (fun h => ?_) (fun h => ?_)
  · have W := W.1 h
    refine zr_aload_n 0 dX7_hopOn_47 rfl ?_
    refine zr_dup dX7_hopOn_48 rfl ?_
    refine zt_geti 3 rfl dX7_hopOn_49 fX7_15 (zst_0 ha) (by decide) ?_
    refine zr_iconst dX7_hopOn_52 ?_
    refine zr_iadd dX7_hopOn_53 ?_
    refine zt_puti 3 rfl dX7_hopOn_54 fX7_15 lcX7 ltX7_3 rfl (zst_0 ha) ?_
    refine zr_iload_n 2 dX7_hopOn_57 rfl ?_
    exact zt_iret dX7_hopOn_58 rfl W
  · have W := W.2 h
    refine zr_aload_n 0 dX7_hopOn_19 rfl ?_
    refine zr_getr (b := 14) dX7_hopOn_20 fX7_22 (zst_0 ha) rfl (zst_f0 ha) (by decide) ?_
    refine zr_iload_n 2 dX7_hopOn_23 rfl ?_
    refine zr_iload_n 1 dX7_hopOn_24 rfl ?_
    obtain ⟨c3, W⟩ := W
    obtain ⟨c4, W⟩ := W
    obtain ⟨c5, W⟩ := W
    refine zt_callVi (As := [zI x3, zI x2]) (rest := []) dX7_hopOn_25 kX7_hopOn_97 rfl rfl rfl rfl (Nat.le_of_ble_eq_true rfl) (c_nbr c3 c4 c5) (fun r10 N12 h11 => ?_)
    rw [h11.1, h11.2]
    refine zr_istore (l' := [(0, zA g a), (2, zI x2), (3, zI x3), (4, zI x4), (5, zI (alg C R x3 x2 1))]) dX7_hopOn_28 (by decide) [1, 2, 3, 4, 0] rfl ?_
    refine zr_aload_n 0 dX7_hopOn_30 rfl ?_
    refine zr_iload_n 2 dX7_hopOn_31 rfl ?_
    refine zr_iload 4 dX7_hopOn_32 rfl ?_
    refine zr_iload_n 1 dX7_hopOn_34 rfl ?_
    obtain ⟨c6, W⟩ := W
    refine zt_callVv (As := [zI x3, zI (alg C R x3 x2 1), zI x2]) (rest := []) dX7_hopOn_35 kX7_hopOn_100 (zst_0 ha) rfl rfl rfl (Nat.le_of_ble_eq_true rfl) (c_cross ha c3 c4 c6 c5) (fun N9 h8 => ?_)
    rw [h8]
    refine zr_iload 4 dX7_hopOn_38 rfl ?_
    refine zr_istore_n (l' := [(0, zA g a), (2, zI x2), (3, zI (alg C R x3 x2 1)), (4, zI x4)]) dX7_hopOn_40 (by decide) [1, 2, 0, 3] rfl ?_
    refine zr_iinc (q := 3) (l' := [(0, zA g a), (2, zI x2), (3, zI (alg C R x3 x2 1)), (4, zI (x4 + 1))]) dX7_hopOn_41 rfl (by decide) [1, 2, 3, 0] rfl ?_
    refine zr_goto (tgt := 5) dX7_hopOn_44 (by decide) ?_
    exact W
