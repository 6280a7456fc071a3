theorem dX7_cross_0 : decode cX7_cross 0 = .ok (.iload_n 3, 1) := by decide +kernel
theorem dX7_cross_1 : decode cX7_cross 1 = .ok (.ifCond .ne 24, 3) := by decide +kernel
theorem dX7_cross_4 : decode cX7_cross 4 = .ok (.aload_n 0, 1) := by decide +kernel
theorem dX7_cross_5 : decode cX7_cross 5 = .ok (.getfield 9, 3) := by decide +kernel
theorem dX7_cross_8 : decode cX7_cross 8 = .ok (.aload_n 0, 1) := by decide +kernel
theorem dX7_cross_9 : decode cX7_cross 9 = .ok (.getfield 22, 3) := by decide +kernel
theorem dX7_cross_12 : decode cX7_cross 12 = .ok (.getfield 125, 3) := by decide +kernel
theorem dX7_cross_15 : decode cX7_cross 15 = .ok (.iload_n 2, 1) := by decide +kernel
theorem dX7_cross_16 : decode cX7_cross 16 = .ok (.iaload, 1) := by decide +kernel
theorem dX7_cross_17 : decode cX7_cross 17 = .ok (.dup2, 1) := by decide +kernel
theorem dX7_cross_18 : decode cX7_cross 18 = .ok (.iaload, 1) := by decide +kernel
theorem dX7_cross_19 : decode cX7_cross 19 = .ok (.iconst 1, 1) := by decide +kernel
theorem dX7_cross_20 : decode cX7_cross 20 = .ok (.iadd, 1) := by decide +kernel
theorem dX7_cross_21 : decode cX7_cross 21 = .ok (.iastore, 1) := by decide +kernel
theorem dX7_cross_22 : decode cX7_cross 22 = .ok (.goto 26, 3) := by decide +kernel
theorem dX7_cross_25 : decode cX7_cross 25 = .ok (.iload_n 3, 1) := by decide +kernel
theorem dX7_cross_26 : decode cX7_cross 26 = .ok (.iconst 2, 1) := by decide +kernel
theorem dX7_cross_27 : decode cX7_cross 27 = .ok (.if_icmp .ne 21, 3) := by decide +kernel
theorem dX7_cross_30 : decode cX7_cross 30 = .ok (.aload_n 0, 1) := by decide +kernel
theorem dX7_cross_31 : decode cX7_cross 31 = .ok (.getfield 9, 3) := by decide +kernel
theorem dX7_cross_34 : decode cX7_cross 34 = .ok (.aload_n 0, 1) := by decide +kernel
theorem dX7_cross_35 : decode cX7_cross 35 = .ok (.getfield 22, 3) := by decide +kernel
theorem dX7_cross_38 : decode cX7_cross 38 = .ok (.getfield 125, 3) := by decide +kernel
theorem dX7_cross_41 : decode cX7_cross 41 = .ok (.iload_n 1, 1) := by decide +kernel
theorem dX7_cross_42 : decode cX7_cross 42 = .ok (.iaload, 1) := by decide +kernel
theorem dX7_cross_43 : decode cX7_cross 43 = .ok (.dup2, 1) := by decide +kernel
theorem dX7_cross_44 : decode cX7_cross 44 = .ok (.iaload, 1) := by decide +kernel
theorem dX7_cross_45 : decode cX7_cross 45 = .ok (.iconst 1, 1) := by decide +kernel
theorem dX7_cross_46 : decode cX7_cross 46 = .ok (.isub, 1) := by decide +kernel
theorem dX7_cross_47 : decode cX7_cross 47 = .ok (.iastore, 1) := by decide +kernel
theorem dX7_cross_48 : decode cX7_cross 48 = .ok (.return_, 1) := by decide +kernel
set_option maxRecDepth 100000 in
theorem SX7_cross_0 {g : zG} {o : Bool} {a s : Nat} (ha : zSt a s) {M : zM} {q : zM → Prop} {x1 x2 x3 : Int} (W : (-2147483648 ≤ x3 ∧ x3 ≤ 2147483647) ∧ ((x3 ≠ 0) → ((x3 ≠ 2) → q M) ∧ ((x3 = 2) → (0 ≤ x1 ∧ x1 < 96) ∧ (0 ≤ (M 15 x1) ∧ (M 15 x1) < 12) ∧ q (zu M (a + 1) (M 15 x1) ((M (a + 1) (M 15 x1)) - 1)))) ∧ ((x3 = 0) → (0 ≤ x2 ∧ x2 < 96) ∧ (0 ≤ (M 15 x2) ∧ (M 15 x2) < 12) ∧ q (zu M (a + 1) (M 15 x2) ((M (a + 1) (M 15 x2)) + 1)))) : zT g (z1 o) mX7_cross (zQv (z1 o) q) 0 [(0, zA g a), (1, zI x1), (2, zI x2), (3, zI x3)] [] M := by
  refine zr_iload_n 3 dX7_cross_0 rfl ?_
  obtain ⟨c1, W⟩ := W
  refine zr_if_ne (tgt := 25) dX7_cross_1 (by decide) c1 (fun h => ?_) (fun h => ?_)
  · have W := W.1 h
    refine zr_iload_n 3 dX7_cross_25 rfl ?_
    refine zr_iconst dX7_cross_26 ?_
    refine zr_icmp_ne (tgt := 48) dX7_cross_27 (by decide) c1 ⟨by decide, by decide⟩ (fun h => ?_) (fun h => ?_)
    · have W := W.1 h
      exact zt_ret dX7_cross_48 rfl W
    · have W := W.2 h
      refine zr_aload_n 0 dX7_cross_30 rfl ?_
      refine zr_getr (b := (a + 1)) dX7_cross_31 fX7_9 (zst_0 ha) rfl (zst_f2 ha) (Nat.succ_ne_zero _) ?_
      refine zr_aload_n 0 dX7_cross_34 rfl ?_
      refine zr_getr (b := 14) dX7_cross_35 fX7_22 (zst_0 ha) rfl (zst_f0 ha) (by decide) ?_
      refine zr_getr (b := 15) dX7_cross_38 fX7_125 rfl rfl rfl (by decide) ?_
      refine zr_iload_n 1 dX7_cross_41 rfl ?_
      obtain ⟨c2, W⟩ := W
      refine zr_iald dX7_cross_42 rfl (by decide) c2 ?_
      refine zr_dup2 dX7_cross_43 rfl rfl ?_
      obtain ⟨c3, W⟩ := W
      refine zr_iald dX7_cross_44 (zst_c ha) (by decide) c3 ?_
      refine zr_iconst dX7_cross_45 ?_
      refine zr_isub dX7_cross_46 ?_
      refine zr_iast dX7_cross_47 (zst_c ha) (by decide) c3 ?_
      exact zt_ret dX7_cross_48 rfl W
  · have W := W.2 h
    refine zr_aload_n 0 dX7_cross_4 rfl ?_
    refine zr_getr (b := (a + 1)) dX7_cross_5 fX7_9 (zst_0 ha) rfl (zst_f2 ha) (Nat.succ_ne_zero _) ?_
    refine zr_aload_n 0 dX7_cross_8 rfl ?_
    refine zr_getr (b := 14) dX7_cross_9 fX7_22 (zst_0 ha) rfl (zst_f0 ha) (by decide) ?_
    refine zr_getr (b := 15) dX7_cross_12 fX7_125 rfl rfl rfl (by decide) ?_
    refine zr_iload_n 2 dX7_cross_15 rfl ?_
    obtain ⟨c4, W⟩ := W
    refine zr_iald dX7_cross_16 rfl (by decide) c4 ?_
    refine zr_dup2 dX7_cross_17 rfl rfl ?_
    obtain ⟨c5, W⟩ := W
    refine zr_iald dX7_cross_18 (zst_c ha) (by decide) c5 ?_
    refine zr_iconst dX7_cross_19 ?_
    refine zr_iadd dX7_cross_20 ?_
    refine zr_iast dX7_cross_21 (zst_c ha) (by decide) c5 ?_
    refine zr_goto (tgt := 48) dX7_cross_22 (by decide) ?_
    exact zt_ret dX7_cross_48 rfl W
theorem dX7_wayUp_0 : decode cX7_wayUp 0 = .ok (.aload_n 0, 1) := by decide +kernel
theorem dX7_wayUp_1 : decode cX7_wayUp 1 = .ok (.getfield 26, 3) := by decide +kernel
theorem dX7_wayUp_4 : decode cX7_wayUp 4 = .ok (.getfield 79, 3) := by decide +kernel
theorem dX7_wayUp_7 : decode cX7_wayUp 7 = .ok (.iload_n 1, 1) := by decide +kernel
theorem dX7_wayUp_8 : decode cX7_wayUp 8 = .ok (.iaload, 1) := by decide +kernel
theorem dX7_wayUp_9 : decode cX7_wayUp 9 = .ok (.aload_n 0, 1) := by decide +kernel
theorem dX7_wayUp_10 : decode cX7_wayUp 10 = .ok (.getfield 22, 3) := by decide +kernel
theorem dX7_wayUp_13 : decode cX7_wayUp 13 = .ok (.getfield 122, 3) := by decide +kernel
theorem dX7_wayUp_16 : decode cX7_wayUp 16 = .ok (.iadd, 1) := by decide +kernel
theorem dX7_wayUp_17 : decode cX7_wayUp 17 = .ok (.istore_n 2, 1) := by decide +kernel
theorem dX7_wayUp_18 : decode cX7_wayUp 18 = .ok (.iconst (-1), 1) := by decide +kernel
theorem dX7_wayUp_19 : decode cX7_wayUp 19 = .ok (.istore_n 3, 1) := by decide +kernel
theorem dX7_wayUp_20 : decode cX7_wayUp 20 = .ok (.iconst 0, 1) := by decide +kernel
theorem dX7_wayUp_21 : decode cX7_wayUp 21 = .ok (.istore 4, 2) := by decide +kernel
theorem dX7_wayUp_23 : decode cX7_wayUp 23 = .ok (.iload 4, 2) := by decide +kernel
theorem dX7_wayUp_25 : decode cX7_wayUp 25 = .ok (.iconst 4, 1) := by decide +kernel
theorem dX7_wayUp_26 : decode cX7_wayUp 26 = .ok (.if_icmp .ge 41, 3) := by decide +kernel
theorem dX7_wayUp_29 : decode cX7_wayUp 29 = .ok (.aload_n 0, 1) := by decide +kernel
theorem dX7_wayUp_30 : decode cX7_wayUp 30 = .ok (.getfield 26, 3) := by decide +kernel
theorem dX7_wayUp_33 : decode cX7_wayUp 33 = .ok (.getfield 79, 3) := by decide +kernel
theorem dX7_wayUp_36 : decode cX7_wayUp 36 = .ok (.aload_n 0, 1) := by decide +kernel
theorem dX7_wayUp_37 : decode cX7_wayUp 37 = .ok (.getfield 22, 3) := by decide +kernel
theorem dX7_wayUp_40 : decode cX7_wayUp 40 = .ok (.iload_n 1, 1) := by decide +kernel
theorem dX7_wayUp_41 : decode cX7_wayUp 41 = .ok (.iload 4, 2) := by decide +kernel
theorem dX7_wayUp_43 : decode cX7_wayUp 43 = .ok (.invokevirtual 97, 3) := by decide +kernel
theorem dX7_wayUp_46 : decode cX7_wayUp 46 = .ok (.iaload, 1) := by decide +kernel
theorem dX7_wayUp_47 : decode cX7_wayUp 47 = .ok (.istore 5, 2) := by decide +kernel
theorem dX7_wayUp_49 : decode cX7_wayUp 49 = .ok (.iload 5, 2) := by decide +kernel
theorem dX7_wayUp_51 : decode cX7_wayUp 51 = .ok (.iload_n 2, 1) := by decide +kernel
theorem dX7_wayUp_52 : decode cX7_wayUp 52 = .ok (.if_icmp .le 9, 3) := by decide +kernel
theorem dX7_wayUp_55 : decode cX7_wayUp 55 = .ok (.iload 5, 2) := by decide +kernel
theorem dX7_wayUp_57 : decode cX7_wayUp 57 = .ok (.istore_n 2, 1) := by decide +kernel
theorem dX7_wayUp_58 : decode cX7_wayUp 58 = .ok (.iload 4, 2) := by decide +kernel
theorem dX7_wayUp_60 : decode cX7_wayUp 60 = .ok (.istore_n 3, 1) := by decide +kernel
theorem dX7_wayUp_61 : decode cX7_wayUp 61 = .ok (.iinc 4 1, 3) := by decide +kernel
theorem dX7_wayUp_64 : decode cX7_wayUp 64 = .ok (.goto (-41), 3) := by decide +kernel
theorem dX7_wayUp_67 : decode cX7_wayUp 67 = .ok (.iload_n 3, 1) := by decide +kernel
theorem dX7_wayUp_68 : decode cX7_wayUp 68 = .ok (.ireturn, 1) := by decide +kernel
set_option maxRecDepth 100000 in
theorem SX7_wayUp_0 {g : zG} {o : Bool} {a s : Nat} (ha : zSt a s) {M : zM} {q : Int → zM → Prop} {x1 : Int} (W : (0 ≤ x1 ∧ x1 < 96) ∧ zT g (z1 o) mX7_wayUp (zQi (z1 o) q) 23 [(0, zA g a), (1, zI x1), (2, zI ((M (s + 1) x1) + (M 14 3))), (3, zI (-1)), (4, zI 0)] [] M) : zT g (z1 o) mX7_wayUp (zQi (z1 o) q) 0 [(0, zA g a), (1, zI x1)] [] M := by
  refine zr_aload_n 0 dX7_wayUp_0 rfl ?_
  refine zr_getr (b := s) dX7_wayUp_1 fX7_26 (zst_0 ha) rfl (zst_f1 ha) (zsd_nz (zst_s ha)) ?_
  refine zr_getr (b := (s + 1)) dX7_wayUp_4 fX7_79 (zsd_0 (zst_s ha)) rfl (zsd_f0 (zst_s ha)) (Nat.succ_ne_zero _) ?_
  refine zr_iload_n 1 dX7_wayUp_7 rfl ?_
  obtain ⟨c1, W⟩ := W
  refine zr_iald dX7_wayUp_8 (zsd_1 (zst_s ha)) (by decide) c1 ?_
  refine zr_aload_n 0 dX7_wayUp_9 rfl ?_
  refine zr_getr (b := 14) dX7_wayUp_10 fX7_22 (zst_0 ha) rfl (zst_f0 ha) (by decide) ?_
  refine zt_geti 3 rfl dX7_wayUp_13 fX7_122 rfl (by decide) ?_
  refine zr_iadd dX7_wayUp_16 ?_
  refine zr_istore_n (l' := [(0, zA g a), (1, zI x1), (2, zI ((M (s + 1) x1) + (M 14 3)))]) dX7_wayUp_17 (by decide) [1, 2, 0] rfl ?_
  refine zr_iconst dX7_wayUp_18 ?_
  refine zr_istore_n (l' := [(0, zA g a), (1, zI x1), (2, zI ((M (s + 1) x1) + (M 14 3))), (3, zI (-1))]) dX7_wayUp_19 (by decide) [1, 2, 3, 0] rfl ?_
  refine zr_iconst dX7_wayUp_20 ?_
  refine zr_istore (l' := [(0, zA g a), (1, zI x1), (2, zI ((M (s + 1) x1) + (M 14 3))), (3, zI (-1)), (4, zI 0)]) dX7_wayUp_21 (by decide) [1, 2, 3, 4, 0] rfl ?_
  exact W
set_option maxRecDepth 100000 in
theorem SX7_wayUp_23 {g : zG} {o : Bool} {a s : Nat} (ha : zSt a s) {C R : Int} {M : zM} {q : Int → zM → Prop} {x1 x2 x3 x4 : Int} (W : (-2147483648 ≤ x4 ∧ x4 ≤ 2147483647) ∧ ((4 ≤ x4) → q x3 M) ∧ ((¬ (4 ≤ x4)) → (zLand M C R) ∧ (0 ≤ x1 ∧ x1 < C * R) ∧ (0 ≤ x4 ∧ x4 ≤ 3) ∧ (0 ≤ (alg C R x1 x4 1) ∧ (alg C R x1 x4 1) < 96) ∧ (-2147483648 ≤ (M (s + 1) (alg C R x1 x4 1)) ∧ (M (s + 1) (alg C R x1 x4 1)) ≤ 2147483647) ∧ (-2147483648 ≤ x2 ∧ x2 ≤ 2147483647) ∧ (((M (s + 1) (alg C R x1 x4 1)) ≤ x2) → zT g (z1 o) mX7_wayUp (zQi (z1 o) q) 23 [(0, zA g a), (1, zI x1), (2, zI x2), (3, zI x3), (4, zI (x4 + 1))] [] M) ∧ ((¬ ((M (s + 1) (alg C R x1 x4 1)) ≤ x2)) → zT g (z1 o) mX7_wayUp (zQi (z1 o) q) 23 [(0, zA g a), (1, zI x1), (2, zI (M (s + 1) (alg C R x1 x4 1))), (3, zI x4), (4, zI (x4 + 1))] [] M))) : zT g (z1 o) mX7_wayUp (zQi (z1 o) q) 23 [(0, zA g a), (1, zI x1), (2, zI x2), (3, zI x3), (4, zI x4)] [] M := by
  refine zr_iload 4 dX7_wayUp_23 rfl ?_
  refine zr_iconst dX7_wayUp_25 ?_
  obtain ⟨c1, W⟩ := W
  refine zr_icmp_ge (tgt := 67) dX7_wayUp_26 (by decide) c1 ⟨by decide, by decide⟩ (fun h => ?_) (fun h => ?_)
  · have W := W.1 h
    refine zr_iload_n 3 dX7_wayUp_67 rfl ?_
    exact zt_iret dX7_wayUp_68 rfl W
  · have W := W.2 h
    refine zr_aload_n 0 dX7_wayUp_29 rfl ?_
    refine zr_getr (b := s) dX7_wayUp_30 fX7_26 (zst_0 ha) rfl (zst_f1 ha) (zsd_nz (zst_s ha)) ?_
    refine zr_getr (b := (s + 1)) dX7_wayUp_33 fX7_79 (zsd_0 (zst_s ha)) rfl (zsd_f0 (zst_s ha)) (Nat.succ_ne_zero _) ?_
    refine zr_aload_n 0 dX7_wayUp_36 rfl ?_
    refine zr_getr (b := 14) dX7_wayUp_37 fX7_22 (zst_0 ha) rfl (zst_f0 ha) (by decide) ?_
    refine zr_iload_n 1 dX7_wayUp_40 rfl ?_
    refine zr_iload 4 dX7_wayUp_41 rfl ?_
    obtain ⟨c2, W⟩ := W
    obtain ⟨c3, W⟩ := W
    obtain ⟨c4, W⟩ := W
    refine zt_callVi (As := [zI x1, zI x4]) (rest := [zA g (s + 1)]) dX7_wayUp_43 kX7_wayUp_97 rfl rfl rfl rfl (Nat.le_of_ble_eq_true rfl) (c_nbr c2 c3 c4) (fun r8 N10 h9 => ?_)
    rw [h9.1, h9.2]
    obtain ⟨c5, W⟩ := W
    refine zr_iald dX7_wayUp_46 (zsd_1 (zst_s ha)) (by decide) c5 ?_
    refine zr_istore (l' := [(0, zA g a), (1, zI x1), (2, zI x2), (3, zI x3), (4, zI x4), (5, zI (M (s + 1) (alg C R x1 x4 1)))]) dX7_wayUp_47 (by decide) [1, 2, 3, 4, 5, 0] rfl ?_
    refine zr_iload 5 dX7_wayUp_49 rfl ?_
    refine zr_iload_n 2 dX7_wayUp_51 rfl ?_
    obtain ⟨c6, W⟩ := W
    obtain ⟨c7, W⟩ := W
    refine zr_icmp_le (tgt := 61) dX7_wayUp_52 (by decide) c6 c7 (fun h => ?_) (fun h => ?_)
    · have W := W.1 h
      refine zr_iinc (q := 4) (l' := [(0, zA g a), (1, zI x1), (2, zI x2), (3, zI x3), (4, zI (x4 + 1))]) dX7_wayUp_61 rfl (by decide) [1, 2, 3, 4, 0] rfl ?_
      refine zr_goto (tgt := 23) dX7_wayUp_64 (by decide) ?_
      exact W
    · have W := W.2 h
      refine zr_iload 5 dX7_wayUp_55 rfl ?_
      refine zr_istore_n (l' := [(0, zA g a), (1, zI x1), (2, zI (M (s + 1) (alg C R x1 x4 1))), (4, zI x4)]) dX7_wayUp_57 (by decide) [1, 2, 0, 4] rfl ?_
      refine zr_iload 3 dX7_wayUp_58 rfl ?_
      refine zr_istore_n (l' := [(0, zA g a), (1, zI x1), (2, zI (M (s + 1) (alg C R x1 x4 1))), (3, zI x4), (4, zI x4)]) dX7_wayUp_60 (by decide) [1, 2, 3, 0, 4] rfl ?_
      refine zr_iinc (q := 4) (l' := [(0, zA g a), (1, zI x1), (2, zI (M (s + 1) (alg C R x1 x4 1))), (3, zI x4), (4, zI (x4 + 1))]) dX7_wayUp_61 rfl (by decide) [1, 2, 3, 4, 0] rfl ?_
      refine zr_goto (tgt := 23) dX7_wayUp_64 (by decide) ?_
      exact W
theorem dX7_wayDown_0 : decode cX7_wayDown 0 = .ok (.aload_n 0, 1) := by decide +kernel
theorem dX7_wayDown_1 : decode cX7_wayDown 1 = .ok (.getfield 26, 3) := by decide +kernel
theorem dX7_wayDown_4 : decode cX7_wayDown 4 = .ok (.getfield 79, 3) := by decide +kernel
theorem dX7_wayDown_7 : decode cX7_wayDown 7 = .ok (.iload_n 1, 1) := by decide +kernel
theorem dX7_wayDown_8 : decode cX7_wayDown 8 = .ok (.iaload, 1) := by decide +kernel
theorem dX7_wayDown_9 : decode cX7_wayDown 9 = .ok (.aload_n 0, 1) := by decide +kernel
theorem dX7_wayDown_10 : decode cX7_wayDown 10 = .ok (.getfield 22, 3) := by decide +kernel
theorem dX7_wayDown_13 : decode cX7_wayDown 13 = .ok (.getfield 122, 3) := by decide +kernel
theorem dX7_wayDown_16 : decode cX7_wayDown 16 = .ok (.isub, 1) := by decide +kernel
theorem dX7_wayDown_17 : decode cX7_wayDown 17 = .ok (.istore_n 2, 1) := by decide +kernel
theorem dX7_wayDown_18 : decode cX7_wayDown 18 = .ok (.iconst (-1), 1) := by decide +kernel
theorem dX7_wayDown_19 : decode cX7_wayDown 19 = .ok (.istore_n 3, 1) := by decide +kernel
theorem dX7_wayDown_20 : decode cX7_wayDown 20 = .ok (.iconst 0, 1) := by decide +kernel
theorem dX7_wayDown_21 : decode cX7_wayDown 21 = .ok (.istore 4, 2) := by decide +kernel
theorem dX7_wayDown_23 : decode cX7_wayDown 23 = .ok (.iload 4, 2) := by decide +kernel
theorem dX7_wayDown_25 : decode cX7_wayDown 25 = .ok (.iconst 4, 1) := by decide +kernel
theorem dX7_wayDown_26 : decode cX7_wayDown 26 = .ok (.if_icmp .ge 41, 3) := by decide +kernel
theorem dX7_wayDown_29 : decode cX7_wayDown 29 = .ok (.aload_n 0, 1) := by decide +kernel
theorem dX7_wayDown_30 : decode cX7_wayDown 30 = .ok (.getfield 26, 3) := by decide +kernel
theorem dX7_wayDown_33 : decode cX7_wayDown 33 = .ok (.getfield 79, 3) := by decide +kernel
theorem dX7_wayDown_36 : decode cX7_wayDown 36 = .ok (.aload_n 0, 1) := by decide +kernel
theorem dX7_wayDown_37 : decode cX7_wayDown 37 = .ok (.getfield 22, 3) := by decide +kernel
theorem dX7_wayDown_40 : decode cX7_wayDown 40 = .ok (.iload_n 1, 1) := by decide +kernel
theorem dX7_wayDown_41 : decode cX7_wayDown 41 = .ok (.iload 4, 2) := by decide +kernel
theorem dX7_wayDown_43 : decode cX7_wayDown 43 = .ok (.invokevirtual 97, 3) := by decide +kernel
theorem dX7_wayDown_46 : decode cX7_wayDown 46 = .ok (.iaload, 1) := by decide +kernel
theorem dX7_wayDown_47 : decode cX7_wayDown 47 = .ok (.istore 5, 2) := by decide +kernel
theorem dX7_wayDown_49 : decode cX7_wayDown 49 = .ok (.iload 5, 2) := by decide +kernel
theorem dX7_wayDown_51 : decode cX7_wayDown 51 = .ok (.iload_n 2, 1) := by decide +kernel
theorem dX7_wayDown_52 : decode cX7_wayDown 52 = .ok (.if_icmp .ge 9, 3) := by decide +kernel
theorem dX7_wayDown_55 : decode cX7_wayDown 55 = .ok (.iload 5, 2) := by decide +kernel
theorem dX7_wayDown_57 : decode cX7_wayDown 57 = .ok (.istore_n 2, 1) := by decide +kernel
theorem dX7_wayDown_58 : decode cX7_wayDown 58 = .ok (.iload 4, 2) := by decide +kernel
theorem dX7_wayDown_60 : decode cX7_wayDown 60 = .ok (.istore_n 3, 1) := by decide +kernel
theorem dX7_wayDown_61 : decode cX7_wayDown 61 = .ok (.iinc 4 1, 3) := by decide +kernel
theorem dX7_wayDown_64 : decode cX7_wayDown 64 = .ok (.goto (-41), 3) := by decide +kernel
theorem dX7_wayDown_67 : decode cX7_wayDown 67 = .ok (.iload_n 3, 1) := by decide +kernel
theorem dX7_wayDown_68 : decode cX7_wayDown 68 = .ok (.ireturn, 1) := by decide +kernel
set_option maxRecDepth 100000 in
theorem SX7_wayDown_0 {g : zG} {o : Bool} {a s : Nat} (ha : zSt a s) {M : zM} {q : Int → zM → Prop} {x1 : Int} (W : (0 ≤ x1 ∧ x1 < 96) ∧ zT g (z1 o) mX7_wayDown (zQi (z1 o) q) 23 [(0, zA g a), (1, zI x1), (2, zI ((M (s + 1) x1) - (M 14 3))), (3, zI (-1)), (4, zI 0)] [] M) : zT g (z1 o) mX7_wayDown (zQi (z1 o) q) 0 [(0, zA g a), (1, zI x1)] [] M := by
  refine zr_aload_n 0 dX7_wayDown_0 rfl ?_
  refine zr_getr (b := s) dX7_wayDown_1 fX7_26 (zst_0 ha) rfl (zst_f1 ha) (zsd_nz (zst_s ha)) ?_
  refine zr_getr (b := (s + 1)) dX7_wayDown_4 fX7_79 (zsd_0 (zst_s ha)) rfl (zsd_f0 (zst_s ha)) (Nat.succ_ne_zero _) ?_
  refine zr_iload_n 1 dX7_wayDown_7 rfl ?_
  obtain ⟨c1, W⟩ := W
  refine zr_iald dX7_wayDown_8 (zsd_1 (zst_s ha)) (by decide) c1 ?_
  refine zr_aload_n 0 dX7_wayDown_9 rfl ?_
  refine zr_getr (b := 14) dX7_wayDown_10 fX7_22 (zst_0 ha) rfl (zst_f0 ha) (by decide) ?_
  refine zt_geti 3 rfl dX7_wayDown_13 fX7_122 rfl (by decide) ?_
  refine zr_isub dX7_wayDown_16 ?_
  refine zr_istore_n (l' := [(0, zA g a), (1, zI x1), (2, zI ((M (s + 1) x1) - (M 14 3)))]) dX7_wayDown_17 (by decide) [1, 2, 0] rfl ?_
  refine zr_iconst dX7_wayDown_18 ?_
  refine zr_istore_n (l' := [(0, zA g a), (1, zI x1), (2, zI ((M (s + 1) x1) - (M 14 3))), (3, zI (-1))]) dX7_wayDown_19 (by decide) [1, 2, 3, 0] rfl ?_
  refine zr_iconst dX7_wayDown_20 ?_
  refine zr_istore (l' := [(0, zA g a), (1, zI x1), (2, zI ((M (s + 1) x1) - (M 14 3))), (3, zI (-1)), (4, zI 0)]) dX7_wayDown_21 (by decide) [1, 2, 3, 4, 0] rfl ?_
  exact W
set_option maxRecDepth 100000 in
theorem SX7_wayDown_23 {g : zG} {o : Bool} {a s : Nat} (ha : zSt a s) {C R : Int} {M : zM} {q : Int → zM → Prop} {x1 x2 x3 x4 : Int} (W : (-2147483648 ≤ x4 ∧ x4 ≤ 2147483647) ∧ ((4 ≤ x4) → q x3 M) ∧ ((¬ (4 ≤ x4)) → (zLand M C R) ∧ (0 ≤ x1 ∧ x1 < C * R) ∧ (0 ≤ x4 ∧ x4 ≤ 3) ∧ (0 ≤ (alg C R x1 x4 1) ∧ (alg C R x1 x4 1) < 96) ∧ (-2147483648 ≤ (M (s + 1) (alg C R x1 x4 1)) ∧ (M (s + 1) (alg C R x1 x4 1)) ≤ 2147483647) ∧ (-2147483648 ≤ x2 ∧ x2 ≤ 2147483647) ∧ ((x2 ≤ (M (s + 1) (alg C R x1 x4 1))) → zT g (z1 o) mX7_wayDown (zQi (z1 o) q) 23 [(0, zA g a), (1, zI x1), (2, zI x2), (3, zI x3), (4, zI (x4 + 1))] [] M) ∧ ((¬ (x2 ≤ (M (s + 1) (alg C R x1 x4 1)))) → zT g (z1 o) mX7_wayDown (zQi (z1 o) q) 23 [(0, zA g a), (1, zI x1), (2, zI (M (s + 1) (alg C R x1 x4 1))), (3, zI x4), (4, zI (x4 + 1))] [] M))) : zT g (z1 o) mX7_wayDown (zQi (z1 o) q) 23 [(0, zA g a), (1, zI x1), (2, zI x2), (3, zI x3), (4, zI x4)] [] M := by
  refine zr_iload 4 dX7_wayDown_23 rfl ?_
  refine zr_iconst dX7_wayDown_25 ?_
  obtain ⟨c1, W⟩ := W
  refine zr_icmp_ge (tgt := 67) dX7_wayDown_26 (by decide) c1 ⟨by decide, by decide⟩ (fun h => ?_) (fun h => ?_)
  · have W := W.1 h
    refine zr_iload_n 3 dX7_wayDown_67 rfl ?_
    exact zt_iret dX7_wayDown_68 rfl W
  · have W := W.2 h
    refine zr_aload_n 0 dX7_wayDown_29 rfl ?_
    refine zr_getr (b := s) dX7_wayDown_30 fX7_26 (zst_0 ha) rfl (zst_f1 ha) (zsd_nz (zst_s ha)) ?_
    refine zr_getr (b := (s + 1)) dX7_wayDown_33 fX7_79 (zsd_0 (zst_s ha)) rfl (zsd_f0 (zst_s ha)) (Nat.succ_ne_zero _) ?_
    refine zr_aload_n 0 dX7_wayDown_36 rfl ?_
    refine zr_getr (b := 14) dX7_wayDown_37 fX7_22 (zst_0 ha) rfl (zst_f0 ha) (by decide) ?_
    refine zr_iload_n 1 dX7_wayDown_40 rfl ?_
    refine zr_iload 4 dX7_wayDown_41 rfl ?_
    obtain ⟨c2, W⟩ := W
    obtain ⟨c3, W⟩ := W
    obtain ⟨c4, W⟩ := W
    refine zt_callVi (As := [zI x1, zI x4]) (rest := [zA g (s + 1)]) dX7_wayDown_43 kX7_wayDown_97 rfl rfl rfl rfl (Nat.le_of_ble_eq_true rfl) (c_nbr c2 c3 c4) (fun r8 N10 h9 => ?_)
    rw [h9.1, h9.2]
    obtain ⟨c5, W⟩ := W
    refine zr_iald dX7_wayDown_46 (zsd_1 (zst_s ha)) (by decide) c5 ?_
    refine zr_istore (l' := [(0, zA g a), (1, zI x1), (2, zI x2), (3, zI x3), (4, zI x4), (5, zI (M (s + 1) (alg C R x1 x4 1)))]) dX7_wayDown_47 (by decide) [1, 2, 3, 4, 5, 0] rfl ?_
    refine zr_iload 5 dX7_wayDown_49 rfl ?_
    refine zr_iload_n 2 dX7_wayDown_51 rfl ?_
    obtain ⟨c6, W⟩ := W
    obtain ⟨c7, W⟩ := W
    refine zr_icmp_ge (tgt := 61) dX7_wayDown_52 (by decide) c6 c7 (fun h => ?_) (fun h => ?_)
    · have W := W.1 h
      refine zr_iinc (q := 4) (l' := [(0, zA g a), (1, zI x1), (2, zI x2), (3, zI x3), (4, zI (x4 + 1))]) dX7_wayDown_61 rfl (by decide) [1, 2, 3, 4, 0] rfl ?_
      refine zr_goto (tgt := 23) dX7_wayDown_64 (by decide) ?_
      exact W
    · have W := W.2 h
      refine zr_iload 5 dX7_wayDown_55 rfl ?_
      refine zr_istore_n (l' := [(0, zA g a), (1, zI x1), (2, zI (M (s + 1) (alg C R x1 x4 1))), (4, zI x4)]) dX7_wayDown_57 (by decide) [1, 2, 0, 4] rfl ?_
      refine zr_iload 3 dX7_wayDown_58 rfl ?_
      refine zr_istore_n (l' := [(0, zA g a), (1, zI x1), (2, zI (M (s + 1) (alg C R x1 x4 1))), (3, zI x4), (4, zI x4)]) dX7_wayDown_60 (by decide) [1, 2, 3, 0, 4] rfl ?_
      refine zr_iinc (q := 4) (l' := [(0, zA g a), (1, zI x1), (2, zI (M (s + 1) (alg C R x1 x4 1))), (3, zI x4), (4, zI (x4 + 1))]) dX7_wayDown_61 rfl (by decide) [1, 2, 3, 4, 0] rfl ?_
      refine zr_goto (tgt := 23) dX7_wayDown_64 (by decide) ?_
      exact W
theorem dX7_shaded_0 : decode cX7_shaded 0 = .ok (.iload_n 2, 1) := by decide +kernel
theorem dX7_shaded_1 : decode cX7_shaded 1 = .ok (.iconst 2, 1) := by decide +kernel
theorem dX7_shaded_2 : decode cX7_shaded 2 = .ok (.ixor, 1) := by decide +kernel
theorem dX7_shaded_3 : decode cX7_shaded 3 = .ok (.istore_n 3, 1) := by decide +kernel
theorem dX7_shaded_4 : decode cX7_shaded 4 = .ok (.aload_n 0, 1) := by decide +kernel
theorem dX7_shaded_5 : decode cX7_shaded 5 = .ok (.getfield 22, 3) := by decide +kernel
theorem dX7_shaded_8 : decode cX7_shaded 8 = .ok (.iload_n 2, 1) := by decide +kernel
theorem dX7_shaded_9 : decode cX7_shaded 9 = .ok (.invokevirtual 104, 3) := by decide +kernel
theorem dX7_shaded_12 : decode cX7_shaded 12 = .ok (.istore 4, 2) := by decide +kernel
theorem dX7_shaded_14 : decode cX7_shaded 14 = .ok (.iload_n 1, 1) := by decide +kernel
theorem dX7_shaded_15 : decode cX7_shaded 15 = .ok (.istore 5, 2) := by decide +kernel
theorem dX7_shaded_17 : decode cX7_shaded 17 = .ok (.aload_n 0, 1) := by decide +kernel
theorem dX7_shaded_18 : decode cX7_shaded 18 = .ok (.getfield 26, 3) := by decide +kernel
theorem dX7_shaded_21 : decode cX7_shaded 21 = .ok (.getfield 79, 3) := by decide +kernel
theorem dX7_shaded_24 : decode cX7_shaded 24 = .ok (.iload_n 1, 1) := by decide +kernel
theorem dX7_shaded_25 : decode cX7_shaded 25 = .ok (.iaload, 1) := by decide +kernel
theorem dX7_shaded_26 : decode cX7_shaded 26 = .ok (.istore 6, 2) := by decide +kernel
theorem dX7_shaded_28 : decode cX7_shaded 28 = .ok (.iconst 1, 1) := by decide +kernel
theorem dX7_shaded_29 : decode cX7_shaded 29 = .ok (.istore 7, 2) := by decide +kernel
theorem dX7_shaded_31 : decode cX7_shaded 31 = .ok (.iload 7, 2) := by decide +kernel
theorem dX7_shaded_33 : decode cX7_shaded 33 = .ok (.iload 4, 2) := by decide +kernel
theorem dX7_shaded_35 : decode cX7_shaded 35 = .ok (.if_icmp .ge 52, 3) := by decide +kernel
theorem dX7_shaded_38 : decode cX7_shaded 38 = .ok (.aload_n 0, 1) := by decide +kernel
theorem dX7_shaded_39 : decode cX7_shaded 39 = .ok (.getfield 22, 3) := by decide +kernel
theorem dX7_shaded_42 : decode cX7_shaded 42 = .ok (.iload 5, 2) := by decide +kernel
theorem dX7_shaded_44 : decode cX7_shaded 44 = .ok (.iload_n 3, 1) := by decide +kernel
theorem dX7_shaded_45 : decode cX7_shaded 45 = .ok (.invokevirtual 97, 3) := by decide +kernel
theorem dX7_shaded_48 : decode cX7_shaded 48 = .ok (.istore 5, 2) := by decide +kernel
theorem dX7_shaded_50 : decode cX7_shaded 50 = .ok (.iload 6, 2) := by decide +kernel
theorem dX7_shaded_52 : decode cX7_shaded 52 = .ok (.aload_n 0, 1) := by decide +kernel
theorem dX7_shaded_53 : decode cX7_shaded 53 = .ok (.getfield 26, 3) := by decide +kernel
theorem dX7_shaded_56 : decode cX7_shaded 56 = .ok (.getfield 94, 3) := by decide +kernel
theorem dX7_shaded_59 : decode cX7_shaded 59 = .ok (.iconst 1, 1) := by decide +kernel
theorem dX7_shaded_60 : decode cX7_shaded 60 = .ok (.iaload, 1) := by decide +kernel
theorem dX7_shaded_61 : decode cX7_shaded 61 = .ok (.iadd, 1) := by decide +kernel
theorem dX7_shaded_62 : decode cX7_shaded 62 = .ok (.istore 6, 2) := by decide +kernel
theorem dX7_shaded_64 : decode cX7_shaded 64 = .ok (.aload_n 0, 1) := by decide +kernel
theorem dX7_shaded_65 : decode cX7_shaded 65 = .ok (.getfield 26, 3) := by decide +kernel
theorem dX7_shaded_68 : decode cX7_shaded 68 = .ok (.getfield 79, 3) := by decide +kernel
theorem dX7_shaded_71 : decode cX7_shaded 71 = .ok (.iload 5, 2) := by decide +kernel
theorem dX7_shaded_73 : decode cX7_shaded 73 = .ok (.iaload, 1) := by decide +kernel
theorem dX7_shaded_74 : decode cX7_shaded 74 = .ok (.iload 6, 2) := by decide +kernel
theorem dX7_shaded_76 : decode cX7_shaded 76 = .ok (.if_icmp .lt 5, 3) := by decide +kernel
theorem dX7_shaded_79 : decode cX7_shaded 79 = .ok (.iconst 1, 1) := by decide +kernel
theorem dX7_shaded_80 : decode cX7_shaded 80 = .ok (.ireturn, 1) := by decide +kernel
theorem dX7_shaded_81 : decode cX7_shaded 81 = .ok (.iinc 7 1, 3) := by decide +kernel
theorem dX7_shaded_84 : decode cX7_shaded 84 = .ok (.goto (-53), 3) := by decide +kernel
theorem dX7_shaded_87 : decode cX7_shaded 87 = .ok (.iconst 0, 1) := by decide +kernel
theorem dX7_shaded_88 : decode cX7_shaded 88 = .ok (.ireturn, 1) := by decide +kernel
set_option maxRecDepth 100000 in
theorem SX7_shaded_0 {g : zG} {o : Bool} {a s : Nat} (ha : zSt a s) {C R : Int} {M : zM} {q : Int → zM → Prop} {x1 x2 : Int} (W : (0 ≤ x2 ∧ x2 ≤ 3) ∧ (zLand M C R) ∧ (0 ≤ x1 ∧ x1 < 96) ∧ zT g (z1 o) mX7_shaded (zQi (z1 o) q) 31 [(0, zA g a), (3, zI (if x2 < 2 then x2 + 2 else x2 - 2)), (4, zI (rnd C R x2)), (5, zI x1), (6, zI (M (s + 1) x1)), (7, zI 1)] [] M) : zT g (z1 o) mX7_shaded (zQi (z1 o) q) 0 [(0, zA g a), (1, zI x1), (2, zI x2)] [] M := by
  refine zr_iload_n 2 dX7_shaded_0 rfl ?_
  refine zr_iconst dX7_shaded_1 ?_
  obtain ⟨c1, W⟩ := W
  refine zr_ixor dX7_shaded_2 c1 ?_
  refine zr_istore_n (l' := [(0, zA g a), (1, zI x1), (2, zI x2), (3, zI (if x2 < 2 then x2 + 2 else x2 - 2))]) dX7_shaded_3 (by decide) [1, 2, 3, 0] rfl ?_
  refine zr_aload_n 0 dX7_shaded_4 rfl ?_
  refine zr_getr (b := 14) dX7_shaded_5 fX7_22 (zst_0 ha) rfl (zst_f0 ha) (by decide) ?_
  refine zr_iload_n 2 dX7_shaded_8 rfl ?_
  obtain ⟨c2, W⟩ := W
  refine zt_callVi (As := [zI x2]) (rest := []) dX7_shaded_9 kX7_shaded_104 rfl rfl rfl rfl (Nat.le_of_ble_eq_true rfl) (c_round c2 c1) (fun r4 N6 h5 => ?_)
  rw [h5.1, h5.2]
  refine zr_istore (l' := [(0, zA g a), (1, zI x1), (3, zI (if x2 < 2 then x2 + 2 else x2 - 2)), (4, zI (rnd C R x2))]) dX7_shaded_12 (by decide) [1, 2, 4, 0] rfl ?_
  refine zr_iload_n 1 dX7_shaded_14 rfl ?_
  refine zr_istore (l' := [(0, zA g a), (1, zI x1), (3, zI (if x2 < 2 then x2 + 2 else x2 - 2)), (4, zI (rnd C R x2)), (5, zI x1)]) dX7_shaded_15 (by decide) [1, 2, 3, 4, 0] rfl ?_
  refine zr_aload_n 0 dX7_shaded_17 rfl ?_
  refine zr_getr (b := s) dX7_shaded_18 fX7_26 (zst_0 ha) rfl (zst_f1 ha) (zsd_nz (zst_s ha)) ?_
  refine zr_getr (b := (s + 1)) dX7_shaded_21 fX7_79 (zsd_0 (zst_s ha)) rfl (zsd_f0 (zst_s ha)) (Nat.succ_ne_zero _) ?_
  refine zr_iload_n 1 dX7_shaded_24 rfl ?_
  obtain ⟨c3, W⟩ := W
  refine zr_iald dX7_shaded_25 (zsd_1 (zst_s ha)) (by decide) c3 ?_
  refine zr_istore (l' := [(0, zA g a), (3, zI (if x2 < 2 then x2 + 2 else x2 - 2)), (4, zI (rnd C R x2)), (5, zI x1), (6, zI (M (s + 1) x1))]) dX7_shaded_26 (by decide) [1, 3, 4, 5, 0] rfl ?_
  refine zr_iconst dX7_shaded_28 ?_
  refine zr_istore (l' := [(0, zA g a), (3, zI (if x2 < 2 then x2 + 2 else x2 - 2)), (4, zI (rnd C R x2)), (5, zI x1), (6, zI (M (s + 1) x1)), (7, zI 1)]) dX7_shaded_29 (by decide) [1, 2, 3, 4, 5, 0] rfl ?_
  exact W
set_option maxRecDepth 100000 in
theorem SX7_shaded_31 {g : zG} {o : Bool} {a s : Nat} (ha : zSt a s) {C R : Int} {M : zM} {q : Int → zM → Prop} {x3 x4 x5 x6 x7 : Int} (W : (-2147483648 ≤ x7 ∧ x7 ≤ 2147483647) ∧ (-2147483648 ≤ x4 ∧ x4 ≤ 2147483647) ∧ ((x4 ≤ x7) → q 0 M) ∧ ((¬ (x4 ≤ x7)) → (zLand M C R) ∧ (0 ≤ x5 ∧ x5 < C * R) ∧ (0 ≤ x3 ∧ x3 ≤ 3) ∧ (0 ≤ (alg C R x5 x3 1) ∧ (alg C R x5 x3 1) < 96) ∧ (-2147483648 ≤ (M (s + 1) (alg C R x5 x3 1)) ∧ (M (s + 1) (alg C R x5 x3 1)) ≤ 2147483647) ∧ (-2147483648 ≤ (x6 + (M (s + 3) 1)) ∧ (x6 + (M (s + 3) 1)) ≤ 2147483647) ∧ (((M (s + 1) (alg C R x5 x3 1)) < (x6 + (M (s + 3) 1))) → zT g (z1 o) mX7_shaded (zQi (z1 o) q) 31 [(0, zA g a), (3, zI x3), (4, zI x4), (5, zI (alg C R x5 x3 1)), (6, zI (x6 + (M (s + 3) 1))), (7, zI (x7 + 1))] [] M) ∧ ((¬ ((M (s + 1) (alg C R x5 x3 1)) < (x6 + (M (s + 3) 1)))) → q 1 M))) : zT g (z1 o) mX7_shaded (zQi (z1 o) q) 31 [(0, zA g a), (3, zI x3), (4, zI x4), (5, zI x5), (6, zI x6), (7, zI x7)] [] M := by
  refine zr_iload 5 dX7_shaded_31 rfl ?_
  refine zr_iload 2 dX7_shaded_33 rfl ?_
  obtain ⟨c1, W⟩ := W
  obtain ⟨c2, W⟩ := W
  refine zr_icmp_ge (tgt := 87) dX7_shaded_35 (by decide) c1 c2 (fun h => ?_) (fun h => ?_)
  · have W := W.1 h
    refine zr_iconst dX7_shaded_87 ?_
    exact zt_zret dX7_shaded_88 rfl (by decide) W
  · have W := W.2 h
    refine zr_aload_n 0 dX7_shaded_38 rfl ?_
    refine zr_getr (b := 14) dX7_shaded_39 fX7_22 (zst_0 ha) rfl (zst_f0 ha) (by decide) ?_
    refine zr_iload 3 dX7_shaded_42 rfl ?_
    refine zr_iload_n 1 dX7_shaded_44 rfl ?_
    obtain ⟨c3, W⟩ := W
    obtain ⟨c4, W⟩ := W
    obtain ⟨c5, W⟩ := W
    refine zt_callVi (As := [zI x5, zI x3]) (rest := []) dX7_shaded_45 kX7_shaded_97 rfl rfl rfl rfl (Nat.le_of_ble_eq_true rfl) (c_nbr c3 c4 c5) (fun r9 N11 h10 => ?_)
    rw [h10.1, h10.2]
    refine zr_istore (l' := [(0, zA g a), (3, zI x3), (4, zI x4), (5, zI (alg C R x5 x3 1)), (6, zI x6), (7, zI x7)]) dX7_shaded_48 (by decide) [1, 2, 3, 0, 4, 5] rfl ?_
    refine zr_iload 4 dX7_shaded_50 rfl ?_
    refine zr_aload_n 0 dX7_shaded_52 rfl ?_
    refine zr_getr (b := s) dX7_shaded_53 fX7_26 (zst_0 ha) rfl (zst_f1 ha) (zsd_nz (zst_s ha)) ?_
    refine zr_getr (b := (s + 3)) dX7_shaded_56 fX7_94 (zsd_0 (zst_s ha)) rfl (zsd_f2 (zst_s ha)) (Nat.succ_ne_zero _) ?_
    refine zr_iconst dX7_shaded_59 ?_
    refine zr_iald dX7_shaded_60 (zsd_3 (zst_s ha)) (by decide) ⟨by decide, by decide⟩ ?_
    refine zr_iadd dX7_shaded_61 ?_
    refine zr_istore (l' := [(0, zA g a), (3, zI x3), (4, zI x4), (5, zI (alg C R x5 x3 1)), (6, zI (x6 + (M (s + 3) 1))), (7, zI x7)]) dX7_shaded_62 (by decide) [1, 2, 3, 4, 0, 5] rfl ?_
    refine zr_aload_n 0 dX7_shaded_64 rfl ?_
    refine zr_getr (b := s) dX7_shaded_65 fX7_26 (zst_0 ha) rfl (zst_f1 ha) (zsd_nz (zst_s ha)) ?_
    refine zr_getr (b := (s + 1)) dX7_shaded_68 fX7_79 (zsd_0 (zst_s ha)) rfl (zsd_f0 (zst_s ha)) (Nat.succ_ne_zero _) ?_
    refine zr_iload 3 dX7_shaded_71 rfl ?_
    obtain ⟨c6, W⟩ := W
    refine zr_iald dX7_shaded_73 (zsd_1 (zst_s ha)) (by decide) c6 ?_
    refine zr_iload 4 dX7_shaded_74 rfl ?_
    obtain ⟨c7, W⟩ := W
    obtain ⟨c8, W⟩ := W
    refine zr_icmp_lt (tgt := 81) dX7_shaded_76 (by decide) c7 c8 (fun h => ?_) (fun h => ?_)
    · have W := W.1 h
      refine zr_iinc (q := 5) (l' := [(0, zA g a), (3, zI x3), (4, zI x4), (5, zI (alg C R x5 x3 1)), (6, zI (x6 + (M (s + 3) 1))), (7, zI (x7 + 1))]) dX7_shaded_81 rfl (by decide) [1, 2, 3, 4, 5, 0] rfl ?_
      refine zr_goto (tgt := 31) dX7_shaded_84 (by decide) ?_
      exact W
    · have W := W.2 h
      refine zr_iconst dX7_shaded_79 ?_
      exact zt_zret dX7_shaded_80 rfl (by decide) W
theorem dX7_isCrest_0 : decode cX7_isCrest 0 = .ok (.aload_n 0, 1) := by decide +kernel
theorem dX7_isCrest_1 : decode cX7_isCrest 1 = .ok (.getfield 26, 3) := by decide +kernel
theorem dX7_isCrest_4 : decode cX7_isCrest 4 = .ok (.getfield 79, 3) := by decide +kernel
theorem dX7_isCrest_7 : decode cX7_isCrest 7 = .ok (.iload_n 1, 1) := by decide +kernel
theorem dX7_isCrest_8 : decode cX7_isCrest 8 = .ok (.iaload, 1) := by decide +kernel
theorem dX7_isCrest_9 : decode cX7_isCrest 9 = .ok (.istore_n 3, 1) := by decide +kernel
theorem dX7_isCrest_10 : decode cX7_isCrest 10 = .ok (.iload_n 3, 1) := by decide +kernel
theorem dX7_isCrest_11 : decode cX7_isCrest 11 = .ok (.ifCond .le 51, 3) := by decide +kernel
theorem dX7_isCrest_14 : decode cX7_isCrest 14 = .ok (.iload_n 3, 1) := by decide +kernel
theorem dX7_isCrest_15 : decode cX7_isCrest 15 = .ok (.aload_n 0, 1) := by decide +kernel
theorem dX7_isCrest_16 : decode cX7_isCrest 16 = .ok (.getfield 26, 3) := by decide +kernel
theorem dX7_isCrest_19 : decode cX7_isCrest 19 = .ok (.getfield 79, 3) := by decide +kernel
theorem dX7_isCrest_22 : decode cX7_isCrest 22 = .ok (.aload_n 0, 1) := by decide +kernel
theorem dX7_isCrest_23 : decode cX7_isCrest 23 = .ok (.getfield 22, 3) := by decide +kernel
theorem dX7_isCrest_26 : decode cX7_isCrest 26 = .ok (.iload_n 1, 1) := by decide +kernel
theorem dX7_isCrest_27 : decode cX7_isCrest 27 = .ok (.iload_n 2, 1) := by decide +kernel
theorem dX7_isCrest_28 : decode cX7_isCrest 28 = .ok (.iconst 2, 1) := by decide +kernel
theorem dX7_isCrest_29 : decode cX7_isCrest 29 = .ok (.ixor, 1) := by decide +kernel
theorem dX7_isCrest_30 : decode cX7_isCrest 30 = .ok (.invokevirtual 97, 3) := by decide +kernel
theorem dX7_isCrest_33 : decode cX7_isCrest 33 = .ok (.iaload, 1) := by decide +kernel
theorem dX7_isCrest_34 : decode cX7_isCrest 34 = .ok (.if_icmp .lt 28, 3) := by decide +kernel
theorem dX7_isCrest_37 : decode cX7_isCrest 37 = .ok (.iload_n 3, 1) := by decide +kernel
theorem dX7_isCrest_38 : decode cX7_isCrest 38 = .ok (.aload_n 0, 1) := by decide +kernel
theorem dX7_isCrest_39 : decode cX7_isCrest 39 = .ok (.getfield 26, 3) := by decide +kernel
theorem dX7_isCrest_42 : decode cX7_isCrest 42 = .ok (.getfield 79, 3) := by decide +kernel
theorem dX7_isCrest_45 : decode cX7_isCrest 45 = .ok (.aload_n 0, 1) := by decide +kernel
theorem dX7_isCrest_46 : decode cX7_isCrest 46 = .ok (.getfield 22, 3) := by decide +kernel
theorem dX7_isCrest_49 : decode cX7_isCrest 49 = .ok (.iload_n 1, 1) := by decide +kernel
theorem dX7_isCrest_50 : decode cX7_isCrest 50 = .ok (.iload_n 2, 1) := by decide +kernel
theorem dX7_isCrest_51 : decode cX7_isCrest 51 = .ok (.invokevirtual 97, 3) := by decide +kernel
theorem dX7_isCrest_54 : decode cX7_isCrest 54 = .ok (.iaload, 1) := by decide +kernel
theorem dX7_isCrest_55 : decode cX7_isCrest 55 = .ok (.if_icmp .le 7, 3) := by decide +kernel
theorem dX7_isCrest_58 : decode cX7_isCrest 58 = .ok (.iconst 1, 1) := by decide +kernel
theorem dX7_isCrest_59 : decode cX7_isCrest 59 = .ok (.goto 4, 3) := by decide +kernel
theorem dX7_isCrest_62 : decode cX7_isCrest 62 = .ok (.iconst 0, 1) := by decide +kernel
theorem dX7_isCrest_63 : decode cX7_isCrest 63 = .ok (.ireturn, 1) := by decide +kernel
set_option maxRecDepth 100000 in
theorem SX7_isCrest_0 {g : zG} {o : Bool} {a s : Nat} (ha : zSt a s) {C R : Int} {M : zM} {q : Int → zM → Prop} {x1 x2 : Int} (W : (0 ≤ x1 ∧ x1 < 96) ∧ (-2147483648 ≤ (M (s + 1) x1) ∧ (M (s + 1) x1) ≤ 2147483647) ∧ (((M (s + 1) x1) ≤ 0) → q 0 M) ∧ ((¬ ((M (s + 1) x1) ≤ 0)) → (0 ≤ x2 ∧ x2 ≤ 3) ∧ (zLand M C R) ∧ (0 ≤ x1 ∧ x1 < C * R) ∧ (0 ≤ (if x2 < 2 then x2 + 2 else x2 - 2) ∧ (if x2 < 2 then x2 + 2 else x2 - 2) ≤ 3) ∧ (0 ≤ (alg C R x1 (if x2 < 2 then x2 + 2 else x2 - 2) 1) ∧ (alg C R x1 (if x2 < 2 then x2 + 2 else x2 - 2) 1) < 96) ∧ (-2147483648 ≤ (M (s + 1) (alg C R x1 (if x2 < 2 then x2 + 2 else x2 - 2) 1)) ∧ (M (s + 1) (alg C R x1 (if x2 < 2 then x2 + 2 else x2 - 2) 1)) ≤ 2147483647) ∧ (((M (s + 1) x1) < (M (s + 1) (alg C R x1 (if x2 < 2 then x2 + 2 else x2 - 2) 1))) → q 0 M) ∧ ((¬ ((M (s + 1) x1) < (M (s + 1) (alg C R x1 (if x2 < 2 then x2 + 2 else x2 - 2) 1)))) → (0 ≤ (alg C R x1 x2 1) ∧ (alg C R x1 x2 1) < 96) ∧ (-2147483648 ≤ (M (s + 1) (alg C R x1 x2 1)) ∧ (M (s + 1) (alg C R x1 x2 1)) ≤ 2147483647) ∧ (((M (s + 1) x1) ≤ (M (s + 1) (alg C R x1 x2 1))) → q 0 M) ∧ ((¬ ((M (s + 1) x1) ≤ (M (s + 1) (alg C R x1 x2 1)))) → q 1 M)))) : zT g (z1 o) mX7_isCrest (zQi (z1 o) q) 0 [(0, zA g a), (1, zI x1), (2, zI x2)] [] M := by
  refine zr_aload_n 0 dX7_isCrest_0 rfl ?_
  refine zr_getr (b := s) dX7_isCrest_1 fX7_26 (zst_0 ha) rfl (zst_f1 ha) (zsd_nz (zst_s ha)) ?_
  refine zr_getr (b := (s + 1)) dX7_isCrest_4 fX7_79 (zsd_0 (zst_s ha)) rfl (zsd_f0 (zst_s ha)) (Nat.succ_ne_zero _) ?_
  refine zr_iload_n 1 dX7_isCrest_7 rfl ?_
  obtain ⟨c1, W⟩ := W
  refine zr_iald dX7_isCrest_8 (zsd_1 (zst_s ha)) (by decide) c1 ?_
  refine zr_istore_n (l' := [(0, zA g a), (1, zI x1), (2, zI x2), (3, zI (M (s + 1) x1))]) dX7_isCrest_9 (by decide) [1, 2, 3, 0] rfl ?_
  refine zr_iload_n 3 dX7_isCrest_10 rfl ?_
  obtain ⟨c2, W⟩ := W
  refine zr_if_le (tgt := 62) dX7_isCrest_11 (by decide) c2 (fun h => ?_) (fun h => ?_)
  · have W := W.1 h
    refine zr_iconst dX7_isCrest_62 ?_
    exact zt_zret dX7_isCrest_63 rfl (by decide) W
  · have W := W.2 h
    refine zr_iload_n 3 dX7_isCrest_14 rfl ?_
    refine zr_aload_n 0 dX7_isCrest_15 rfl ?_
    refine zr_getr (b := s) dX7_isCrest_16 fX7_26 (zst_0 ha) rfl (zst_f1 ha) (zsd_nz (zst_s ha)) ?_
    refine zr_getr (b := (s + 1)) dX7_isCrest_19 fX7_79 (zsd_0 (zst_s ha)) rfl (zsd_f0 (zst_s ha)) (Nat.succ_ne_zero _) ?_
    refine zr_aload_n 0 dX7_isCrest_22 rfl ?_
    refine zr_getr (b := 14) dX7_isCrest_23 fX7_22 (zst_0 ha) rfl (zst_f0 ha) (by decide) ?_
    refine zr_iload_n 1 dX7_isCrest_26 rfl ?_
    refine zr_iload_n 2 dX7_isCrest_27 rfl ?_
    refine zr_iconst dX7_isCrest_28 ?_
    obtain ⟨c3, W⟩ := W
    refine zr_ixor dX7_isCrest_29 c3 ?_
    obtain ⟨c4, W⟩ := W
    obtain ⟨c5, W⟩ := W
    obtain ⟨c6, W⟩ := W
    refine zt_callVi (As := [zI x1, zI (if x2 < 2 then x2 + 2 else x2 - 2)]) (rest := [zA g (s + 1), zI (M (s + 1) x1)]) dX7_isCrest_30 kX7_isCrest_97 rfl rfl rfl rfl (Nat.le_of_ble_eq_true rfl) (c_nbr c4 c5 c6) (fun r14 N16 h15 => ?_)
    rw [h15.1, h15.2]
    obtain ⟨c7, W⟩ := W
    refine zr_iald dX7_isCrest_33 (zsd_1 (zst_s ha)) (by decide) c7 ?_
    obtain ⟨c8, W⟩ := W
    refine zr_icmp_lt (tgt := 62) dX7_isCrest_34 (by decide) c2 c8 (fun h => ?_) (fun h => ?_)
    · have W := W.1 h
      refine zr_iconst dX7_isCrest_62 ?_
      exact zt_zret dX7_isCrest_63 rfl (by decide) W
    · have W := W.2 h
      refine zr_iload_n 3 dX7_isCrest_37 rfl ?_
      refine zr_aload_n 0 dX7_isCrest_38 rfl ?_
      refine zr_getr (b := s) dX7_isCrest_39 fX7_26 (zst_0 ha) rfl (zst_f1 ha) (zsd_nz (zst_s ha)) ?_
      refine zr_getr (b := (s + 1)) dX7_isCrest_42 fX7_79 (zsd_0 (zst_s ha)) rfl (zsd_f0 (zst_s ha)) (Nat.succ_ne_zero _) ?_
      refine zr_aload_n 0 dX7_isCrest_45 rfl ?_
      refine zr_getr (b := 14) dX7_isCrest_46 fX7_22 (zst_0 ha) rfl (zst_f0 ha) (by decide) ?_
      refine zr_iload_n 1 dX7_isCrest_49 rfl ?_
      refine zr_iload_n 2 dX7_isCrest_50 rfl ?_
      refine zt_callVi (As := [zI x1, zI x2]) (rest := [zA g (s + 1), zI (M (s + 1) x1)]) dX7_isCrest_51 kX7_isCrest_97 rfl rfl rfl rfl (Nat.le_of_ble_eq_true rfl) (c_nbr c4 c5 c3) (fun r11 N13 h12 => ?_)
      rw [h12.1, h12.2]
      obtain ⟨c9, W⟩ := W
      refine zr_iald dX7_isCrest_54 (zsd_1 (zst_s ha)) (by decide) c9 ?_
      obtain ⟨c10, W⟩ := W
      refine zr_icmp_le (tgt := 62) dX7_isCrest_55 (by decide) c2 c10 (fun h => ?_) (fun h => ?_)
      · have W := W.1 h
        refine zr_iconst dX7_isCrest_62 ?_
        exact zt_zret dX7_isCrest_63 rfl (by decide) W
      · have W := W.2 h
        refine zr_iconst dX7_isCrest_58 ?_
        refine zr_goto (tgt := 63) dX7_isCrest_59 (by decide) ?_
        exact zt_zret dX7_isCrest_63 rfl (by decide) W
