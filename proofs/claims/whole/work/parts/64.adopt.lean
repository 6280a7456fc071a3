theorem dX2_numberCells_0 : decode cX2_numberCells 0 = .ok (.iconst 0, 1) := by decide +kernel
theorem dX2_numberCells_1 : decode cX2_numberCells 1 = .ok (.istore_n 1, 1) := by decide +kernel
theorem dX2_numberCells_2 : decode cX2_numberCells 2 = .ok (.iload_n 1, 1) := by decide +kernel
theorem dX2_numberCells_3 : decode cX2_numberCells 3 = .ok (.aload_n 0, 1) := by decide +kernel
theorem dX2_numberCells_4 : decode cX2_numberCells 4 = .ok (.getfield 37, 3) := by decide +kernel
theorem dX2_numberCells_7 : decode cX2_numberCells 7 = .ok (.if_icmp .ge 48, 3) := by decide +kernel
theorem dX2_numberCells_10 : decode cX2_numberCells 10 = .ok (.iconst 0, 1) := by decide +kernel
theorem dX2_numberCells_11 : decode cX2_numberCells 11 = .ok (.istore_n 2, 1) := by decide +kernel
theorem dX2_numberCells_12 : decode cX2_numberCells 12 = .ok (.iload_n 2, 1) := by decide +kernel
theorem dX2_numberCells_13 : decode cX2_numberCells 13 = .ok (.aload_n 0, 1) := by decide +kernel
theorem dX2_numberCells_14 : decode cX2_numberCells 14 = .ok (.getfield 33, 3) := by decide +kernel
theorem dX2_numberCells_17 : decode cX2_numberCells 17 = .ok (.if_icmp .ge 32, 3) := by decide +kernel
theorem dX2_numberCells_20 : decode cX2_numberCells 20 = .ok (.iload_n 1, 1) := by decide +kernel
theorem dX2_numberCells_21 : decode cX2_numberCells 21 = .ok (.aload_n 0, 1) := by decide +kernel
theorem dX2_numberCells_22 : decode cX2_numberCells 22 = .ok (.getfield 33, 3) := by decide +kernel
theorem dX2_numberCells_25 : decode cX2_numberCells 25 = .ok (.imul, 1) := by decide +kernel
theorem dX2_numberCells_26 : decode cX2_numberCells 26 = .ok (.iload_n 2, 1) := by decide +kernel
theorem dX2_numberCells_27 : decode cX2_numberCells 27 = .ok (.iadd, 1) := by decide +kernel
theorem dX2_numberCells_28 : decode cX2_numberCells 28 = .ok (.istore_n 3, 1) := by decide +kernel
theorem dX2_numberCells_29 : decode cX2_numberCells 29 = .ok (.aload_n 0, 1) := by decide +kernel
theorem dX2_numberCells_30 : decode cX2_numberCells 30 = .ok (.getfield 9, 3) := by decide +kernel
theorem dX2_numberCells_33 : decode cX2_numberCells 33 = .ok (.iload_n 3, 1) := by decide +kernel
theorem dX2_numberCells_34 : decode cX2_numberCells 34 = .ok (.iload_n 2, 1) := by decide +kernel
theorem dX2_numberCells_35 : decode cX2_numberCells 35 = .ok (.iastore, 1) := by decide +kernel
theorem dX2_numberCells_36 : decode cX2_numberCells 36 = .ok (.aload_n 0, 1) := by decide +kernel
theorem dX2_numberCells_37 : decode cX2_numberCells 37 = .ok (.getfield 15, 3) := by decide +kernel
theorem dX2_numberCells_40 : decode cX2_numberCells 40 = .ok (.iload_n 3, 1) := by decide +kernel
theorem dX2_numberCells_41 : decode cX2_numberCells 41 = .ok (.iload_n 1, 1) := by decide +kernel
theorem dX2_numberCells_42 : decode cX2_numberCells 42 = .ok (.iastore, 1) := by decide +kernel
theorem dX2_numberCells_43 : decode cX2_numberCells 43 = .ok (.iinc 2 1, 3) := by decide +kernel
theorem dX2_numberCells_46 : decode cX2_numberCells 46 = .ok (.goto (-34), 3) := by decide +kernel
theorem dX2_numberCells_49 : decode cX2_numberCells 49 = .ok (.iinc 1 1, 3) := by decide +kernel
theorem dX2_numberCells_52 : decode cX2_numberCells 52 = .ok (.goto (-50), 3) := by decide +kernel
theorem dX2_numberCells_55 : decode cX2_numberCells 55 = .ok (.return_, 1) := by decide +kernel
set_option maxRecDepth 100000 in
theorem SX2_numberCells_0 {g : zG} {o : Bool} {M : zM} {q : zM → Prop} (W : zT g (z1 o) mX2_numberCells (zQv (z1 o) q) 2 [(0, zA g 14), (1, zI 0)] [] M) : zT g (z1 o) mX2_numberCells (zQv (z1 o) q) 0 [(0, zA g 14)] [] M := by
  refine zr_iconst dX2_numberCells_0 ?_
  refine zr_istore_n (l' := [(0, zA g 14), (1, zI 0)]) dX2_numberCells_1 (by decide) [1, 0] rfl ?_
  exact W
set_option maxRecDepth 100000 in
theorem SX2_numberCells_2 {g : zG} {o : Bool} {M : zM} {q : zM → Prop} {x1 : Int} (W : (-2147483648 ≤ x1 ∧ x1 ≤ 2147483647) ∧ (-2147483648 ≤ (M 14 1) ∧ (M 14 1) ≤ 2147483647) ∧ (((M 14 1) ≤ x1) → q M) ∧ ((¬ ((M 14 1) ≤ x1)) → zT g (z1 o) mX2_numberCells (zQv (z1 o) q) 12 [(0, zA g 14), (1, zI x1), (2, zI 0)] [] M)) : zT g (z1 o) mX2_numberCells (zQv (z1 o) q) 2 [(0, zA g 14), (1, zI x1)] [] M := by
  refine zr_iload_n 1 dX2_numberCells_2 rfl ?_
  refine zr_aload_n 0 dX2_numberCells_3 rfl ?_
  refine zt_geti 1 rfl dX2_numberCells_4 fX2_37 rfl (by decide) ?_
  obtain ⟨c1, W⟩ := W
  obtain ⟨c2, W⟩ := W
  refine zr_icmp_ge (tgt := 55) dX2_numberCells_7 (by decide) c1 c2 (fun h => ?_) (fun h => ?_)
  · have W := W.1 h
    exact zt_ret dX2_numberCells_55 rfl W
  · have W := W.2 h
    refine zr_iconst dX2_numberCells_10 ?_
    refine zr_istore_n (l' := [(0, zA g 14), (1, zI x1), (2, zI 0)]) dX2_numberCells_11 (by decide) [1, 2, 0] rfl ?_
    exact W
set_option maxRecDepth 100000 in
theorem SX2_numberCells_12 {g : zG} {o : Bool} {M : zM} {q : zM → Prop} {x1 x2 : Int} (W : (-2147483648 ≤ x2 ∧ x2 ≤ 2147483647) ∧ (-2147483648 ≤ (M 14 0) ∧ (M 14 0) ≤ 2147483647) ∧ (((M 14 0) ≤ x2) → zT g (z1 o) mX2_numberCells (zQv (z1 o) q) 2 [(0, zA g 14), (1, zI (x1 + 1))] [] M) ∧ ((¬ ((M 14 0) ≤ x2)) → (0 ≤ ((x1 * (M 14 0)) + x2) ∧ ((x1 * (M 14 0)) + x2) < 96) ∧ ∀ N4 : zM, N4 = zu M 15 ((x1 * (M 14 0)) + x2) x2 → zT g (z1 o) mX2_numberCells (zQv (z1 o) q) 12 [(0, zA g 14), (1, zI x1), (2, zI (x2 + 1))] [] (zu N4 16 ((x1 * (M 14 0)) + x2) x1))) : zT g (z1 o) mX2_numberCells (zQv (z1 o) q) 12 [(0, zA g 14), (1, zI x1), (2, zI x2)] [] M := by
  refine zr_iload_n 2 dX2_numberCells_12 rfl ?_
  refine zr_aload_n 0 dX2_numberCells_13 rfl ?_
  refine zt_geti 0 rfl dX2_numberCells_14 fX2_33 rfl (by decide) ?_
  obtain ⟨c1, W⟩ := W
  obtain ⟨c2, W⟩ := W
  refine zr_icmp_ge (tgt := 49) dX2_numberCells_17 (by decide) c1 c2 (fun h => ?_) (fun h => ?_)
  · have W := W.1 h
    refine zr_iinc (q := 1) (l' := [(0, zA g 14), (1, zI (x1 + 1))]) dX2_numberCells_49 rfl (by decide) [1, 0] rfl ?_
    refine zr_goto (tgt := 2) dX2_numberCells_52 (by decide) ?_
    exact W
  · have W := W.2 h
    refine zr_iload_n 1 dX2_numberCells_20 rfl ?_
    refine zr_aload_n 0 dX2_numberCells_21 rfl ?_
    refine zt_geti 0 rfl dX2_numberCells_22 fX2_33 rfl (by decide) ?_
    refine zr_imul dX2_numberCells_25 ?_
    refine zr_iload_n 2 dX2_numberCells_26 rfl ?_
    refine zr_iadd dX2_numberCells_27 ?_
    refine zr_istore_n (l' := [(0, zA g 14), (1, zI x1), (2, zI x2), (3, zI ((x1 * (M 14 0)) + x2))]) dX2_numberCells_28 (by decide) [1, 2, 3, 0] rfl ?_
    refine zr_aload_n 0 dX2_numberCells_29 rfl ?_
    refine zr_getr (b := 15) dX2_numberCells_30 fX2_9 rfl rfl rfl (by decide) ?_
    refine zr_iload_n 3 dX2_numberCells_33 rfl ?_
    refine zr_iload_n 2 dX2_numberCells_34 rfl ?_
    obtain ⟨c3, W⟩ := W
    refine zr_iast dX2_numberCells_35 rfl (by decide) c3 ?_
    refine zr_aload_n 0 dX2_numberCells_36 rfl ?_
    refine zr_getr (b := 16) dX2_numberCells_37 fX2_15 rfl rfl rfl (by decide) ?_
    refine zr_iload_n 3 dX2_numberCells_40 rfl ?_
    refine zr_iload_n 1 dX2_numberCells_41 rfl ?_
    obtain ⟨N4, e5⟩ : ∃ N : zM, N = zu M 15 ((x1 * (M 14 0)) + x2) x2 := ⟨_, rfl⟩
    rw [← e5]
    have W := W N4 e5
    refine zr_iast dX2_numberCells_42 rfl (by decide) c3 ?_
    refine zr_iinc (q := 2) (l' := [(0, zA g 14), (1, zI x1), (2, zI (x2 + 1))]) dX2_numberCells_43 rfl (by decide) [1, 2, 0] rfl ?_
    refine zr_goto (tgt := 12) dX2_numberCells_46 (by decide) ?_
    exact W
theorem dX2_joinCells_0 : decode cX2_joinCells 0 = .ok (.iconst 0, 1) := by decide +kernel
theorem dX2_joinCells_1 : decode cX2_joinCells 1 = .ok (.istore_n 1, 1) := by decide +kernel
theorem dX2_joinCells_2 : decode cX2_joinCells 2 = .ok (.iload_n 1, 1) := by decide +kernel
theorem dX2_joinCells_3 : decode cX2_joinCells 3 = .ok (.aload_n 0, 1) := by decide +kernel
theorem dX2_joinCells_4 : decode cX2_joinCells 4 = .ok (.getfield 38, 3) := by decide +kernel
theorem dX2_joinCells_7 : decode cX2_joinCells 7 = .ok (.if_icmp .ge 85, 3) := by decide +kernel
theorem dX2_joinCells_10 : decode cX2_joinCells 10 = .ok (.aload_n 0, 1) := by decide +kernel
theorem dX2_joinCells_11 : decode cX2_joinCells 11 = .ok (.getfield 18, 3) := by decide +kernel
theorem dX2_joinCells_14 : decode cX2_joinCells 14 = .ok (.iload_n 1, 1) := by decide +kernel
theorem dX2_joinCells_15 : decode cX2_joinCells 15 = .ok (.iconst 4, 1) := by decide +kernel
theorem dX2_joinCells_16 : decode cX2_joinCells 16 = .ok (.imul, 1) := by decide +kernel
theorem dX2_joinCells_17 : decode cX2_joinCells 17 = .ok (.aload_n 0, 1) := by decide +kernel
theorem dX2_joinCells_18 : decode cX2_joinCells 18 = .ok (.iload_n 1, 1) := by decide +kernel
theorem dX2_joinCells_19 : decode cX2_joinCells 19 = .ok (.iconst 1, 1) := by decide +kernel
theorem dX2_joinCells_20 : decode cX2_joinCells 20 = .ok (.iconst 0, 1) := by decide +kernel
theorem dX2_joinCells_21 : decode cX2_joinCells 21 = .ok (.invokevirtual 60, 3) := by decide +kernel
theorem dX2_joinCells_24 : decode cX2_joinCells 24 = .ok (.iastore, 1) := by decide +kernel
theorem dX2_joinCells_25 : decode cX2_joinCells 25 = .ok (.aload_n 0, 1) := by decide +kernel
theorem dX2_joinCells_26 : decode cX2_joinCells 26 = .ok (.getfield 18, 3) := by decide +kernel
theorem dX2_joinCells_29 : decode cX2_joinCells 29 = .ok (.iload_n 1, 1) := by decide +kernel
theorem dX2_joinCells_30 : decode cX2_joinCells 30 = .ok (.iconst 4, 1) := by decide +kernel
theorem dX2_joinCells_31 : decode cX2_joinCells 31 = .ok (.imul, 1) := by decide +kernel
theorem dX2_joinCells_32 : decode cX2_joinCells 32 = .ok (.iconst 1, 1) := by decide +kernel
theorem dX2_joinCells_33 : decode cX2_joinCells 33 = .ok (.iadd, 1) := by decide +kernel
theorem dX2_joinCells_34 : decode cX2_joinCells 34 = .ok (.aload_n 0, 1) := by decide +kernel
theorem dX2_joinCells_35 : decode cX2_joinCells 35 = .ok (.iload_n 1, 1) := by decide +kernel
theorem dX2_joinCells_36 : decode cX2_joinCells 36 = .ok (.iconst 0, 1) := by decide +kernel
theorem dX2_joinCells_37 : decode cX2_joinCells 37 = .ok (.iconst 1, 1) := by decide +kernel
theorem dX2_joinCells_38 : decode cX2_joinCells 38 = .ok (.invokevirtual 60, 3) := by decide +kernel
theorem dX2_joinCells_41 : decode cX2_joinCells 41 = .ok (.iastore, 1) := by decide +kernel
theorem dX2_joinCells_42 : decode cX2_joinCells 42 = .ok (.aload_n 0, 1) := by decide +kernel
theorem dX2_joinCells_43 : decode cX2_joinCells 43 = .ok (.getfield 18, 3) := by decide +kernel
theorem dX2_joinCells_46 : decode cX2_joinCells 46 = .ok (.iload_n 1, 1) := by decide +kernel
theorem dX2_joinCells_47 : decode cX2_joinCells 47 = .ok (.iconst 4, 1) := by decide +kernel
theorem dX2_joinCells_48 : decode cX2_joinCells 48 = .ok (.imul, 1) := by decide +kernel
theorem dX2_joinCells_49 : decode cX2_joinCells 49 = .ok (.iconst 2, 1) := by decide +kernel
theorem dX2_joinCells_50 : decode cX2_joinCells 50 = .ok (.iadd, 1) := by decide +kernel
theorem dX2_joinCells_51 : decode cX2_joinCells 51 = .ok (.aload_n 0, 1) := by decide +kernel
theorem dX2_joinCells_52 : decode cX2_joinCells 52 = .ok (.iload_n 1, 1) := by decide +kernel
theorem dX2_joinCells_53 : decode cX2_joinCells 53 = .ok (.aload_n 0, 1) := by decide +kernel
theorem dX2_joinCells_54 : decode cX2_joinCells 54 = .ok (.getfield 33, 3) := by decide +kernel
theorem dX2_joinCells_57 : decode cX2_joinCells 57 = .ok (.iconst 1, 1) := by decide +kernel
theorem dX2_joinCells_58 : decode cX2_joinCells 58 = .ok (.isub, 1) := by decide +kernel
theorem dX2_joinCells_59 : decode cX2_joinCells 59 = .ok (.iconst 0, 1) := by decide +kernel
theorem dX2_joinCells_60 : decode cX2_joinCells 60 = .ok (.invokevirtual 60, 3) := by decide +kernel
theorem dX2_joinCells_63 : decode cX2_joinCells 63 = .ok (.iastore, 1) := by decide +kernel
theorem dX2_joinCells_64 : decode cX2_joinCells 64 = .ok (.aload_n 0, 1) := by decide +kernel
theorem dX2_joinCells_65 : decode cX2_joinCells 65 = .ok (.getfield 18, 3) := by decide +kernel
theorem dX2_joinCells_68 : decode cX2_joinCells 68 = .ok (.iload_n 1, 1) := by decide +kernel
theorem dX2_joinCells_69 : decode cX2_joinCells 69 = .ok (.iconst 4, 1) := by decide +kernel
theorem dX2_joinCells_70 : decode cX2_joinCells 70 = .ok (.imul, 1) := by decide +kernel
theorem dX2_joinCells_71 : decode cX2_joinCells 71 = .ok (.iconst 3, 1) := by decide +kernel
theorem dX2_joinCells_72 : decode cX2_joinCells 72 = .ok (.iadd, 1) := by decide +kernel
theorem dX2_joinCells_73 : decode cX2_joinCells 73 = .ok (.aload_n 0, 1) := by decide +kernel
theorem dX2_joinCells_74 : decode cX2_joinCells 74 = .ok (.iload_n 1, 1) := by decide +kernel
theorem dX2_joinCells_75 : decode cX2_joinCells 75 = .ok (.iconst 0, 1) := by decide +kernel
theorem dX2_joinCells_76 : decode cX2_joinCells 76 = .ok (.aload_n 0, 1) := by decide +kernel
theorem dX2_joinCells_77 : decode cX2_joinCells 77 = .ok (.getfield 37, 3) := by decide +kernel
theorem dX2_joinCells_80 : decode cX2_joinCells 80 = .ok (.iconst 1, 1) := by decide +kernel
theorem dX2_joinCells_81 : decode cX2_joinCells 81 = .ok (.isub, 1) := by decide +kernel
theorem dX2_joinCells_82 : decode cX2_joinCells 82 = .ok (.invokevirtual 60, 3) := by decide +kernel
theorem dX2_joinCells_85 : decode cX2_joinCells 85 = .ok (.iastore, 1) := by decide +kernel
theorem dX2_joinCells_86 : decode cX2_joinCells 86 = .ok (.iinc 1 1, 3) := by decide +kernel
theorem dX2_joinCells_89 : decode cX2_joinCells 89 = .ok (.goto (-87), 3) := by decide +kernel
theorem dX2_joinCells_92 : decode cX2_joinCells 92 = .ok (.return_, 1) := by decide +kernel
set_option maxRecDepth 100000 in
theorem SX2_joinCells_0 {g : zG} {o : Bool} {M : zM} {q : zM → Prop} (W : zT g (z1 o) mX2_joinCells (zQv (z1 o) q) 2 [(0, zA g 14), (1, zI 0)] [] M) : zT g (z1 o) mX2_joinCells (zQv (z1 o) q) 0 [(0, zA g 14)] [] M := by
  refine zr_iconst dX2_joinCells_0 ?_
  refine zr_istore_n (l' := [(0, zA g 14), (1, zI 0)]) dX2_joinCells_1 (by decide) [1, 0] rfl ?_
  exact W
set_option maxRecDepth 100000 in
theorem SX2_joinCells_2 {g : zG} {o : Bool} {M : zM} {q : zM → Prop} {x1 : Int} (W : (-2147483648 ≤ x1 ∧ x1 ≤ 2147483647) ∧ (-2147483648 ≤ (M 14 2) ∧ (M 14 2) ≤ 2147483647) ∧ (((M 14 2) ≤ x1) → q M) ∧ ((¬ ((M 14 2) ≤ x1)) → ∃ q3 : Int → zM → Prop, zKi g (z1 o) mX2_moved [zA g 14, zI x1, zI 1, zI 0] M q3 ∧ ∀ (r4 : Int) (M5 : zM), q3 r4 M5 → (0 ≤ (x1 * 4) ∧ (x1 * 4) < 384) ∧ ∃ q9 : Int → zM → Prop, zKi g (z1 o) mX2_moved [zA g 14, zI x1, zI 0, zI 1] (zu M5 17 (x1 * 4) r4) q9 ∧ ∀ (r10 : Int) (M11 : zM), q9 r10 M11 → (0 ≤ ((x1 * 4) + 1) ∧ ((x1 * 4) + 1) < 384) ∧ ∃ q15 : Int → zM → Prop, zKi g (z1 o) mX2_moved [zA g 14, zI x1, zI (((zu M11 17 ((x1 * 4) + 1) r10) 14 0) - 1), zI 0] (zu M11 17 ((x1 * 4) + 1) r10) q15 ∧ ∀ (r16 : Int) (M17 : zM), q15 r16 M17 → (0 ≤ ((x1 * 4) + 2) ∧ ((x1 * 4) + 2) < 384) ∧ ∃ q21 : Int → zM → Prop, zKi g (z1 o) mX2_moved [zA g 14, zI x1, zI 0, zI (((zu M17 17 ((x1 * 4) + 2) r16) 14 1) - 1)] (zu M17 17 ((x1 * 4) + 2) r16) q21 ∧ ∀ (r22 : Int) (M23 : zM), q21 r22 M23 → (0 ≤ ((x1 * 4) + 3) ∧ ((x1 * 4) + 3) < 384) ∧ zT g (z1 o) mX2_joinCells (zQv (z1 o) q) 2 [(0, zA g 14), (1, zI (x1 + 1))] [] (zu M23 17 ((x1 * 4) + 3) r22))) : zT g (z1 o) mX2_joinCells (zQv (z1 o) q) 2 [(0, zA g 14), (1, zI x1)] [] M := by
  refine zr_iload_n 1 dX2_joinCells_2 rfl ?_
  refine zr_aload_n 0 dX2_joinCells_3 rfl ?_
  refine zt_geti 2 rfl dX2_joinCells_4 fX2_38 rfl (by decide) ?_
  obtain ⟨c1, W⟩ := W
  obtain ⟨c2, W⟩ := W
  refine zr_icmp_ge (tgt := 92) dX2_joinCells_7 (by decide) c1 c2 (fun h => ?_) (fun h => ?_)
  · have W := W.1 h
    exact zt_ret dX2_joinCells_92 rfl W
  · have W := W.2 h
    refine zr_aload_n 0 dX2_joinCells_10 rfl ?_
    refine zr_getr (b := 17) dX2_joinCells_11 fX2_18 rfl rfl rfl (by decide) ?_
    refine zr_iload_n 1 dX2_joinCells_14 rfl ?_
    refine zr_iconst dX2_joinCells_15 ?_
    refine zr_imul dX2_joinCells_16 ?_
    refine zr_aload_n 0 dX2_joinCells_17 rfl ?_
    refine zr_iload_n 1 dX2_joinCells_18 rfl ?_
    refine zr_iconst dX2_joinCells_19 ?_
    refine zr_iconst dX2_joinCells_20 ?_
    obtain ⟨q3, k7, W⟩ := W
    refine zt_callVi (As := [zI x1, zI 1, zI 0]) (rest := [zI (x1 * 4), zA g 17]) dX2_joinCells_21 kX2_joinCells_60 rfl rfl rfl rfl (Nat.le_of_ble_eq_true rfl) k7 (fun r4 M5 h6 => ?_)
    have W := W r4 M5 h6
    obtain ⟨c8, W⟩ := W
    refine zr_iast dX2_joinCells_24 rfl (by decide) c8 ?_
    refine zr_aload_n 0 dX2_joinCells_25 rfl ?_
    refine zr_getr (b := 17) dX2_joinCells_26 fX2_18 rfl rfl rfl (by decide) ?_
    refine zr_iload_n 1 dX2_joinCells_29 rfl ?_
    refine zr_iconst dX2_joinCells_30 ?_
    refine zr_imul dX2_joinCells_31 ?_
    refine zr_iconst dX2_joinCells_32 ?_
    refine zr_iadd dX2_joinCells_33 ?_
    refine zr_aload_n 0 dX2_joinCells_34 rfl ?_
    refine zr_iload_n 1 dX2_joinCells_35 rfl ?_
    refine zr_iconst dX2_joinCells_36 ?_
    refine zr_iconst dX2_joinCells_37 ?_
    obtain ⟨q9, k13, W⟩ := W
    refine zt_callVi (As := [zI x1, zI 0, zI 1]) (rest := [zI ((x1 * 4) + 1), zA g 17]) dX2_joinCells_38 kX2_joinCells_60 rfl rfl rfl rfl (Nat.le_of_ble_eq_true rfl) k13 (fun r10 M11 h12 => ?_)
    have W := W r10 M11 h12
    obtain ⟨c14, W⟩ := W
    refine zr_iast dX2_joinCells_41 rfl (by decide) c14 ?_
    refine zr_aload_n 0 dX2_joinCells_42 rfl ?_
    refine zr_getr (b := 17) dX2_joinCells_43 fX2_18 rfl rfl rfl (by decide) ?_
    refine zr_iload_n 1 dX2_joinCells_46 rfl ?_
    refine zr_iconst dX2_joinCells_47 ?_
    refine zr_imul dX2_joinCells_48 ?_
    refine zr_iconst dX2_joinCells_49 ?_
    refine zr_iadd dX2_joinCells_50 ?_
    refine zr_aload_n 0 dX2_joinCells_51 rfl ?_
    refine zr_iload_n 1 dX2_joinCells_52 rfl ?_
    refine zr_aload_n 0 dX2_joinCells_53 rfl ?_
    refine zt_geti 0 rfl dX2_joinCells_54 fX2_33 rfl (by decide) ?_
    refine zr_iconst dX2_joinCells_57 ?_
    refine zr_isub dX2_joinCells_58 ?_
    refine zr_iconst dX2_joinCells_59 ?_
    obtain ⟨q15, k19, W⟩ := W
    refine zt_callVi (As := [zI x1, zI (((zu M11 17 ((x1 * 4) + 1) r10) 14 0) - 1), zI 0]) (rest := [zI ((x1 * 4) + 2), zA g 17]) dX2_joinCells_60 kX2_joinCells_60 rfl rfl rfl rfl (Nat.le_of_ble_eq_true rfl) k19 (fun r16 M17 h18 => ?_)
    have W := W r16 M17 h18
    obtain ⟨c20, W⟩ := W
    refine zr_iast dX2_joinCells_63 rfl (by decide) c20 ?_
    refine zr_aload_n 0 dX2_joinCells_64 rfl ?_
    refine zr_getr (b := 17) dX2_joinCells_65 fX2_18 rfl rfl rfl (by decide) ?_
    refine zr_iload_n 1 dX2_joinCells_68 rfl ?_
    refine zr_iconst dX2_joinCells_69 ?_
    refine zr_imul dX2_joinCells_70 ?_
    refine zr_iconst dX2_joinCells_71 ?_
    refine zr_iadd dX2_joinCells_72 ?_
    refine zr_aload_n 0 dX2_joinCells_73 rfl ?_
    refine zr_iload_n 1 dX2_joinCells_74 rfl ?_
    refine zr_iconst dX2_joinCells_75 ?_
    refine zr_aload_n 0 dX2_joinCells_76 rfl ?_
    refine zt_geti 1 rfl dX2_joinCells_77 fX2_37 rfl (by decide) ?_
    refine zr_iconst dX2_joinCells_80 ?_
    refine zr_isub dX2_joinCells_81 ?_
    obtain ⟨q21, k25, W⟩ := W
    refine zt_callVi (As := [zI x1, zI 0, zI (((zu M17 17 ((x1 * 4) + 2) r16) 14 1) - 1)]) (rest := [zI ((x1 * 4) + 3), zA g 17]) dX2_joinCells_82 kX2_joinCells_60 rfl rfl rfl rfl (Nat.le_of_ble_eq_true rfl) k25 (fun r22 M23 h24 => ?_)
    have W := W r22 M23 h24
    obtain ⟨c26, W⟩ := W
    refine zr_iast dX2_joinCells_85 rfl (by decide) c26 ?_
    refine zr_iinc (q := 1) (l' := [(0, zA g 14), (1, zI (x1 + 1))]) dX2_joinCells_86 rfl (by decide) [1, 0] rfl ?_
    refine zr_goto (tgt := 2) dX2_joinCells_89 (by decide) ?_
    exact W
theorem dX2_shape_0 : decode cX2_shape 0 = .ok (.aload_n 0, 1) := by decide +kernel
theorem dX2_shape_1 : decode cX2_shape 1 = .ok (.aload_n 1, 1) := by decide +kernel
theorem dX2_shape_2 : decode cX2_shape 2 = .ok (.getfield 27, 3) := by decide +kernel
theorem dX2_shape_5 : decode cX2_shape 5 = .ok (.putfield 33, 3) := by decide +kernel
theorem dX2_shape_8 : decode cX2_shape 8 = .ok (.aload_n 0, 1) := by decide +kernel
theorem dX2_shape_9 : decode cX2_shape 9 = .ok (.aload_n 1, 1) := by decide +kernel
theorem dX2_shape_10 : decode cX2_shape 10 = .ok (.getfield 34, 3) := by decide +kernel
theorem dX2_shape_13 : decode cX2_shape 13 = .ok (.putfield 37, 3) := by decide +kernel
theorem dX2_shape_16 : decode cX2_shape 16 = .ok (.aload_n 0, 1) := by decide +kernel
theorem dX2_shape_17 : decode cX2_shape 17 = .ok (.aload_n 0, 1) := by decide +kernel
theorem dX2_shape_18 : decode cX2_shape 18 = .ok (.getfield 33, 3) := by decide +kernel
theorem dX2_shape_21 : decode cX2_shape 21 = .ok (.aload_n 0, 1) := by decide +kernel
theorem dX2_shape_22 : decode cX2_shape 22 = .ok (.getfield 37, 3) := by decide +kernel
theorem dX2_shape_25 : decode cX2_shape 25 = .ok (.imul, 1) := by decide +kernel
theorem dX2_shape_26 : decode cX2_shape 26 = .ok (.putfield 38, 3) := by decide +kernel
theorem dX2_shape_29 : decode cX2_shape 29 = .ok (.aload_n 0, 1) := by decide +kernel
theorem dX2_shape_30 : decode cX2_shape 30 = .ok (.aload_n 1, 1) := by decide +kernel
theorem dX2_shape_31 : decode cX2_shape 31 = .ok (.getfield 41, 3) := by decide +kernel
theorem dX2_shape_34 : decode cX2_shape 34 = .ok (.putfield 44, 3) := by decide +kernel
theorem dX2_shape_37 : decode cX2_shape 37 = .ok (.aload_n 0, 1) := by decide +kernel
theorem dX2_shape_38 : decode cX2_shape 38 = .ok (.aload_n 1, 1) := by decide +kernel
theorem dX2_shape_39 : decode cX2_shape 39 = .ok (.getfield 45, 3) := by decide +kernel
theorem dX2_shape_42 : decode cX2_shape 42 = .ok (.putfield 48, 3) := by decide +kernel
theorem dX2_shape_45 : decode cX2_shape 45 = .ok (.aload_n 0, 1) := by decide +kernel
theorem dX2_shape_46 : decode cX2_shape 46 = .ok (.iconst 0, 1) := by decide +kernel
theorem dX2_shape_47 : decode cX2_shape 47 = .ok (.putfield 49, 3) := by decide +kernel
theorem dX2_shape_50 : decode cX2_shape 50 = .ok (.iconst 0, 1) := by decide +kernel
theorem dX2_shape_51 : decode cX2_shape 51 = .ok (.istore_n 2, 1) := by decide +kernel
theorem dX2_shape_52 : decode cX2_shape 52 = .ok (.iload_n 2, 1) := by decide +kernel
theorem dX2_shape_53 : decode cX2_shape 53 = .ok (.aload_n 0, 1) := by decide +kernel
theorem dX2_shape_54 : decode cX2_shape 54 = .ok (.getfield 48, 3) := by decide +kernel
theorem dX2_shape_57 : decode cX2_shape 57 = .ok (.if_icmp .ge 48, 3) := by decide +kernel
theorem dX2_shape_60 : decode cX2_shape 60 = .ok (.aload_n 0, 1) := by decide +kernel
theorem dX2_shape_61 : decode cX2_shape 61 = .ok (.getfield 21, 3) := by decide +kernel
theorem dX2_shape_64 : decode cX2_shape 64 = .ok (.iload_n 2, 1) := by decide +kernel
theorem dX2_shape_65 : decode cX2_shape 65 = .ok (.aload_n 1, 1) := by decide +kernel
theorem dX2_shape_66 : decode cX2_shape 66 = .ok (.getfield 52, 3) := by decide +kernel
theorem dX2_shape_69 : decode cX2_shape 69 = .ok (.iload_n 2, 1) := by decide +kernel
theorem dX2_shape_70 : decode cX2_shape 70 = .ok (.iaload, 1) := by decide +kernel
theorem dX2_shape_71 : decode cX2_shape 71 = .ok (.iastore, 1) := by decide +kernel
theorem dX2_shape_72 : decode cX2_shape 72 = .ok (.aload_n 0, 1) := by decide +kernel
theorem dX2_shape_73 : decode cX2_shape 73 = .ok (.getfield 24, 3) := by decide +kernel
theorem dX2_shape_76 : decode cX2_shape 76 = .ok (.iload_n 2, 1) := by decide +kernel
theorem dX2_shape_77 : decode cX2_shape 77 = .ok (.aload_n 1, 1) := by decide +kernel
theorem dX2_shape_78 : decode cX2_shape 78 = .ok (.getfield 53, 3) := by decide +kernel
theorem dX2_shape_81 : decode cX2_shape 81 = .ok (.iload_n 2, 1) := by decide +kernel
theorem dX2_shape_82 : decode cX2_shape 82 = .ok (.iaload, 1) := by decide +kernel
theorem dX2_shape_83 : decode cX2_shape 83 = .ok (.iastore, 1) := by decide +kernel
theorem dX2_shape_84 : decode cX2_shape 84 = .ok (.aload_n 0, 1) := by decide +kernel
theorem dX2_shape_85 : decode cX2_shape 85 = .ok (.dup, 1) := by decide +kernel
theorem dX2_shape_86 : decode cX2_shape 86 = .ok (.getfield 49, 3) := by decide +kernel
theorem dX2_shape_89 : decode cX2_shape 89 = .ok (.aload_n 0, 1) := by decide +kernel
theorem dX2_shape_90 : decode cX2_shape 90 = .ok (.getfield 24, 3) := by decide +kernel
theorem dX2_shape_93 : decode cX2_shape 93 = .ok (.iload_n 2, 1) := by decide +kernel
theorem dX2_shape_94 : decode cX2_shape 94 = .ok (.iaload, 1) := by decide +kernel
theorem dX2_shape_95 : decode cX2_shape 95 = .ok (.iadd, 1) := by decide +kernel
theorem dX2_shape_96 : decode cX2_shape 96 = .ok (.putfield 49, 3) := by decide +kernel
theorem dX2_shape_99 : decode cX2_shape 99 = .ok (.iinc 2 1, 3) := by decide +kernel
theorem dX2_shape_102 : decode cX2_shape 102 = .ok (.goto (-50), 3) := by decide +kernel
theorem dX2_shape_105 : decode cX2_shape 105 = .ok (.aload_n 0, 1) := by decide +kernel
theorem dX2_shape_106 : decode cX2_shape 106 = .ok (.invokevirtual 54, 3) := by decide +kernel
theorem dX2_shape_109 : decode cX2_shape 109 = .ok (.aload_n 0, 1) := by decide +kernel
theorem dX2_shape_110 : decode cX2_shape 110 = .ok (.invokevirtual 57, 3) := by decide +kernel
theorem dX2_shape_113 : decode cX2_shape 113 = .ok (.return_, 1) := by decide +kernel
set_option maxRecDepth 100000 in
theorem SX2_shape_0 {g : zG} {o : Bool} {M : zM} {q : zM → Prop} (W : ∀ N1 : zM, N1 = zu M 14 0 (M 8 0) → ∀ N3 : zM, N3 = zu N1 14 1 (N1 8 1) → ∀ N5 : zM, N5 = zu N3 14 2 ((N3 14 0) * (N3 14 1)) → ∀ N7 : zM, N7 = zu N5 14 3 (N5 8 3) → ∀ N9 : zM, N9 = zu N7 14 4 (N7 8 6) → zT g (z1 o) mX2_shape (zQv (z1 o) q) 52 [(0, zA g 14), (1, zA g 8), (2, zI 0)] [] (zu N9 14 5 0)) : zT g (z1 o) mX2_shape (zQv (z1 o) q) 0 [(0, zA g 14), (1, zA g 8)] [] M := by
  refine zr_aload_n 0 dX2_shape_0 rfl ?_
  refine zr_aload_n 1 dX2_shape_1 rfl ?_
  refine zt_geti 0 rfl dX2_shape_2 fX2_27 rfl (by decide) ?_
  refine zt_puti 0 rfl dX2_shape_5 fX2_33 lcX2 ltX2_0 rfl rfl ?_
  refine zr_aload_n 0 dX2_shape_8 rfl ?_
  refine zr_aload_n 1 dX2_shape_9 rfl ?_
  refine zt_geti 1 rfl dX2_shape_10 fX2_34 rfl (by decide) ?_
  obtain ⟨N1, e2⟩ : ∃ N : zM, N = zu M 14 0 (M 8 0) := ⟨_, rfl⟩
  rw [← e2]
  have W := W N1 e2
  refine zt_puti 1 rfl dX2_shape_13 fX2_37 lcX2 ltX2_1 rfl rfl ?_
  refine zr_aload_n 0 dX2_shape_16 rfl ?_
  refine zr_aload_n 0 dX2_shape_17 rfl ?_
  refine zt_geti 0 rfl dX2_shape_18 fX2_33 rfl (by decide) ?_
  refine zr_aload_n 0 dX2_shape_21 rfl ?_
  refine zt_geti 1 rfl dX2_shape_22 fX2_37 rfl (by decide) ?_
  refine zr_imul dX2_shape_25 ?_
  obtain ⟨N3, e4⟩ : ∃ N : zM, N = zu N1 14 1 (N1 8 1) := ⟨_, rfl⟩
  rw [← e4]
  have W := W N3 e4
  refine zt_puti 2 rfl dX2_shape_26 fX2_38 lcX2 ltX2_2 rfl rfl ?_
  refine zr_aload_n 0 dX2_shape_29 rfl ?_
  refine zr_aload_n 1 dX2_shape_30 rfl ?_
  refine zt_geti 3 rfl dX2_shape_31 fX2_41 rfl (by decide) ?_
  obtain ⟨N5, e6⟩ : ∃ N : zM, N = zu N3 14 2 ((N3 14 0) * (N3 14 1)) := ⟨_, rfl⟩
  rw [← e6]
  have W := W N5 e6
  refine zt_puti 3 rfl dX2_shape_34 fX2_44 lcX2 ltX2_3 rfl rfl ?_
  refine zr_aload_n 0 dX2_shape_37 rfl ?_
  refine zr_aload_n 1 dX2_shape_38 rfl ?_
  refine zt_geti 6 rfl dX2_shape_39 fX2_45 rfl (by decide) ?_
  obtain ⟨N7, e8⟩ : ∃ N : zM, N = zu N5 14 3 (N5 8 3) := ⟨_, rfl⟩
  rw [← e8]
  have W := W N7 e8
  refine zt_puti 4 rfl dX2_shape_42 fX2_48 lcX2 ltX2_4 rfl rfl ?_
  refine zr_aload_n 0 dX2_shape_45 rfl ?_
  refine zr_iconst dX2_shape_46 ?_
  obtain ⟨N9, e10⟩ : ∃ N : zM, N = zu N7 14 4 (N7 8 6) := ⟨_, rfl⟩
  rw [← e10]
  have W := W N9 e10
  refine zt_puti 5 rfl dX2_shape_47 fX2_49 lcX2 ltX2_5 rfl rfl ?_
  refine zr_iconst dX2_shape_50 ?_
  refine zr_istore_n (l' := [(0, zA g 14), (1, zA g 8), (2, zI 0)]) dX2_shape_51 (by decide) [1, 2, 0] rfl ?_
  exact W
set_option maxRecDepth 100000 in
theorem SX2_shape_52 {g : zG} {o : Bool} {M : zM} {q : zM → Prop} {x2 : Int} (W : (-2147483648 ≤ x2 ∧ x2 ≤ 2147483647) ∧ (-2147483648 ≤ (M 14 4) ∧ (M 14 4) ≤ 2147483647) ∧ (((M 14 4) ≤ x2) → ∃ q3 : zM → Prop, zKv g (z1 o) mX2_numberCells [zA g 14] M q3 ∧ ∀ M5 : zM, q3 M5 → ∃ q8 : zM → Prop, zKv g (z1 o) mX2_joinCells [zA g 14] M5 q8 ∧ ∀ M10 : zM, q8 M10 → q M10) ∧ ((¬ ((M 14 4) ≤ x2)) → (0 ≤ x2 ∧ x2 < 8) ∧ ∀ N14 : zM, N14 = zu M 18 x2 (M 12 x2) → (0 ≤ x2 ∧ x2 < 8) ∧ ∀ N17 : zM, N17 = zu N14 19 x2 (N14 13 x2) → zT g (z1 o) mX2_shape (zQv (z1 o) q) 52 [(0, zA g 14), (1, zA g 8), (2, zI (x2 + 1))] [] (zu N17 14 5 ((N17 14 5) + (N17 19 x2))))) : zT g (z1 o) mX2_shape (zQv (z1 o) q) 52 [(0, zA g 14), (1, zA g 8), (2, zI x2)] [] M := by
  refine zr_iload_n 2 dX2_shape_52 rfl ?_
  refine zr_aload_n 0 dX2_shape_53 rfl ?_
  refine zt_geti 4 rfl dX2_shape_54 fX2_48 rfl (by decide) ?_
  obtain ⟨c1, W⟩ := W
  obtain ⟨c2, W⟩ := W
  refine zr_icmp_ge (tgt := 105) dX2_shape_57 (by decide) c1 c2 (fun h => ?_) (fun h => ?_)
  · have W := W.1 h
    refine zr_aload_n 0 dX2_shape_105 rfl ?_
    obtain ⟨q3, k7, W⟩ := W
    refine zt_callVv (As := []) (rest := []) dX2_shape_106 kX2_shape_54 rfl rfl rfl rfl (Nat.le_of_ble_eq_true rfl) k7 (fun M5 h6 => ?_)
    have W := W M5 h6
    refine zr_aload_n 0 dX2_shape_109 rfl ?_
    obtain ⟨q8, k12, W⟩ := W
    refine zt_callVv (As := []) (rest := []) dX2_shape_110 kX2_shape_57 rfl rfl rfl rfl (Nat.le_of_ble_eq_true rfl) k12 (fun M10 h11 => ?_)
    have W := W M10 h11
    exact zt_ret dX2_shape_113 rfl W
  · have W := W.2 h
    refine zr_aload_n 0 dX2_shape_60 rfl ?_
    refine zr_getr (b := 18) dX2_shape_61 fX2_21 rfl rfl rfl (by decide) ?_
    refine zr_iload_n 2 dX2_shape_64 rfl ?_
    refine zr_aload_n 1 dX2_shape_65 rfl ?_
    refine zr_getr (b := 12) dX2_shape_66 fX2_52 rfl rfl rfl (by decide) ?_
    refine zr_iload_n 2 dX2_shape_69 rfl ?_
    obtain ⟨c13, W⟩ := W
    refine zr_iald dX2_shape_70 rfl (by decide) c13 ?_
    refine zr_iast dX2_shape_71 rfl (by decide) c13 ?_
    refine zr_aload_n 0 dX2_shape_72 rfl ?_
    refine zr_getr (b := 19) dX2_shape_73 fX2_24 rfl rfl rfl (by decide) ?_
    refine zr_iload_n 2 dX2_shape_76 rfl ?_
    refine zr_aload_n 1 dX2_shape_77 rfl ?_
    refine zr_getr (b := 13) dX2_shape_78 fX2_53 rfl rfl rfl (by decide) ?_
    refine zr_iload_n 2 dX2_shape_81 rfl ?_
    refine zr_iald dX2_shape_82 rfl (by decide) c13 ?_
    obtain ⟨N14, e15⟩ : ∃ N : zM, N = zu M 18 x2 (M 12 x2) := ⟨_, rfl⟩
    rw [← e15]
    have W := W N14 e15
    refine zr_iast dX2_shape_83 rfl (by decide) c13 ?_
    refine zr_aload_n 0 dX2_shape_84 rfl ?_
    refine zr_dup dX2_shape_85 rfl ?_
    refine zt_geti 5 rfl dX2_shape_86 fX2_49 rfl (by decide) ?_
    refine zr_aload_n 0 dX2_shape_89 rfl ?_
    refine zr_getr (b := 19) dX2_shape_90 fX2_24 rfl rfl rfl (by decide) ?_
    refine zr_iload_n 2 dX2_shape_93 rfl ?_
    obtain ⟨c16, W⟩ := W
    refine zr_iald dX2_shape_94 rfl (by decide) c16 ?_
    refine zr_iadd dX2_shape_95 ?_
    obtain ⟨N17, e18⟩ : ∃ N : zM, N = zu N14 19 x2 (N14 13 x2) := ⟨_, rfl⟩
    rw [← e18]
    have W := W N17 e18
    refine zt_puti 5 rfl dX2_shape_96 fX2_49 lcX2 ltX2_5 rfl rfl ?_
    refine zr_iinc (q := 2) (l' := [(0, zA g 14), (1, zA g 8), (2, zI (x2 + 1))]) dX2_shape_99 rfl (by decide) [1, 2, 0] rfl ?_
    refine zr_goto (tgt := 52) dX2_shape_102 (by decide) ?_
    exact W
theorem dX9_adopt_0 : decode cX9_adopt 0 = .ok (.aload_n 0, 1) := by decide +kernel
theorem dX9_adopt_1 : decode cX9_adopt 1 = .ok (.getfield 28, 3) := by decide +kernel
theorem dX9_adopt_4 : decode cX9_adopt 4 = .ok (.aload_n 1, 1) := by decide +kernel
theorem dX9_adopt_5 : decode cX9_adopt 5 = .ok (.invokevirtual 129, 3) := by decide +kernel
theorem dX9_adopt_8 : decode cX9_adopt 8 = .ok (.aload_n 0, 1) := by decide +kernel
theorem dX9_adopt_9 : decode cX9_adopt 9 = .ok (.getfield 39, 3) := by decide +kernel
theorem dX9_adopt_12 : decode cX9_adopt 12 = .ok (.aload_n 1, 1) := by decide +kernel
theorem dX9_adopt_13 : decode cX9_adopt 13 = .ok (.invokevirtual 132, 3) := by decide +kernel
theorem dX9_adopt_16 : decode cX9_adopt 16 = .ok (.aload_n 0, 1) := by decide +kernel
theorem dX9_adopt_17 : decode cX9_adopt 17 = .ok (.getfield 50, 3) := by decide +kernel
theorem dX9_adopt_20 : decode cX9_adopt 20 = .ok (.invokevirtual 135, 3) := by decide +kernel
theorem dX9_adopt_23 : decode cX9_adopt 23 = .ok (.aload_n 0, 1) := by decide +kernel
theorem dX9_adopt_24 : decode cX9_adopt 24 = .ok (.getfield 35, 3) := by decide +kernel
theorem dX9_adopt_27 : decode cX9_adopt 27 = .ok (.aload_n 0, 1) := by decide +kernel
theorem dX9_adopt_28 : decode cX9_adopt 28 = .ok (.getfield 39, 3) := by decide +kernel
theorem dX9_adopt_31 : decode cX9_adopt 31 = .ok (.invokevirtual 138, 3) := by decide +kernel
theorem dX9_adopt_34 : decode cX9_adopt 34 = .ok (.aload_n 0, 1) := by decide +kernel
theorem dX9_adopt_35 : decode cX9_adopt 35 = .ok (.getfield 60, 3) := by decide +kernel
theorem dX9_adopt_38 : decode cX9_adopt 38 = .ok (.aload_n 0, 1) := by decide +kernel
theorem dX9_adopt_39 : decode cX9_adopt 39 = .ok (.getfield 39, 3) := by decide +kernel
theorem dX9_adopt_42 : decode cX9_adopt 42 = .ok (.invokevirtual 142, 3) := by decide +kernel
theorem dX9_adopt_45 : decode cX9_adopt 45 = .ok (.aload_n 0, 1) := by decide +kernel
theorem dX9_adopt_46 : decode cX9_adopt 46 = .ok (.getfield 69, 3) := by decide +kernel
theorem dX9_adopt_49 : decode cX9_adopt 49 = .ok (.iconst 0, 1) := by decide +kernel
theorem dX9_adopt_50 : decode cX9_adopt 50 = .ok (.putfield 145, 3) := by decide +kernel
theorem dX9_adopt_53 : decode cX9_adopt 53 = .ok (.iconst 0, 1) := by decide +kernel
theorem dX9_adopt_54 : decode cX9_adopt 54 = .ok (.istore_n 2, 1) := by decide +kernel
theorem dX9_adopt_55 : decode cX9_adopt 55 = .ok (.iload_n 2, 1) := by decide +kernel
theorem dX9_adopt_56 : decode cX9_adopt 56 = .ok (.iconst 3, 1) := by decide +kernel
theorem dX9_adopt_57 : decode cX9_adopt 57 = .ok (.if_icmp .ge 16, 3) := by decide +kernel
theorem dX9_adopt_60 : decode cX9_adopt 60 = .ok (.aload_n 0, 1) := by decide +kernel
theorem dX9_adopt_61 : decode cX9_adopt 61 = .ok (.getfield 89, 3) := by decide +kernel
theorem dX9_adopt_64 : decode cX9_adopt 64 = .ok (.iload_n 2, 1) := by decide +kernel
theorem dX9_adopt_65 : decode cX9_adopt 65 = .ok (.iconst 0, 1) := by decide +kernel
theorem dX9_adopt_66 : decode cX9_adopt 66 = .ok (.bastore, 1) := by decide +kernel
theorem dX9_adopt_67 : decode cX9_adopt 67 = .ok (.iinc 2 1, 3) := by decide +kernel
theorem dX9_adopt_70 : decode cX9_adopt 70 = .ok (.goto (-15), 3) := by decide +kernel
theorem dX9_adopt_73 : decode cX9_adopt 73 = .ok (.return_, 1) := by decide +kernel
set_option maxRecDepth 100000 in
theorem SX9_adopt_0 {g : zG} {o : Bool} {M : zM} {q : zM → Prop} (W : ∃ q1 : zM → Prop, zKv g (z1 o) mX2_shape [zA g 14, zA g 8] M q1 ∧ ∀ M3 : zM, q1 M3 → ∃ q6 : zM → Prop, zKv g (z1 o) mX5_begin [zA g 24, zA g 8] M3 q6 ∧ ∀ M8 : zM, q6 M8 → ∃ q11 : zM → Prop, zKv g (z1 o) mX7_settle [zA g 32] M8 q11 ∧ ∀ M13 : zM, q11 M13 → ∃ q16 : zM → Prop, zKv g (z1 o) mX5_copy [zA g 20, zA g 24] M13 q16 ∧ ∀ M18 : zM, q16 M18 → ∃ q21 : zM → Prop, zKv g (z1 o) mX1_forget [zA g 36, zA g 24] M18 q21 ∧ ∀ M23 : zM, q21 M23 → zT g (z1 o) mX9_adopt (zQv (z1 o) q) 55 [(0, zA g 1), (2, zI 0)] [] (zu M23 122 8 0)) : zT g (z1 o) mX9_adopt (zQv (z1 o) q) 0 [(0, zA g 1), (1, zA g 8)] [] M := by
  refine zr_aload_n 0 dX9_adopt_0 rfl ?_
  refine zr_getr (b := 14) dX9_adopt_1 fX9_28 rfl rfl rfl (by decide) ?_
  refine zr_aload_n 1 dX9_adopt_4 rfl ?_
  obtain ⟨q1, k5, W⟩ := W
  refine zt_callVv (As := [zA g 8]) (rest := []) dX9_adopt_5 kX9_adopt_129 rfl rfl rfl rfl (Nat.le_of_ble_eq_true rfl) k5 (fun M3 h4 => ?_)
  have W := W M3 h4
  refine zr_aload_n 0 dX9_adopt_8 rfl ?_
  refine zr_getr (b := 24) dX9_adopt_9 fX9_39 rfl rfl rfl (by decide) ?_
  refine zr_aload_n 1 dX9_adopt_12 rfl ?_
  obtain ⟨q6, k10, W⟩ := W
  refine zt_callVv (As := [zA g 8]) (rest := []) dX9_adopt_13 kX9_adopt_132 rfl rfl rfl rfl (Nat.le_of_ble_eq_true rfl) k10 (fun M8 h9 => ?_)
  have W := W M8 h9
  refine zr_aload_n 0 dX9_adopt_16 rfl ?_
  refine zr_getr (b := 32) dX9_adopt_17 fX9_50 rfl rfl rfl (by decide) ?_
  obtain ⟨q11, k15, W⟩ := W
  refine zt_callVv (As := []) (rest := []) dX9_adopt_20 kX9_adopt_135 rfl rfl rfl rfl (Nat.le_of_ble_eq_true rfl) k15 (fun M13 h14 => ?_)
  have W := W M13 h14
  refine zr_aload_n 0 dX9_adopt_23 rfl ?_
  refine zr_getr (b := 20) dX9_adopt_24 fX9_35 rfl rfl rfl (by decide) ?_
  refine zr_aload_n 0 dX9_adopt_27 rfl ?_
  refine zr_getr (b := 24) dX9_adopt_28 fX9_39 rfl rfl rfl (by decide) ?_
  obtain ⟨q16, k20, W⟩ := W
  refine zt_callVv (As := [zA g 24]) (rest := []) dX9_adopt_31 kX9_adopt_138 rfl rfl rfl rfl (Nat.le_of_ble_eq_true rfl) k20 (fun M18 h19 => ?_)
  have W := W M18 h19
  refine zr_aload_n 0 dX9_adopt_34 rfl ?_
  refine zr_getr (b := 36) dX9_adopt_35 fX9_60 rfl rfl rfl (by decide) ?_
  refine zr_aload_n 0 dX9_adopt_38 rfl ?_
  refine zr_getr (b := 24) dX9_adopt_39 fX9_39 rfl rfl rfl (by decide) ?_
  obtain ⟨q21, k25, W⟩ := W
  refine zt_callVv (As := [zA g 24]) (rest := []) dX9_adopt_42 kX9_adopt_142 rfl rfl rfl rfl (Nat.le_of_ble_eq_true rfl) k25 (fun M23 h24 => ?_)
  have W := W M23 h24
  refine zr_aload_n 0 dX9_adopt_45 rfl ?_
  refine zr_getr (b := 122) dX9_adopt_46 fX9_69 rfl rfl rfl (by decide) ?_
  refine zr_iconst dX9_adopt_49 ?_
  refine zt_puti 8 rfl dX9_adopt_50 fX9_145 lcX6 ltX6_8 rfl rfl ?_
  refine zr_iconst dX9_adopt_53 ?_
  refine zr_istore_n (l' := [(0, zA g 1), (2, zI 0)]) dX9_adopt_54 (by decide) [1, 0] rfl ?_
  exact W
set_option maxRecDepth 100000 in
theorem SX9_adopt_55 {g : zG} {o : Bool} {M : zM} {q : zM → Prop} {x2 : Int} (W : (-2147483648 ≤ x2 ∧ x2 ≤ 2147483647) ∧ ((3 ≤ x2) → q M) ∧ ((¬ (3 ≤ x2)) → (0 ≤ x2 ∧ x2 < 3) ∧ zT g (z1 o) mX9_adopt (zQv (z1 o) q) 55 [(0, zA g 1), (2, zI (x2 + 1))] [] (zu M 148 x2 0))) : zT g (z1 o) mX9_adopt (zQv (z1 o) q) 55 [(0, zA g 1), (2, zI x2)] [] M := by
  refine zr_iload_n 1 dX9_adopt_55 rfl ?_
  refine zr_iconst dX9_adopt_56 ?_
  obtain ⟨c1, W⟩ := W
  refine zr_icmp_ge (tgt := 73) dX9_adopt_57 (by decide) c1 ⟨by decide, by decide⟩ (fun h => ?_) (fun h => ?_)
  · have W := W.1 h
    exact zt_ret dX9_adopt_73 rfl W
  · have W := W.2 h
    refine zr_aload_n 0 dX9_adopt_60 rfl ?_
    refine zr_getr (b := 148) dX9_adopt_61 fX9_89 rfl rfl rfl (by decide) ?_
    refine zr_iload_n 1 dX9_adopt_64 rfl ?_
    refine zr_iconst dX9_adopt_65 ?_
    obtain ⟨c2, W⟩ := W
    refine zr_zast dX9_adopt_66 rfl (by decide) c2 (by decide) ?_
    refine zr_iinc (q := 1) (l' := [(0, zA g 1), (2, zI (x2 + 1))]) dX9_adopt_67 rfl (by decide) [1, 0] rfl ?_
    refine zr_goto (tgt := 55) dX9_adopt_70 (by decide) ?_
    exact W
section AD
variable {g g' : zG} {o o' : Bool} {M M' M1 M2 N N' N1 N2 A : zM} {k C R S c d m x y w e s : Int} {n : Nat} {H H' : Int → Int} {z z' : Hz}
theorem fsp_eq (hG : Geo C R) (h : eq96 H H') (n : Nat) (c : Int) (h0 : 0 ≤ c) (h1 : c + n ≤ C * R) : fsp C R S H n c = fsp C R S H' n c := by
  induction n generalizing c with
  | zero => rfl
  | succ n ih => unfold fsp; rw [wdn_eq hG ⟨h0, by omega⟩ h, ih (c + 1) (by omega) (by omega)]
theorem stz_eq (hG : Geo C R) (n : Nat) (h : eq96 z.1 z'.1) : eq96 (stz C R S n z).1 (stz C R S n z').1 := by
  have hn := geo_n hG
  induction n generalizing z z' with
  | zero => exact h
  | succ n ih =>
    have ef := fsp_eq (S := S) hG h (C * R).toNat 0 (by omega) (by omega)
    show eq96 (if fsp C R S z.1 (C * R).toNat 0 = -1 then z else stz C R S n (sldz C R z (fsp C R S z.1 (C * R).toNat 0) (wdn C R z.1 S (fsp C R S z.1 (C * R).toNat 0)))).1 (if fsp C R S z'.1 (C * R).toNat 0 = -1 then z' else stz C R S n (sldz C R z' (fsp C R S z'.1 (C * R).toNat 0) (wdn C R z'.1 S (fsp C R S z'.1 (C * R).toNat 0)))).1
    rw [ef]
    by_cases q : fsp C R S z'.1 (C * R).toNat 0 = -1
    · rw [if_pos q, if_pos q]; exact h
    · rw [if_neg q, if_neg q]
      rcases fsp_spec (C := C) (R := R) (S := S) (H := z'.1) (C * R).toNat 0 with ⟨e, -⟩ | ⟨a, b, -, -⟩
      · exact absurd e q
      · have hc : 0 ≤ fsp C R S z'.1 (C * R).toNat 0 ∧ fsp C R S z'.1 (C * R).toNat 0 < C * R := by omega
        rw [wdn_eq hG hc h]
        have a1 := alg_in (w := wdn C R z'.1 S (fsp C R S z'.1 (C * R).toNat 0)) (k := 1) hG hc
        exact ih (sld_eq (by omega) (by omega) h)
theorem stz_out (hG : Geo C R) (n : Nat) {i : Int} (hi : C * R ≤ i) : (stz C R S n z).1 i = z.1 i := by
  have hn := geo_n hG
  induction n generalizing z with
  | zero => rfl
  | succ n ih =>
    unfold stz
    by_cases q : fsp C R S z.1 (C * R).toNat 0 = -1
    · rw [if_pos q]
    · rw [if_neg q, ih]
      rcases fsp_spec (C := C) (R := R) (S := S) (H := z.1) (C * R).toNat 0 with ⟨e, -⟩ | ⟨a, b, -, -⟩
      · exact absurd e q
      · have hc : 0 ≤ fsp C R S z.1 (C * R).toNat 0 ∧ fsp C R S z.1 (C * R).toNat 0 < C * R := by omega
        have a1 := alg_in (w := wdn C R z.1 S (fsp C R S z.1 (C * R).toNat 0)) (k := 1) hG hc
        exact sld_o (by omega) (by omega)
theorem c_movedW (hG : Geo C R) (e0 : M 14 0 = C) (e1 : M 14 1 = R) (l1 : M 15 c = c % C) (l2 : M 16 c = c / C) (hc : 0 ≤ c ∧ c < C * R) (he : 0 ≤ e ∧ e < C) (hs : 0 ≤ s ∧ s ≤ R) : zKi g (z1 o) mX2_moved [zA g 14, zI c, zI e, zI s] M (fun r M' => r = alg C R (alg C R c 0 e) 1 s ∧ M' = M) := by
  have hn := geo_n hG
  have q := xy hG hc
  obtain ⟨g1, g2, g3, g4⟩ := id hG
  have m1 := md2 (a := c / C + s) (C := R) (by omega) (by omega)
  have m2 := md2 (a := c % C + e) (C := C) (by omega) (by omega)
  refine zki_of rfl (Nat.le_of_ble_eq_true rfl) (SX2_moved_0 ?_)
  rw [alg_sid hG hc, l1, l2, e0, e1, m1, m2]
  refine ⟨by omega, by omega, by omega, fun h => ⟨by omega, by omega, fun h' => ⟨?_, rfl⟩, fun h' => ⟨?_, rfl⟩⟩, fun h => ⟨by omega, by omega, fun h' => ⟨?_, rfl⟩, fun h' => ⟨?_, rfl⟩⟩⟩
  · rw [if_pos h, if_pos h', Int.mul_comm]
  · rw [if_pos h, if_neg h', Int.mul_comm]
  · rw [if_neg h, if_pos h', Int.mul_comm]
  · rw [if_neg h, if_neg h', Int.mul_comm]
theorem c_numberCells (hG : Geo C R) (e0 : M 14 0 = C) (e1 : M 14 1 = R) : zKv g (z1 o) mX2_numberCells [zA g 14] M (fun N => (∀ c : Int, 0 ≤ c → c < C * R → N 15 c = c % C ∧ N 16 c = c / C) ∧ frl [15, 16] M N) := by
  have hn := geo_n hG
  obtain ⟨g1, g2, g3, g4⟩ := id hG
  obtain ⟨r, hr⟩ := znn (show 0 ≤ R by omega)
  obtain ⟨q, hq⟩ := znn (show 0 ≤ C by omega)
  refine zkv_of rfl (Nat.le_of_ble_eq_true rfl) (SX2_numberCells_0 ?_)
  suffices hs : ∀ (j i : Nat) (N : zM), i + j = r → (∀ c : Int, 0 ≤ c → c < C * i → N 15 c = c % C ∧ N 16 c = c / C) → frl [15, 16] M N → zT g (z1 o) mX2_numberCells (zQv (z1 o) (fun N => (∀ c : Int, 0 ≤ c → c < C * R → N 15 c = c % C ∧ N 16 c = c / C) ∧ frl [15, 16] M N)) 2 [(0, zA g 14), (1, zI i)] [] N from hs r 0 M (by omega) (fun c a b => by rw [show ((0 : Nat) : Int) = 0 from rfl, Int.mul_zero] at b; omega) (fun b _ => rfl)
  intro j
  induction j with
  | zero =>
    intro i N hi h hf
    have e14 : N 14 = M 14 := hf 14 (by decide)
    rw [← e14] at e0 e1
    exact SX2_numberCells_2 ⟨by omega, by omega, fun _ => ⟨by rw [hr, ← show i = r by omega]; exact h, hf⟩, fun h => by omega⟩
  | succ j ih =>
    intro i N hi h hf
    have e14 : N 14 = M 14 := hf 14 (by decide)
    have e0' : N 14 0 = C := by rw [e14]; exact e0
    have e1' : N 14 1 = R := by rw [e14]; exact e1
    refine SX2_numberCells_2 ⟨by omega, by omega, fun h => by omega, fun _ => ?_⟩
    suffices hs2 : ∀ (b a : Nat) (P : zM), a + b = q → (∀ c : Int, 0 ≤ c → c < C * i + a → P 15 c = c % C ∧ P 16 c = c / C) → frl [15, 16] M P → zT g (z1 o) mX2_numberCells (zQv (z1 o) (fun N => (∀ c : Int, 0 ≤ c → c < C * R → N 15 c = c % C ∧ N 16 c = c / C) ∧ frl [15, 16] M N)) 12 [(0, zA g 14), (1, zI i), (2, zI a)] [] P from hs2 q 0 N (by omega) (fun c a b => h c a (by omega)) hf
    intro b
    induction b with
    | zero =>
      intro a P ha hp hfp
      have e14 : P 14 = M 14 := hfp 14 (by decide)
      have e0'' : P 14 0 = C := by rw [e14]; exact e0
      exact SX2_numberCells_12 ⟨by omega, by omega, fun _ => ih (i + 1) P (by omega) (fun c c0 c1 => hp c c0 (by rw [show ((i + 1 : Nat) : Int) = (i : Int) + 1 by omega, Int.mul_add] at c1; omega)) hfp, fun h => by omega⟩
    | succ b ihb =>
      intro a P ha hp hfp
      have e14 : P 14 = M 14 := hfp 14 (by decide)
      have e0'' : P 14 0 = C := by rw [e14]; exact e0
      have ci := cell_in (C := C) (R := R) (x := (a : Int)) (y := (i : Int)) (by omega) (by omega)
      have dd := dv (C := C) (x := (a : Int)) (y := (i : Int)) (by omega)
      refine SX2_numberCells_12 ⟨by omega, by omega, fun h => by omega, fun _ => ?_⟩
      rw [e0'', show (i : Int) * C + a = C * i + a by rw [Int.mul_comm]]
      refine ⟨by omega, fun N4 e4 => ihb (a + 1) _ (by omega) (fun c c0 c1 => ?_) (fun t ht => ?_)⟩
      · rw [zu_other (by decide), zu_row, e4, zu_row, zu_other (by decide)]
        by_cases qq : c = C * i + a
        · rw [if_pos qq, if_pos qq, qq, dd.1, dd.2]; exact ⟨rfl, rfl⟩
        · rw [if_neg qq, if_neg qq]; exact hp c c0 (by omega)
      · have ht' : t ≠ 15 ∧ t ≠ 16 := by simp at ht; omega
        rw [zu_other ht'.2, e4, zu_other ht'.1]; exact hfp t ht
theorem c_joinCells (hG : Geo C R) (e0 : M 14 0 = C) (e1 : M 14 1 = R) (e2 : M 14 2 = C * R) (hl : ∀ c : Int, 0 ≤ c → c < C * R → M 15 c = c % C ∧ M 16 c = c / C) : zKv g (z1 o) mX2_joinCells [zA g 14] M (fun N => (∀ c : Int, 0 ≤ c → c < C * R → ∀ w, 0 ≤ w → w ≤ 3 → N 17 (c * 4 + w) = alg C R c w 1) ∧ frl [17] M N) := by
  have hn := geo_n hG
  obtain ⟨g1, g2, g3, g4⟩ := id hG
  obtain ⟨n, hnn⟩ := znn (show 0 ≤ C * R by omega)
  refine zkv_of rfl (Nat.le_of_ble_eq_true rfl) (SX2_joinCells_0 ?_)
  suffices hs : ∀ (j i : Nat) (N : zM), i + j = n → (∀ c : Int, 0 ≤ c → c < i → ∀ w, 0 ≤ w → w ≤ 3 → N 17 (c * 4 + w) = alg C R c w 1) → frl [17] M N → zT g (z1 o) mX2_joinCells (zQv (z1 o) (fun N => (∀ c : Int, 0 ≤ c → c < C * R → ∀ w, 0 ≤ w → w ≤ 3 → N 17 (c * 4 + w) = alg C R c w 1) ∧ frl [17] M N)) 2 [(0, zA g 14), (1, zI i)] [] N from hs n 0 M (by omega) (fun c a b => by omega) (fun b _ => rfl)
  intro j
  induction j with
  | zero =>
    intro i N hi h hf
    have e2' : N 14 2 = C * R := by rw [hf 14 (by decide)]; exact e2
    exact SX2_joinCells_2 ⟨by omega, by omega, fun _ => ⟨by rw [hnn, ← show i = n by omega]; exact h, hf⟩, fun h => by omega⟩
  | succ j ih =>
    intro i N hi h hf
    have e2' : N 14 2 = C * R := by rw [hf 14 (by decide)]; exact e2
    have hc : 0 ≤ (i : Int) ∧ (i : Int) < C * R := by omega
    have mv : ∀ (P : zM) (e s : Int), frl [17] M P → 0 ≤ e ∧ e < C → 0 ≤ s ∧ s ≤ R → zKi g (z1 o) mX2_moved [zA g 14, zI i, zI e, zI s] P (fun r M' => r = alg C R (alg C R i 0 e) 1 s ∧ M' = P) := fun P e s hP he hs => by
      refine c_movedW hG ?_ ?_ ?_ ?_ hc he hs
      · rw [hP 14 (by decide)]; exact e0
      · rw [hP 14 (by decide)]; exact e1
      · rw [hP 15 (by decide)]; exact (hl i hc.1 hc.2).1
      · rw [hP 16 (by decide)]; exact (hl i hc.1 hc.2).2
    have fz : ∀ (P : zM) (a b : Int), frl [17] M P → frl [17] M (zu P 17 a b) := fun P a b hP t ht => by rw [zu_other (fun e => ht (by rw [e]; decide))]; exact hP t ht
    have w0 : alg C R (alg C R i 0 1) 1 0 = alg C R i 0 1 := alg_0 hG (alg_in hG hc)
    have w1 : alg C R (alg C R i 0 0) 1 1 = alg C R i 1 1 := by rw [alg_0 hG hc]
    have w2 : alg C R (alg C R i 0 (C - 1)) 1 0 = alg C R i 2 1 := by rw [alg_0 hG (alg_in hG hc), alg0, alg2, Int.one_mul]
    have w3 : alg C R (alg C R i 0 0) 1 (R - 1) = alg C R i 3 1 := by rw [alg_0 hG hc, alg1, alg3, Int.one_mul]
    refine SX2_joinCells_2 ⟨by omega, by omega, fun h => by omega, fun _ => ⟨_, mv N 1 0 hf (by omega) (by omega), fun r4 M5 q5 => ⟨by omega, ?_⟩⟩⟩
    obtain ⟨a4, b5⟩ := q5
    subst b5
    have f5 := fz M5 ((i : Int) * 4) r4 hf
    refine ⟨_, mv _ 0 1 f5 (by omega) (by omega), fun r10 M11 q11 => ⟨by omega, ?_⟩⟩
    obtain ⟨a10, b11⟩ := q11
    have f11 : frl [17] M M11 := by rw [b11]; exact f5
    have f11' := fz M11 ((i : Int) * 4 + 1) r10 f11
    rw [show zu M11 17 ((i : Int) * 4 + 1) r10 14 0 = C by rw [f11' 14 (by decide)]; exact e0]
    refine ⟨_, mv _ (C - 1) 0 f11' (by omega) (by omega), fun r16 M17 q17 => ⟨by omega, ?_⟩⟩
    obtain ⟨a16, b17⟩ := q17
    have f17 : frl [17] M M17 := by rw [b17]; exact f11'
    have f17' := fz M17 ((i : Int) * 4 + 2) r16 f17
    rw [show zu M17 17 ((i : Int) * 4 + 2) r16 14 1 = R by rw [f17' 14 (by decide)]; exact e1]
    refine ⟨_, mv _ 0 (R - 1) f17' (by omega) (by omega), fun r22 M23 q23 => ⟨by omega, ?_⟩⟩
    obtain ⟨a22, b23⟩ := q23
    have f23 : frl [17] M M23 := by rw [b23]; exact f17'
    refine ih (i + 1) _ (by omega) (fun c c0 c1 w w0' w1' => ?_) (fz M23 _ _ f23)
    rw [zu_row, b23, zu_row, b17, zu_row, b11, zu_row]
    by_cases qq : c = i
    · subst qq
      have hw : w = 0 ∨ w = 1 ∨ w = 2 ∨ w = 3 := by omega
      rcases hw with rfl | rfl | rfl | rfl
      · rw [if_neg (by omega), if_neg (by omega), if_neg (by omega), if_pos (by omega), a4, w0]
      · rw [if_neg (by omega), if_neg (by omega), if_pos (by omega), a10, w1]
      · rw [if_neg (by omega), if_pos (by omega), a16, w2]
      · rw [if_pos (by omega), a22, w3]
    · rw [if_neg (by omega), if_neg (by omega), if_neg (by omega), if_neg (by omega)]
      exact h c c0 (by omega) w w0' w1'
/-- a draft within its bounds -/
def dOK (M : zM) (C R : Int) : Prop := Geo C R ∧ M 8 0 = C ∧ M 8 1 = R ∧ (0 ≤ M 8 2 ∧ M 8 2 ≤ 9) ∧ (1 ≤ M 8 3 ∧ M 8 3 ≤ 9) ∧ (0 ≤ M 8 4 ∧ M 8 4 ≤ 9999) ∧ (1 ≤ M 8 6 ∧ M 8 6 ≤ 8) ∧ (∀ i : Int, 0 ≤ i → i < M 8 6 → (0 ≤ M 12 i ∧ M 12 i ≤ 3) ∧ 1 ≤ M 13 i ∧ M 13 i ≤ 99) ∧ ((1 ≤ M 9 0 ∧ M 9 0 ≤ 6) ∧ (1 ≤ M 9 1 ∧ M 9 1 ≤ 9) ∧ (0 ≤ M 9 2 ∧ M 9 2 ≤ 16) ∧ (0 ≤ M 9 3 ∧ M 9 3 ≤ 16)) ∧ (∀ c : Int, 0 ≤ c → c < 96 → 0 ≤ M 10 c ∧ 0 ≤ M 11 c ∧ M 11 c ≤ 1) ∧ smt (M 10) 96 ≤ 1000
theorem c_shape (h : dOK M C R) : zKv g (z1 o) mX2_shape [zA g 14, zA g 8] M (fun N => zLand N C R ∧ N 14 3 = M 8 3 ∧ N 14 4 = M 8 6 ∧ (∀ i : Int, 0 ≤ i → i < M 8 6 → N 18 i = M 12 i ∧ N 19 i = M 13 i) ∧ frl [14, 15, 16, 17, 18, 19] M N) := by
  obtain ⟨hG, d0, d1, d2, d3, d4, d6, dw, dr, dc, ds⟩ := h
  have hn := geo_n hG
  obtain ⟨w, hw⟩ := znn (show 0 ≤ M 8 6 by omega)
  refine zkv_of rfl (Nat.le_of_ble_eq_true rfl) (SX2_shape_0 fun N1 e1 N3 e3 N5 e5 N7 e7 N9 e9 => ?_)
  have o9 : ∀ b : Nat, b ≠ 14 → N9 b = M b := fun b hb => by rw [e9, zu_other hb, e7, zu_other hb, e5, zu_other hb, e3, zu_other hb, e1, zu_other hb]
  have k1 : N1 14 0 = C := by rw [e1, zu_at]; exact d0
  have k3 : N3 14 0 = C ∧ N3 14 1 = R := by
    refine ⟨by rw [e3, zu_row, if_neg (by decide)]; exact k1, by rw [e3, zu_at, e1, zu_other (by decide)]; exact d1⟩
  have k5 : N5 14 0 = C ∧ N5 14 1 = R ∧ N5 14 2 = C * R := by
    refine ⟨by rw [e5, zu_row, if_neg (by decide)]; exact k3.1, by rw [e5, zu_row, if_neg (by decide)]; exact k3.2, by rw [e5, zu_at, k3.1, k3.2]⟩
  have k7 : N7 14 0 = C ∧ N7 14 1 = R ∧ N7 14 2 = C * R ∧ N7 14 3 = M 8 3 := by
    refine ⟨by rw [e7, zu_row, if_neg (by decide)]; exact k5.1, by rw [e7, zu_row, if_neg (by decide)]; exact k5.2.1, by rw [e7, zu_row, if_neg (by decide)]; exact k5.2.2, by rw [e7, zu_at, e5, zu_other (by decide), e3, zu_other (by decide), e1, zu_other (by decide)]⟩
  have k9 : N9 14 0 = C ∧ N9 14 1 = R ∧ N9 14 2 = C * R ∧ N9 14 3 = M 8 3 ∧ N9 14 4 = M 8 6 := by
    refine ⟨by rw [e9, zu_row, if_neg (by decide)]; exact k7.1, by rw [e9, zu_row, if_neg (by decide)]; exact k7.2.1, by rw [e9, zu_row, if_neg (by decide)]; exact k7.2.2.1, by rw [e9, zu_row, if_neg (by decide)]; exact k7.2.2.2, by rw [e9, zu_at, e7, zu_other (by decide), e5, zu_other (by decide), e3, zu_other (by decide), e1, zu_other (by decide)]⟩
  suffices hs : ∀ (j i : Nat) (P : zM), i + j = w → (P 14 0 = C ∧ P 14 1 = R ∧ P 14 2 = C * R ∧ P 14 3 = M 8 3 ∧ P 14 4 = M 8 6) → P 14 5 = smt (M 13) i → (∀ t : Int, 0 ≤ t → t < i → P 18 t = M 12 t ∧ P 19 t = M 13 t) → (∀ b : Nat, b ≠ 14 → b ≠ 18 → b ≠ 19 → P b = M b) → zT g (z1 o) mX2_shape (zQv (z1 o) (fun N => zLand N C R ∧ N 14 3 = M 8 3 ∧ N 14 4 = M 8 6 ∧ (∀ i : Int, 0 ≤ i → i < M 8 6 → N 18 i = M 12 i ∧ N 19 i = M 13 i) ∧ frl [14, 15, 16, 17, 18, 19] M N)) 52 [(0, zA g 14), (1, zA g 8), (2, zI i)] [] P by
    refine hs w 0 _ (by omega) ⟨?_, ?_, ?_, ?_, ?_⟩ (by rw [zu_at]; rfl) (fun t a b => by omega) (fun b p _ _ => by rw [zu_other p]; exact o9 b p)
    · rw [zu_row, if_neg (by decide)]; exact k9.1
    · rw [zu_row, if_neg (by decide)]; exact k9.2.1
    · rw [zu_row, if_neg (by decide)]; exact k9.2.2.1
    · rw [zu_row, if_neg (by decide)]; exact k9.2.2.2.1
    · rw [zu_row, if_neg (by decide)]; exact k9.2.2.2.2
  intro j
  induction j with
  | zero =>
    intro i P hi hk h5 ht hb
    obtain ⟨p0, p1, p2, p3, p4⟩ := hk
    refine SX2_shape_52 ⟨by omega, by omega, fun _ => ⟨_, c_numberCells hG p0 p1, fun M5 q5 => ?_⟩, fun h => by omega⟩
    obtain ⟨a5, f5⟩ := q5
    have g14 : M5 14 = P 14 := f5 14 (by decide)
    refine ⟨_, c_joinCells hG (by rw [g14]; exact p0) (by rw [g14]; exact p1) (by rw [g14]; exact p2) a5, fun M10 q10 => ?_⟩
    obtain ⟨a10, f10⟩ := q10
    have t14 : M10 14 = P 14 := by rw [f10 14 (by decide), g14]
    have t18 : M10 18 = P 18 := by rw [f10 18 (by decide), f5 18 (by decide)]
    have t19 : M10 19 = P 19 := by rw [f10 19 (by decide), f5 19 (by decide)]
    have t15 : M10 15 = M5 15 := f10 15 (by decide)
    have t16 : M10 16 = M5 16 := f10 16 (by decide)
    have ei : i = w := by omega
    have hws : ∀ t : Int, 0 ≤ t → t < M 8 6 → M10 18 t = M 12 t ∧ M10 19 t = M 13 t := fun t a b => by rw [t18, t19]; exact ht t a (by omega)
    refine ⟨⟨hG, by rw [t14]; exact p0, by rw [t14]; exact p1, by rw [t14]; exact p2, by rw [t14, p3]; exact d3, by rw [t14, p4]; exact d6, ?_, fun t a b => ?_, fun c a b => ?_⟩, by rw [t14]; exact p3, by rw [t14]; exact p4, hws, fun b hb' => ?_⟩
    · rw [t14, h5, p4, hw, Int.toNat_natCast, ei]
      exact smt_congr (fun t a b => (hws t a (by omega)).2.symm)
    · rw [t14, p4] at b
      rw [(hws t a b).1, (hws t a b).2]; exact dw t a b
    · rw [t15, t16]
      exact ⟨(a5 c a b).1, (a5 c a b).2, a10 c a b⟩
    · have hb2 : b ≠ 14 ∧ b ≠ 15 ∧ b ≠ 16 ∧ b ≠ 17 ∧ b ≠ 18 ∧ b ≠ 19 := by simp at hb'; omega
      rw [f10 b (by simp; omega), f5 b (by simp; omega)]
      exact hb b hb2.1 hb2.2.2.2.2.1 hb2.2.2.2.2.2
  | succ j ih =>
    intro i P hi hk h5 ht hb
    obtain ⟨p0, p1, p2, p3, p4⟩ := hk
    refine SX2_shape_52 ⟨by omega, by omega, fun h => by omega, fun _ => ⟨by omega, fun N14 e14 => ⟨by omega, fun N17 e17 => ?_⟩⟩⟩
    have m12 : P 12 = M 12 := hb 12 (by decide) (by decide) (by decide)
    have m13 : N14 13 = M 13 := by rw [e14, zu_other (by decide)]; exact hb 13 (by decide) (by decide) (by decide)
    have n14 : N17 14 = P 14 := by rw [e17, zu_other (by decide), e14, zu_other (by decide)]
    have n19 : N17 19 i = M 13 i := by rw [e17, zu_at, m13]
    have o5 : ∀ t : Int, t ≠ 5 → zu N17 14 5 (N17 14 5 + N17 19 i) 14 t = P 14 t := fun t h => by rw [zu_row, if_neg h, n14]
    refine ih (i + 1) _ (by omega) ⟨by rw [o5 0 (by decide)]; exact p0, by rw [o5 1 (by decide)]; exact p1, by rw [o5 2 (by decide)]; exact p2, by rw [o5 3 (by decide)]; exact p3, by rw [o5 4 (by decide)]; exact p4⟩ ?_ (fun t a b => ?_) (fun b x1 x2 x3 => ?_)
    · rw [zu_at, n14, h5, n19]; rfl
    · rw [zu_other (by decide), zu_other (by decide), e17, zu_other (by decide), zu_row, e14, zu_row, zu_other (by decide), m12]
      by_cases q : t = i
      · rw [if_pos q, if_pos q, q, ← m13, e14]; exact ⟨rfl, rfl⟩
      · rw [if_neg q, if_neg q]; exact ht t a (by omega)
    · rw [zu_other x1, e17, zu_other x3, e14, zu_other x2]; exact hb b x1 x2 x3
/-- heights at first -/
def hz0 (M : zM) (C R : Int) : Int → Int := fun i => if i < C * R then M 8 2 + M 10 i else 0
theorem c_begin (h : dOK M C R) : zKv g (z1 o) mX5_begin [zA g 24, zA g 8] M (fun N => eq96 (N 25) (hz0 M C R) ∧ (∀ i : Int, 0 ≤ i → i < 96 → N 26 i = M 11 i) ∧ (∀ i : Int, 0 ≤ i → i < 4 → N 27 i = M 9 i) ∧ N 24 3 = M 8 4 ∧ N 24 4 = 0 ∧ frl [24, 25, 26, 27] M N) := by
  obtain ⟨hG, d0, d1, -⟩ := h
  have hn := geo_n hG
  have h24 : zSd 24 := by unfold zSd; decide
  refine zkv_of rfl (Nat.le_of_ble_eq_true rfl) (SX5_begin_0 h24 ?_)
  rw [d0, d1]
  suffices hs : ∀ (j i : Nat) (P : zM), i + j = 96 → (∀ t : Int, 0 ≤ t → t < i → P 25 t = hz0 M C R t) → (∀ b : Nat, b ≠ 25 → P b = M b) → zT g (z1 o) mX5_begin (zQv (z1 o) (fun N => eq96 (N 25) (hz0 M C R) ∧ (∀ i : Int, 0 ≤ i → i < 96 → N 26 i = M 11 i) ∧ (∀ i : Int, 0 ≤ i → i < 4 → N 27 i = M 9 i) ∧ N 24 3 = M 8 4 ∧ N 24 4 = 0 ∧ frl [24, 25, 26, 27] M N)) 12 [(0, zA g 24), (1, zA g 8), (2, zI (C * R)), (3, zI i)] [] P from hs 96 0 M rfl (fun t a b => by omega) (fun _ _ => rfl)
  intro j
  induction j with
  | zero =>
    intro i P hi ht hb
    refine SX5_begin_12 h24 ⟨by omega, fun _ N2 e2 N4 e4 N6 e6 => ?_, fun h => by omega⟩
    have e2 : N2 = zrw P 26 (zcpy (P 11) (P 26) 0 0 96) := e2
    have e4 : N4 = zrw N2 27 (zcpy (N2 9) (N2 27) 0 0 4) := e4
    have n2 : ∀ b : Nat, b ≠ 26 → N2 b = P b := fun b p => by rw [e2, zrw_other p]
    have n4 : ∀ b : Nat, b ≠ 26 → b ≠ 27 → N4 b = P b := fun b p q => by rw [e4, zrw_other q, n2 b p]
    refine ⟨fun t a b => ?_, fun t a b => ?_, fun t a b => ?_, ?_, by rw [zu_at], fun b hb' => ?_⟩
    · rw [zu_other (by decide), e6, zu_other (by decide), n4 25 (by decide) (by decide)]; exact ht t a (by omega)
    · rw [zu_other (by decide), e6, zu_other (by decide), e4, zrw_other (by decide), e2, zrw_at, zcpy_eq a b, hb 11 (by decide)]
    · rw [zu_other (by decide), e6, zu_other (by decide), e4, zrw_at, zcpy_eq a b, n2 9 (by decide), hb 9 (by decide)]
    · rw [zu_row, if_neg (by decide), e6, zu_at, n4 8 (by decide) (by decide), hb 8 (by decide)]
    · have hb2 : b ≠ 24 ∧ b ≠ 25 ∧ b ≠ 26 ∧ b ≠ 27 := by simp at hb'; omega
      rw [zu_other hb2.1, e6, zu_other hb2.1, n4 b hb2.2.2.1 hb2.2.2.2]; exact hb b hb2.2.1
  | succ j ih =>
    intro i P hi ht hb
    have stp : ∀ v : Int, v = hz0 M C R i → zT g (z1 o) mX5_begin (zQv (z1 o) (fun N => eq96 (N 25) (hz0 M C R) ∧ (∀ i : Int, 0 ≤ i → i < 96 → N 26 i = M 11 i) ∧ (∀ i : Int, 0 ≤ i → i < 4 → N 27 i = M 9 i) ∧ N 24 3 = M 8 4 ∧ N 24 4 = 0 ∧ frl [24, 25, 26, 27] M N)) 12 [(0, zA g 24), (1, zA g 8), (2, zI (C * R)), (3, zI ((i : Int) + 1))] [] (zu P 25 i v) := fun v hv => ih (i + 1) _ (by omega) (fun t a b => by
      rw [zu_row]
      by_cases q : t = i
      · rw [if_pos q, q]; exact hv
      · rw [if_neg q]; exact ht t a (by omega)) (fun b p => by rw [zu_other p]; exact hb b p)
    refine SX5_begin_12 h24 ⟨by omega, fun h => by omega, fun _ => ⟨by omega, fun q => ⟨by omega, stp 0 ?_⟩, fun q => ⟨by omega, stp _ ?_⟩⟩⟩
    · unfold hz0; rw [if_neg (by omega)]
    · unfold hz0; rw [if_pos (by omega), hb 8 (by decide), hb 10 (by decide)]
theorem ssq_b {f : Int → Int} {b : Int} (hb : 0 ≤ b ∧ b ≤ 9) (n : Nat) (hf : ∀ i : Int, 0 ≤ i → i < n → 0 ≤ f i) : smt (fun i => (b + f i) * (b + f i)) n ≤ 81 * n + 18 * smt f n + smt f n * smt f n := by
  induction n with
  | zero => show (0 : Int) ≤ 81 * ((0 : Nat) : Int) + 18 * 0 + 0 * 0; decide
  | succ n ih =>
    have i1 := ih (fun i a c => hf i a (by omega))
    have f0 := hf n (by omega) (by omega)
    have s0 := smt_nn (f := f) (n := n) (fun i a c => hf i a (by omega))
    show smt (fun i => (b + f i) * (b + f i)) n + (b + f n) * (b + f n) ≤ 81 * ((n + 1 : Nat) : Int) + 18 * (smt f n + f n) + (smt f n + f n) * (smt f n + f n)
    have e1 : (b + f n) * (b + f n) = b * b + 2 * (b * f n) + f n * f n := by rw [Int.add_mul, Int.mul_add, Int.mul_add, Int.mul_comm (f n) b]; omega
    have e2 : (smt f n + f n) * (smt f n + f n) = smt f n * smt f n + 2 * (smt f n * f n) + f n * f n := by rw [Int.add_mul, Int.mul_add, Int.mul_add, Int.mul_comm (f n) (smt f n)]; omega
    have p1 : b * b ≤ 9 * 9 := Int.mul_le_mul hb.2 hb.2 hb.1 (by decide)
    have p2 : b * f n ≤ 9 * f n := Int.mul_le_mul_of_nonneg_right hb.2 f0
    have p3 := Int.mul_nonneg s0 f0
    rw [e1, e2]
    omega
theorem hz0_ok (h : dOK M C R) : BdB 1100 (hz0 M C R) ∧ ssq (hz0 M C R) < 2000000 := by
  obtain ⟨hG, d0, d1, d2, d3, d4, d6, dw, dr, dc, ds⟩ := h
  have hn := geo_n hG
  have nn : ∀ i : Int, 0 ≤ i → i < 96 → 0 ≤ M 10 i := fun i a b => (dc i a b).1
  have one : ∀ (n : Nat) (i : Int), 0 ≤ i → i < n → (n : Int) ≤ 96 → M 10 i ≤ smt (M 10) n := by
    intro n
    induction n with
    | zero => intro i a b _; omega
    | succ n ih =>
      intro i a b c
      have s0 := smt_nn (f := M 10) (n := n) (fun i a c' => nn i a (by omega))
      have f0 := nn n (by omega) (by omega)
      show M 10 i ≤ smt (M 10) n + M 10 n
      by_cases q : i = n
      · rw [q]; omega
      · have := ih i a (by omega) (by omega); omega
  refine ⟨fun i a b => ?_, ?_⟩
  · have h1 := nn i a b
    have h2 := one 96 i a (by omega) (by omega)
    unfold hz0; split <;> omega
  · have hb := ssq_b (f := M 10) d2 96 (fun i a b => nn i a (by omega))
    have s0 := smt_nn (f := M 10) (n := 96) (fun i a c' => nn i a (by omega))
    have p1 : smt (M 10) 96 * smt (M 10) 96 ≤ 1000 * 1000 := Int.mul_le_mul ds ds s0 (by decide)
    have key : ∀ n : Nat, (n : Int) ≤ 96 → smt (fun i => hz0 M C R i * hz0 M C R i) n ≤ smt (fun i => (M 8 2 + M 10 i) * (M 8 2 + M 10 i)) n := by
      intro n
      induction n with
      | zero => intro _; exact Int.le_refl _
      | succ n ih =>
        intro c
        have i1 := ih (by omega)
        have f0 := nn n (by omega) (by omega)
        show smt (fun i => hz0 M C R i * hz0 M C R i) n + hz0 M C R n * hz0 M C R n ≤ smt (fun i => (M 8 2 + M 10 i) * (M 8 2 + M 10 i)) n + (M 8 2 + M 10 n) * (M 8 2 + M 10 n)
        have e : hz0 M C R n * hz0 M C R n ≤ (M 8 2 + M 10 n) * (M 8 2 + M 10 n) := by
          unfold hz0; split
          · exact Int.le_refl _
          · rw [Int.zero_mul]; exact Int.mul_nonneg (by omega) (by omega)
        omega
    have := key 96 (by decide)
    unfold ssq
    omega
/-- behind adopt -/
def adP (C R : Int) (M N : zM) (e : Nat) : Prop := zLand N C R ∧ N 14 3 = M 8 3 ∧ N 14 4 = M 8 6 ∧ (∀ i : Int, 0 ≤ i → i < M 8 6 → N 18 i = M 12 i ∧ N 19 i = M 13 i) ∧ eq96 (N 25) (stz C R (M 8 3) 1000000 (hz0 M C R, 0, fun _ => 0)).1 ∧ (∀ i : Int, 0 ≤ i → i < 96 → N 26 i = M 11 i) ∧ (∀ i : Int, 0 ≤ i → i < 4 → N 27 i = M 9 i) ∧ N 24 3 = M 8 4 ∧ N 24 4 = 0 ∧ zsame N N 20 24 ∧ zsame N N e 24 ∧ N 36 1 = 0 ∧ N 36 2 = 0 ∧ N 122 8 = 0 ∧ (∀ b : Int, 0 ≤ b → b < 3 → N 148 b = 0) ∧ N 37 = M 37 ∧ N 135 = M 135 ∧ ∀ b : Nat, b ≤ 13 → N b = M b
theorem c_adopt {e : Nat} (h : dOK M C R) (hp : M 37 0 = (e : Int)) (he : e ∈ zhs) : zKv g (z1 o) mX9_adopt [zA g 1, zA g 8] M (fun N => adP C R M N e) := by
  have hG := h.1
  have hn := geo_n hG
  have he' := zhs_in he
  have h24 : zSd 24 := by unfold zSd; decide
  have h20 : zSd 20 := by unfold zSd; decide
  have h32 : zSt 32 24 := by unfold zSt; decide
  refine zkv_of rfl (Nat.le_of_ble_eq_true rfl) (SX9_adopt_0 ⟨_, c_shape h, fun M3 q3 => ?_⟩)
  obtain ⟨a1, a2, a3, a4, f3⟩ := q3
  have lo3 : ∀ b : Nat, b ≤ 13 → M3 b = M b := fun b hb => f3 b (by simp; omega)
  have h3 : dOK M3 C R := by
    unfold dOK at h ⊢
    rw [lo3 8 (by decide), lo3 9 (by decide), lo3 10 (by decide), lo3 11 (by decide), lo3 12 (by decide), lo3 13 (by decide)]; exact h
  have hz3 : hz0 M3 C R = hz0 M C R := by unfold hz0; rw [lo3 8 (by decide), lo3 10 (by decide)]
  obtain ⟨z1', z2'⟩ := hz0_ok h
  refine ⟨_, c_begin h3, fun M8 q8 => ?_⟩
  obtain ⟨b1, b2, b3, b4, b5, f8⟩ := q8
  rw [hz3] at b1
  have L8 : zLand M8 C R := a1.of (fun b p q => f8 b (by simp; omega))
  have ssc : ssq (M8 25) = ssq (hz0 M C R) := smt_congr (fun i a b => by rw [b1 i a (by omega)])
  refine ⟨_, c_settle h32 L8 (fun i a b => by have := z1' i a b; show 0 ≤ M8 25 i ∧ M8 25 i ≤ _; rw [b1 i a b]; omega) (by show ssq (M8 25) < _; rw [ssc]; exact z2'), fun M13 q13 => ?_⟩
  have o13 : ∀ b : Nat, b ≠ 25 → b ≠ 32 → b ≠ 33 → M13 b = M8 b := fun b p q r => by rw [q13]; exact zput_o p q r
  have e13 : eq96 (M13 25) (stz C R (M 8 3) 1000000 (hz0 M C R, 0, fun _ => 0)).1 := fun i a b => by
    rw [q13, show zput M8 32 24 (stz C R (M8 14 3) 1000000 (zget M8 32 24)) 25 = (stz C R (M8 14 3) 1000000 (zget M8 32 24)).1 from zput_h h32, f8 14 (by decide), a2]
    exact stz_eq (z := zget M8 32 24) (z' := (hz0 M C R, 0, fun _ => 0)) hG 1000000 b1 i a b
  refine ⟨_, c_copy h20 h24, fun M18 q18 => ?_⟩
  obtain ⟨s18, f18⟩ := q18
  have o18 : ∀ b : Nat, b ≠ 20 → b ≠ 21 → b ≠ 22 → b ≠ 23 → M18 b = M13 b := fun b p q r s => f18 b p q r s
  have p37 : M18 37 0 = (e : Int) := by rw [o18 37 (by decide) (by decide) (by decide) (by decide), o13 37 (by decide) (by decide) (by decide), f8 37 (by decide), f3 37 (by decide)]; exact hp
  refine ⟨_, c_forget h24 p37 he'.2.2, fun M23 q23 => ?_⟩
  obtain ⟨c1, c2, s23, f23⟩ := q23
  have o23 : ∀ b : Nat, b ≤ 35 ∨ b = 37 ∨ 122 ≤ b → M23 b = M18 b := fun b hb => f23 b (by omega) (by omega) (by omega) (by omega) (by omega)
  suffices hs : ∀ (j i : Nat) (P : zM), i + j = 3 → (∀ t : Int, 0 ≤ t → t < i → P 148 t = 0) → (∀ b : Nat, b ≠ 148 → P b = zu M23 122 8 0 b) → zT g (z1 o) mX9_adopt (zQv (z1 o) (fun N => adP C R M N e)) 55 [(0, zA g 1), (2, zI i)] [] P from hs 3 0 _ rfl (fun t a b => by omega) (fun _ _ => rfl)
  intro j
  induction j with
  | zero =>
    intro i P hi ht hb
    refine SX9_adopt_55 ⟨by omega, fun _ => ?_, fun h => by omega⟩
    have oP : ∀ b : Nat, b ≠ 148 → b ≠ 122 → P b = M23 b := fun b p q => by rw [hb b p, zu_other q]
    have P13 : ∀ b : Nat, b ≤ 35 ∨ b = 37 ∨ 123 ≤ b → b ≠ 148 → b ≠ 20 → b ≠ 21 → b ≠ 22 → b ≠ 23 → P b = M13 b := fun b hb1 p q r s t => by rw [oP b p (by omega), o23 b (by omega), o18 b q r s t]
    have P8 : ∀ b : Nat, b ≤ 19 ∨ b = 24 ∨ b = 26 ∨ b = 27 ∨ b = 37 ∨ b = 135 → P b = M8 b := fun b hb1 => by rw [P13 b (by omega) (by omega) (by omega) (by omega) (by omega) (by omega), o13 b (by omega) (by omega) (by omega)]
    have P25 : P 25 = M13 25 := P13 25 (by decide) (by decide) (by decide) (by decide) (by decide) (by decide)
    have sam : ∀ t : Nat, (∀ b : Nat, 24 ≤ b → b ≤ 27 → P b = M18 b) → zsame M18 P t 24 → zsame P P t 24 := fun t hh hq => by
      obtain ⟨u1, u2, u3, u4⟩ := hq
      refine ⟨fun i a b => ?_, fun i a b => ?_, ?_, ?_⟩
      · rw [hh (24 + 1) (by decide) (by decide), hh (24 + 2) (by decide) (by decide)]; exact u1 i a b
      · rw [hh (24 + 3) (by decide) (by decide)]; exact u2 i a b
      · rw [hh 24 (by decide) (by decide)]; exact u3
      · rw [hh 24 (by decide) (by decide)]; exact u4
    have P18 : ∀ b : Nat, 24 ≤ b → b ≤ 27 → P b = M18 b := fun b p q => by rw [oP b (by omega) (by omega), o23 b (by omega)]
    refine ⟨L8.of (fun b p q => P8 b (by omega)), ?_, ?_, fun t a b => ?_, ?_, fun t a b => ?_, fun t a b => ?_, ?_, ?_, ?_, ?_, ?_, ?_, ?_, fun b a c => ht b a (by omega), ?_, ?_, fun b p => ?_⟩
    · rw [P8 14 (by decide), f8 14 (by decide)]; exact a2
    · rw [P8 14 (by decide), f8 14 (by decide)]; exact a3
    · rw [P8 18 (by decide), P8 19 (by decide), f8 18 (by decide), f8 19 (by decide)]; exact a4 t a b
    · rw [P25]; exact e13
    · rw [P8 26 (by decide), b2 t a b, lo3 11 (by decide)]
    · rw [P8 27 (by decide), b3 t a b, lo3 9 (by decide)]
    · rw [P8 24 (by decide), b4, lo3 8 (by decide)]
    · rw [P8 24 (by decide), b5]
    · refine sam 20 P18 ?_
      obtain ⟨u1, u2, u3, u4⟩ := s18
      have q20 : ∀ b : Nat, 20 ≤ b → b ≤ 23 → P b = M18 b := fun b p q => by rw [oP b (by omega) (by omega), o23 b (by omega)]
      have r24 : ∀ b : Nat, 24 ≤ b → b ≤ 27 → M18 b = M13 b := fun b p q => o18 b (by omega) (by omega) (by omega) (by omega)
      refine ⟨fun i a b => ?_, fun i a b => ?_, ?_, ?_⟩
      · rw [q20 (20 + 1) (by decide) (by decide), q20 (20 + 2) (by decide) (by decide), r24 (24 + 1) (by decide) (by decide), r24 (24 + 2) (by decide) (by decide)]; exact u1 i a b
      · rw [q20 (20 + 3) (by decide) (by decide), r24 (24 + 3) (by decide) (by decide)]; exact u2 i a b
      · rw [q20 20 (by decide) (by decide), r24 24 (by decide) (by decide)]; exact u3
      · rw [q20 20 (by decide) (by decide), r24 24 (by decide) (by decide)]; exact u4
    · refine sam e P18 ?_
      obtain ⟨u1, u2, u3, u4⟩ := s23
      have qe : ∀ b : Nat, 38 ≤ b → b ≤ 121 → P b = M23 b := fun b p q => oP b (by omega) (by omega)
      refine ⟨fun i a b => ?_, fun i a b => ?_, ?_, ?_⟩
      · rw [qe (e + 1) (by omega) (by omega), qe (e + 2) (by omega) (by omega)]; exact u1 i a b
      · rw [qe (e + 3) (by omega) (by omega)]; exact u2 i a b
      · rw [qe e (by omega) (by omega)]; exact u3
      · rw [qe e (by omega) (by omega)]; exact u4
    · rw [oP 36 (by decide) (by decide)]; exact c1
    · rw [oP 36 (by decide) (by decide)]; exact c2
    · rw [hb 122 (by decide), zu_at]
    · rw [P8 37 (by decide), f8 37 (by decide), f3 37 (by decide)]
    · rw [P8 135 (by decide), f8 135 (by decide), f3 135 (by decide)]
    · rw [P8 b (by omega), f8 b (by simp; omega), lo3 b p]
  | succ j ih =>
    intro i P hi ht hb
    refine SX9_adopt_55 ⟨by omega, fun h => by omega, fun _ => ⟨by omega, ih (i + 1) _ (by omega) (fun t a b => ?_) (fun b p => by rw [zu_other p]; exact hb b p)⟩⟩
    rw [zu_row]
    by_cases q : t = i
    · rw [if_pos q]
    · rw [if_neg q]; exact ht t a (by omega)
end AD
