theorem dX10_slides_0 : decode cX10_slides 0 = .ok (.aload_n 0, 1) := by decide +kernel
theorem dX10_slides_1 : decode cX10_slides 1 = .ok (.getfield 45, 3) := by decide +kernel
theorem dX10_slides_4 : decode cX10_slides 4 = .ok (.iload_n 1, 1) := by decide +kernel
theorem dX10_slides_5 : decode cX10_slides 5 = .ok (.dup2, 1) := by decide +kernel
theorem dX10_slides_6 : decode cX10_slides 6 = .ok (.iaload, 1) := by decide +kernel
theorem dX10_slides_7 : decode cX10_slides 7 = .ok (.iconst 1, 1) := by decide +kernel
theorem dX10_slides_8 : decode cX10_slides 8 = .ok (.isub, 1) := by decide +kernel
theorem dX10_slides_9 : decode cX10_slides 9 = .ok (.iastore, 1) := by decide +kernel
theorem dX10_slides_10 : decode cX10_slides 10 = .ok (.aload_n 0, 1) := by decide +kernel
theorem dX10_slides_11 : decode cX10_slides 11 = .ok (.getfield 45, 3) := by decide +kernel
theorem dX10_slides_14 : decode cX10_slides 14 = .ok (.aload_n 0, 1) := by decide +kernel
theorem dX10_slides_15 : decode cX10_slides 15 = .ok (.iload_n 1, 1) := by decide +kernel
theorem dX10_slides_16 : decode cX10_slides 16 = .ok (.iload_n 2, 1) := by decide +kernel
theorem dX10_slides_17 : decode cX10_slides 17 = .ok (.iconst 1, 1) := by decide +kernel
theorem dX10_slides_18 : decode cX10_slides 18 = .ok (.invokevirtual 282, 3) := by decide +kernel
theorem dX10_slides_21 : decode cX10_slides 21 = .ok (.dup2, 1) := by decide +kernel
theorem dX10_slides_22 : decode cX10_slides 22 = .ok (.iaload, 1) := by decide +kernel
theorem dX10_slides_23 : decode cX10_slides 23 = .ok (.iconst 1, 1) := by decide +kernel
theorem dX10_slides_24 : decode cX10_slides 24 = .ok (.iadd, 1) := by decide +kernel
theorem dX10_slides_25 : decode cX10_slides 25 = .ok (.iastore, 1) := by decide +kernel
theorem dX10_slides_26 : decode cX10_slides 26 = .ok (.aload_n 0, 1) := by decide +kernel
theorem dX10_slides_27 : decode cX10_slides 27 = .ok (.dup, 1) := by decide +kernel
theorem dX10_slides_28 : decode cX10_slides 28 = .ok (.getfield 264, 3) := by decide +kernel
theorem dX10_slides_31 : decode cX10_slides 31 = .ok (.iconst 1, 1) := by decide +kernel
theorem dX10_slides_32 : decode cX10_slides 32 = .ok (.iadd, 1) := by decide +kernel
theorem dX10_slides_33 : decode cX10_slides 33 = .ok (.putfield 264, 3) := by decide +kernel
theorem dX10_slides_36 : decode cX10_slides 36 = .ok (.aload_n 0, 1) := by decide +kernel
theorem dX10_slides_37 : decode cX10_slides 37 = .ok (.iload_n 1, 1) := by decide +kernel
theorem dX10_slides_38 : decode cX10_slides 38 = .ok (.iload_n 2, 1) := by decide +kernel
theorem dX10_slides_39 : decode cX10_slides 39 = .ok (.iconst 1, 1) := by decide +kernel
theorem dX10_slides_40 : decode cX10_slides 40 = .ok (.invokevirtual 289, 3) := by decide +kernel
theorem dX10_slides_43 : decode cX10_slides 43 = .ok (.return_, 1) := by decide +kernel
set_option maxRecDepth 100000 in
theorem SX10_slides_0 {g : zG} {o : Bool} {C R : Int} {M : zM} {q : zM → Prop} {x1 x2 : Int} (W : (0 ≤ x1 ∧ x1 < 198) ∧ (zRf (zu M 11 x1 ((M 11 x1) - 1)) C R) ∧ (0 ≤ x1 ∧ x1 < C * R) ∧ (0 ≤ x2 ∧ x2 ≤ 3) ∧ (0 ≤ (alg C R x1 x2 1) ∧ (alg C R x1 x2 1) < 198) ∧ ∀ N9 : zM, N9 = zu M 11 x1 ((M 11 x1) - 1) → ∀ N11 : zM, N11 = zu N9 11 (alg C R x1 x2 1) ((N9 11 (alg C R x1 x2 1)) + 1) → ∃ q13 : zM → Prop, zKv g (z2 o) mX10_crosses [zA g 1, zI x1, zI x2, zI 1] (zu N11 1 24 ((N11 1 24) + 1)) q13 ∧ ∀ M15 : zM, q13 M15 → q M15) : zT g (z2 o) mX10_slides (zQv (z2 o) q) 0 [(0, zA g 1), (1, zI x1), (2, zI x2)] [] M := by
  refine zr_aload_n 0 dX10_slides_0 rfl ?_
  refine zr_getr (b := 11) dX10_slides_1 fX10_45 rfl rfl rfl (by decide) ?_
  refine zr_iload_n 1 dX10_slides_4 rfl ?_
  refine zr_dup2 dX10_slides_5 rfl rfl ?_
  obtain ⟨c1, W⟩ := W
  refine zr_iald dX10_slides_6 rfl (by decide) c1 ?_
  refine zr_iconst dX10_slides_7 ?_
  refine zr_isub dX10_slides_8 ?_
  refine zr_iast dX10_slides_9 rfl (by decide) c1 ?_
  refine zr_aload_n 0 dX10_slides_10 rfl ?_
  refine zr_getr (b := 11) dX10_slides_11 fX10_45 rfl rfl rfl (by decide) ?_
  refine zr_aload_n 0 dX10_slides_14 rfl ?_
  refine zr_iload_n 1 dX10_slides_15 rfl ?_
  refine zr_iload_n 2 dX10_slides_16 rfl ?_
  refine zr_iconst dX10_slides_17 ?_
  obtain ⟨c2, W⟩ := W
  obtain ⟨c3, W⟩ := W
  obtain ⟨c4, W⟩ := W
  refine zt_callVi (As := [zI x1, zI x2, zI 1]) (rest := [zA g 11]) dX10_slides_18 kX10_slides_282 rfl rfl rfl rfl (Nat.le_of_ble_eq_true rfl) (c_along c2 c3 c4 (by decide)) (fun r5 N7 h6 => ?_)
  rw [h6.1, h6.2]
  refine zr_dup2 dX10_slides_21 rfl rfl ?_
  obtain ⟨c8, W⟩ := W
  refine zr_iald dX10_slides_22 rfl (by decide) c8 ?_
  refine zr_iconst dX10_slides_23 ?_
  refine zr_iadd dX10_slides_24 ?_
  obtain ⟨N9, e10⟩ : ∃ N : zM, N = zu M 11 x1 ((M 11 x1) - 1) := ⟨_, rfl⟩
  rw [← e10]
  have W := W N9 e10
  refine zr_iast dX10_slides_25 rfl (by decide) c8 ?_
  refine zr_aload_n 0 dX10_slides_26 rfl ?_
  refine zr_dup dX10_slides_27 rfl ?_
  refine zt_geti 24 rfl dX10_slides_28 fX10_264 rfl (by decide) ?_
  refine zr_iconst dX10_slides_31 ?_
  refine zr_iadd dX10_slides_32 ?_
  obtain ⟨N11, e12⟩ : ∃ N : zM, N = zu N9 11 (alg C R x1 x2 1) ((N9 11 (alg C R x1 x2 1)) + 1) := ⟨_, rfl⟩
  rw [← e12]
  have W := W N11 e12
  refine zt_puti 24 rfl dX10_slides_33 fX10_264 lcX10 ltX10_24 rfl rfl ?_
  refine zr_aload_n 0 dX10_slides_36 rfl ?_
  refine zr_iload_n 1 dX10_slides_37 rfl ?_
  refine zr_iload_n 2 dX10_slides_38 rfl ?_
  refine zr_iconst dX10_slides_39 ?_
  obtain ⟨q13, k17, W⟩ := W
  refine zt_callVv (As := [zI x1, zI x2, zI 1]) (rest := []) dX10_slides_40 kX10_slides_289 rfl rfl rfl rfl (Nat.le_of_ble_eq_true rfl) k17 (fun M15 h16 => ?_)
  have W := W M15 h16
  exact zt_ret dX10_slides_43 rfl W
theorem dX10_fills_0 : decode cX10_fills 0 = .ok (.iload_n 1, 1) := by decide +kernel
theorem dX10_fills_1 : decode cX10_fills 1 = .ok (.istore_n 2, 1) := by decide +kernel
theorem dX10_fills_2 : decode cX10_fills 2 = .ok (.iconst 1, 1) := by decide +kernel
theorem dX10_fills_3 : decode cX10_fills 3 = .ok (.istore_n 3, 1) := by decide +kernel
theorem dX10_fills_4 : decode cX10_fills 4 = .ok (.iload_n 3, 1) := by decide +kernel
theorem dX10_fills_5 : decode cX10_fills 5 = .ok (.ifCond .eq 71, 3) := by decide +kernel
theorem dX10_fills_8 : decode cX10_fills 8 = .ok (.aload_n 0, 1) := by decide +kernel
theorem dX10_fills_9 : decode cX10_fills 9 = .ok (.iload_n 2, 1) := by decide +kernel
theorem dX10_fills_10 : decode cX10_fills 10 = .ok (.iconst 1, 1) := by decide +kernel
theorem dX10_fills_11 : decode cX10_fills 11 = .ok (.invokevirtual 293, 3) := by decide +kernel
theorem dX10_fills_14 : decode cX10_fills 14 = .ok (.istore 4, 2) := by decide +kernel
theorem dX10_fills_16 : decode cX10_fills 16 = .ok (.aload_n 0, 1) := by decide +kernel
theorem dX10_fills_17 : decode cX10_fills 17 = .ok (.iload_n 2, 1) := by decide +kernel
theorem dX10_fills_18 : decode cX10_fills 18 = .ok (.iload 4, 2) := by decide +kernel
theorem dX10_fills_20 : decode cX10_fills 20 = .ok (.iconst 1, 1) := by decide +kernel
theorem dX10_fills_21 : decode cX10_fills 21 = .ok (.invokevirtual 282, 3) := by decide +kernel
theorem dX10_fills_24 : decode cX10_fills 24 = .ok (.istore 5, 2) := by decide +kernel
theorem dX10_fills_26 : decode cX10_fills 26 = .ok (.aload_n 0, 1) := by decide +kernel
theorem dX10_fills_27 : decode cX10_fills 27 = .ok (.getfield 45, 3) := by decide +kernel
theorem dX10_fills_30 : decode cX10_fills 30 = .ok (.iload 5, 2) := by decide +kernel
theorem dX10_fills_32 : decode cX10_fills 32 = .ok (.iaload, 1) := by decide +kernel
theorem dX10_fills_33 : decode cX10_fills 33 = .ok (.aload_n 0, 1) := by decide +kernel
theorem dX10_fills_34 : decode cX10_fills 34 = .ok (.getfield 45, 3) := by decide +kernel
theorem dX10_fills_37 : decode cX10_fills 37 = .ok (.iload_n 2, 1) := by decide +kernel
theorem dX10_fills_38 : decode cX10_fills 38 = .ok (.iaload, 1) := by decide +kernel
theorem dX10_fills_39 : decode cX10_fills 39 = .ok (.aload_n 0, 1) := by decide +kernel
theorem dX10_fills_40 : decode cX10_fills 40 = .ok (.getfield 20, 3) := by decide +kernel
theorem dX10_fills_43 : decode cX10_fills 43 = .ok (.iconst 5, 1) := by decide +kernel
theorem dX10_fills_44 : decode cX10_fills 44 = .ok (.iaload, 1) := by decide +kernel
theorem dX10_fills_45 : decode cX10_fills 45 = .ok (.iadd, 1) := by decide +kernel
theorem dX10_fills_46 : decode cX10_fills 46 = .ok (.if_icmp .le 7, 3) := by decide +kernel
theorem dX10_fills_49 : decode cX10_fills 49 = .ok (.iconst 1, 1) := by decide +kernel
theorem dX10_fills_50 : decode cX10_fills 50 = .ok (.goto 4, 3) := by decide +kernel
theorem dX10_fills_53 : decode cX10_fills 53 = .ok (.iconst 0, 1) := by decide +kernel
theorem dX10_fills_54 : decode cX10_fills 54 = .ok (.istore_n 3, 1) := by decide +kernel
theorem dX10_fills_55 : decode cX10_fills 55 = .ok (.iload_n 3, 1) := by decide +kernel
theorem dX10_fills_56 : decode cX10_fills 56 = .ok (.ifCond .eq 14, 3) := by decide +kernel
theorem dX10_fills_59 : decode cX10_fills 59 = .ok (.aload_n 0, 1) := by decide +kernel
theorem dX10_fills_60 : decode cX10_fills 60 = .ok (.iload 5, 2) := by decide +kernel
theorem dX10_fills_62 : decode cX10_fills 62 = .ok (.iload 4, 2) := by decide +kernel
theorem dX10_fills_64 : decode cX10_fills 64 = .ok (.invokestatic 279, 3) := by decide +kernel
theorem dX10_fills_67 : decode cX10_fills 67 = .ok (.invokevirtual 297, 3) := by decide +kernel
theorem dX10_fills_70 : decode cX10_fills 70 = .ok (.iload 5, 2) := by decide +kernel
theorem dX10_fills_72 : decode cX10_fills 72 = .ok (.istore_n 2, 1) := by decide +kernel
theorem dX10_fills_73 : decode cX10_fills 73 = .ok (.goto (-69), 3) := by decide +kernel
theorem dX10_fills_76 : decode cX10_fills 76 = .ok (.return_, 1) := by decide +kernel
set_option maxRecDepth 100000 in
theorem SX10_fills_0 {g : zG} {o : Bool} {M : zM} {q : zM → Prop} {x1 : Int} (W : zT g (z2 o) mX10_fills (zQv (z2 o) q) 4 [(0, zA g 1), (2, zI x1), (3, zI 1)] [] M) : zT g (z2 o) mX10_fills (zQv (z2 o) q) 0 [(0, zA g 1), (1, zI x1)] [] M := by
  refine zr_iload_n 1 dX10_fills_0 rfl ?_
  refine zr_istore_n (l' := [(0, zA g 1), (2, zI x1)]) dX10_fills_1 (by decide) [1, 0] rfl ?_
  refine zr_iconst dX10_fills_2 ?_
  refine zr_istore_n (l' := [(0, zA g 1), (2, zI x1), (3, zI 1)]) dX10_fills_3 (by decide) [1, 2, 0] rfl ?_
  exact W
set_option maxRecDepth 100000 in
theorem SX10_fills_4 {g : zG} {o : Bool} {C R : Int} {M : zM} {q : zM → Prop} {x2 x3 : Int} (W : (-2147483648 ≤ x3 ∧ x3 ≤ 2147483647) ∧ ((x3 = 0) → q M) ∧ ((¬ (x3 = 0)) → (zRf M C R) ∧ (0 ≤ x2 ∧ x2 < C * R) ∧ (Bd (M 11)) ∧ (0 ≤ (pmx C R (M 11) x2 3) ∧ (pmx C R (M 11) x2 3) ≤ 3) ∧ (0 ≤ (alg C R x2 (pmx C R (M 11) x2 3) 1) ∧ (alg C R x2 (pmx C R (M 11) x2 3) 1) < 198) ∧ (0 ≤ x2 ∧ x2 < 198) ∧ (-2147483648 ≤ (M 11 (alg C R x2 (pmx C R (M 11) x2 3) 1)) ∧ (M 11 (alg C R x2 (pmx C R (M 11) x2 3) 1)) ≤ 2147483647) ∧ (-2147483648 ≤ ((M 11 x2) + (M 3 5)) ∧ ((M 11 x2) + (M 3 5)) ≤ 2147483647) ∧ (((M 11 (alg C R x2 (pmx C R (M 11) x2 3) 1)) ≤ ((M 11 x2) + (M 3 5))) → zT g (z2 o) mX10_fills (zQv (z2 o) q) 4 [(0, zA g 1), (2, zI (alg C R x2 (pmx C R (M 11) x2 3) 1)), (3, zI 0)] [] M) ∧ ((¬ ((M 11 (alg C R x2 (pmx C R (M 11) x2 3) 1)) ≤ ((M 11 x2) + (M 3 5)))) → ∃ q19 : zM → Prop, zKv g (z2 o) mX10_slides [zA g 1, zI (alg C R x2 (pmx C R (M 11) x2 3) 1), zI (opp (pmx C R (M 11) x2 3))] M q19 ∧ ∀ M21 : zM, q19 M21 → zT g (z2 o) mX10_fills (zQv (z2 o) q) 4 [(0, zA g 1), (2, zI (alg C R x2 (pmx C R (M 11) x2 3) 1)), (3, zI 1)] [] M21))) : zT g (z2 o) mX10_fills (zQv (z2 o) q) 4 [(0, zA g 1), (2, zI x2), (3, zI x3)] [] M := by
  refine zr_iload_n 2 dX10_fills_4 rfl ?_
  obtain ⟨c1, W⟩ := W
  refine zr_if_eq (tgt := 76) dX10_fills_5 (by decide) c1 (fun h => ?_) (fun h => ?_)
  · have W := W.1 h
    exact zt_ret dX10_fills_76 rfl W
  · have W := W.2 h
    refine zr_aload_n 0 dX10_fills_8 rfl ?_
    refine zr_iload_n 1 dX10_fills_9 rfl ?_
    refine zr_iconst dX10_fills_10 ?_
    obtain ⟨c2, W⟩ := W
    obtain ⟨c3, W⟩ := W
    obtain ⟨c4, W⟩ := W
    refine zt_callVi (As := [zI x2, zI 1]) (rest := []) dX10_fills_11 kX10_fills_293 rfl rfl rfl rfl (Nat.le_of_ble_eq_true rfl) (c_wayToH c2 c3 c4) (fun r5 N7 h6 => ?_)
    rw [h6.1, h6.2]
    refine zr_istore (l' := [(0, zA g 1), (2, zI x2), (4, zI (pmx C R (M 11) x2 3))]) dX10_fills_14 (by decide) [1, 2, 0] rfl ?_
    refine zr_aload_n 0 dX10_fills_16 rfl ?_
    refine zr_iload_n 1 dX10_fills_17 rfl ?_
    refine zr_iload 2 dX10_fills_18 rfl ?_
    refine zr_iconst dX10_fills_20 ?_
    obtain ⟨c8, W⟩ := W
    refine zt_callVi (As := [zI x2, zI (pmx C R (M 11) x2 3), zI 1]) (rest := []) dX10_fills_21 kX10_fills_282 rfl rfl rfl rfl (Nat.le_of_ble_eq_true rfl) (c_along c2 c3 c8 (by decide)) (fun r9 N11 h10 => ?_)
    rw [h10.1, h10.2]
    refine zr_istore (l' := [(0, zA g 1), (2, zI x2), (4, zI (pmx C R (M 11) x2 3)), (5, zI (alg C R x2 (pmx C R (M 11) x2 3) 1))]) dX10_fills_24 (by decide) [1, 2, 3, 0] rfl ?_
    refine zr_aload_n 0 dX10_fills_26 rfl ?_
    refine zr_getr (b := 11) dX10_fills_27 fX10_45 rfl rfl rfl (by decide) ?_
    refine zr_iload 3 dX10_fills_30 rfl ?_
    obtain ⟨c12, W⟩ := W
    refine zr_iald dX10_fills_32 rfl (by decide) c12 ?_
    refine zr_aload_n 0 dX10_fills_33 rfl ?_
    refine zr_getr (b := 11) dX10_fills_34 fX10_45 rfl rfl rfl (by decide) ?_
    refine zr_iload_n 1 dX10_fills_37 rfl ?_
    obtain ⟨c13, W⟩ := W
    refine zr_iald dX10_fills_38 rfl (by decide) c13 ?_
    refine zr_aload_n 0 dX10_fills_39 rfl ?_
    refine zr_getr (b := 3) dX10_fills_40 fX10_20 rfl rfl rfl (by decide) ?_
    refine zr_iconst dX10_fills_43 ?_
    refine zr_iald dX10_fills_44 rfl (by decide) ⟨by decide, by decide⟩ ?_
    refine zr_iadd dX10_fills_45 ?_
    obtain ⟨c14, W⟩ := W
    obtain ⟨c15, W⟩ := W
    refine zr_icmp_le (tgt := 53) dX10_fills_46 (by decide) c14 c15 (fun h => ?_) (fun h => ?_)
    · have W := W.1 h
      refine zr_iconst dX10_fills_53 ?_
      refine zr_istore_n (l' := [(0, zA g 1), (3, zI 0), (4, zI (pmx C R (M 11) x2 3)), (5, zI (alg C R x2 (pmx C R (M 11) x2 3) 1))]) dX10_fills_54 (by decide) [1, 0, 3, 4] rfl ?_
      refine zr_iload_n 1 dX10_fills_55 rfl ?_
      refine zr_if_eq (tgt := 70) dX10_fills_56 (by decide) ⟨by decide, by decide⟩ (fun h => ?_) (fun h => ?_)
      · skip
        refine zr_iload 3 dX10_fills_70 rfl ?_
        refine zr_istore_n (l' := [(0, zA g 1), (2, zI (alg C R x2 (pmx C R (M 11) x2 3) 1)), (3, zI 0)]) dX10_fills_72 (by decide) [1, 0, 2] rfl ?_
        refine zr_goto (tgt := 4) dX10_fills_73 (by decide) ?_
        exact W
      · exact absurd h (by decide)
    · have W := W.2 h
      refine zr_iconst dX10_fills_49 ?_
      refine zr_goto (tgt := 54) dX10_fills_50 (by decide) ?_
      refine zr_istore_n (l' := [(0, zA g 1), (3, zI 1), (4, zI (pmx C R (M 11) x2 3)), (5, zI (alg C R x2 (pmx C R (M 11) x2 3) 1))]) dX10_fills_54 (by decide) [1, 0, 3, 4] rfl ?_
      refine zr_iload_n 1 dX10_fills_55 rfl ?_
      refine zr_if_eq (tgt := 70) dX10_fills_56 (by decide) ⟨by decide, by decide⟩ (fun h => ?_) (fun h => ?_)
      · exact absurd h (by decide)
      · skip
        refine zr_aload_n 0 dX10_fills_59 rfl ?_
        refine zr_iload 3 dX10_fills_60 rfl ?_
        refine zr_iload 2 dX10_fills_62 rfl ?_
        refine zt_callSi (As := [zI (pmx C R (M 11) x2 3)]) (rest := [zI (alg C R x2 (pmx C R (M 11) x2 3) 1), zA g 1]) dX10_fills_64 kX10_fills_279 rfl rfl (Nat.le_of_ble_eq_true rfl) (c_against c8) (fun r16 N18 h17 => ?_)
        rw [h17.1, h17.2]
        obtain ⟨q19, k23, W⟩ := W
        refine zt_callVv (As := [zI (alg C R x2 (pmx C R (M 11) x2 3) 1), zI (opp (pmx C R (M 11) x2 3))]) (rest := []) dX10_fills_67 kX10_fills_297 rfl rfl rfl rfl (Nat.le_of_ble_eq_true rfl) k23 (fun M21 h22 => ?_)
        have W := W M21 h22
        refine zr_iload 3 dX10_fills_70 rfl ?_
        refine zr_istore_n (l' := [(0, zA g 1), (2, zI (alg C R x2 (pmx C R (M 11) x2 3) 1)), (3, zI 1)]) dX10_fills_72 (by decide) [1, 0, 2] rfl ?_
        refine zr_goto (tgt := 4) dX10_fills_73 (by decide) ?_
        exact W
theorem dX10_spills_0 : decode cX10_spills 0 = .ok (.iload_n 1, 1) := by decide +kernel
theorem dX10_spills_1 : decode cX10_spills 1 = .ok (.istore_n 2, 1) := by decide +kernel
theorem dX10_spills_2 : decode cX10_spills 2 = .ok (.iconst 1, 1) := by decide +kernel
theorem dX10_spills_3 : decode cX10_spills 3 = .ok (.istore_n 3, 1) := by decide +kernel
theorem dX10_spills_4 : decode cX10_spills 4 = .ok (.iload_n 3, 1) := by decide +kernel
theorem dX10_spills_5 : decode cX10_spills 5 = .ok (.ifCond .eq 67, 3) := by decide +kernel
theorem dX10_spills_8 : decode cX10_spills 8 = .ok (.aload_n 0, 1) := by decide +kernel
theorem dX10_spills_9 : decode cX10_spills 9 = .ok (.iload_n 2, 1) := by decide +kernel
theorem dX10_spills_10 : decode cX10_spills 10 = .ok (.iconst 0, 1) := by decide +kernel
theorem dX10_spills_11 : decode cX10_spills 11 = .ok (.invokevirtual 293, 3) := by decide +kernel
theorem dX10_spills_14 : decode cX10_spills 14 = .ok (.istore 4, 2) := by decide +kernel
theorem dX10_spills_16 : decode cX10_spills 16 = .ok (.aload_n 0, 1) := by decide +kernel
theorem dX10_spills_17 : decode cX10_spills 17 = .ok (.iload_n 2, 1) := by decide +kernel
theorem dX10_spills_18 : decode cX10_spills 18 = .ok (.iload 4, 2) := by decide +kernel
theorem dX10_spills_20 : decode cX10_spills 20 = .ok (.iconst 1, 1) := by decide +kernel
theorem dX10_spills_21 : decode cX10_spills 21 = .ok (.invokevirtual 282, 3) := by decide +kernel
theorem dX10_spills_24 : decode cX10_spills 24 = .ok (.istore 5, 2) := by decide +kernel
theorem dX10_spills_26 : decode cX10_spills 26 = .ok (.aload_n 0, 1) := by decide +kernel
theorem dX10_spills_27 : decode cX10_spills 27 = .ok (.getfield 45, 3) := by decide +kernel
theorem dX10_spills_30 : decode cX10_spills 30 = .ok (.iload 5, 2) := by decide +kernel
theorem dX10_spills_32 : decode cX10_spills 32 = .ok (.iaload, 1) := by decide +kernel
theorem dX10_spills_33 : decode cX10_spills 33 = .ok (.aload_n 0, 1) := by decide +kernel
theorem dX10_spills_34 : decode cX10_spills 34 = .ok (.getfield 45, 3) := by decide +kernel
theorem dX10_spills_37 : decode cX10_spills 37 = .ok (.iload_n 2, 1) := by decide +kernel
theorem dX10_spills_38 : decode cX10_spills 38 = .ok (.iaload, 1) := by decide +kernel
theorem dX10_spills_39 : decode cX10_spills 39 = .ok (.aload_n 0, 1) := by decide +kernel
theorem dX10_spills_40 : decode cX10_spills 40 = .ok (.getfield 20, 3) := by decide +kernel
theorem dX10_spills_43 : decode cX10_spills 43 = .ok (.iconst 5, 1) := by decide +kernel
theorem dX10_spills_44 : decode cX10_spills 44 = .ok (.iaload, 1) := by decide +kernel
theorem dX10_spills_45 : decode cX10_spills 45 = .ok (.isub, 1) := by decide +kernel
theorem dX10_spills_46 : decode cX10_spills 46 = .ok (.if_icmp .ge 7, 3) := by decide +kernel
theorem dX10_spills_49 : decode cX10_spills 49 = .ok (.iconst 1, 1) := by decide +kernel
theorem dX10_spills_50 : decode cX10_spills 50 = .ok (.goto 4, 3) := by decide +kernel
theorem dX10_spills_53 : decode cX10_spills 53 = .ok (.iconst 0, 1) := by decide +kernel
theorem dX10_spills_54 : decode cX10_spills 54 = .ok (.istore_n 3, 1) := by decide +kernel
theorem dX10_spills_55 : decode cX10_spills 55 = .ok (.iload_n 3, 1) := by decide +kernel
theorem dX10_spills_56 : decode cX10_spills 56 = .ok (.ifCond .eq 10, 3) := by decide +kernel
theorem dX10_spills_59 : decode cX10_spills 59 = .ok (.aload_n 0, 1) := by decide +kernel
theorem dX10_spills_60 : decode cX10_spills 60 = .ok (.iload_n 2, 1) := by decide +kernel
theorem dX10_spills_61 : decode cX10_spills 61 = .ok (.iload 4, 2) := by decide +kernel
theorem dX10_spills_63 : decode cX10_spills 63 = .ok (.invokevirtual 297, 3) := by decide +kernel
theorem dX10_spills_66 : decode cX10_spills 66 = .ok (.iload 5, 2) := by decide +kernel
theorem dX10_spills_68 : decode cX10_spills 68 = .ok (.istore_n 2, 1) := by decide +kernel
theorem dX10_spills_69 : decode cX10_spills 69 = .ok (.goto (-65), 3) := by decide +kernel
theorem dX10_spills_72 : decode cX10_spills 72 = .ok (.return_, 1) := by decide +kernel
set_option maxRecDepth 100000 in
theorem SX10_spills_0 {g : zG} {o : Bool} {M : zM} {q : zM → Prop} {x1 : Int} (W : zT g (z2 o) mX10_spills (zQv (z2 o) q) 4 [(0, zA g 1), (2, zI x1), (3, zI 1)] [] M) : zT g (z2 o) mX10_spills (zQv (z2 o) q) 0 [(0, zA g 1), (1, zI x1)] [] M := by
  refine zr_iload_n 1 dX10_spills_0 rfl ?_
  refine zr_istore_n (l' := [(0, zA g 1), (2, zI x1)]) dX10_spills_1 (by decide) [1, 0] rfl ?_
  refine zr_iconst dX10_spills_2 ?_
  refine zr_istore_n (l' := [(0, zA g 1), (2, zI x1), (3, zI 1)]) dX10_spills_3 (by decide) [1, 2, 0] rfl ?_
  exact W
set_option maxRecDepth 100000 in
theorem SX10_spills_4 {g : zG} {o : Bool} {C R : Int} {M : zM} {q : zM → Prop} {x2 x3 : Int} (W : (-2147483648 ≤ x3 ∧ x3 ≤ 2147483647) ∧ ((x3 = 0) → q M) ∧ ((¬ (x3 = 0)) → (zRf M C R) ∧ (0 ≤ x2 ∧ x2 < C * R) ∧ (Bd (M 11)) ∧ (0 ≤ (pmn C R (M 11) x2 3) ∧ (pmn C R (M 11) x2 3) ≤ 3) ∧ (0 ≤ (alg C R x2 (pmn C R (M 11) x2 3) 1) ∧ (alg C R x2 (pmn C R (M 11) x2 3) 1) < 198) ∧ (0 ≤ x2 ∧ x2 < 198) ∧ (-2147483648 ≤ (M 11 (alg C R x2 (pmn C R (M 11) x2 3) 1)) ∧ (M 11 (alg C R x2 (pmn C R (M 11) x2 3) 1)) ≤ 2147483647) ∧ (-2147483648 ≤ ((M 11 x2) - (M 3 5)) ∧ ((M 11 x2) - (M 3 5)) ≤ 2147483647) ∧ ((((M 11 x2) - (M 3 5)) ≤ (M 11 (alg C R x2 (pmn C R (M 11) x2 3) 1))) → zT g (z2 o) mX10_spills (zQv (z2 o) q) 4 [(0, zA g 1), (2, zI (alg C R x2 (pmn C R (M 11) x2 3) 1)), (3, zI 0)] [] M) ∧ ((¬ (((M 11 x2) - (M 3 5)) ≤ (M 11 (alg C R x2 (pmn C R (M 11) x2 3) 1)))) → ∃ q16 : zM → Prop, zKv g (z2 o) mX10_slides [zA g 1, zI x2, zI (pmn C R (M 11) x2 3)] M q16 ∧ ∀ M18 : zM, q16 M18 → zT g (z2 o) mX10_spills (zQv (z2 o) q) 4 [(0, zA g 1), (2, zI (alg C R x2 (pmn C R (M 11) x2 3) 1)), (3, zI 1)] [] M18))) : zT g (z2 o) mX10_spills (zQv (z2 o) q) 4 [(0, zA g 1), (2, zI x2), (3, zI x3)] [] M := by
  refine zr_iload_n 2 dX10_spills_4 rfl ?_
  obtain ⟨c1, W⟩ := W
  refine zr_if_eq (tgt := 72) dX10_spills_5 (by decide) c1 (fun h => ?_) (fun h => ?_)
  · have W := W.1 h
    exact zt_ret dX10_spills_72 rfl W
  · have W := W.2 h
    refine zr_aload_n 0 dX10_spills_8 rfl ?_
    refine zr_iload_n 1 dX10_spills_9 rfl ?_
    refine zr_iconst dX10_spills_10 ?_
    obtain ⟨c2, W⟩ := W
    obtain ⟨c3, W⟩ := W
    obtain ⟨c4, W⟩ := W
    refine zt_callVi (As := [zI x2, zI 0]) (rest := []) dX10_spills_11 kX10_spills_293 rfl rfl rfl rfl (Nat.le_of_ble_eq_true rfl) (c_wayToL c2 c3 c4) (fun r5 N7 h6 => ?_)
    rw [h6.1, h6.2]
    refine zr_istore (l' := [(0, zA g 1), (2, zI x2), (4, zI (pmn C R (M 11) x2 3))]) dX10_spills_14 (by decide) [1, 2, 0] rfl ?_
    refine zr_aload_n 0 dX10_spills_16 rfl ?_
    refine zr_iload_n 1 dX10_spills_17 rfl ?_
    refine zr_iload 2 dX10_spills_18 rfl ?_
    refine zr_iconst dX10_spills_20 ?_
    obtain ⟨c8, W⟩ := W
    refine zt_callVi (As := [zI x2, zI (pmn C R (M 11) x2 3), zI 1]) (rest := []) dX10_spills_21 kX10_spills_282 rfl rfl rfl rfl (Nat.le_of_ble_eq_true rfl) (c_along c2 c3 c8 (by decide)) (fun r9 N11 h10 => ?_)
    rw [h10.1, h10.2]
    refine zr_istore (l' := [(0, zA g 1), (2, zI x2), (4, zI (pmn C R (M 11) x2 3)), (5, zI (alg C R x2 (pmn C R (M 11) x2 3) 1))]) dX10_spills_24 (by decide) [1, 2, 3, 0] rfl ?_
    refine zr_aload_n 0 dX10_spills_26 rfl ?_
    refine zr_getr (b := 11) dX10_spills_27 fX10_45 rfl rfl rfl (by decide) ?_
    refine zr_iload 3 dX10_spills_30 rfl ?_
    obtain ⟨c12, W⟩ := W
    refine zr_iald dX10_spills_32 rfl (by decide) c12 ?_
    refine zr_aload_n 0 dX10_spills_33 rfl ?_
    refine zr_getr (b := 11) dX10_spills_34 fX10_45 rfl rfl rfl (by decide) ?_
    refine zr_iload_n 1 dX10_spills_37 rfl ?_
    obtain ⟨c13, W⟩ := W
    refine zr_iald dX10_spills_38 rfl (by decide) c13 ?_
    refine zr_aload_n 0 dX10_spills_39 rfl ?_
    refine zr_getr (b := 3) dX10_spills_40 fX10_20 rfl rfl rfl (by decide) ?_
    refine zr_iconst dX10_spills_43 ?_
    refine zr_iald dX10_spills_44 rfl (by decide) ⟨by decide, by decide⟩ ?_
    refine zr_isub dX10_spills_45 ?_
    obtain ⟨c14, W⟩ := W
    obtain ⟨c15, W⟩ := W
    refine zr_icmp_ge (tgt := 53) dX10_spills_46 (by decide) c14 c15 (fun h => ?_) (fun h => ?_)
    · have W := W.1 h
      refine zr_iconst dX10_spills_53 ?_
      refine zr_istore_n (l' := [(0, zA g 1), (2, zI x2), (3, zI 0), (4, zI (pmn C R (M 11) x2 3)), (5, zI (alg C R x2 (pmn C R (M 11) x2 3) 1))]) dX10_spills_54 (by decide) [1, 2, 0, 3, 4] rfl ?_
      refine zr_iload_n 2 dX10_spills_55 rfl ?_
      refine zr_if_eq (tgt := 66) dX10_spills_56 (by decide) ⟨by decide, by decide⟩ (fun h => ?_) (fun h => ?_)
      · skip
        refine zr_iload 4 dX10_spills_66 rfl ?_
        refine zr_istore_n (l' := [(0, zA g 1), (2, zI (alg C R x2 (pmn C R (M 11) x2 3) 1)), (3, zI 0)]) dX10_spills_68 (by decide) [1, 0, 2] rfl ?_
        refine zr_goto (tgt := 4) dX10_spills_69 (by decide) ?_
        exact W
      · exact absurd h (by decide)
    · have W := W.2 h
      refine zr_iconst dX10_spills_49 ?_
      refine zr_goto (tgt := 54) dX10_spills_50 (by decide) ?_
      refine zr_istore_n (l' := [(0, zA g 1), (2, zI x2), (3, zI 1), (4, zI (pmn C R (M 11) x2 3)), (5, zI (alg C R x2 (pmn C R (M 11) x2 3) 1))]) dX10_spills_54 (by decide) [1, 2, 0, 3, 4] rfl ?_
      refine zr_iload_n 2 dX10_spills_55 rfl ?_
      refine zr_if_eq (tgt := 66) dX10_spills_56 (by decide) ⟨by decide, by decide⟩ (fun h => ?_) (fun h => ?_)
      · exact absurd h (by decide)
      · skip
        refine zr_aload_n 0 dX10_spills_59 rfl ?_
        refine zr_iload_n 1 dX10_spills_60 rfl ?_
        refine zr_iload 3 dX10_spills_61 rfl ?_
        obtain ⟨q16, k20, W⟩ := W
        refine zt_callVv (As := [zI x2, zI (pmn C R (M 11) x2 3)]) (rest := []) dX10_spills_63 kX10_spills_297 rfl rfl rfl rfl (Nat.le_of_ble_eq_true rfl) k20 (fun M18 h19 => ?_)
        have W := W M18 h19
        refine zr_iload 4 dX10_spills_66 rfl ?_
        refine zr_istore_n (l' := [(0, zA g 1), (2, zI (alg C R x2 (pmn C R (M 11) x2 3) 1)), (3, zI 1)]) dX10_spills_68 (by decide) [1, 0, 2] rfl ?_
        refine zr_goto (tgt := 4) dX10_spills_69 (by decide) ?_
        exact W
theorem dX10_settles_0 : decode cX10_settles 0 = .ok (.iconst 0, 1) := by decide +kernel
theorem dX10_settles_1 : decode cX10_settles 1 = .ok (.istore_n 1, 1) := by decide +kernel
theorem dX10_settles_2 : decode cX10_settles 2 = .ok (.iload_n 1, 1) := by decide +kernel
theorem dX10_settles_3 : decode cX10_settles 3 = .ok (.aload_n 0, 1) := by decide +kernel
theorem dX10_settles_4 : decode cX10_settles 4 = .ok (.invokevirtual 226, 3) := by decide +kernel
theorem dX10_settles_7 : decode cX10_settles 7 = .ok (.if_icmp .ge 69, 3) := by decide +kernel
theorem dX10_settles_10 : decode cX10_settles 10 = .ok (.aload_n 0, 1) := by decide +kernel
theorem dX10_settles_11 : decode cX10_settles 11 = .ok (.iload_n 1, 1) := by decide +kernel
theorem dX10_settles_12 : decode cX10_settles 12 = .ok (.iconst 0, 1) := by decide +kernel
theorem dX10_settles_13 : decode cX10_settles 13 = .ok (.invokevirtual 293, 3) := by decide +kernel
theorem dX10_settles_16 : decode cX10_settles 16 = .ok (.istore_n 2, 1) := by decide +kernel
theorem dX10_settles_17 : decode cX10_settles 17 = .ok (.aload_n 0, 1) := by decide +kernel
theorem dX10_settles_18 : decode cX10_settles 18 = .ok (.getfield 45, 3) := by decide +kernel
theorem dX10_settles_21 : decode cX10_settles 21 = .ok (.aload_n 0, 1) := by decide +kernel
theorem dX10_settles_22 : decode cX10_settles 22 = .ok (.iload_n 1, 1) := by decide +kernel
theorem dX10_settles_23 : decode cX10_settles 23 = .ok (.iload_n 2, 1) := by decide +kernel
theorem dX10_settles_24 : decode cX10_settles 24 = .ok (.iconst 1, 1) := by decide +kernel
theorem dX10_settles_25 : decode cX10_settles 25 = .ok (.invokevirtual 282, 3) := by decide +kernel
theorem dX10_settles_28 : decode cX10_settles 28 = .ok (.iaload, 1) := by decide +kernel
theorem dX10_settles_29 : decode cX10_settles 29 = .ok (.aload_n 0, 1) := by decide +kernel
theorem dX10_settles_30 : decode cX10_settles 30 = .ok (.getfield 45, 3) := by decide +kernel
theorem dX10_settles_33 : decode cX10_settles 33 = .ok (.iload_n 1, 1) := by decide +kernel
theorem dX10_settles_34 : decode cX10_settles 34 = .ok (.iaload, 1) := by decide +kernel
theorem dX10_settles_35 : decode cX10_settles 35 = .ok (.aload_n 0, 1) := by decide +kernel
theorem dX10_settles_36 : decode cX10_settles 36 = .ok (.getfield 20, 3) := by decide +kernel
theorem dX10_settles_39 : decode cX10_settles 39 = .ok (.iconst 5, 1) := by decide +kernel
theorem dX10_settles_40 : decode cX10_settles 40 = .ok (.iaload, 1) := by decide +kernel
theorem dX10_settles_41 : decode cX10_settles 41 = .ok (.isub, 1) := by decide +kernel
theorem dX10_settles_42 : decode cX10_settles 42 = .ok (.if_icmp .ge 7, 3) := by decide +kernel
theorem dX10_settles_45 : decode cX10_settles 45 = .ok (.iconst 1, 1) := by decide +kernel
theorem dX10_settles_46 : decode cX10_settles 46 = .ok (.goto 4, 3) := by decide +kernel
theorem dX10_settles_49 : decode cX10_settles 49 = .ok (.iconst 0, 1) := by decide +kernel
theorem dX10_settles_50 : decode cX10_settles 50 = .ok (.istore_n 3, 1) := by decide +kernel
theorem dX10_settles_51 : decode cX10_settles 51 = .ok (.iload_n 3, 1) := by decide +kernel
theorem dX10_settles_52 : decode cX10_settles 52 = .ok (.ifCond .eq 9, 3) := by decide +kernel
theorem dX10_settles_55 : decode cX10_settles 55 = .ok (.aload_n 0, 1) := by decide +kernel
theorem dX10_settles_56 : decode cX10_settles 56 = .ok (.iload_n 1, 1) := by decide +kernel
theorem dX10_settles_57 : decode cX10_settles 57 = .ok (.iload_n 2, 1) := by decide +kernel
theorem dX10_settles_58 : decode cX10_settles 58 = .ok (.invokevirtual 297, 3) := by decide +kernel
theorem dX10_settles_61 : decode cX10_settles 61 = .ok (.iload_n 3, 1) := by decide +kernel
theorem dX10_settles_62 : decode cX10_settles 62 = .ok (.ifCond .eq 7, 3) := by decide +kernel
theorem dX10_settles_65 : decode cX10_settles 65 = .ok (.iconst 0, 1) := by decide +kernel
theorem dX10_settles_66 : decode cX10_settles 66 = .ok (.goto 6, 3) := by decide +kernel
theorem dX10_settles_69 : decode cX10_settles 69 = .ok (.iload_n 1, 1) := by decide +kernel
theorem dX10_settles_70 : decode cX10_settles 70 = .ok (.iconst 1, 1) := by decide +kernel
theorem dX10_settles_71 : decode cX10_settles 71 = .ok (.iadd, 1) := by decide +kernel
theorem dX10_settles_72 : decode cX10_settles 72 = .ok (.istore_n 1, 1) := by decide +kernel
theorem dX10_settles_73 : decode cX10_settles 73 = .ok (.goto (-71), 3) := by decide +kernel
theorem dX10_settles_76 : decode cX10_settles 76 = .ok (.return_, 1) := by decide +kernel
set_option maxRecDepth 100000 in
theorem SX10_settles_0 {g : zG} {o : Bool} {M : zM} {q : zM → Prop} (W : zT g (z2 o) mX10_settles (zQv (z2 o) q) 2 [(0, zA g 1), (1, zI 0)] [] M) : zT g (z2 o) mX10_settles (zQv (z2 o) q) 0 [(0, zA g 1)] [] M := by
  refine zr_iconst dX10_settles_0 ?_
  refine zr_istore_n (l' := [(0, zA g 1), (1, zI 0)]) dX10_settles_1 (by decide) [1, 0] rfl ?_
  exact W
set_option maxRecDepth 100000 in
theorem SX10_settles_2 {g : zG} {o : Bool} {C R : Int} {M : zM} {q : zM → Prop} {x1 : Int} (W : (zRf M C R) ∧ (-2147483648 ≤ x1 ∧ x1 ≤ 2147483647) ∧ (-2147483648 ≤ (C * R) ∧ (C * R) ≤ 2147483647) ∧ (((C * R) ≤ x1) → q M) ∧ ((¬ ((C * R) ≤ x1)) → (0 ≤ x1 ∧ x1 < C * R) ∧ (Bd (M 11)) ∧ (0 ≤ (pmn C R (M 11) x1 3) ∧ (pmn C R (M 11) x1 3) ≤ 3) ∧ (0 ≤ (alg C R x1 (pmn C R (M 11) x1 3) 1) ∧ (alg C R x1 (pmn C R (M 11) x1 3) 1) < 198) ∧ (0 ≤ x1 ∧ x1 < 198) ∧ (-2147483648 ≤ (M 11 (alg C R x1 (pmn C R (M 11) x1 3) 1)) ∧ (M 11 (alg C R x1 (pmn C R (M 11) x1 3) 1)) ≤ 2147483647) ∧ (-2147483648 ≤ ((M 11 x1) - (M 3 5)) ∧ ((M 11 x1) - (M 3 5)) ≤ 2147483647) ∧ ((((M 11 x1) - (M 3 5)) ≤ (M 11 (alg C R x1 (pmn C R (M 11) x1 3) 1))) → zT g (z2 o) mX10_settles (zQv (z2 o) q) 2 [(0, zA g 1), (1, zI (x1 + 1))] [] M) ∧ ((¬ (((M 11 x1) - (M 3 5)) ≤ (M 11 (alg C R x1 (pmn C R (M 11) x1 3) 1)))) → ∃ q20 : zM → Prop, zKv g (z2 o) mX10_slides [zA g 1, zI x1, zI (pmn C R (M 11) x1 3)] M q20 ∧ ∀ M22 : zM, q20 M22 → zT g (z2 o) mX10_settles (zQv (z2 o) q) 2 [(0, zA g 1), (1, zI 0)] [] M22))) : zT g (z2 o) mX10_settles (zQv (z2 o) q) 2 [(0, zA g 1), (1, zI x1)] [] M := by
  refine zr_iload_n 1 dX10_settles_2 rfl ?_
  refine zr_aload_n 0 dX10_settles_3 rfl ?_
  obtain ⟨c1, W⟩ := W
  refine zt_callVi (As := []) (rest := [zI x1]) dX10_settles_4 kX10_settles_226 rfl rfl rfl rfl (Nat.le_of_ble_eq_true rfl) (c_cells c1) (fun r2 N4 h3 => ?_)
  rw [h3.1, h3.2]
  obtain ⟨c5, W⟩ := W
  obtain ⟨c6, W⟩ := W
  refine zr_icmp_ge (tgt := 76) dX10_settles_7 (by decide) c5 c6 (fun h => ?_) (fun h => ?_)
  · have W := W.1 h
    exact zt_ret dX10_settles_76 rfl W
  · have W := W.2 h
    refine zr_aload_n 0 dX10_settles_10 rfl ?_
    refine zr_iload_n 1 dX10_settles_11 rfl ?_
    refine zr_iconst dX10_settles_12 ?_
    obtain ⟨c7, W⟩ := W
    obtain ⟨c8, W⟩ := W
    refine zt_callVi (As := [zI x1, zI 0]) (rest := []) dX10_settles_13 kX10_settles_293 rfl rfl rfl rfl (Nat.le_of_ble_eq_true rfl) (c_wayToL c1 c7 c8) (fun r9 N11 h10 => ?_)
    rw [h10.1, h10.2]
    refine zr_istore_n (l' := [(0, zA g 1), (1, zI x1), (2, zI (pmn C R (M 11) x1 3))]) dX10_settles_16 (by decide) [1, 2, 0] rfl ?_
    refine zr_aload_n 0 dX10_settles_17 rfl ?_
    refine zr_getr (b := 11) dX10_settles_18 fX10_45 rfl rfl rfl (by decide) ?_
    refine zr_aload_n 0 dX10_settles_21 rfl ?_
    refine zr_iload_n 1 dX10_settles_22 rfl ?_
    refine zr_iload_n 2 dX10_settles_23 rfl ?_
    refine zr_iconst dX10_settles_24 ?_
    obtain ⟨c12, W⟩ := W
    refine zt_callVi (As := [zI x1, zI (pmn C R (M 11) x1 3), zI 1]) (rest := [zA g 11]) dX10_settles_25 kX10_settles_282 rfl rfl rfl rfl (Nat.le_of_ble_eq_true rfl) (c_along c1 c7 c12 (by decide)) (fun r13 N15 h14 => ?_)
    rw [h14.1, h14.2]
    obtain ⟨c16, W⟩ := W
    refine zr_iald dX10_settles_28 rfl (by decide) c16 ?_
    refine zr_aload_n 0 dX10_settles_29 rfl ?_
    refine zr_getr (b := 11) dX10_settles_30 fX10_45 rfl rfl rfl (by decide) ?_
    refine zr_iload_n 1 dX10_settles_33 rfl ?_
    obtain ⟨c17, W⟩ := W
    refine zr_iald dX10_settles_34 rfl (by decide) c17 ?_
    refine zr_aload_n 0 dX10_settles_35 rfl ?_
    refine zr_getr (b := 3) dX10_settles_36 fX10_20 rfl rfl rfl (by decide) ?_
    refine zr_iconst dX10_settles_39 ?_
    refine zr_iald dX10_settles_40 rfl (by decide) ⟨by decide, by decide⟩ ?_
    refine zr_isub dX10_settles_41 ?_
    obtain ⟨c18, W⟩ := W
    obtain ⟨c19, W⟩ := W
    refine zr_icmp_ge (tgt := 49) dX10_settles_42 (by decide) c18 c19 (fun h => ?_) (fun h => ?_)
    · have W := W.1 h
      refine zr_iconst dX10_settles_49 ?_
      refine zr_istore_n (l' := [(0, zA g 1), (1, zI x1), (2, zI (pmn C R (M 11) x1 3)), (3, zI 0)]) dX10_settles_50 (by decide) [1, 2, 3, 0] rfl ?_
      refine zr_iload_n 3 dX10_settles_51 rfl ?_
      refine zr_if_eq (tgt := 61) dX10_settles_52 (by decide) ⟨by decide, by decide⟩ (fun h => ?_) (fun h => ?_)
      · skip
        refine zr_iload_n 3 dX10_settles_61 rfl ?_
        refine zr_if_eq (tgt := 69) dX10_settles_62 (by decide) ⟨by decide, by decide⟩ (fun h => ?_) (fun h => ?_)
        · skip
          refine zr_iload_n 1 dX10_settles_69 rfl ?_
          refine zr_iconst dX10_settles_70 ?_
          refine zr_iadd dX10_settles_71 ?_
          refine zr_istore_n (l' := [(0, zA g 1), (1, zI (x1 + 1))]) dX10_settles_72 (by decide) [1, 0] rfl ?_
          refine zr_goto (tgt := 2) dX10_settles_73 (by decide) ?_
          exact W
        · exact absurd h (by decide)
      · exact absurd h (by decide)
    · have W := W.2 h
      refine zr_iconst dX10_settles_45 ?_
      refine zr_goto (tgt := 50) dX10_settles_46 (by decide) ?_
      refine zr_istore_n (l' := [(0, zA g 1), (1, zI x1), (2, zI (pmn C R (M 11) x1 3)), (3, zI 1)]) dX10_settles_50 (by decide) [1, 2, 3, 0] rfl ?_
      refine zr_iload_n 3 dX10_settles_51 rfl ?_
      refine zr_if_eq (tgt := 61) dX10_settles_52 (by decide) ⟨by decide, by decide⟩ (fun h => ?_) (fun h => ?_)
      · exact absurd h (by decide)
      · skip
        refine zr_aload_n 0 dX10_settles_55 rfl ?_
        refine zr_iload_n 1 dX10_settles_56 rfl ?_
        refine zr_iload_n 2 dX10_settles_57 rfl ?_
        obtain ⟨q20, k24, W⟩ := W
        refine zt_callVv (As := [zI x1, zI (pmn C R (M 11) x1 3)]) (rest := []) dX10_settles_58 kX10_settles_297 rfl rfl rfl rfl (Nat.le_of_ble_eq_true rfl) k24 (fun M22 h23 => ?_)
        have W := W M22 h23
        refine zr_iload_n 3 dX10_settles_61 rfl ?_
        refine zr_if_eq (tgt := 69) dX10_settles_62 (by decide) ⟨by decide, by decide⟩ (fun h => ?_) (fun h => ?_)
        · exact absurd h (by decide)
        · skip
          refine zr_iconst dX10_settles_65 ?_
          refine zr_goto (tgt := 72) dX10_settles_66 (by decide) ?_
          refine zr_istore_n (l' := [(0, zA g 1), (1, zI 0)]) dX10_settles_72 (by decide) [1, 0] rfl ?_
          refine zr_goto (tgt := 2) dX10_settles_73 (by decide) ?_
          exact W
/-- the reference's row, slides and line stand for (heights, slides, lines) -/
def repz (M : zM) (z : Hz) : Prop := (∀ i : Int, 0 ≤ i → i < 96 → M 11 i = z.1 i) ∧ M 1 24 = z.2.1 ∧ rX M z.2.2
def rfz (M M' : zM) : Prop := (∀ b : Nat, b ≠ 1 → b ≠ 11 → M' b = M b) ∧ (∀ i : Int, i ≠ 24 → i ≠ 25 → M' 1 i = M 1 i) ∧ ∀ i : Int, 96 ≤ i → M' 11 i = M 11 i
section RQ
variable {g : zG} {o : Bool} {M M' M'' : zM} {x y w c k t S C R B : Int} {H H' X : Int → Int} {z : Hz}
theorem rfz.trans (h1 : rfz M M') (h2 : rfz M' M'') : rfz M M'' :=
  ⟨fun b p q => (h2.1 b p q).trans (h1.1 b p q), fun i p q => (h2.2.1 i p q).trans (h1.2.1 i p q), fun i p => (h2.2.2 i p).trans (h1.2.2 i p)⟩
theorem rfz.rf : rfz M M := ⟨fun _ _ _ => rfl, fun _ _ _ => rfl, fun _ _ => rfl⟩
theorem rfz.L (h : rfz M M') (hL : zRf M C R) : zRf M' C R := hL.of (h.1 3 (by decide) (by decide)) (h.1 4 (by decide) (by decide)) (h.1 5 (by decide) (by decide))
def eq96 (H H' : Int → Int) : Prop := ∀ i : Int, 0 ≤ i → i < 96 → H i = H' i
theorem bd_eq (h : eq96 H H') (hB : Bd H') : Bd H := fun i h0 h1 => by rw [h i h0 h1]; exact hB i h0 h1
theorem pmx_eq (hG : Geo C R) (hc : 0 ≤ c ∧ c < C * R) (h : eq96 H H') (n : Nat) : pmx C R H c n = pmx C R H' c n := by
  have hn := geo_n hG
  induction n with
  | zero => rfl
  | succ n ih =>
    unfold pmx
    have a1 := alg_in (w := ((n + 1 : Nat) : Int)) (k := 1) hG hc
    have a2 := alg_in (w := pmx C R H' c n) (k := 1) hG hc
    rw [ih, h _ a1.1 (by omega), h _ a2.1 (by omega)]
theorem pmn_eq (hG : Geo C R) (hc : 0 ≤ c ∧ c < C * R) (h : eq96 H H') (n : Nat) : pmn C R H c n = pmn C R H' c n := by
  have hn := geo_n hG
  induction n with
  | zero => rfl
  | succ n ih =>
    unfold pmn
    have a1 := alg_in (w := ((n + 1 : Nat) : Int)) (k := 1) hG hc
    have a2 := alg_in (w := pmn C R H' c n) (k := 1) hG hc
    rw [ih, h _ a1.1 (by omega), h _ a2.1 (by omega)]
theorem pmx_spec (n : Nat) : (∀ i : Nat, i ≤ n → H (alg C R c i 1) ≤ H (alg C R c (pmx C R H c n) 1)) ∧ ∀ i : Nat, (i : Int) < pmx C R H c n → H (alg C R c i 1) < H (alg C R c (pmx C R H c n) 1) := by
  induction n with
  | zero =>
    refine ⟨fun i hi => ?_, fun i hi => ?_⟩
    · rw [show i = 0 by omega]; exact Int.le_refl _
    · have : (i : Int) < 0 := hi
      omega
  | succ n ih =>
    have p := pmx_in (C := C) (R := R) (H := H) (c := c) n
    unfold pmx
    by_cases h : H (alg C R c (pmx C R H c n) 1) < H (alg C R c ((n + 1 : Nat) : Int) 1)
    · rw [if_pos h]
      refine ⟨fun i hi => ?_, fun i hi => ?_⟩
      · by_cases e : i = n + 1
        · rw [e]; exact Int.le_refl _
        · have := ih.1 i (by omega); omega
      · have := ih.1 i (by omega); omega
    · rw [if_neg h]
      refine ⟨fun i hi => ?_, ih.2⟩
      by_cases e : i = n + 1
      · rw [e]; omega
      · exact ih.1 i (by omega)
theorem pmn_spec (n : Nat) : (∀ i : Nat, i ≤ n → H (alg C R c (pmn C R H c n) 1) ≤ H (alg C R c i 1)) ∧ ∀ i : Nat, (i : Int) < pmn C R H c n → H (alg C R c (pmn C R H c n) 1) < H (alg C R c i 1) := by
  induction n with
  | zero =>
    refine ⟨fun i hi => ?_, fun i hi => ?_⟩
    · rw [show i = 0 by omega]; exact Int.le_refl _
    · have : (i : Int) < 0 := hi
      omega
  | succ n ih =>
    have p := pmn_in (C := C) (R := R) (H := H) (c := c) n
    unfold pmn
    by_cases h : H (alg C R c ((n + 1 : Nat) : Int) 1) < H (alg C R c (pmn C R H c n) 1)
    · rw [if_pos h]
      refine ⟨fun i hi => ?_, fun i hi => ?_⟩
      · by_cases e : i = n + 1
        · rw [e]; exact Int.le_refl _
        · have := ih.1 i (by omega); omega
      · have := ih.1 i (by omega); omega
    · rw [if_neg h]
      refine ⟨fun i hi => ?_, ih.2⟩
      by_cases e : i = n + 1
      · rw [e]; omega
      · exact ih.1 i (by omega)
theorem pku_first {m : Int} (n k : Nat) (h : (pku C R H m c n).2 = (k : Int)) : ∀ i : Nat, i < k → H (alg C R c i 1) < H (alg C R c k 1) := by
  induction n with
  | zero => have : (-1 : Int) = k := h
            omega
  | succ n ih =>
    unfold pku at h
    by_cases hc : (pku C R H m c n).1 < H (alg C R c n 1)
    · rw [if_pos hc] at h
      have hk : (n : Int) = k := h
      have hk : n = k := by omega
      subst hk
      intro i hi
      rcases pku_spec (C := C) (R := R) (H := H) (m := m) (c := c) n with ⟨-, e, hh⟩ | ⟨j, -, -, e, -, hh⟩
      · have := hh i hi; omega
      · have := hh i hi; omega
    · rw [if_neg hc] at h; exact ih h
theorem pkd_first {m : Int} (n k : Nat) (h : (pkd C R H m c n).2 = (k : Int)) : ∀ i : Nat, i < k → H (alg C R c k 1) < H (alg C R c i 1) := by
  induction n with
  | zero => have : (-1 : Int) = k := h
            omega
  | succ n ih =>
    unfold pkd at h
    by_cases hc : H (alg C R c n 1) < (pkd C R H m c n).1
    · rw [if_pos hc] at h
      have hk : (n : Int) = k := h
      have hk : n = k := by omega
      subst hk
      intro i hi
      rcases pkd_spec (C := C) (R := R) (H := H) (m := m) (c := c) n with ⟨-, e, hh⟩ | ⟨j, -, -, e, -, hh⟩
      · have := hh i hi; omega
      · have := hh i hi; omega
    · rw [if_neg hc] at h; exact ih h
/-- both ways of looking for the highest one beside agree -/
theorem wup_pmx (C R : Int) (H : Int → Int) (S c : Int) : (wup C R H S c = -1 ∧ H (alg C R c (pmx C R H c 3) 1) ≤ H c + S) ∨ (wup C R H S c = pmx C R H c 3 ∧ H c + S < H (alg C R c (pmx C R H c 3) 1)) := by
  have p := pmx_in (C := C) (R := R) (H := H) (c := c) 3
  obtain ⟨q, hq⟩ := znn p.1
  have s1 := pmx_spec (C := C) (R := R) (H := H) (c := c) 3
  rw [hq] at s1 p ⊢
  rcases pku_spec (C := C) (R := R) (H := H) (m := H c + S) (c := c) 4 with ⟨e, -, h⟩ | ⟨k, hk, e, -, h, hm⟩
  · exact Or.inl ⟨e, h q (by omega)⟩
  · have f := pku_first 4 k e
    have h1 := hm q (by omega)
    have h2 := s1.1 k (by omega)
    refine Or.inr ⟨?_, by omega⟩
    show (pku C R H (H c + S) c 4).2 = q
    rw [e]
    rcases Nat.lt_trichotomy k q with h3 | h3 | h3
    · have := s1.2 k (by omega); omega
    · rw [h3]
    · have := f q h3; omega
theorem wdn_pmn (C R : Int) (H : Int → Int) (S c : Int) : (wdn C R H S c = -1 ∧ H c - S ≤ H (alg C R c (pmn C R H c 3) 1)) ∨ (wdn C R H S c = pmn C R H c 3 ∧ H (alg C R c (pmn C R H c 3) 1) < H c - S) := by
  have p := pmn_in (C := C) (R := R) (H := H) (c := c) 3
  obtain ⟨q, hq⟩ := znn p.1
  have s1 := pmn_spec (C := C) (R := R) (H := H) (c := c) 3
  rw [hq] at s1 p ⊢
  rcases pkd_spec (C := C) (R := R) (H := H) (m := H c - S) (c := c) 4 with ⟨e, -, h⟩ | ⟨k, hk, e, -, h, hm⟩
  · exact Or.inl ⟨e, h q (by omega)⟩
  · have f := pkd_first 4 k e
    have h1 := hm q (by omega)
    have h2 := s1.1 k (by omega)
    refine Or.inr ⟨?_, by omega⟩
    show (pkd C R H (H c - S) c 4).2 = q
    rw [e]
    rcases Nat.lt_trichotomy k q with h3 | h3 | h3
    · have := s1.2 k (by omega); omega
    · rw [h3]
    · have := f q h3; omega
theorem c_slides (h : zRf M C R) (hc : 0 ≤ c ∧ c < C * R) (hw : 0 ≤ w ∧ w ≤ 3) (hl : -1 ≤ M 1 26 ∧ M 1 26 ≤ 12) (hz : repz M z) : zKv g (z2 o) mX10_slides [zA g 1, zI c, zI w] M (fun M' => repz M' (sldz C R z c w) ∧ rfz M M') := by
  have hn := geo_n h.1
  have a1 := alg_in (w := w) (k := 1) h.1 hc
  refine zkv_of rfl (Nat.le_of_ble_eq_true rfl) (SX10_slides_0 (C := C) (R := R) ⟨by omega, h.of (zu_other (by decide)) (zu_other (by decide)) (zu_other (by decide)), hc, hw, by omega, fun N9 e9 N11 e11 => ?_⟩)
  have p1 : ∀ b : Nat, b ≠ 1 → b ≠ 11 → zu N11 1 24 (N11 1 24 + 1) b = M b := fun b h1 h2 => by rw [zu_other h1, e11, zu_other h2, e9, zu_other h2]
  have p11 : zu N11 1 24 (N11 1 24 + 1) 11 = sld (M 11) c (alg C R c w 1) := by
    rw [zu_other (by decide), e11, e9]
    funext j
    simp only [zu_row, sld, up]
  have pi : ∀ i : Int, i ≠ 24 → zu N11 1 24 (N11 1 24 + 1) 1 i = M 1 i := fun i hi => by rw [zu_row, if_neg hi, e11, zu_other (by decide), e9, zu_other (by decide)]
  have p24 : zu N11 1 24 (N11 1 24 + 1) 1 24 = M 1 24 + 1 := by rw [zu_at, e11, zu_other (by decide), e9, zu_other (by decide)]
  have hX : rX (zu N11 1 24 (N11 1 24 + 1)) z.2.2 := by unfold rX; rw [pi 25 (by decide), pi 26 (by decide)]; exact hz.2.2
  have hcr := c_crosses (g := g) (o := o) (n := 1) (w := w) (c := c) (X := z.2.2) (M := zu N11 1 24 (N11 1 24 + 1)) (h.of (p1 3 (by decide) (by decide)) (p1 4 (by decide) (by decide)) (p1 5 (by decide) (by decide))) hc hw (by decide) (by rw [pi 26 (by decide)]; exact hl) hX
  refine ⟨_, hcr, fun M15 hq => ?_⟩
  obtain ⟨⟨v, e⟩, hX'⟩ := hq
  refine ⟨⟨fun i h0 h1 => ?_, ?_, hX'⟩, fun b h1 h2 => ?_, fun i h1 h2 => ?_, fun i h1 => ?_⟩
  · rw [e, zu_other (by decide), p11]
    show sld (M 11) c (alg C R c w 1) i = sld z.1 c (alg C R c w 1) i
    unfold sld up
    rw [hz.1 i h0 h1, hz.1 c hc.1 (by omega), hz.1 _ a1.1 (by omega)]
  · rw [e, zu_row, if_neg (by decide), p24, hz.2.1]; rfl
  · rw [e, zu_other h1, p1 b h1 h2]
  · rw [e, zu_row, if_neg h2, pi i h1]
  · rw [e, zu_other (by decide), p11, sld_o (by omega) (by omega)]
theorem c_fills (h : zRf M C R) (hc : 0 ≤ c ∧ c < C * R) (hl : -1 ≤ M 1 26 ∧ M 1 26 ≤ 12) (hz : repz M z) (hB : Bd z.1) : zKv g (z2 o) mX10_fills [zA g 1, zI c] M (fun M' => repz M' (flz C R (M 3 5) 96 z c) ∧ rfz M M') := by
  have hn := geo_n h.1
  have hS := h.2.2.2.1
  refine zkv_of rfl (Nat.le_of_ble_eq_true rfl) (SX10_fills_0 ?_)
  suffices hs : ∀ (n : Nat) (z : Hz) (c : Int) (M1 : zM), 0 ≤ c ∧ c < C * R → Bd z.1 → repz M1 z → rfz M M1 → muF C R (M 3 5) z.1 c < n → zT g (z2 o) mX10_fills (zQv (z2 o) (fun M' => repz M' (flz C R (M 3 5) n z c) ∧ rfz M M')) 4 [(0, zA g 1), (2, zI c), (3, zI 1)] [] M1 from
    hs 96 z c M hc hB hz rfz.rf (mu_le _ h.1 hc (by omega))
  intro n
  induction n with
  | zero =>
    intro z c M1 hc hB hz hf hmu
    have := (cnt_in (fun x => z.1 c + M 3 5 < z.1 x) (C * R).toNat).1
    unfold muF at hmu; omega
  | succ n ih =>
    intro z c M1 hc hB hz hf hmu
    have hL1 := hf.L h
    have e35 : M1 3 = M 3 := hf.1 3 (by decide) (by decide)
    have ep := pmx_eq h.1 hc (H := M1 11) (H' := z.1) hz.1 3
    have p := pmx_in (C := C) (R := R) (H := z.1) (c := c) 3
    have a1 := alg_in (w := pmx C R z.1 c 3) (k := 1) h.1 hc
    have b1 := hB _ a1.1 (by omega)
    have b2 := hB c hc.1 (by omega)
    refine SX10_fills_4 (C := C) (R := R) ⟨by omega, fun h4 => by omega, fun h4 => ?_⟩
    rw [ep, e35, hz.1 _ a1.1 (by omega), hz.1 c hc.1 (by omega)]
    refine ⟨hL1, hc, bd_eq hz.1 hB, by omega, by omega, by omega, by omega, by omega, fun h5 => ?_, fun h5 => ?_⟩
    · rcases wup_pmx C R z.1 (M 3 5) c with ⟨e, -⟩ | ⟨-, e2⟩
      · have ef : flz C R (M 3 5) (n + 1) z c = z := by show (if _ then _ else _) = _; rw [if_pos e]
        rw [ef]
        exact SX10_fills_4 (C := C) (R := R) ⟨by omega, fun _ => ⟨hz, hf⟩, fun h6 => absurd rfl h6⟩
      · omega
    · rcases wup_pmx C R z.1 (M 3 5) c with ⟨-, e2⟩ | ⟨e, e2⟩
      · omega
      · obtain ⟨p1, p2, p3, p4, p5⟩ := fill_step (B := 1000000000) (H := z.1) h.1 hS.1 hc (show 0 ≤ pmx C R z.1 c 3 ∧ pmx C R z.1 c 3 ≤ 3 by omega) e2
        refine ⟨_, c_slides hL1 p1 (opp_in (by omega)) (by rw [hf.2.1 26 (by decide) (by decide)]; exact hl) hz, fun M2 hq => ?_⟩
        have ef : flz C R (M 3 5) (n + 1) z c = flz C R (M 3 5) n (sldz C R z (alg C R c (pmx C R z.1 c 3) 1) (opp (pmx C R z.1 c 3))) (alg C R c (pmx C R z.1 c 3) 1) := by
          show (if wup C R z.1 (M 3 5) c = -1 then z else _) = _
          rw [if_neg (by omega), e]
        rw [ef]
        have ez : (sldz C R z (alg C R c (pmx C R z.1 c 3) 1) (opp (pmx C R z.1 c 3))).1 = sld z.1 (alg C R c (pmx C R z.1 c 3) 1) c := by
          show sld z.1 _ (alg C R (alg C R c (pmx C R z.1 c 3) 1) (opp (pmx C R z.1 c 3)) 1) = _
          rw [p2]
        exact ih _ _ M2 p1 (by rw [ez]; exact p5 hB) hq.1 (hf.trans hq.2) (by rw [ez]; omega)
theorem c_spills (h : zRf M C R) (hc : 0 ≤ c ∧ c < C * R) (hl : -1 ≤ M 1 26 ∧ M 1 26 ≤ 12) (hz : repz M z) (hB : Bd z.1) : zKv g (z2 o) mX10_spills [zA g 1, zI c] M (fun M' => repz M' (spz C R (M 3 5) 96 z c) ∧ rfz M M') := by
  have hn := geo_n h.1
  have hS := h.2.2.2.1
  refine zkv_of rfl (Nat.le_of_ble_eq_true rfl) (SX10_spills_0 ?_)
  suffices hs : ∀ (n : Nat) (z : Hz) (c : Int) (M1 : zM), 0 ≤ c ∧ c < C * R → Bd z.1 → repz M1 z → rfz M M1 → muS C R (M 3 5) z.1 c < n → zT g (z2 o) mX10_spills (zQv (z2 o) (fun M' => repz M' (spz C R (M 3 5) n z c) ∧ rfz M M')) 4 [(0, zA g 1), (2, zI c), (3, zI 1)] [] M1 from
    hs 96 z c M hc hB hz rfz.rf (mu_le _ h.1 hc (by omega))
  intro n
  induction n with
  | zero =>
    intro z c M1 hc hB hz hf hmu
    have := (cnt_in (fun x => z.1 x < z.1 c - M 3 5) (C * R).toNat).1
    unfold muS at hmu; omega
  | succ n ih =>
    intro z c M1 hc hB hz hf hmu
    have hL1 := hf.L h
    have e35 : M1 3 = M 3 := hf.1 3 (by decide) (by decide)
    have ep := pmn_eq h.1 hc (H := M1 11) (H' := z.1) hz.1 3
    have p := pmn_in (C := C) (R := R) (H := z.1) (c := c) 3
    have a1 := alg_in (w := pmn C R z.1 c 3) (k := 1) h.1 hc
    have b1 := hB _ a1.1 (by omega)
    have b2 := hB c hc.1 (by omega)
    refine SX10_spills_4 (C := C) (R := R) ⟨by omega, fun h4 => by omega, fun h4 => ?_⟩
    rw [ep, e35, hz.1 _ a1.1 (by omega), hz.1 c hc.1 (by omega)]
    refine ⟨hL1, hc, bd_eq hz.1 hB, by omega, by omega, by omega, by omega, by omega, fun h5 => ?_, fun h5 => ?_⟩
    · rcases wdn_pmn C R z.1 (M 3 5) c with ⟨e, -⟩ | ⟨-, e2⟩
      · have ef : spz C R (M 3 5) (n + 1) z c = z := by show (if _ then _ else _) = _; rw [if_pos e]
        rw [ef]
        exact SX10_spills_4 (C := C) (R := R) ⟨by omega, fun _ => ⟨hz, hf⟩, fun h6 => absurd rfl h6⟩
      · omega
    · rcases wdn_pmn C R z.1 (M 3 5) c with ⟨-, e2⟩ | ⟨e, e2⟩
      · omega
      · obtain ⟨p1, p3, p4, p5⟩ := spill_step (B := 1000000000) (H := z.1) h.1 hS.1 hc e2
        refine ⟨_, c_slides hL1 hc (by omega) (by rw [hf.2.1 26 (by decide) (by decide)]; exact hl) hz, fun M2 hq => ?_⟩
        have ef : spz C R (M 3 5) (n + 1) z c = spz C R (M 3 5) n (sldz C R z c (pmn C R z.1 c 3)) (alg C R c (pmn C R z.1 c 3) 1) := by
          show (if wdn C R z.1 (M 3 5) c = -1 then z else _) = _
          rw [if_neg (by omega), e]
        rw [ef]
        exact ih _ _ M2 p1 (p5 hB) hq.1 (hf.trans hq.2) (by show muS C R (M 3 5) (sld z.1 c _) _ < n; omega)
end RQ
