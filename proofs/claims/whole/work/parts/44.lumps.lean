theorem dX3_reach_0 : decode cX3_reach 0 = .ok (.aload_n 0, 1) := by decide +kernel
theorem dX3_reach_1 : decode cX3_reach 1 = .ok (.getfield 9, 3) := by decide +kernel
theorem dX3_reach_4 : decode cX3_reach 4 = .ok (.iload_n 1, 1) := by decide +kernel
theorem dX3_reach_5 : decode cX3_reach 5 = .ok (.baload, 1) := by decide +kernel
theorem dX3_reach_6 : decode cX3_reach 6 = .ok (.ifCond .eq 52, 3) := by decide +kernel
theorem dX3_reach_9 : decode cX3_reach 9 = .ok (.aload_n 0, 1) := by decide +kernel
theorem dX3_reach_10 : decode cX3_reach 10 = .ok (.getfield 23, 3) := by decide +kernel
theorem dX3_reach_13 : decode cX3_reach 13 = .ok (.iload_n 1, 1) := by decide +kernel
theorem dX3_reach_14 : decode cX3_reach 14 = .ok (.iaload, 1) := by decide +kernel
theorem dX3_reach_15 : decode cX3_reach 15 = .ok (.iconst (-1), 1) := by decide +kernel
theorem dX3_reach_16 : decode cX3_reach 16 = .ok (.if_icmp .ne 42, 3) := by decide +kernel
theorem dX3_reach_19 : decode cX3_reach 19 = .ok (.aload_n 0, 1) := by decide +kernel
theorem dX3_reach_20 : decode cX3_reach 20 = .ok (.getfield 19, 3) := by decide +kernel
theorem dX3_reach_23 : decode cX3_reach 23 = .ok (.bipush 96, 2) := by decide +kernel
theorem dX3_reach_25 : decode cX3_reach 25 = .ok (.if_icmp .ge 33, 3) := by decide +kernel
theorem dX3_reach_28 : decode cX3_reach 28 = .ok (.aload_n 0, 1) := by decide +kernel
theorem dX3_reach_29 : decode cX3_reach 29 = .ok (.getfield 23, 3) := by decide +kernel
theorem dX3_reach_32 : decode cX3_reach 32 = .ok (.iload_n 1, 1) := by decide +kernel
theorem dX3_reach_33 : decode cX3_reach 33 = .ok (.aload_n 0, 1) := by decide +kernel
theorem dX3_reach_34 : decode cX3_reach 34 = .ok (.getfield 26, 3) := by decide +kernel
theorem dX3_reach_37 : decode cX3_reach 37 = .ok (.iastore, 1) := by decide +kernel
theorem dX3_reach_38 : decode cX3_reach 38 = .ok (.aload_n 0, 1) := by decide +kernel
theorem dX3_reach_39 : decode cX3_reach 39 = .ok (.getfield 15, 3) := by decide +kernel
theorem dX3_reach_42 : decode cX3_reach 42 = .ok (.aload_n 0, 1) := by decide +kernel
theorem dX3_reach_43 : decode cX3_reach 43 = .ok (.getfield 19, 3) := by decide +kernel
theorem dX3_reach_46 : decode cX3_reach 46 = .ok (.iload_n 1, 1) := by decide +kernel
theorem dX3_reach_47 : decode cX3_reach 47 = .ok (.iastore, 1) := by decide +kernel
theorem dX3_reach_48 : decode cX3_reach 48 = .ok (.aload_n 0, 1) := by decide +kernel
theorem dX3_reach_49 : decode cX3_reach 49 = .ok (.dup, 1) := by decide +kernel
theorem dX3_reach_50 : decode cX3_reach 50 = .ok (.getfield 19, 3) := by decide +kernel
theorem dX3_reach_53 : decode cX3_reach 53 = .ok (.iconst 1, 1) := by decide +kernel
theorem dX3_reach_54 : decode cX3_reach 54 = .ok (.iadd, 1) := by decide +kernel
theorem dX3_reach_55 : decode cX3_reach 55 = .ok (.putfield 19, 3) := by decide +kernel
theorem dX3_reach_58 : decode cX3_reach 58 = .ok (.return_, 1) := by decide +kernel
set_option maxRecDepth 100000 in
theorem SX3_reach_0 {g : zG} {o : Bool} {b : Nat} (hb : zLu b) {M : zM} {q : zM → Prop} {x1 : Int} (W : (0 ≤ x1 ∧ x1 < 96) ∧ (-2147483648 ≤ (M (b + 1) x1) ∧ (M (b + 1) x1) ≤ 2147483647) ∧ (((M (b + 1) x1) = 0) → q M) ∧ ((¬ ((M (b + 1) x1) = 0)) → (-2147483648 ≤ (M (b + 3) x1) ∧ (M (b + 3) x1) ≤ 2147483647) ∧ (((M (b + 3) x1) ≠ (-1)) → q M) ∧ (((M (b + 3) x1) = (-1)) → (-2147483648 ≤ (M b 3) ∧ (M b 3) ≤ 2147483647) ∧ ((96 ≤ (M b 3)) → q M) ∧ ((¬ (96 ≤ (M b 3))) → (0 ≤ ((zu M (b + 3) x1 (M b 5)) b 3) ∧ ((zu M (b + 3) x1 (M b 5)) b 3) < 96) ∧ ∀ N6 : zM, N6 = zu M (b + 3) x1 (M b 5) → ∀ N8 : zM, N8 = zu N6 (b + 2) (N6 b 3) x1 → q (zu N8 b 3 ((N8 b 3) + 1)))))) : zT g (z1 o) mX3_reach (zQv (z1 o) q) 0 [(0, zA g b), (1, zI x1)] [] M := by
  refine zr_aload_n 0 dX3_reach_0 rfl ?_
  refine zr_getr (b := (b + 1)) dX3_reach_1 fX3_9 (zlu_0 hb) rfl (zlu_f1 hb) (Nat.succ_ne_zero _) ?_
  refine zr_iload_n 1 dX3_reach_4 rfl ?_
  obtain ⟨c1, W⟩ := W
  refine zr_zald dX3_reach_5 (zlu_1 hb) (by decide) c1 ?_
  obtain ⟨c2, W⟩ := W
  refine zr_if_eq (tgt := 58) dX3_reach_6 (by decide) c2 (fun h => ?_) (fun h => ?_)
  · have W := W.1 h
    exact zt_ret dX3_reach_58 rfl W
  · have W := W.2 h
    refine zr_aload_n 0 dX3_reach_9 rfl ?_
    refine zr_getr (b := (b + 3)) dX3_reach_10 fX3_23 (zlu_0 hb) rfl (zlu_f4 hb) (Nat.succ_ne_zero _) ?_
    refine zr_iload_n 1 dX3_reach_13 rfl ?_
    refine zr_iald dX3_reach_14 (zlu_3 hb) (by decide) c1 ?_
    refine zr_iconst dX3_reach_15 ?_
    obtain ⟨c3, W⟩ := W
    refine zr_icmp_ne (tgt := 58) dX3_reach_16 (by decide) c3 ⟨by decide, by decide⟩ (fun h => ?_) (fun h => ?_)
    · have W := W.1 h
      exact zt_ret dX3_reach_58 rfl W
    · have W := W.2 h
      refine zr_aload_n 0 dX3_reach_19 rfl ?_
      refine zt_geti 3 rfl dX3_reach_20 fX3_19 (zlu_0 hb) (by decide) ?_
      refine zr_bipush dX3_reach_23 (by decide) ?_
      obtain ⟨c4, W⟩ := W
      refine zr_icmp_ge (tgt := 58) dX3_reach_25 (by decide) c4 ⟨by decide, by decide⟩ (fun h => ?_) (fun h => ?_)
      · have W := W.1 h
        exact zt_ret dX3_reach_58 rfl W
      · have W := W.2 h
        refine zr_aload_n 0 dX3_reach_28 rfl ?_
        refine zr_getr (b := (b + 3)) dX3_reach_29 fX3_23 (zlu_0 hb) rfl (zlu_f4 hb) (Nat.succ_ne_zero _) ?_
        refine zr_iload_n 1 dX3_reach_32 rfl ?_
        refine zr_aload_n 0 dX3_reach_33 rfl ?_
        refine zt_geti 5 rfl dX3_reach_34 fX3_26 (zlu_0 hb) (by decide) ?_
        refine zr_iast dX3_reach_37 (zlu_3 hb) (by decide) c1 ?_
        refine zr_aload_n 0 dX3_reach_38 rfl ?_
        refine zr_getr (b := (b + 2)) dX3_reach_39 fX3_15 (zlu_0 hb) rfl (zlu_f2 hb) (Nat.succ_ne_zero _) ?_
        refine zr_aload_n 0 dX3_reach_42 rfl ?_
        refine zt_geti 3 rfl dX3_reach_43 fX3_19 (zlu_0 hb) (by decide) ?_
        refine zr_iload_n 1 dX3_reach_46 rfl ?_
        obtain ⟨c5, W⟩ := W
        obtain ⟨N6, e7⟩ : ∃ N : zM, N = zu M (b + 3) x1 (M b 5) := ⟨_, rfl⟩
        rw [← e7]
        rw [← e7] at c5
        have W := W N6 e7
        refine zr_iast dX3_reach_47 (zlu_2 hb) (by decide) c5 ?_
        refine zr_aload_n 0 dX3_reach_48 rfl ?_
        refine zr_dup dX3_reach_49 rfl ?_
        refine zt_geti 3 rfl dX3_reach_50 fX3_19 (zlu_0 hb) (by decide) ?_
        refine zr_iconst dX3_reach_53 ?_
        refine zr_iadd dX3_reach_54 ?_
        obtain ⟨N8, e9⟩ : ∃ N : zM, N = zu N6 (b + 2) (N6 b 3) x1 := ⟨_, rfl⟩
        rw [← e9]
        have W := W N8 e9
        refine zt_puti 3 rfl dX3_reach_55 fX3_19 lcX3 ltX3_3 rfl (zlu_0 hb) ?_
        exact zt_ret dX3_reach_58 rfl W
theorem dX3_spread_0 : decode cX3_spread 0 = .ok (.aload_n 0, 1) := by decide +kernel
theorem dX3_spread_1 : decode cX3_spread 1 = .ok (.iconst 0, 1) := by decide +kernel
theorem dX3_spread_2 : decode cX3_spread 2 = .ok (.putfield 19, 3) := by decide +kernel
theorem dX3_spread_5 : decode cX3_spread 5 = .ok (.aload_n 0, 1) := by decide +kernel
theorem dX3_spread_6 : decode cX3_spread 6 = .ok (.iload_n 1, 1) := by decide +kernel
theorem dX3_spread_7 : decode cX3_spread 7 = .ok (.invokevirtual 58, 3) := by decide +kernel
theorem dX3_spread_10 : decode cX3_spread 10 = .ok (.iconst 0, 1) := by decide +kernel
theorem dX3_spread_11 : decode cX3_spread 11 = .ok (.istore_n 3, 1) := by decide +kernel
theorem dX3_spread_12 : decode cX3_spread 12 = .ok (.iload_n 3, 1) := by decide +kernel
theorem dX3_spread_13 : decode cX3_spread 13 = .ok (.aload_n 0, 1) := by decide +kernel
theorem dX3_spread_14 : decode cX3_spread 14 = .ok (.getfield 19, 3) := by decide +kernel
theorem dX3_spread_17 : decode cX3_spread 17 = .ok (.if_icmp .ge 76, 3) := by decide +kernel
theorem dX3_spread_20 : decode cX3_spread 20 = .ok (.iload_n 3, 1) := by decide +kernel
theorem dX3_spread_21 : decode cX3_spread 21 = .ok (.bipush 96, 2) := by decide +kernel
theorem dX3_spread_23 : decode cX3_spread 23 = .ok (.if_icmp .ge 70, 3) := by decide +kernel
theorem dX3_spread_26 : decode cX3_spread 26 = .ok (.iconst 0, 1) := by decide +kernel
theorem dX3_spread_27 : decode cX3_spread 27 = .ok (.istore 4, 2) := by decide +kernel
theorem dX3_spread_29 : decode cX3_spread 29 = .ok (.iload 4, 2) := by decide +kernel
theorem dX3_spread_31 : decode cX3_spread 31 = .ok (.iconst 4, 1) := by decide +kernel
theorem dX3_spread_32 : decode cX3_spread 32 = .ok (.if_icmp .ge 55, 3) := by decide +kernel
theorem dX3_spread_35 : decode cX3_spread 35 = .ok (.aload_n 0, 1) := by decide +kernel
theorem dX3_spread_36 : decode cX3_spread 36 = .ok (.getfield 29, 3) := by decide +kernel
theorem dX3_spread_39 : decode cX3_spread 39 = .ok (.aload_n 0, 1) := by decide +kernel
theorem dX3_spread_40 : decode cX3_spread 40 = .ok (.getfield 15, 3) := by decide +kernel
theorem dX3_spread_43 : decode cX3_spread 43 = .ok (.iload_n 3, 1) := by decide +kernel
theorem dX3_spread_44 : decode cX3_spread 44 = .ok (.iaload, 1) := by decide +kernel
theorem dX3_spread_45 : decode cX3_spread 45 = .ok (.iload 4, 2) := by decide +kernel
theorem dX3_spread_47 : decode cX3_spread 47 = .ok (.invokevirtual 62, 3) := by decide +kernel
theorem dX3_spread_50 : decode cX3_spread 50 = .ok (.istore 5, 2) := by decide +kernel
theorem dX3_spread_52 : decode cX3_spread 52 = .ok (.aload_n 0, 1) := by decide +kernel
theorem dX3_spread_53 : decode cX3_spread 53 = .ok (.iload 5, 2) := by decide +kernel
theorem dX3_spread_55 : decode cX3_spread 55 = .ok (.invokevirtual 58, 3) := by decide +kernel
theorem dX3_spread_58 : decode cX3_spread 58 = .ok (.iload_n 2, 1) := by decide +kernel
theorem dX3_spread_59 : decode cX3_spread 59 = .ok (.ifCond .eq 22, 3) := by decide +kernel
theorem dX3_spread_62 : decode cX3_spread 62 = .ok (.aload_n 0, 1) := by decide +kernel
theorem dX3_spread_63 : decode cX3_spread 63 = .ok (.aload_n 0, 1) := by decide +kernel
theorem dX3_spread_64 : decode cX3_spread 64 = .ok (.getfield 29, 3) := by decide +kernel
theorem dX3_spread_67 : decode cX3_spread 67 = .ok (.iload 5, 2) := by decide +kernel
theorem dX3_spread_69 : decode cX3_spread 69 = .ok (.iload 4, 2) := by decide +kernel
theorem dX3_spread_71 : decode cX3_spread 71 = .ok (.iconst 1, 1) := by decide +kernel
theorem dX3_spread_72 : decode cX3_spread 72 = .ok (.iadd, 1) := by decide +kernel
theorem dX3_spread_73 : decode cX3_spread 73 = .ok (.iconst 3, 1) := by decide +kernel
theorem dX3_spread_74 : decode cX3_spread 74 = .ok (.iand, 1) := by decide +kernel
theorem dX3_spread_75 : decode cX3_spread 75 = .ok (.invokevirtual 62, 3) := by decide +kernel
theorem dX3_spread_78 : decode cX3_spread 78 = .ok (.invokevirtual 58, 3) := by decide +kernel
theorem dX3_spread_81 : decode cX3_spread 81 = .ok (.iinc 4 1, 3) := by decide +kernel
theorem dX3_spread_84 : decode cX3_spread 84 = .ok (.goto (-55), 3) := by decide +kernel
theorem dX3_spread_87 : decode cX3_spread 87 = .ok (.iinc 3 1, 3) := by decide +kernel
theorem dX3_spread_90 : decode cX3_spread 90 = .ok (.goto (-78), 3) := by decide +kernel
theorem dX3_spread_93 : decode cX3_spread 93 = .ok (.return_, 1) := by decide +kernel
set_option maxRecDepth 100000 in
theorem SX3_spread_0 {g : zG} {o : Bool} {b : Nat} (hb : zLu b) {M : zM} {q : zM → Prop} {x1 x2 : Int} (W : ∃ q1 : zM → Prop, zKv g (z1 o) mX3_reach [zA g b, zI x1] (zu M b 3 0) q1 ∧ ∀ M3 : zM, q1 M3 → zT g (z1 o) mX3_spread (zQv (z1 o) q) 12 [(0, zA g b), (2, zI x2), (3, zI 0)] [] M3) : zT g (z1 o) mX3_spread (zQv (z1 o) q) 0 [(0, zA g b), (1, zI x1), (2, zI x2)] [] M := by
  refine zr_aload_n 0 dX3_spread_0 rfl ?_
  refine zr_iconst dX3_spread_1 ?_
  refine zt_puti 3 rfl dX3_spread_2 fX3_19 lcX3 ltX3_3 rfl (zlu_0 hb) ?_
  refine zr_aload_n 0 dX3_spread_5 rfl ?_
  refine zr_iload_n 1 dX3_spread_6 rfl ?_
  obtain ⟨q1, k5, W⟩ := W
  refine zt_callVv (As := [zI x1]) (rest := []) dX3_spread_7 kX3_spread_58 (zlu_0 hb) rfl rfl rfl (Nat.le_of_ble_eq_true rfl) k5 (fun M3 h4 => ?_)
  have W := W M3 h4
  refine zr_iconst dX3_spread_10 ?_
  refine zr_istore_n (l' := [(0, zA g b), (2, zI x2), (3, zI 0)]) dX3_spread_11 (by decide) [1, 3, 0] rfl ?_
  exact W
set_option maxRecDepth 100000 in
theorem SX3_spread_12 {g : zG} {o : Bool} {b : Nat} (hb : zLu b) {M : zM} {q : zM → Prop} {x2 x3 : Int} (W : (-2147483648 ≤ x3 ∧ x3 ≤ 2147483647) ∧ (-2147483648 ≤ (M b 3) ∧ (M b 3) ≤ 2147483647) ∧ (((M b 3) ≤ x3) → q M) ∧ ((¬ ((M b 3) ≤ x3)) → ((96 ≤ x3) → q M) ∧ ((¬ (96 ≤ x3)) → zT g (z1 o) mX3_spread (zQv (z1 o) q) 29 [(0, zA g b), (2, zI x2), (3, zI x3), (4, zI 0)] [] M))) : zT g (z1 o) mX3_spread (zQv (z1 o) q) 12 [(0, zA g b), (2, zI x2), (3, zI x3)] [] M := by
  refine zr_iload_n 2 dX3_spread_12 rfl ?_
  refine zr_aload_n 0 dX3_spread_13 rfl ?_
  refine zt_geti 3 rfl dX3_spread_14 fX3_19 (zlu_0 hb) (by decide) ?_
  obtain ⟨c1, W⟩ := W
  obtain ⟨c2, W⟩ := W
  refine zr_icmp_ge (tgt := 93) dX3_spread_17 (by decide) c1 c2 (fun h => ?_) (fun h => ?_)
  · have W := W.1 h
    exact zt_ret dX3_spread_93 rfl W
  · have W := W.2 h
    refine zr_iload_n 2 dX3_spread_20 rfl ?_
    refine zr_bipush dX3_spread_21 (by decide) ?_
    refine zr_icmp_ge (tgt := 93) dX3_spread_23 (by decide) c1 ⟨by decide, by decide⟩ (fun h => ?_) (fun h => ?_)
    · have W := W.1 h
      exact zt_ret dX3_spread_93 rfl W
    · have W := W.2 h
      refine zr_iconst dX3_spread_26 ?_
      refine zr_istore (l' := [(0, zA g b), (2, zI x2), (3, zI x3), (4, zI 0)]) dX3_spread_27 (by decide) [1, 2, 3, 0] rfl ?_
      exact W
set_option maxRecDepth 100000 in
theorem SX3_spread_29 {g : zG} {o : Bool} {b : Nat} (hb : zLu b) {C R : Int} {M : zM} {q : zM → Prop} {x2 x3 x4 : Int} (W : (-2147483648 ≤ x4 ∧ x4 ≤ 2147483647) ∧ ((4 ≤ x4) → zT g (z1 o) mX3_spread (zQv (z1 o) q) 12 [(0, zA g b), (2, zI x2), (3, zI (x3 + 1))] [] M) ∧ ((¬ (4 ≤ x4)) → (0 ≤ x3 ∧ x3 < 96) ∧ (zLand M C R) ∧ (0 ≤ (M (b + 2) x3) ∧ (M (b + 2) x3) < C * R) ∧ (0 ≤ x4 ∧ x4 ≤ 3) ∧ ∃ q9 : zM → Prop, zKv g (z1 o) mX3_reach [zA g b, zI (alg C R (M (b + 2) x3) x4 1)] M q9 ∧ ∀ M11 : zM, q9 M11 → (-2147483648 ≤ x2 ∧ x2 ≤ 2147483647) ∧ ((x2 = 0) → zT g (z1 o) mX3_spread (zQv (z1 o) q) 29 [(0, zA g b), (2, zI x2), (3, zI x3), (4, zI (x4 + 1))] [] M11) ∧ ((¬ (x2 = 0)) → (zLand M11 C R) ∧ (0 ≤ (alg C R (M (b + 2) x3) x4 1) ∧ (alg C R (M (b + 2) x3) x4 1) < C * R) ∧ (0 ≤ ((x4 + 1) % (3 + 1)) ∧ ((x4 + 1) % (3 + 1)) ≤ 3) ∧ ∃ q21 : zM → Prop, zKv g (z1 o) mX3_reach [zA g b, zI (alg C R (alg C R (M (b + 2) x3) x4 1) ((x4 + 1) % (3 + 1)) 1)] M11 q21 ∧ ∀ M23 : zM, q21 M23 → zT g (z1 o) mX3_spread (zQv (z1 o) q) 29 [(0, zA g b), (2, zI x2), (3, zI x3), (4, zI (x4 + 1))] [] M23))) : zT g (z1 o) mX3_spread (zQv (z1 o) q) 29 [(0, zA g b), (2, zI x2), (3, zI x3), (4, zI x4)] [] M := by
  refine zr_iload 3 dX3_spread_29 rfl ?_
  refine zr_iconst dX3_spread_31 ?_
  obtain ⟨c1, W⟩ := W
  refine zr_icmp_ge (tgt := 87) dX3_spread_32 (by decide) c1 ⟨by decide, by decide⟩ (fun h => ?_) (fun h => ?_)
  · have W := W.1 h
    refine zr_iinc (q := 2) (l' := [(0, zA g b), (2, zI x2), (3, zI (x3 + 1))]) dX3_spread_87 rfl (by decide) [1, 2, 0] rfl ?_
    refine zr_goto (tgt := 12) dX3_spread_90 (by decide) ?_
    exact W
  · have W := W.2 h
    refine zr_aload_n 0 dX3_spread_35 rfl ?_
    refine zr_getr (b := 14) dX3_spread_36 fX3_29 (zlu_0 hb) rfl (zlu_f0 hb) (by decide) ?_
    refine zr_aload_n 0 dX3_spread_39 rfl ?_
    refine zr_getr (b := (b + 2)) dX3_spread_40 fX3_15 (zlu_0 hb) rfl (zlu_f2 hb) (Nat.succ_ne_zero _) ?_
    refine zr_iload_n 2 dX3_spread_43 rfl ?_
    obtain ⟨c2, W⟩ := W
    refine zr_iald dX3_spread_44 (zlu_2 hb) (by decide) c2 ?_
    refine zr_iload 3 dX3_spread_45 rfl ?_
    obtain ⟨c3, W⟩ := W
    obtain ⟨c4, W⟩ := W
    obtain ⟨c5, W⟩ := W
    refine zt_callVi (As := [zI (M (b + 2) x3), zI x4]) (rest := []) dX3_spread_47 kX3_spread_62 rfl rfl rfl rfl (Nat.le_of_ble_eq_true rfl) (c_nbr c3 c4 c5) (fun r6 N8 h7 => ?_)
    rw [h7.1, h7.2]
    refine zr_istore (l' := [(0, zA g b), (2, zI x2), (3, zI x3), (4, zI x4), (5, zI (alg C R (M (b + 2) x3) x4 1))]) dX3_spread_50 (by decide) [1, 2, 3, 4, 0] rfl ?_
    refine zr_aload_n 0 dX3_spread_52 rfl ?_
    refine zr_iload 4 dX3_spread_53 rfl ?_
    obtain ⟨q9, k13, W⟩ := W
    refine zt_callVv (As := [zI (alg C R (M (b + 2) x3) x4 1)]) (rest := []) dX3_spread_55 kX3_spread_58 (zlu_0 hb) rfl rfl rfl (Nat.le_of_ble_eq_true rfl) k13 (fun M11 h12 => ?_)
    have W := W M11 h12
    refine zr_iload_n 1 dX3_spread_58 rfl ?_
    obtain ⟨c14, W⟩ := W
    refine zr_if_eq (tgt := 81) dX3_spread_59 (by decide) c14 (fun h => ?_) (fun h => ?_)
    · have W := W.1 h
      refine zr_iinc (q := 3) (l' := [(0, zA g b), (2, zI x2), (3, zI x3), (4, zI (x4 + 1))]) dX3_spread_81 rfl (by decide) [1, 2, 3, 0] rfl ?_
      refine zr_goto (tgt := 29) dX3_spread_84 (by decide) ?_
      exact W
    · have W := W.2 h
      refine zr_aload_n 0 dX3_spread_62 rfl ?_
      refine zr_aload_n 0 dX3_spread_63 rfl ?_
      refine zr_getr (b := 14) dX3_spread_64 fX3_29 (zlu_0 hb) rfl (zlu_f0 hb) (by decide) ?_
      refine zr_iload 4 dX3_spread_67 rfl ?_
      refine zr_iload 3 dX3_spread_69 rfl ?_
      refine zr_iconst dX3_spread_71 ?_
      refine zr_iadd dX3_spread_72 ?_
      refine zr_iconst dX3_spread_73 ?_
      refine zr_iand dX3_spread_74 (by decide) ?_
      obtain ⟨c15, W⟩ := W
      obtain ⟨c16, W⟩ := W
      obtain ⟨c17, W⟩ := W
      refine zt_callVi (As := [zI (alg C R (M (b + 2) x3) x4 1), zI ((x4 + 1) % (3 + 1))]) (rest := [zA g b]) dX3_spread_75 kX3_spread_62 rfl rfl rfl rfl (Nat.le_of_ble_eq_true rfl) (c_nbr c15 c16 c17) (fun r18 N20 h19 => ?_)
      rw [h19.1, h19.2]
      obtain ⟨q21, k25, W⟩ := W
      refine zt_callVv (As := [zI (alg C R (alg C R (M (b + 2) x3) x4 1) ((x4 + 1) % (3 + 1)) 1)]) (rest := []) dX3_spread_78 kX3_spread_58 (zlu_0 hb) rfl rfl rfl (Nat.le_of_ble_eq_true rfl) k25 (fun M23 h24 => ?_)
      have W := W M23 h24
      refine zr_iinc (q := 3) (l' := [(0, zA g b), (2, zI x2), (3, zI x3), (4, zI (x4 + 1))]) dX3_spread_81 rfl (by decide) [1, 2, 3, 0] rfl ?_
      refine zr_goto (tgt := 29) dX3_spread_84 (by decide) ?_
      exact W
theorem dX3_join_0 : decode cX3_join 0 = .ok (.aload_n 0, 1) := by decide +kernel
theorem dX3_join_1 : decode cX3_join 1 = .ok (.getfield 23, 3) := by decide +kernel
theorem dX3_join_4 : decode cX3_join 4 = .ok (.iconst (-1), 1) := by decide +kernel
theorem dX3_join_5 : decode cX3_join 5 = .ok (.invokestatic 48, 3) := by decide +kernel
theorem dX3_join_8 : decode cX3_join 8 = .ok (.aload_n 0, 1) := by decide +kernel
theorem dX3_join_9 : decode cX3_join 9 = .ok (.iconst 0, 1) := by decide +kernel
theorem dX3_join_10 : decode cX3_join 10 = .ok (.putfield 26, 3) := by decide +kernel
theorem dX3_join_13 : decode cX3_join 13 = .ok (.iconst 0, 1) := by decide +kernel
theorem dX3_join_14 : decode cX3_join 14 = .ok (.istore_n 2, 1) := by decide +kernel
theorem dX3_join_15 : decode cX3_join 15 = .ok (.iload_n 2, 1) := by decide +kernel
theorem dX3_join_16 : decode cX3_join 16 = .ok (.aload_n 0, 1) := by decide +kernel
theorem dX3_join_17 : decode cX3_join 17 = .ok (.getfield 29, 3) := by decide +kernel
theorem dX3_join_20 : decode cX3_join 20 = .ok (.getfield 33, 3) := by decide +kernel
theorem dX3_join_23 : decode cX3_join 23 = .ok (.if_icmp .ge 44, 3) := by decide +kernel
theorem dX3_join_26 : decode cX3_join 26 = .ok (.aload_n 0, 1) := by decide +kernel
theorem dX3_join_27 : decode cX3_join 27 = .ok (.getfield 9, 3) := by decide +kernel
theorem dX3_join_30 : decode cX3_join 30 = .ok (.iload_n 2, 1) := by decide +kernel
theorem dX3_join_31 : decode cX3_join 31 = .ok (.baload, 1) := by decide +kernel
theorem dX3_join_32 : decode cX3_join 32 = .ok (.ifCond .eq 29, 3) := by decide +kernel
theorem dX3_join_35 : decode cX3_join 35 = .ok (.aload_n 0, 1) := by decide +kernel
theorem dX3_join_36 : decode cX3_join 36 = .ok (.getfield 23, 3) := by decide +kernel
theorem dX3_join_39 : decode cX3_join 39 = .ok (.iload_n 2, 1) := by decide +kernel
theorem dX3_join_40 : decode cX3_join 40 = .ok (.iaload, 1) := by decide +kernel
theorem dX3_join_41 : decode cX3_join 41 = .ok (.iconst (-1), 1) := by decide +kernel
theorem dX3_join_42 : decode cX3_join 42 = .ok (.if_icmp .ne 19, 3) := by decide +kernel
theorem dX3_join_45 : decode cX3_join 45 = .ok (.aload_n 0, 1) := by decide +kernel
theorem dX3_join_46 : decode cX3_join 46 = .ok (.iload_n 2, 1) := by decide +kernel
theorem dX3_join_47 : decode cX3_join 47 = .ok (.iload_n 1, 1) := by decide +kernel
theorem dX3_join_48 : decode cX3_join 48 = .ok (.invokevirtual 54, 3) := by decide +kernel
theorem dX3_join_51 : decode cX3_join 51 = .ok (.aload_n 0, 1) := by decide +kernel
theorem dX3_join_52 : decode cX3_join 52 = .ok (.dup, 1) := by decide +kernel
theorem dX3_join_53 : decode cX3_join 53 = .ok (.getfield 26, 3) := by decide +kernel
theorem dX3_join_56 : decode cX3_join 56 = .ok (.iconst 1, 1) := by decide +kernel
theorem dX3_join_57 : decode cX3_join 57 = .ok (.iadd, 1) := by decide +kernel
theorem dX3_join_58 : decode cX3_join 58 = .ok (.putfield 26, 3) := by decide +kernel
theorem dX3_join_61 : decode cX3_join 61 = .ok (.iinc 2 1, 3) := by decide +kernel
theorem dX3_join_64 : decode cX3_join 64 = .ok (.goto (-49), 3) := by decide +kernel
theorem dX3_join_67 : decode cX3_join 67 = .ok (.return_, 1) := by decide +kernel
set_option maxRecDepth 100000 in
theorem SX3_join_0 {g : zG} {o : Bool} {b : Nat} (hb : zLu b) {M : zM} {q : zM → Prop} {x1 : Int} (W : ∃ q1 : zM → Prop, zKv g (z1 o) mJ7_fill_53178 [zA g (b + 3), zI (-1)] M q1 ∧ ∀ M3 : zM, q1 M3 → zT g (z1 o) mX3_join (zQv (z1 o) q) 15 [(0, zA g b), (1, zI x1), (2, zI 0)] [] (zu M3 b 5 0)) : zT g (z1 o) mX3_join (zQv (z1 o) q) 0 [(0, zA g b), (1, zI x1)] [] M := by
  refine zr_aload_n 0 dX3_join_0 rfl ?_
  refine zr_getr (b := (b + 3)) dX3_join_1 fX3_23 (zlu_0 hb) rfl (zlu_f4 hb) (Nat.succ_ne_zero _) ?_
  refine zr_iconst dX3_join_4 ?_
  obtain ⟨q1, k5, W⟩ := W
  refine zt_callSv (As := [zA g (b + 3), zI (-1)]) (rest := []) dX3_join_5 kX3_join_48 rfl rfl (Nat.le_of_ble_eq_true rfl) k5 (fun M3 h4 => ?_)
  have W := W M3 h4
  refine zr_aload_n 0 dX3_join_8 rfl ?_
  refine zr_iconst dX3_join_9 ?_
  refine zt_puti 5 rfl dX3_join_10 fX3_26 lcX3 ltX3_5 rfl (zlu_0 hb) ?_
  refine zr_iconst dX3_join_13 ?_
  refine zr_istore_n (l' := [(0, zA g b), (1, zI x1), (2, zI 0)]) dX3_join_14 (by decide) [1, 2, 0] rfl ?_
  exact W
set_option maxRecDepth 100000 in
theorem SX3_join_15 {g : zG} {o : Bool} {b : Nat} (hb : zLu b) {M : zM} {q : zM → Prop} {x1 x2 : Int} (W : (-2147483648 ≤ x2 ∧ x2 ≤ 2147483647) ∧ (-2147483648 ≤ (M 14 2) ∧ (M 14 2) ≤ 2147483647) ∧ (((M 14 2) ≤ x2) → q M) ∧ ((¬ ((M 14 2) ≤ x2)) → (0 ≤ x2 ∧ x2 < 96) ∧ (-2147483648 ≤ (M (b + 1) x2) ∧ (M (b + 1) x2) ≤ 2147483647) ∧ (((M (b + 1) x2) = 0) → zT g (z1 o) mX3_join (zQv (z1 o) q) 15 [(0, zA g b), (1, zI x1), (2, zI (x2 + 1))] [] M) ∧ ((¬ ((M (b + 1) x2) = 0)) → (-2147483648 ≤ (M (b + 3) x2) ∧ (M (b + 3) x2) ≤ 2147483647) ∧ (((M (b + 3) x2) ≠ (-1)) → zT g (z1 o) mX3_join (zQv (z1 o) q) 15 [(0, zA g b), (1, zI x1), (2, zI (x2 + 1))] [] M) ∧ (((M (b + 3) x2) = (-1)) → ∃ q6 : zM → Prop, zKv g (z1 o) mX3_spread [zA g b, zI x2, zI x1] M q6 ∧ ∀ M8 : zM, q6 M8 → zT g (z1 o) mX3_join (zQv (z1 o) q) 15 [(0, zA g b), (1, zI x1), (2, zI (x2 + 1))] [] (zu M8 b 5 ((M8 b 5) + 1)))))) : zT g (z1 o) mX3_join (zQv (z1 o) q) 15 [(0, zA g b), (1, zI x1), (2, zI x2)] [] M := by
  refine zr_iload_n 2 dX3_join_15 rfl ?_
  refine zr_aload_n 0 dX3_join_16 rfl ?_
  refine zr_getr (b := 14) dX3_join_17 fX3_29 (zlu_0 hb) rfl (zlu_f0 hb) (by decide) ?_
  refine zt_geti 2 rfl dX3_join_20 fX3_33 rfl (by decide) ?_
  obtain ⟨c1, W⟩ := W
  obtain ⟨c2, W⟩ := W
  refine zr_icmp_ge (tgt := 67) dX3_join_23 (by decide) c1 c2 (fun h => ?_) (fun h => ?_)
  · have W := W.1 h
    exact zt_ret dX3_join_67 rfl W
  · have W := W.2 h
    refine zr_aload_n 0 dX3_join_26 rfl ?_
    refine zr_getr (b := (b + 1)) dX3_join_27 fX3_9 (zlu_0 hb) rfl (zlu_f1 hb) (Nat.succ_ne_zero _) ?_
    refine zr_iload_n 2 dX3_join_30 rfl ?_
    obtain ⟨c3, W⟩ := W
    refine zr_zald dX3_join_31 (zlu_1 hb) (by decide) c3 ?_
    obtain ⟨c4, W⟩ := W
    refine zr_if_eq (tgt := 61) dX3_join_32 (by decide) c4 (fun h => ?_) (fun h => ?_)
    · have W := W.1 h
      refine zr_iinc (q := 2) (l' := [(0, zA g b), (1, zI x1), (2, zI (x2 + 1))]) dX3_join_61 rfl (by decide) [1, 2, 0] rfl ?_
      refine zr_goto (tgt := 15) dX3_join_64 (by decide) ?_
      exact W
    · have W := W.2 h
      refine zr_aload_n 0 dX3_join_35 rfl ?_
      refine zr_getr (b := (b + 3)) dX3_join_36 fX3_23 (zlu_0 hb) rfl (zlu_f4 hb) (Nat.succ_ne_zero _) ?_
      refine zr_iload_n 2 dX3_join_39 rfl ?_
      refine zr_iald dX3_join_40 (zlu_3 hb) (by decide) c3 ?_
      refine zr_iconst dX3_join_41 ?_
      obtain ⟨c5, W⟩ := W
      refine zr_icmp_ne (tgt := 61) dX3_join_42 (by decide) c5 ⟨by decide, by decide⟩ (fun h => ?_) (fun h => ?_)
      · have W := W.1 h
        refine zr_iinc (q := 2) (l' := [(0, zA g b), (1, zI x1), (2, zI (x2 + 1))]) dX3_join_61 rfl (by decide) [1, 2, 0] rfl ?_
        refine zr_goto (tgt := 15) dX3_join_64 (by decide) ?_
        exact W
      · have W := W.2 h
        refine zr_aload_n 0 dX3_join_45 rfl ?_
        refine zr_iload_n 2 dX3_join_46 rfl ?_
        refine zr_iload_n 1 dX3_join_47 rfl ?_
        obtain ⟨q6, k10, W⟩ := W
        refine zt_callVv (As := [zI x2, zI x1]) (rest := []) dX3_join_48 kX3_join_54 (zlu_0 hb) rfl rfl rfl (Nat.le_of_ble_eq_true rfl) k10 (fun M8 h9 => ?_)
        have W := W M8 h9
        refine zr_aload_n 0 dX3_join_51 rfl ?_
        refine zr_dup dX3_join_52 rfl ?_
        refine zt_geti 5 rfl dX3_join_53 fX3_26 (zlu_0 hb) (by decide) ?_
        refine zr_iconst dX3_join_56 ?_
        refine zr_iadd dX3_join_57 ?_
        refine zt_puti 5 rfl dX3_join_58 fX3_26 lcX3 ltX3_5 rfl (zlu_0 hb) ?_
        refine zr_iinc (q := 2) (l' := [(0, zA g b), (1, zI x1), (2, zI (x2 + 1))]) dX3_join_61 rfl (by decide) [1, 2, 0] rfl ?_
        refine zr_goto (tgt := 15) dX3_join_64 (by decide) ?_
        exact W
theorem dX3_joinLevel_0 : decode cX3_joinLevel 0 = .ok (.iconst 0, 1) := by decide +kernel
theorem dX3_joinLevel_1 : decode cX3_joinLevel 1 = .ok (.istore_n 3, 1) := by decide +kernel
theorem dX3_joinLevel_2 : decode cX3_joinLevel 2 = .ok (.iload_n 3, 1) := by decide +kernel
theorem dX3_joinLevel_3 : decode cX3_joinLevel 3 = .ok (.aload_n 0, 1) := by decide +kernel
theorem dX3_joinLevel_4 : decode cX3_joinLevel 4 = .ok (.getfield 29, 3) := by decide +kernel
theorem dX3_joinLevel_7 : decode cX3_joinLevel 7 = .ok (.getfield 33, 3) := by decide +kernel
theorem dX3_joinLevel_10 : decode cX3_joinLevel 10 = .ok (.if_icmp .ge 27, 3) := by decide +kernel
theorem dX3_joinLevel_13 : decode cX3_joinLevel 13 = .ok (.aload_n 0, 1) := by decide +kernel
theorem dX3_joinLevel_14 : decode cX3_joinLevel 14 = .ok (.getfield 9, 3) := by decide +kernel
theorem dX3_joinLevel_17 : decode cX3_joinLevel 17 = .ok (.iload_n 3, 1) := by decide +kernel
theorem dX3_joinLevel_18 : decode cX3_joinLevel 18 = .ok (.aload_n 1, 1) := by decide +kernel
theorem dX3_joinLevel_19 : decode cX3_joinLevel 19 = .ok (.iload_n 3, 1) := by decide +kernel
theorem dX3_joinLevel_20 : decode cX3_joinLevel 20 = .ok (.iaload, 1) := by decide +kernel
theorem dX3_joinLevel_21 : decode cX3_joinLevel 21 = .ok (.iload_n 2, 1) := by decide +kernel
theorem dX3_joinLevel_22 : decode cX3_joinLevel 22 = .ok (.if_icmp .lt 7, 3) := by decide +kernel
theorem dX3_joinLevel_25 : decode cX3_joinLevel 25 = .ok (.iconst 1, 1) := by decide +kernel
theorem dX3_joinLevel_26 : decode cX3_joinLevel 26 = .ok (.goto 4, 3) := by decide +kernel
theorem dX3_joinLevel_29 : decode cX3_joinLevel 29 = .ok (.iconst 0, 1) := by decide +kernel
theorem dX3_joinLevel_30 : decode cX3_joinLevel 30 = .ok (.bastore, 1) := by decide +kernel
theorem dX3_joinLevel_31 : decode cX3_joinLevel 31 = .ok (.iinc 3 1, 3) := by decide +kernel
theorem dX3_joinLevel_34 : decode cX3_joinLevel 34 = .ok (.goto (-32), 3) := by decide +kernel
theorem dX3_joinLevel_37 : decode cX3_joinLevel 37 = .ok (.aload_n 0, 1) := by decide +kernel
theorem dX3_joinLevel_38 : decode cX3_joinLevel 38 = .ok (.iconst 0, 1) := by decide +kernel
theorem dX3_joinLevel_39 : decode cX3_joinLevel 39 = .ok (.invokevirtual 38, 3) := by decide +kernel
theorem dX3_joinLevel_42 : decode cX3_joinLevel 42 = .ok (.return_, 1) := by decide +kernel
set_option maxRecDepth 100000 in
theorem SX3_joinLevel_0 {g : zG} {o : Bool} {b : Nat} (hb : zLu b) {h1 n1 : Nat} (hh1 : zh (z1 o) h1 = (1, n1)) (hz1 : h1 ≠ 0) (hn1 : n1 ≤ 100000) {M : zM} {q : zM → Prop} {x2 : Int} (W : zT g (z1 o) mX3_joinLevel (zQv (z1 o) q) 2 [(0, zA g b), (1, zA g h1), (2, zI x2), (3, zI 0)] [] M) : zT g (z1 o) mX3_joinLevel (zQv (z1 o) q) 0 [(0, zA g b), (1, zA g h1), (2, zI x2)] [] M := by
  refine zr_iconst dX3_joinLevel_0 ?_
  refine zr_istore_n (l' := [(0, zA g b), (1, zA g h1), (2, zI x2), (3, zI 0)]) dX3_joinLevel_1 (by decide) [1, 2, 3, 0] rfl ?_
  exact W
set_option maxRecDepth 100000 in
theorem SX3_joinLevel_2 {g : zG} {o : Bool} {b : Nat} (hb : zLu b) {h1 n1 : Nat} (hh1 : zh (z1 o) h1 = (1, n1)) (hz1 : h1 ≠ 0) (hn1 : n1 ≤ 100000) {M : zM} {q : zM → Prop} {x2 x3 : Int} (W : (-2147483648 ≤ x3 ∧ x3 ≤ 2147483647) ∧ (-2147483648 ≤ (M 14 2) ∧ (M 14 2) ≤ 2147483647) ∧ (((M 14 2) ≤ x3) → ∃ q3 : zM → Prop, zKv g (z1 o) mX3_join [zA g b, zI 0] M q3 ∧ ∀ M5 : zM, q3 M5 → q M5) ∧ ((¬ ((M 14 2) ≤ x3)) → (0 ≤ x3 ∧ x3 < n1) ∧ (-2147483648 ≤ (M h1 x3) ∧ (M h1 x3) ≤ 2147483647) ∧ (-2147483648 ≤ x2 ∧ x2 ≤ 2147483647) ∧ (((M h1 x3) < x2) → (0 ≤ x3 ∧ x3 < 96) ∧ zT g (z1 o) mX3_joinLevel (zQv (z1 o) q) 2 [(0, zA g b), (1, zA g h1), (2, zI x2), (3, zI (x3 + 1))] [] (zu M (b + 1) x3 0)) ∧ ((¬ ((M h1 x3) < x2)) → (0 ≤ x3 ∧ x3 < 96) ∧ zT g (z1 o) mX3_joinLevel (zQv (z1 o) q) 2 [(0, zA g b), (1, zA g h1), (2, zI x2), (3, zI (x3 + 1))] [] (zu M (b + 1) x3 1)))) : zT g (z1 o) mX3_joinLevel (zQv (z1 o) q) 2 [(0, zA g b), (1, zA g h1), (2, zI x2), (3, zI x3)] [] M := by
  refine zr_iload_n 3 dX3_joinLevel_2 rfl ?_
  refine zr_aload_n 0 dX3_joinLevel_3 rfl ?_
  refine zr_getr (b := 14) dX3_joinLevel_4 fX3_29 (zlu_0 hb) rfl (zlu_f0 hb) (by decide) ?_
  refine zt_geti 2 rfl dX3_joinLevel_7 fX3_33 rfl (by decide) ?_
  obtain ⟨c1, W⟩ := W
  obtain ⟨c2, W⟩ := W
  refine zr_icmp_ge (tgt := 37) dX3_joinLevel_10 (by decide) c1 c2 (fun h => ?_) (fun h => ?_)
  · have W := W.1 h
    refine zr_aload_n 0 dX3_joinLevel_37 rfl ?_
    refine zr_iconst dX3_joinLevel_38 ?_
    obtain ⟨q3, k7, W⟩ := W
    refine zt_callVv (As := [zI 0]) (rest := []) dX3_joinLevel_39 kX3_joinLevel_38 (zlu_0 hb) rfl rfl rfl (Nat.le_of_ble_eq_true rfl) k7 (fun M5 h6 => ?_)
    have W := W M5 h6
    exact zt_ret dX3_joinLevel_42 rfl W
  · have W := W.2 h
    refine zr_aload_n 0 dX3_joinLevel_13 rfl ?_
    refine zr_getr (b := (b + 1)) dX3_joinLevel_14 fX3_9 (zlu_0 hb) rfl (zlu_f1 hb) (Nat.succ_ne_zero _) ?_
    refine zr_iload_n 3 dX3_joinLevel_17 rfl ?_
    refine zr_aload_n 1 dX3_joinLevel_18 rfl ?_
    refine zr_iload_n 3 dX3_joinLevel_19 rfl ?_
    obtain ⟨c8, W⟩ := W
    refine zr_iald dX3_joinLevel_20 hh1 hn1 c8 ?_
    refine zr_iload_n 2 dX3_joinLevel_21 rfl ?_
    obtain ⟨c9, W⟩ := W
    obtain ⟨c10, W⟩ := W
    refine zr_icmp_lt (tgt := 29) dX3_joinLevel_22 (by decide) c9 c10 (fun h => ?_) (fun h => ?_)
    · have W := W.1 h
      refine zr_iconst dX3_joinLevel_29 ?_
      obtain ⟨c11, W⟩ := W
      refine zr_zast dX3_joinLevel_30 (zlu_1 hb) (by decide) c11 (by decide) ?_
      refine zr_iinc (q := 3) (l' := [(0, zA g b), (1, zA g h1), (2, zI x2), (3, zI (x3 + 1))]) dX3_joinLevel_31 rfl (by decide) [1, 2, 3, 0] rfl ?_
      refine zr_goto (tgt := 2) dX3_joinLevel_34 (by decide) ?_
      exact W
    · have W := W.2 h
      refine zr_iconst dX3_joinLevel_25 ?_
      refine zr_goto (tgt := 30) dX3_joinLevel_26 (by decide) ?_
      obtain ⟨c12, W⟩ := W
      refine zr_zast dX3_joinLevel_30 (zlu_1 hb) (by decide) c12 (by decide) ?_
      refine zr_iinc (q := 3) (l' := [(0, zA g b), (1, zA g h1), (2, zI x2), (3, zI (x3 + 1))]) dX3_joinLevel_31 rfl (by decide) [1, 2, 3, 0] rfl ?_
      refine zr_goto (tgt := 2) dX3_joinLevel_34 (by decide) ?_
      exact W
theorem dX3_joinCrests_0 : decode cX3_joinCrests 0 = .ok (.iconst 0, 1) := by decide +kernel
theorem dX3_joinCrests_1 : decode cX3_joinCrests 1 = .ok (.istore_n 3, 1) := by decide +kernel
theorem dX3_joinCrests_2 : decode cX3_joinCrests 2 = .ok (.iload_n 3, 1) := by decide +kernel
theorem dX3_joinCrests_3 : decode cX3_joinCrests 3 = .ok (.aload_n 0, 1) := by decide +kernel
theorem dX3_joinCrests_4 : decode cX3_joinCrests 4 = .ok (.getfield 29, 3) := by decide +kernel
theorem dX3_joinCrests_7 : decode cX3_joinCrests 7 = .ok (.getfield 33, 3) := by decide +kernel
theorem dX3_joinCrests_10 : decode cX3_joinCrests 10 = .ok (.if_icmp .ge 21, 3) := by decide +kernel
theorem dX3_joinCrests_13 : decode cX3_joinCrests 13 = .ok (.aload_n 0, 1) := by decide +kernel
theorem dX3_joinCrests_14 : decode cX3_joinCrests 14 = .ok (.getfield 9, 3) := by decide +kernel
theorem dX3_joinCrests_17 : decode cX3_joinCrests 17 = .ok (.iload_n 3, 1) := by decide +kernel
theorem dX3_joinCrests_18 : decode cX3_joinCrests 18 = .ok (.aload_n 1, 1) := by decide +kernel
theorem dX3_joinCrests_19 : decode cX3_joinCrests 19 = .ok (.iload_n 3, 1) := by decide +kernel
theorem dX3_joinCrests_20 : decode cX3_joinCrests 20 = .ok (.iload_n 2, 1) := by decide +kernel
theorem dX3_joinCrests_21 : decode cX3_joinCrests 21 = .ok (.invokevirtual 42, 3) := by decide +kernel
theorem dX3_joinCrests_24 : decode cX3_joinCrests 24 = .ok (.bastore, 1) := by decide +kernel
theorem dX3_joinCrests_25 : decode cX3_joinCrests 25 = .ok (.iinc 3 1, 3) := by decide +kernel
theorem dX3_joinCrests_28 : decode cX3_joinCrests 28 = .ok (.goto (-26), 3) := by decide +kernel
theorem dX3_joinCrests_31 : decode cX3_joinCrests 31 = .ok (.aload_n 0, 1) := by decide +kernel
theorem dX3_joinCrests_32 : decode cX3_joinCrests 32 = .ok (.iconst 1, 1) := by decide +kernel
theorem dX3_joinCrests_33 : decode cX3_joinCrests 33 = .ok (.invokevirtual 38, 3) := by decide +kernel
theorem dX3_joinCrests_36 : decode cX3_joinCrests 36 = .ok (.return_, 1) := by decide +kernel
set_option maxRecDepth 100000 in
theorem SX3_joinCrests_0 {g : zG} {o : Bool} {b : Nat} (hb : zLu b) {M : zM} {q : zM → Prop} {x2 : Int} (W : zT g (z1 o) mX3_joinCrests (zQv (z1 o) q) 2 [(0, zA g b), (1, zA g 32), (2, zI x2), (3, zI 0)] [] M) : zT g (z1 o) mX3_joinCrests (zQv (z1 o) q) 0 [(0, zA g b), (1, zA g 32), (2, zI x2)] [] M := by
  refine zr_iconst dX3_joinCrests_0 ?_
  refine zr_istore_n (l' := [(0, zA g b), (1, zA g 32), (2, zI x2), (3, zI 0)]) dX3_joinCrests_1 (by decide) [1, 2, 3, 0] rfl ?_
  exact W
set_option maxRecDepth 100000 in
theorem SX3_joinCrests_2 {g : zG} {o : Bool} {b : Nat} (hb : zLu b) {C R : Int} {M : zM} {q : zM → Prop} {x2 x3 : Int} (W : (-2147483648 ≤ x3 ∧ x3 ≤ 2147483647) ∧ (-2147483648 ≤ (M 14 2) ∧ (M 14 2) ≤ 2147483647) ∧ (((M 14 2) ≤ x3) → ∃ q3 : zM → Prop, zKv g (z1 o) mX3_join [zA g b, zI 1] M q3 ∧ ∀ M5 : zM, q3 M5 → q M5) ∧ ((¬ ((M 14 2) ≤ x3)) → (zLand M C R) ∧ (0 ≤ x3 ∧ x3 < C * R) ∧ (0 ≤ x2 ∧ x2 ≤ 3) ∧ (Bd (M 25)) ∧ (0 ≤ x3 ∧ x3 < 96) ∧ zT g (z1 o) mX3_joinCrests (zQv (z1 o) q) 2 [(0, zA g b), (1, zA g 32), (2, zI x2), (3, zI (x3 + 1))] [] (zu M (b + 1) x3 (zb (crest C R (M 25) x3 x2))))) : zT g (z1 o) mX3_joinCrests (zQv (z1 o) q) 2 [(0, zA g b), (1, zA g 32), (2, zI x2), (3, zI x3)] [] M := by
  refine zr_iload_n 3 dX3_joinCrests_2 rfl ?_
  refine zr_aload_n 0 dX3_joinCrests_3 rfl ?_
  refine zr_getr (b := 14) dX3_joinCrests_4 fX3_29 (zlu_0 hb) rfl (zlu_f0 hb) (by decide) ?_
  refine zt_geti 2 rfl dX3_joinCrests_7 fX3_33 rfl (by decide) ?_
  obtain ⟨c1, W⟩ := W
  obtain ⟨c2, W⟩ := W
  refine zr_icmp_ge (tgt := 31) dX3_joinCrests_10 (by decide) c1 c2 (fun h => ?_) (fun h => ?_)
  · have W := W.1 h
    refine zr_aload_n 0 dX3_joinCrests_31 rfl ?_
    refine zr_iconst dX3_joinCrests_32 ?_
    obtain ⟨q3, k7, W⟩ := W
    refine zt_callVv (As := [zI 1]) (rest := []) dX3_joinCrests_33 kX3_joinCrests_38 (zlu_0 hb) rfl rfl rfl (Nat.le_of_ble_eq_true rfl) k7 (fun M5 h6 => ?_)
    have W := W M5 h6
    exact zt_ret dX3_joinCrests_36 rfl W
  · have W := W.2 h
    refine zr_aload_n 0 dX3_joinCrests_13 rfl ?_
    refine zr_getr (b := (b + 1)) dX3_joinCrests_14 fX3_9 (zlu_0 hb) rfl (zlu_f1 hb) (Nat.succ_ne_zero _) ?_
    refine zr_iload_n 3 dX3_joinCrests_17 rfl ?_
    refine zr_aload_n 1 dX3_joinCrests_18 rfl ?_
    refine zr_iload_n 3 dX3_joinCrests_19 rfl ?_
    refine zr_iload_n 2 dX3_joinCrests_20 rfl ?_
    obtain ⟨c8, W⟩ := W
    obtain ⟨c9, W⟩ := W
    obtain ⟨c10, W⟩ := W
    obtain ⟨c11, W⟩ := W
    refine zt_callVi (As := [zI x3, zI x2]) (rest := [zI x3, zA g (b + 1)]) dX3_joinCrests_21 kX3_joinCrests_42 rfl rfl rfl rfl (Nat.le_of_ble_eq_true rfl) (c_crest (show zSt 32 24 by unfold zSt; decide) c8 c9 c10 c11) (fun r12 N14 h13 => ?_)
    rw [h13.1, h13.2]
    obtain ⟨c15, W⟩ := W
    refine zr_zast dX3_joinCrests_24 (zlu_1 hb) (by decide) c15 (zb01 _) ?_
    refine zr_iinc (q := 3) (l' := [(0, zA g b), (1, zA g 32), (2, zI x2), (3, zI (x3 + 1))]) dX3_joinCrests_25 rfl (by decide) [1, 2, 3, 0] rfl ?_
    refine zr_goto (tgt := 2) dX3_joinCrests_28 (by decide) ?_
    exact W
theorem dX3_firstCell_0 : decode cX3_firstCell 0 = .ok (.iconst 0, 1) := by decide +kernel
theorem dX3_firstCell_1 : decode cX3_firstCell 1 = .ok (.istore_n 2, 1) := by decide +kernel
theorem dX3_firstCell_2 : decode cX3_firstCell 2 = .ok (.iload_n 2, 1) := by decide +kernel
theorem dX3_firstCell_3 : decode cX3_firstCell 3 = .ok (.aload_n 0, 1) := by decide +kernel
theorem dX3_firstCell_4 : decode cX3_firstCell 4 = .ok (.getfield 29, 3) := by decide +kernel
theorem dX3_firstCell_7 : decode cX3_firstCell 7 = .ok (.getfield 33, 3) := by decide +kernel
theorem dX3_firstCell_10 : decode cX3_firstCell 10 = .ok (.if_icmp .ge 26, 3) := by decide +kernel
theorem dX3_firstCell_13 : decode cX3_firstCell 13 = .ok (.iload_n 1, 1) := by decide +kernel
theorem dX3_firstCell_14 : decode cX3_firstCell 14 = .ok (.iconst (-1), 1) := by decide +kernel
theorem dX3_firstCell_15 : decode cX3_firstCell 15 = .ok (.if_icmp .eq 15, 3) := by decide +kernel
theorem dX3_firstCell_18 : decode cX3_firstCell 18 = .ok (.aload_n 0, 1) := by decide +kernel
theorem dX3_firstCell_19 : decode cX3_firstCell 19 = .ok (.getfield 23, 3) := by decide +kernel
theorem dX3_firstCell_22 : decode cX3_firstCell 22 = .ok (.iload_n 2, 1) := by decide +kernel
theorem dX3_firstCell_23 : decode cX3_firstCell 23 = .ok (.iaload, 1) := by decide +kernel
theorem dX3_firstCell_24 : decode cX3_firstCell 24 = .ok (.iload_n 1, 1) := by decide +kernel
theorem dX3_firstCell_25 : decode cX3_firstCell 25 = .ok (.if_icmp .ne 5, 3) := by decide +kernel
theorem dX3_firstCell_28 : decode cX3_firstCell 28 = .ok (.iload_n 2, 1) := by decide +kernel
theorem dX3_firstCell_29 : decode cX3_firstCell 29 = .ok (.ireturn, 1) := by decide +kernel
theorem dX3_firstCell_30 : decode cX3_firstCell 30 = .ok (.iinc 2 1, 3) := by decide +kernel
theorem dX3_firstCell_33 : decode cX3_firstCell 33 = .ok (.goto (-31), 3) := by decide +kernel
theorem dX3_firstCell_36 : decode cX3_firstCell 36 = .ok (.iconst (-1), 1) := by decide +kernel
theorem dX3_firstCell_37 : decode cX3_firstCell 37 = .ok (.ireturn, 1) := by decide +kernel
set_option maxRecDepth 100000 in
theorem SX3_firstCell_0 {g : zG} {o : Bool} {b : Nat} (hb : zLu b) {M : zM} {q : Int → zM → Prop} {x1 : Int} (W : zT g (z1 o) mX3_firstCell (zQi (z1 o) q) 2 [(0, zA g b), (1, zI x1), (2, zI 0)] [] M) : zT g (z1 o) mX3_firstCell (zQi (z1 o) q) 0 [(0, zA g b), (1, zI x1)] [] M := by
  refine zr_iconst dX3_firstCell_0 ?_
  refine zr_istore_n (l' := [(0, zA g b), (1, zI x1), (2, zI 0)]) dX3_firstCell_1 (by decide) [1, 2, 0] rfl ?_
  exact W
set_option maxRecDepth 100000 in
theorem SX3_firstCell_2 {g : zG} {o : Bool} {b : Nat} (hb : zLu b) {M : zM} {q : Int → zM → Prop} {x1 x2 : Int} (W : (-2147483648 ≤ x2 ∧ x2 ≤ 2147483647) ∧ (-2147483648 ≤ (M 14 2) ∧ (M 14 2) ≤ 2147483647) ∧ (((M 14 2) ≤ x2) → q (-1) M) ∧ ((¬ ((M 14 2) ≤ x2)) → (-2147483648 ≤ x1 ∧ x1 ≤ 2147483647) ∧ ((x1 = (-1)) → zT g (z1 o) mX3_firstCell (zQi (z1 o) q) 2 [(0, zA g b), (1, zI x1), (2, zI (x2 + 1))] [] M) ∧ ((¬ (x1 = (-1))) → (0 ≤ x2 ∧ x2 < 96) ∧ (-2147483648 ≤ (M (b + 3) x2) ∧ (M (b + 3) x2) ≤ 2147483647) ∧ (((M (b + 3) x2) ≠ x1) → zT g (z1 o) mX3_firstCell (zQi (z1 o) q) 2 [(0, zA g b), (1, zI x1), (2, zI (x2 + 1))] [] M) ∧ (((M (b + 3) x2) = x1) → q x2 M)))) : zT g (z1 o) mX3_firstCell (zQi (z1 o) q) 2 [(0, zA g b), (1, zI x1), (2, zI x2)] [] M := by
  refine zr_iload_n 2 dX3_firstCell_2 rfl ?_
  refine zr_aload_n 0 dX3_firstCell_3 rfl ?_
  refine zr_getr (b := 14) dX3_firstCell_4 fX3_29 (zlu_0 hb) rfl (zlu_f0 hb) (by decide) ?_
  refine zt_geti 2 rfl dX3_firstCell_7 fX3_33 rfl (by decide) ?_
  obtain ⟨c1, W⟩ := W
  obtain ⟨c2, W⟩ := W
  refine zr_icmp_ge (tgt := 36) dX3_firstCell_10 (by decide) c1 c2 (fun h => ?_) (fun h => ?_)
  · have W := W.1 h
    refine zr_iconst dX3_firstCell_36 ?_
    exact zt_iret dX3_firstCell_37 rfl W
  · have W := W.2 h
    refine zr_iload_n 1 dX3_firstCell_13 rfl ?_
    refine zr_iconst dX3_firstCell_14 ?_
    obtain ⟨c3, W⟩ := W
    refine zr_icmp_eq (tgt := 30) dX3_firstCell_15 (by decide) c3 ⟨by decide, by decide⟩ (fun h => ?_) (fun h => ?_)
    · have W := W.1 h
      refine zr_iinc (q := 2) (l' := [(0, zA g b), (1, zI x1), (2, zI (x2 + 1))]) dX3_firstCell_30 rfl (by decide) [1, 2, 0] rfl ?_
      refine zr_goto (tgt := 2) dX3_firstCell_33 (by decide) ?_
      exact W
    · have W := W.2 h
      refine zr_aload_n 0 dX3_firstCell_18 rfl ?_
      refine zr_getr (b := (b + 3)) dX3_firstCell_19 fX3_23 (zlu_0 hb) rfl (zlu_f4 hb) (Nat.succ_ne_zero _) ?_
      refine zr_iload_n 2 dX3_firstCell_22 rfl ?_
      obtain ⟨c4, W⟩ := W
      refine zr_iald dX3_firstCell_23 (zlu_3 hb) (by decide) c4 ?_
      refine zr_iload_n 1 dX3_firstCell_24 rfl ?_
      obtain ⟨c5, W⟩ := W
      refine zr_icmp_ne (tgt := 30) dX3_firstCell_25 (by decide) c5 c3 (fun h => ?_) (fun h => ?_)
      · have W := W.1 h
        refine zr_iinc (q := 2) (l' := [(0, zA g b), (1, zI x1), (2, zI (x2 + 1))]) dX3_firstCell_30 rfl (by decide) [1, 2, 0] rfl ?_
        refine zr_goto (tgt := 2) dX3_firstCell_33 (by decide) ?_
        exact W
      · have W := W.2 h
        refine zr_iload_n 2 dX3_firstCell_28 rfl ?_
        exact zt_iret dX3_firstCell_29 rfl W
theorem dX3_size_0 : decode cX3_size 0 = .ok (.iconst 0, 1) := by decide +kernel
theorem dX3_size_1 : decode cX3_size 1 = .ok (.istore_n 2, 1) := by decide +kernel
theorem dX3_size_2 : decode cX3_size 2 = .ok (.iconst 0, 1) := by decide +kernel
theorem dX3_size_3 : decode cX3_size 3 = .ok (.istore_n 3, 1) := by decide +kernel
theorem dX3_size_4 : decode cX3_size 4 = .ok (.iload_n 3, 1) := by decide +kernel
theorem dX3_size_5 : decode cX3_size 5 = .ok (.aload_n 0, 1) := by decide +kernel
theorem dX3_size_6 : decode cX3_size 6 = .ok (.getfield 29, 3) := by decide +kernel
theorem dX3_size_9 : decode cX3_size 9 = .ok (.getfield 33, 3) := by decide +kernel
theorem dX3_size_12 : decode cX3_size 12 = .ok (.if_icmp .ge 22, 3) := by decide +kernel
theorem dX3_size_15 : decode cX3_size 15 = .ok (.aload_n 0, 1) := by decide +kernel
theorem dX3_size_16 : decode cX3_size 16 = .ok (.getfield 23, 3) := by decide +kernel
theorem dX3_size_19 : decode cX3_size 19 = .ok (.iload_n 3, 1) := by decide +kernel
theorem dX3_size_20 : decode cX3_size 20 = .ok (.iaload, 1) := by decide +kernel
theorem dX3_size_21 : decode cX3_size 21 = .ok (.iload_n 1, 1) := by decide +kernel
theorem dX3_size_22 : decode cX3_size 22 = .ok (.if_icmp .ne 6, 3) := by decide +kernel
theorem dX3_size_25 : decode cX3_size 25 = .ok (.iinc 2 1, 3) := by decide +kernel
theorem dX3_size_28 : decode cX3_size 28 = .ok (.iinc 3 1, 3) := by decide +kernel
theorem dX3_size_31 : decode cX3_size 31 = .ok (.goto (-27), 3) := by decide +kernel
theorem dX3_size_34 : decode cX3_size 34 = .ok (.iload_n 2, 1) := by decide +kernel
theorem dX3_size_35 : decode cX3_size 35 = .ok (.ireturn, 1) := by decide +kernel
set_option maxRecDepth 100000 in
theorem SX3_size_0 {g : zG} {o : Bool} {b : Nat} (hb : zLu b) {M : zM} {q : Int → zM → Prop} {x1 : Int} (W : zT g (z1 o) mX3_size (zQi (z1 o) q) 4 [(0, zA g b), (1, zI x1), (2, zI 0), (3, zI 0)] [] M) : zT g (z1 o) mX3_size (zQi (z1 o) q) 0 [(0, zA g b), (1, zI x1)] [] M := by
  refine zr_iconst dX3_size_0 ?_
  refine zr_istore_n (l' := [(0, zA g b), (1, zI x1), (2, zI 0)]) dX3_size_1 (by decide) [1, 2, 0] rfl ?_
  refine zr_iconst dX3_size_2 ?_
  refine zr_istore_n (l' := [(0, zA g b), (1, zI x1), (2, zI 0), (3, zI 0)]) dX3_size_3 (by decide) [1, 2, 3, 0] rfl ?_
  exact W
set_option maxRecDepth 100000 in
theorem SX3_size_4 {g : zG} {o : Bool} {b : Nat} (hb : zLu b) {M : zM} {q : Int → zM → Prop} {x1 x2 x3 : Int} (W : (-2147483648 ≤ x3 ∧ x3 ≤ 2147483647) ∧ (-2147483648 ≤ (M 14 2) ∧ (M 14 2) ≤ 2147483647) ∧ (((M 14 2) ≤ x3) → q x2 M) ∧ ((¬ ((M 14 2) ≤ x3)) → (0 ≤ x3 ∧ x3 < 96) ∧ (-2147483648 ≤ (M (b + 3) x3) ∧ (M (b + 3) x3) ≤ 2147483647) ∧ (-2147483648 ≤ x1 ∧ x1 ≤ 2147483647) ∧ (((M (b + 3) x3) ≠ x1) → zT g (z1 o) mX3_size (zQi (z1 o) q) 4 [(0, zA g b), (1, zI x1), (2, zI x2), (3, zI (x3 + 1))] [] M) ∧ (((M (b + 3) x3) = x1) → zT g (z1 o) mX3_size (zQi (z1 o) q) 4 [(0, zA g b), (1, zI x1), (2, zI (x2 + 1)), (3, zI (x3 + 1))] [] M))) : zT g (z1 o) mX3_size (zQi (z1 o) q) 4 [(0, zA g b), (1, zI x1), (2, zI x2), (3, zI x3)] [] M := by
  refine zr_iload_n 3 dX3_size_4 rfl ?_
  refine zr_aload_n 0 dX3_size_5 rfl ?_
  refine zr_getr (b := 14) dX3_size_6 fX3_29 (zlu_0 hb) rfl (zlu_f0 hb) (by decide) ?_
  refine zt_geti 2 rfl dX3_size_9 fX3_33 rfl (by decide) ?_
  obtain ⟨c1, W⟩ := W
  obtain ⟨c2, W⟩ := W
  refine zr_icmp_ge (tgt := 34) dX3_size_12 (by decide) c1 c2 (fun h => ?_) (fun h => ?_)
  · have W := W.1 h
    refine zr_iload_n 2 dX3_size_34 rfl ?_
    exact zt_iret dX3_size_35 rfl W
  · have W := W.2 h
    refine zr_aload_n 0 dX3_size_15 rfl ?_
    refine zr_getr (b := (b + 3)) dX3_size_16 fX3_23 (zlu_0 hb) rfl (zlu_f4 hb) (Nat.succ_ne_zero _) ?_
    refine zr_iload_n 3 dX3_size_19 rfl ?_
    obtain ⟨c3, W⟩ := W
    refine zr_iald dX3_size_20 (zlu_3 hb) (by decide) c3 ?_
    refine zr_iload_n 1 dX3_size_21 rfl ?_
    obtain ⟨c4, W⟩ := W
    obtain ⟨c5, W⟩ := W
    refine zr_icmp_ne (tgt := 28) dX3_size_22 (by decide) c4 c5 (fun h => ?_) (fun h => ?_)
    · have W := W.1 h
      refine zr_iinc (q := 3) (l' := [(0, zA g b), (1, zI x1), (2, zI x2), (3, zI (x3 + 1))]) dX3_size_28 rfl (by decide) [1, 2, 3, 0] rfl ?_
      refine zr_goto (tgt := 4) dX3_size_31 (by decide) ?_
      exact W
    · have W := W.2 h
      refine zr_iinc (q := 2) (l' := [(0, zA g b), (1, zI x1), (2, zI (x2 + 1)), (3, zI x3)]) dX3_size_25 rfl (by decide) [1, 2, 0, 3] rfl ?_
      refine zr_iinc (q := 3) (l' := [(0, zA g b), (1, zI x1), (2, zI (x2 + 1)), (3, zI (x3 + 1))]) dX3_size_28 rfl (by decide) [1, 2, 3, 0] rfl ?_
      refine zr_goto (tgt := 4) dX3_size_31 (by decide) ?_
      exact W
def lmR (M : zM) (b : Nat) (C R : Int) (s : Fl) (m : Int) : Prop := M b 3 = s.2.length ∧ (∀ i : Nat, i < s.2.length → M (b + 2) (i : Int) = s.2.getD i 0) ∧ (∀ c : Int, 0 ≤ c → c < C * R → M (b + 3) c = s.1 c) ∧ M b 5 = m
def lmF (M M' : zM) (b : Nat) : Prop := ∀ a : Nat, a ≠ b → a ≠ b + 2 → a ≠ b + 3 → M' a = M a
section LM
variable {g : zG} {o : Bool} {M M' M'' : zM} {C R c m x cor : Int} {b : Nat} {P : Int → Prop} {s : Fl}
theorem lmF.rf : lmF M M b := fun _ _ _ _ => rfl
theorem lmF.trans (h : lmF M M' b) (h' : lmF M' M'' b) : lmF M M'' b := fun a p q r => (h' a p q r).trans (h a p q r)
theorem zlu_lo (hb : zLu b) : b = 127 ∨ b = 131 := hb
theorem lmF.L (hb : zLu b) (hL : zLand M C R) (h : lmF M M' b) : zLand M' C R := by
  rcases zlu_lo hb with e | e <;> exact hL.of (fun a p q => h a (by omega) (by omega) (by omega))
theorem c_reach (hb : zLu b) (hG : Geo C R) (hc : 0 ≤ c ∧ c < C * R) (hin : M (b + 1) c = zb (P c)) (hR : lmR M b C R s m) (hW : Wf C R s) (hm : 0 ≤ m ∧ m ≤ 96) :
    zKv g (z1 o) mX3_reach [zA g b, zI c] M (fun M' => lmR M' b C R (rchP P m s c) m ∧ lmF M M' b) := by
  have hn := geo_n hG
  obtain ⟨r1, r2, r3, r4⟩ := hR
  have h01 := zb01 (P c)
  have hl := hW.len hG
  have hr := hW.2.2 c hc.1 hc.2
  have e3 := r3 c hc.1 hc.2
  have same : ∀ h : ¬ (P c ∧ s.1 c = -1), lmR M b C R (rchP P m s c) m ∧ lmF M M b := fun h => by rw [rchP_f h]; exact ⟨⟨r1, r2, r3, r4⟩, lmF.rf⟩
  refine zkv_of rfl (Nat.le_of_ble_eq_true rfl) (SX3_reach_0 hb ⟨by omega, by omega, fun h => same (fun q => by rw [zb_t q.1] at hin; omega), fun h => ⟨by omega, fun h' => same (fun q => h' (by rw [e3]; exact q.2)), fun h' => ⟨by omega, fun h'' => ?_, fun h'' => ⟨?_, fun N6 e6 N8 e8 => ?_⟩⟩⟩⟩)
  · have := hW.lt hG hc (by omega); omega
  · rw [zu_other (by omega)]; omega
  · have hp : P c := by
      rcases h01 with q | q
      · omega
      · exact zb_1.mp q
    have q3 : ∀ i : Int, i ≠ 3 → zu N8 b 3 (N8 b 3 + 1) b i = M b i := fun i hi => by rw [zu_row, if_neg hi, e8, zu_other (by omega), e6, zu_other (by omega)]
    have n8 : N8 b 3 = M b 3 := by rw [e8, zu_other (by omega), e6, zu_other (by omega)]
    have n6 : N6 b 3 = M b 3 := by rw [e6, zu_other (by omega)]
    rw [rchP_t hp (by omega)]
    refine ⟨⟨?_, fun i hi => ?_, fun d a1 a2 => ?_, ?_⟩, fun a a1 a2 a3 => by rw [zu_other a1, e8, zu_other a2, e6, zu_other a3]⟩
    · rw [zu_at, n8, r1]; simp
    · simp only [List.length_append, List.length_cons, List.length_nil] at hi
      rw [zu_other (by omega), e8, zu_row, n6, r1]
      by_cases e : i < s.2.length
      · rw [if_neg (by omega), e6, zu_other (by omega), r2 i e]; exact (gd_1 e c).symm
      · rw [if_pos (by omega), show i = s.2.length by omega]; exact (gd_2 s.2 c).symm
    · rw [zu_other (by omega), e8, zu_other (by omega), e6, zu_row, r4]
      show _ = up s.1 c m d
      unfold up
      rw [r3 d a1 a2]
    · rw [q3 5 (by decide), r4]
def Tc (C R cor : Int) : Int → Nat → Int := if cor = 0 then T4 C R else T8 C R
def Kc (cor : Int) : Nat := if cor = 0 then 4 else 8
theorem Tc_in (hG : Geo C R) (d : Int) (hc : 0 ≤ d ∧ d < C * R) (j : Nat) : 0 ≤ Tc C R cor d j ∧ Tc C R cor d j < C * R := by
  unfold Tc; split
  · exact T4_in hG hc j
  · exact T8_in hG hc j
theorem c_spread (hb : zLu b) (hL : zLand M C R) (hc : 0 ≤ c ∧ c < C * R) (hin : ∀ d : Int, 0 ≤ d → d < C * R → M (b + 1) d = zb (P d)) (hcor : cor = 0 ∨ cor = 1) {L : Int → Int} (hR : (∀ d : Int, 0 ≤ d → d < C * R → M (b + 3) d = L d) ∧ M b 5 = m) (hW : Wf C R (L, [])) (hm : 0 ≤ m ∧ m ≤ 96) :
    zKv g (z1 o) mX3_spread [zA g b, zI c, zI cor] M (fun M' => lmR M' b C R (flo P m (Tc C R cor) (Kc cor) 97 0 (rchP P m (L, []) c)) m ∧ lmF M M' b) := by
  have hG := hL.1
  have hn := geo_n hG
  have hbb : b + 1 ≠ b ∧ b + 1 ≠ b + 2 ∧ b + 1 ≠ b + 3 := by omega
  have inn : ∀ M' : zM, lmF M M' b → ∀ d : Int, 0 ≤ d → d < C * R → M' (b + 1) d = zb (P d) := fun M' h d a1 a2 => by rw [h _ hbb.1 hbb.2.1 hbb.2.2]; exact hin d a1 a2
  have hr0 : lmR (zu M b 3 0) b C R (L, []) m := ⟨by rw [zu_at]; rfl, fun i hi => by simp at hi, fun d a1 a2 => by rw [zu_other (by omega)]; exact hR.1 d a1 a2, by rw [zu_row, if_neg (by decide)]; exact hR.2⟩
  have f0 : lmF M (zu M b 3 0) b := fun a a1 _ _ => zu_other a1
  refine zkv_of rfl (Nat.le_of_ble_eq_true rfl) (SX3_spread_0 hb ⟨_, c_reach hb hG hc (inn _ f0 c hc.1 hc.2) hr0 hW hm, fun M3 hq => ?_⟩)
  suffices hs : ∀ (f i : Nat) (s : Fl) (M1 : zM), i + f = 97 → Wf C R s → lmR M1 b C R s m → lmF M M1 b → zT g (z1 o) mX3_spread (zQv (z1 o) (fun M' => lmR M' b C R (flo P m (Tc C R cor) (Kc cor) f i s) m ∧ lmF M M' b)) 12 [(0, zA g b), (2, zI cor), (3, zI i)] [] M1 from hs 97 0 _ M3 rfl (hW.rc hc hm) hq.1 (f0.trans hq.2)
  intro f
  induction f with
  | zero =>
    intro i s M1 hi hW1 hR1 hF1
    have := hW1.len hG
    have e := hR1.1
    exact SX3_spread_12 hb ⟨by omega, by omega, fun _ => ⟨hR1, hF1⟩, fun h => by omega⟩
  | succ f ih =>
    intro i s M1 hi hW1 hR1 hF1
    have hl := hW1.len hG
    have e := hR1.1
    by_cases hlt : i < s.2.length
    · have ef : flo P m (Tc C R cor) (Kc cor) (f + 1) i s = flo P m (Tc C R cor) (Kc cor) f (i + 1) (rchs P m (Tc C R cor) (s.2.getD i 0) (Kc cor) s) := by show (if _ then _ else _) = _; rw [if_pos hlt]
      rw [ef]
      have hc0 := hW1.2.1 i hlt
      refine SX3_spread_12 hb ⟨by omega, by omega, fun h => by omega, fun _ => ⟨fun h => by omega, fun _ => ?_⟩⟩
      have tin : ∀ j : Nat, 0 ≤ Tc C R cor (s.2.getD i 0) j ∧ Tc C R cor (s.2.getD i 0) j < C * R := Tc_in hG _ hc0
      suffices hs2 : ∀ (j w : Nat) (M2 : zM), w + j = 4 → lmR M2 b C R (rchs P m (Tc C R cor) (s.2.getD i 0) (if cor = 0 then w else 2 * w) s) m → lmF M M2 b → zT g (z1 o) mX3_spread (zQv (z1 o) (fun M' => lmR M' b C R (flo P m (Tc C R cor) (Kc cor) f (i + 1) (rchs P m (Tc C R cor) (s.2.getD i 0) (Kc cor) s)) m ∧ lmF M M' b)) 29 [(0, zA g b), (2, zI cor), (3, zI i), (4, zI w)] [] M2 from hs2 4 0 M1 rfl (by
        have : (if cor = 0 then 0 else 2 * 0) = 0 := by split <;> rfl
        rw [this]; exact hR1) hF1
      intro j
      induction j with
      | zero =>
        intro w M2 hw hR2 hF2
        have hk : (if cor = 0 then w else 2 * w) = Kc cor := by unfold Kc; split <;> omega
        rw [hk] at hR2
        exact SX3_spread_29 (C := C) (R := R) hb ⟨by omega, fun _ => ih (i + 1) _ M2 (by omega) (hW1.rcs tin hm _) hR2 hF2, fun h => by omega⟩
      | succ j ih2 =>
        intro w M2 hw hR2 hF2
        have hL2 := hF2.L hb hL
        have wf2 : Wf C R (rchs P m (Tc C R cor) (s.2.getD i 0) (if cor = 0 then w else 2 * w) s) := hW1.rcs tin hm _
        have gt := rchs_get (P := P) (m := m) (T := Tc C R cor) (d := s.2.getD i 0) hlt (if cor = 0 then w else 2 * w)
        have eq : M2 (b + 2) i = s.2.getD i 0 := (hR2.2.1 i gt.1).trans gt.2
        have a1 := alg_in (w := (w : Int)) (k := 1) hG hc0
        refine SX3_spread_29 (C := C) (R := R) hb ⟨by omega, fun h => by omega, fun _ => ⟨by omega, hL2, by rw [eq]; exact hc0, by omega, ?_⟩⟩
        rw [eq]
        refine ⟨_, c_reach hb hG a1 (inn _ hF2 _ a1.1 a1.2) hR2 wf2 hm, fun M11 hq => ⟨by omega, fun h0 => ?_, fun h0 => ?_⟩⟩
        · refine ih2 (w + 1) M11 (by omega) ?_ (hF2.trans hq.2)
          have e1 : rchP P m (rchs P m (Tc C R cor) (s.2.getD i 0) (if cor = 0 then w else 2 * w) s) (alg C R (s.2.getD i 0) w 1) = rchs P m (Tc C R cor) (s.2.getD i 0) (if cor = 0 then w + 1 else 2 * (w + 1)) s := by
            rw [if_pos h0, if_pos h0]
            show _ = rchP P m _ (Tc C R cor (s.2.getD i 0) w)
            unfold Tc
            rw [if_pos h0]; rfl
          rw [← e1]; exact hq.1
        · have hF11 := hF2.trans hq.2
          have e1 : rchP P m (rchs P m (Tc C R cor) (s.2.getD i 0) (if cor = 0 then w else 2 * w) s) (alg C R (s.2.getD i 0) w 1) = rchs P m (Tc C R cor) (s.2.getD i 0) (2 * w + 1) s := by
            rw [if_neg h0]
            show _ = rchP P m _ (Tc C R cor (s.2.getD i 0) (2 * w))
            unfold Tc
            rw [if_neg h0]
            unfold T8
            rw [if_pos (by omega), show 2 * w / 2 = w by omega]
          have hq1 := hq.1
          rw [e1] at hq1
          have a2 := alg_in (w := ((w : Int) + 1) % (3 + 1)) (k := 1) hG a1
          refine ⟨hF11.L hb hL, a1, by omega, _, c_reach hb hG a2 (inn _ hF11 _ a2.1 a2.2) hq1 (hW1.rcs tin hm _) hm, fun M23 hq2 => ?_⟩
          refine ih2 (w + 1) M23 (by omega) ?_ (hF11.trans hq2.2)
          have e2 : rchP P m (rchs P m (Tc C R cor) (s.2.getD i 0) (2 * w + 1) s) (alg C R (alg C R (s.2.getD i 0) w 1) (((w : Int) + 1) % (3 + 1)) 1) = rchs P m (Tc C R cor) (s.2.getD i 0) (if cor = 0 then w + 1 else 2 * (w + 1)) s := by
            rw [if_neg h0, show 2 * (w + 1) = 2 * w + 1 + 1 by omega]
            show _ = rchP P m _ (Tc C R cor (s.2.getD i 0) (2 * w + 1))
            congr 1
            unfold Tc
            rw [if_neg h0]
            unfold T8
            rw [if_neg (by omega), show (2 * w + 1) / 2 = w by omega]; rfl
          rw [← e2]; exact hq2.1
    · have ef : flo P m (Tc C R cor) (Kc cor) (f + 1) i s = s := by show (if _ then _ else _) = _; rw [if_neg hlt]
      rw [ef]
      exact SX3_spread_12 hb ⟨by omega, by omega, fun _ => ⟨hR1, hF1⟩, fun h => by omega⟩
/-- joined: labels and their number -/
def lmJ (M : zM) (b : Nat) (C R : Int) (J : (Int → Int) × Int) : Prop := (∀ c : Int, 0 ≤ c → c < C * R → M (b + 3) c = J.1 c) ∧ M b 5 = J.2
theorem c_join (hb : zLu b) (hL : zLand M C R) (hin : ∀ d : Int, 0 ≤ d → d < C * R → M (b + 1) d = zb (P d)) (hcor : cor = 0 ∨ cor = 1) : zKv g (z1 o) mX3_join [zA g b, zI cor] M (fun M' => lmJ M' b C R (joi P (Tc C R cor) (Kc cor) (C * R).toNat) ∧ lmF M M' b) := by
  have hG := hL.1
  have hn := geo_n hG
  have hbb : b + 1 ≠ b ∧ b + 1 ≠ b + 2 ∧ b + 1 ≠ b + 3 := by omega
  have inn : ∀ M' : zM, lmF M M' b → ∀ d : Int, 0 ≤ d → d < C * R → M' (b + 1) d = zb (P d) := fun M' h d a1 a2 => by rw [h _ hbb.1 hbb.2.1 hbb.2.2]; exact hin d a1 a2
  obtain ⟨n, hnn⟩ := znn (show 0 ≤ C * R by omega)
  have en : (C * R).toNat = n := by omega
  rw [en]
  refine zkv_of rfl (Nat.le_of_ble_eq_true rfl) (SX3_join_0 hb ⟨_, c_fill (n := 96) (zlu_3 hb) (Nat.succ_ne_zero _) (by decide), fun M3 hq => ?_⟩)
  have hF0 : lmF M (zu M3 b 5 0) b := fun a a1 a2 a3 => by rw [zu_other a1, hq, zrw_other a3]
  have hJ0 : lmJ (zu M3 b 5 0) b C R (joi P (Tc C R cor) (Kc cor) 0) := by
    refine ⟨fun c a1 a2 => ?_, zu_at _ _ _ _⟩
    rw [zu_other (by omega), hq, zrw_row, if_pos ⟨a1, by omega⟩]; rfl
  suffices hs : ∀ (j k : Nat) (M1 : zM), k + j = n → lmJ M1 b C R (joi P (Tc C R cor) (Kc cor) k) → lmF M M1 b → zT g (z1 o) mX3_join (zQv (z1 o) (fun M' => lmJ M' b C R (joi P (Tc C R cor) (Kc cor) n) ∧ lmF M M' b)) 15 [(0, zA g b), (1, zI cor), (2, zI k)] [] M1 from hs n 0 _ (by omega) hJ0 hF0
  intro j
  induction j with
  | zero =>
    intro k M1 hk hJ hF
    have e14 : M1 14 2 = C * R := (hF.L hb hL).2.2.2.1
    rw [show k = n by omega] at hJ ⊢
    exact SX3_join_15 hb ⟨by omega, by omega, fun _ => ⟨hJ, hF⟩, fun h => by omega⟩
  | succ j ih =>
    intro k M1 hk hJ hF
    have hL1 := hF.L hb hL
    have e14 : M1 14 2 = C * R := hL1.2.2.2.1
    obtain ⟨w1, w2, w3⟩ := joi_wf (P := P) (K := Kc cor) hG (Tc_in (cor := cor) hG) k (by omega)
    have h01 := zb01 (P k)
    have ei := inn _ hF k (by omega) (by omega)
    have el := hJ.1 k (by omega) (by omega)
    have hr : -1 ≤ (joi P (Tc C R cor) (Kc cor) k).1 k ∧ (joi P (Tc C R cor) (Kc cor) k).1 k ≤ 96 := w1.2.2 k (by omega) (by omega)
    refine SX3_join_15 hb ⟨by omega, by omega, fun h => by omega, fun _ => ⟨by omega, by omega, fun h => ?_, fun h => ⟨by rw [el]; exact ⟨by omega, by omega⟩, fun h' => ?_, fun h' => ?_⟩⟩⟩
    · refine ih (k + 1) M1 (by omega) ?_ hF
      rw [joi_f (fun q => by rw [zb_t q.1] at ei; omega)]; exact hJ
    · refine ih (k + 1) M1 (by omega) ?_ hF
      rw [joi_f (fun q => h' (el.trans q.2))]; exact hJ
    · have hp : P k := by
        rcases h01 with q | q
        · omega
        · exact zb_1.mp q
      refine ⟨_, c_spread hb hL1 (by omega) (inn _ hF) hcor (m := (joi P (Tc C R cor) (Kc cor) k).2) hJ w1 (by omega), fun M8 hq => ?_⟩
      obtain ⟨q1, q2⟩ := hq
      refine ih (k + 1) _ (by omega) ?_ (hF.trans (q2.trans (fun a a1 _ _ => zu_other a1)))
      rw [joi_t ⟨hp, el.symm.trans h'⟩]
      refine ⟨fun c a1 a2 => ?_, ?_⟩
      · rw [zu_other (by omega)]; exact q1.2.2.1 c a1 a2
      · rw [zu_at, q1.2.2.2]
theorem c_joinLevel {h1 n1 : Nat} (hb : zLu b) (hL : zLand M C R) (hh : zh (z1 o) h1 = (1, n1)) (hz : h1 ≠ 0) (hn1 : n1 ≤ 100000) (h96 : 96 ≤ n1) (hne : h1 ≠ b + 1) (hlv : -2147483648 ≤ x ∧ x ≤ 2147483647) (hP : ∀ d : Int, 0 ≤ d → d < C * R → ((x ≤ M h1 d ↔ P d) ∧ -2147483648 ≤ M h1 d ∧ M h1 d ≤ 2147483647)) :
    zKv g (z1 o) mX3_joinLevel [zA g b, zA g h1, zI x] M (fun M' => lmJ M' b C R (joi P (T4 C R) 4 (C * R).toNat) ∧ ∀ a : Nat, a ≠ b → a ≠ b + 1 → a ≠ b + 2 → a ≠ b + 3 → M' a = M a) := by
  have hG := hL.1
  have hn := geo_n hG
  obtain ⟨n, hnn⟩ := znn (show 0 ≤ C * R by omega)
  refine zkv_of rfl (Nat.le_of_ble_eq_true rfl) (SX3_joinLevel_0 hb hh hz hn1 ?_)
  suffices hs : ∀ (j k : Nat) (M1 : zM), k + j = n → (∀ d : Int, 0 ≤ d → d < k → M1 (b + 1) d = zb (P d)) → (∀ a : Nat, a ≠ b + 1 → M1 a = M a) → zT g (z1 o) mX3_joinLevel (zQv (z1 o) (fun M' => lmJ M' b C R (joi P (T4 C R) 4 (C * R).toNat) ∧ ∀ a : Nat, a ≠ b → a ≠ b + 1 → a ≠ b + 2 → a ≠ b + 3 → M' a = M a)) 2 [(0, zA g b), (1, zA g h1), (2, zI x), (3, zI k)] [] M1 from hs n 0 M (by omega) (fun d a1 a2 => by omega) (fun _ _ => rfl)
  have hb' := zlu_lo hb
  intro j
  induction j with
  | zero =>
    intro k M1 hk hi hF
    have hL1 : zLand M1 C R := hL.of (fun a p q => hF a (by omega))
    have e14 : M1 14 2 = C * R := hL1.2.2.2.1
    refine SX3_joinLevel_2 hb hh hz hn1 ⟨by omega, by omega, fun _ => ⟨_, c_join (P := P) (cor := 0) hb hL1 (fun d a1 a2 => hi d a1 (by omega)) (Or.inl rfl), fun M5 hq => ?_⟩, fun h => by omega⟩
    exact ⟨hq.1, fun a a1 a2 a3 a4 => by rw [hq.2 a a1 a3 a4, hF a a2]⟩
  | succ j ih =>
    intro k M1 hk hi hF
    have hL1 : zLand M1 C R := hL.of (fun a p q => hF a (by omega))
    have e14 : M1 14 2 = C * R := hL1.2.2.2.1
    have eh := hF h1 hne
    have hp := hP k (by omega) (by omega)
    have nx : ∀ v : Int, v = zb (P k) → zT g (z1 o) mX3_joinLevel (zQv (z1 o) (fun M' => lmJ M' b C R (joi P (T4 C R) 4 (C * R).toNat) ∧ ∀ a : Nat, a ≠ b → a ≠ b + 1 → a ≠ b + 2 → a ≠ b + 3 → M' a = M a)) 2 [(0, zA g b), (1, zA g h1), (2, zI x), (3, zI ((k : Int) + 1))] [] (zu M1 (b + 1) k v) := fun v hv => by
      refine ih (k + 1) _ (by omega) (fun d a1 a2 => ?_) (fun a ha => by rw [zu_other ha, hF a ha])
      rw [zu_row]
      by_cases e : d = k
      · rw [if_pos e, hv, e]
      · rw [if_neg e]; exact hi d a1 (by omega)
    refine SX3_joinLevel_2 hb hh hz hn1 ⟨by omega, by omega, fun h => by omega, fun _ => ⟨by omega, by rw [eh]; exact hp.2, hlv, fun h => ⟨by omega, nx 0 ?_⟩, fun h => ⟨by omega, nx 1 ?_⟩⟩⟩
    · rw [eh] at h; exact (zb_f (fun q => by have := hp.1.mpr q; omega)).symm
    · rw [eh] at h; exact (zb_t (hp.1.mp (by omega))).symm
theorem c_joinCrests (hL : zLand M C R) (hB : Bd (M 25)) (hw : 0 ≤ x ∧ x ≤ 3) :
    zKv g (z1 o) mX3_joinCrests [zA g 127, zA g 32, zI x] M (fun M' => lmJ M' 127 C R (joi (fun c => crest C R (M 25) c x) (T8 C R) 8 (C * R).toNat) ∧ ∀ a : Nat, a ≠ 127 → a ≠ 128 → a ≠ 129 → a ≠ 130 → M' a = M a) := by
  have hG := hL.1
  have hn := geo_n hG
  have hb : zLu 127 := Or.inl rfl
  obtain ⟨n, hnn⟩ := znn (show 0 ≤ C * R by omega)
  refine zkv_of rfl (Nat.le_of_ble_eq_true rfl) (SX3_joinCrests_0 hb ?_)
  suffices hs : ∀ (j k : Nat) (M1 : zM), k + j = n → (∀ d : Int, 0 ≤ d → d < k → M1 128 d = zb (crest C R (M 25) d x)) → (∀ a : Nat, a ≠ 128 → M1 a = M a) → zT g (z1 o) mX3_joinCrests (zQv (z1 o) (fun M' => lmJ M' 127 C R (joi (fun c => crest C R (M 25) c x) (T8 C R) 8 (C * R).toNat) ∧ ∀ a : Nat, a ≠ 127 → a ≠ 128 → a ≠ 129 → a ≠ 130 → M' a = M a)) 2 [(0, zA g 127), (1, zA g 32), (2, zI x), (3, zI k)] [] M1 from hs n 0 M (by omega) (fun d a1 a2 => by omega) (fun _ _ => rfl)
  intro j
  induction j with
  | zero =>
    intro k M1 hk hi hF
    have hL1 : zLand M1 C R := hL.of (fun a p q => hF a (by omega))
    have e14 : M1 14 2 = C * R := hL1.2.2.2.1
    refine SX3_joinCrests_2 (C := C) (R := R) hb ⟨by omega, by omega, fun _ => ⟨_, c_join (P := fun c => crest C R (M 25) c x) (cor := 1) hb hL1 (fun d a1 a2 => hi d a1 (by omega)) (Or.inr rfl), fun M5 hq => ?_⟩, fun h => by omega⟩
    exact ⟨hq.1, fun a a1 a2 a3 a4 => by rw [hq.2 a a1 a3 a4, hF a a2]⟩
  | succ j ih =>
    intro k M1 hk hi hF
    have hL1 : zLand M1 C R := hL.of (fun a p q => hF a (by omega))
    have e14 : M1 14 2 = C * R := hL1.2.2.2.1
    have e25 : M1 25 = M 25 := hF 25 (by decide)
    refine SX3_joinCrests_2 (C := C) (R := R) hb ⟨by omega, by omega, fun h => by omega, fun _ => ⟨hL1, by omega, hw, by rw [e25]; exact hB, by omega, ?_⟩⟩
    refine ih (k + 1) _ (by omega) (fun d a1 a2 => ?_) (fun a ha => by rw [zu_other ha, hF a ha])
    show zu M1 128 k _ 128 d = _
    rw [zu_row, e25]
    by_cases e : d = k
    · rw [if_pos e, e]
    · rw [if_neg e]; exact hi d a1 (by omega)
end LM
