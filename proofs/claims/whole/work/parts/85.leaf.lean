theorem z_oi : Cond.instanceMethod objectInit ∈ zt ∧ Cond.code objectInit ⟨#[0xb1]⟩ 1 none ∈ zt := ⟨zc1 26 (by decide +kernel) rfl, zc1 27 (by decide +kernel) rfl⟩
theorem z_ai : Cond.arrayClass (newarray.typeOf .int) ∈ zt := zc1 57 (by decide +kernel) rfl
theorem z_az : Cond.arrayClass (newarray.typeOf .boolean) ∈ zt := zc2 115 (by decide +kernel) rfl
theorem z_al : Cond.arrayClass (newarray.typeOf .long) ∈ zt := zc2 87 (by decide +kernel) rfl
theorem oX0_init : Cond.methodLink (mX0_init).1.cls 3 objectInit ∈ zt ∧ Cond.instanceMethod objectInit ∈ zt ∧ Cond.code objectInit ⟨#[0xb1]⟩ 1 none ∈ zt ∧ 1 ≤ (mX0_init).2.2.2.2.1 ∧ 20 ≤ (mX0_init).2.2.2.2.2 := ⟨zc1 69 (by decide +kernel) rfl, z_oi.1, z_oi.2, by decide, by decide⟩
theorem oX1_init : Cond.methodLink (mX1_init).1.cls 3 objectInit ∈ zt ∧ Cond.instanceMethod objectInit ∈ zt ∧ Cond.code objectInit ⟨#[0xb1]⟩ 1 none ∈ zt ∧ 1 ≤ (mX1_init).2.2.2.2.1 ∧ 20 ≤ (mX1_init).2.2.2.2.2 := ⟨zc2 36 (by decide +kernel) rfl, z_oi.1, z_oi.2, by decide, by decide⟩
theorem oX2_init : Cond.methodLink (mX2_init).1.cls 3 objectInit ∈ zt ∧ Cond.instanceMethod objectInit ∈ zt ∧ Cond.code objectInit ⟨#[0xb1]⟩ 1 none ∈ zt ∧ 1 ≤ (mX2_init).2.2.2.2.1 ∧ 20 ≤ (mX2_init).2.2.2.2.2 := ⟨zc1 166 (by decide +kernel) rfl, z_oi.1, z_oi.2, by decide, by decide⟩
theorem oX3_init : Cond.methodLink (mX3_init).1.cls 3 objectInit ∈ zt ∧ Cond.instanceMethod objectInit ∈ zt ∧ Cond.code objectInit ⟨#[0xb1]⟩ 1 none ∈ zt ∧ 1 ≤ (mX3_init).2.2.2.2.1 ∧ 20 ≤ (mX3_init).2.2.2.2.2 := ⟨zc2 93 (by decide +kernel) rfl, z_oi.1, z_oi.2, by decide, by decide⟩
theorem oX4_init : Cond.methodLink (mX4_init).1.cls 3 objectInit ∈ zt ∧ Cond.instanceMethod objectInit ∈ zt ∧ Cond.code objectInit ⟨#[0xb1]⟩ 1 none ∈ zt ∧ 1 ≤ (mX4_init).2.2.2.2.1 ∧ 20 ≤ (mX4_init).2.2.2.2.2 := ⟨zc1 63 (by decide +kernel) rfl, z_oi.1, z_oi.2, by decide, by decide⟩
theorem oX5_init : Cond.methodLink (mX5_init).1.cls 3 objectInit ∈ zt ∧ Cond.instanceMethod objectInit ∈ zt ∧ Cond.code objectInit ⟨#[0xb1]⟩ 1 none ∈ zt ∧ 1 ≤ (mX5_init).2.2.2.2.1 ∧ 20 ≤ (mX5_init).2.2.2.2.2 := ⟨zc1 218 (by decide +kernel) rfl, z_oi.1, z_oi.2, by decide, by decide⟩
theorem oX6_init : Cond.methodLink (mX6_init).1.cls 3 objectInit ∈ zt ∧ Cond.instanceMethod objectInit ∈ zt ∧ Cond.code objectInit ⟨#[0xb1]⟩ 1 none ∈ zt ∧ 1 ≤ (mX6_init).2.2.2.2.1 ∧ 20 ≤ (mX6_init).2.2.2.2.2 := ⟨zc2 57 (by decide +kernel) rfl, z_oi.1, z_oi.2, by decide, by decide⟩
theorem oX7_init : Cond.methodLink (mX7_init).1.cls 3 objectInit ∈ zt ∧ Cond.instanceMethod objectInit ∈ zt ∧ Cond.code objectInit ⟨#[0xb1]⟩ 1 none ∈ zt ∧ 1 ≤ (mX7_init).2.2.2.2.1 ∧ 20 ≤ (mX7_init).2.2.2.2.2 := ⟨zc2 11 (by decide +kernel) rfl, z_oi.1, z_oi.2, by decide, by decide⟩
theorem oX8_init : Cond.methodLink (mX8_init).1.cls 3 objectInit ∈ zt ∧ Cond.instanceMethod objectInit ∈ zt ∧ Cond.code objectInit ⟨#[0xb1]⟩ 1 none ∈ zt ∧ 1 ≤ (mX8_init).2.2.2.2.1 ∧ 20 ≤ (mX8_init).2.2.2.2.2 := ⟨zc1 33 (by decide +kernel) rfl, z_oi.1, z_oi.2, by decide, by decide⟩
theorem oX9_init : Cond.methodLink (mX9_init).1.cls 1 objectInit ∈ zt ∧ Cond.instanceMethod objectInit ∈ zt ∧ Cond.code objectInit ⟨#[0xb1]⟩ 1 none ∈ zt ∧ 1 ≤ (mX9_init).2.2.2.2.1 ∧ 20 ≤ (mX9_init).2.2.2.2.2 := ⟨zc1 25 (by decide +kernel) rfl, z_oi.1, z_oi.2, by decide, by decide⟩
theorem oX10_init : Cond.methodLink (mX10_init).1.cls 1 objectInit ∈ zt ∧ Cond.instanceMethod objectInit ∈ zt ∧ Cond.code objectInit ⟨#[0xb1]⟩ 1 none ∈ zt ∧ 1 ≤ (mX10_init).2.2.2.2.1 ∧ 20 ≤ (mX10_init).2.2.2.2.2 := ⟨zc5 96 (by decide +kernel) rfl, z_oi.1, z_oi.2, by decide, by decide⟩
theorem nd0 (g : zG) : ∀ k, k < 13 → defaultValue (tyX0 k) = zfv g (zfk 0 k) 0 0 := by
  intro k hk
  have h : k = 0 ∨ k = 1 ∨ k = 2 ∨ k = 3 ∨ k = 4 ∨ k = 5 ∨ k = 6 ∨ k = 7 ∨ k = 8 ∨ k = 9 ∨ k = 10 ∨ k = 11 ∨ k = 12 := by omega
  rcases h with rfl | rfl | rfl | rfl | rfl | rfl | rfl | rfl | rfl | rfl | rfl | rfl | rfl <;> rfl
theorem nd1 (g : zG) : ∀ k, k < 3 → defaultValue (tyX1 k) = zfv g (zfk 1 k) 0 0 := by
  intro k hk
  have h : k = 0 ∨ k = 1 ∨ k = 2 := by omega
  rcases h with rfl | rfl | rfl <;> rfl
theorem nd2 (g : zG) : ∀ k, k < 11 → defaultValue (tyX2 k) = zfv g (zfk 2 k) 0 0 := by
  intro k hk
  have h : k = 0 ∨ k = 1 ∨ k = 2 ∨ k = 3 ∨ k = 4 ∨ k = 5 ∨ k = 6 ∨ k = 7 ∨ k = 8 ∨ k = 9 ∨ k = 10 := by omega
  rcases h with rfl | rfl | rfl | rfl | rfl | rfl | rfl | rfl | rfl | rfl | rfl <;> rfl
theorem nd3 (g : zG) : ∀ k, k < 6 → defaultValue (tyX3 k) = zfv g (zfk 3 k) 0 0 := by
  intro k hk
  have h : k = 0 ∨ k = 1 ∨ k = 2 ∨ k = 3 ∨ k = 4 ∨ k = 5 := by omega
  rcases h with rfl | rfl | rfl | rfl | rfl | rfl <;> rfl
theorem nd4 (g : zG) : ∀ k, k < 5 → defaultValue (tyX4 k) = zfv g (zfk 4 k) 0 0 := by
  intro k hk
  have h : k = 0 ∨ k = 1 ∨ k = 2 ∨ k = 3 ∨ k = 4 := by omega
  rcases h with rfl | rfl | rfl | rfl | rfl <;> rfl
theorem nd5 (g : zG) : ∀ k, k < 5 → defaultValue (tyX5 k) = zfv g (zfk 5 k) 0 0 := by
  intro k hk
  have h : k = 0 ∨ k = 1 ∨ k = 2 ∨ k = 3 ∨ k = 4 := by omega
  rcases h with rfl | rfl | rfl | rfl | rfl <;> rfl
theorem nd6 (g : zG) : ∀ k, k < 9 → defaultValue (tyX6 k) = zfv g (zfk 6 k) 0 0 := by
  intro k hk
  have h : k = 0 ∨ k = 1 ∨ k = 2 ∨ k = 3 ∨ k = 4 ∨ k = 5 ∨ k = 6 ∨ k = 7 ∨ k = 8 := by omega
  rcases h with rfl | rfl | rfl | rfl | rfl | rfl | rfl | rfl | rfl <;> rfl
theorem nd7 (g : zG) : ∀ k, k < 5 → defaultValue (tyX7 k) = zfv g (zfk 7 k) 0 0 := by
  intro k hk
  have h : k = 0 ∨ k = 1 ∨ k = 2 ∨ k = 3 ∨ k = 4 := by omega
  rcases h with rfl | rfl | rfl | rfl | rfl <;> rfl
theorem nd8 (g : zG) : ∀ k, k < 6 → defaultValue (tyX8 k) = zfv g (zfk 8 k) 0 0 := by
  intro k hk
  have h : k = 0 ∨ k = 1 ∨ k = 2 ∨ k = 3 ∨ k = 4 ∨ k = 5 := by omega
  rcases h with rfl | rfl | rfl | rfl | rfl | rfl <;> rfl
theorem nwX1_init_9 : zLn mX1_init 9 5 5 := ⟨(RX5, TX5, 5), rfl, rfl, iX5, ⟨tyX5, tyX5_ok, fun g k hk => nd5 g k hk⟩, zc2 37 (by decide +kernel) rfl, zc1 214 (by decide +kernel) rfl, zc1 7 (by decide +kernel) rfl⟩
theorem nwX4_init_9 : zLn mX4_init 9 0 13 := ⟨(RX0, TX0, 13), rfl, rfl, iX0, ⟨tyX0, tyX0_ok, fun g k hk => nd0 g k hk⟩, zc1 64 (by decide +kernel) rfl, zc1 65 (by decide +kernel) rfl, zc1 4 (by decide +kernel) rfl⟩
theorem nwX9_init_7 : zLn mX9_init 7 8 6 := ⟨(RX8, TX8, 6), rfl, rfl, iX8, ⟨tyX8, tyX8_ok, fun g k hk => nd8 g k hk⟩, zc1 28 (by decide +kernel) rfl, zc1 29 (by decide +kernel) rfl, zc1 2 (by decide +kernel) rfl⟩
theorem nwX9_init_16 : zLn mX9_init 16 4 5 := ⟨(RX4, TX4, 5), rfl, rfl, iX4, ⟨tyX4, tyX4_ok, fun g k hk => nd4 g k hk⟩, zc1 58 (by decide +kernel) rfl, zc1 59 (by decide +kernel) rfl, zc1 3 (by decide +kernel) rfl⟩
theorem nwX9_init_25 : zLn mX9_init 25 2 11 := ⟨(RX2, TX2, 11), rfl, rfl, iX2, ⟨tyX2, tyX2_ok, fun g k hk => nd2 g k hk⟩, zc1 161 (by decide +kernel) rfl, zc1 162 (by decide +kernel) rfl, zc1 6 (by decide +kernel) rfl⟩
theorem nwX9_init_32 : zLn mX9_init 32 5 5 := ⟨(RX5, TX5, 5), rfl, rfl, iX5, ⟨tyX5, tyX5_ok, fun g k hk => nd5 g k hk⟩, zc1 213 (by decide +kernel) rfl, zc1 214 (by decide +kernel) rfl, zc1 7 (by decide +kernel) rfl⟩
theorem nwX9_init_45 : zLn mX9_init 45 7 5 := ⟨(RX7, TX7, 5), rfl, rfl, iX7, ⟨tyX7, tyX7_ok, fun g k hk => nd7 g k hk⟩, zc2 6 (by decide +kernel) rfl, zc2 7 (by decide +kernel) rfl, zc1 8 (by decide +kernel) rfl⟩
theorem nwX9_init_57 : zLn mX9_init 57 1 3 := ⟨(RX1, TX1, 3), rfl, rfl, iX1, ⟨tyX1, tyX1_ok, fun g k hk => nd1 g k hk⟩, zc2 31 (by decide +kernel) rfl, zc2 32 (by decide +kernel) rfl, zc1 9 (by decide +kernel) rfl⟩
theorem nwX9_init_64 : zLn mX9_init 64 6 9 := ⟨(RX6, TX6, 9), rfl, rfl, iX6, ⟨tyX6, tyX6_ok, fun g k hk => nd6 g k hk⟩, zc2 52 (by decide +kernel) rfl, zc2 53 (by decide +kernel) rfl, zc1 10 (by decide +kernel) rfl⟩
theorem nwX9_init_73 : zLn mX9_init 73 3 6 := ⟨(RX3, TX3, 6), rfl, rfl, iX3, ⟨tyX3, tyX3_ok, fun g k hk => nd3 g k hk⟩, zc2 88 (by decide +kernel) rfl, zc2 89 (by decide +kernel) rfl, zc1 11 (by decide +kernel) rfl⟩
theorem dX0_init_0 : decode cX0_init 0 = .ok (.aload_n 0, 1) := by decide +kernel
theorem dX0_init_1 : decode cX0_init 1 = .ok (.invokespecial 3, 3) := by decide +kernel
theorem dX0_init_4 : decode cX0_init 4 = .ok (.aload_n 0, 1) := by decide +kernel
theorem dX0_init_5 : decode cX0_init 5 = .ok (.iconst 4, 1) := by decide +kernel
theorem dX0_init_6 : decode cX0_init 6 = .ok (.newarray .int, 2) := by decide +kernel
theorem dX0_init_8 : decode cX0_init 8 = .ok (.putfield 9, 3) := by decide +kernel
theorem dX0_init_11 : decode cX0_init 11 = .ok (.aload_n 0, 1) := by decide +kernel
theorem dX0_init_12 : decode cX0_init 12 = .ok (.bipush 96, 2) := by decide +kernel
theorem dX0_init_14 : decode cX0_init 14 = .ok (.newarray .int, 2) := by decide +kernel
theorem dX0_init_16 : decode cX0_init 16 = .ok (.putfield 15, 3) := by decide +kernel
theorem dX0_init_19 : decode cX0_init 19 = .ok (.aload_n 0, 1) := by decide +kernel
theorem dX0_init_20 : decode cX0_init 20 = .ok (.bipush 96, 2) := by decide +kernel
theorem dX0_init_22 : decode cX0_init 22 = .ok (.newarray .int, 2) := by decide +kernel
theorem dX0_init_24 : decode cX0_init 24 = .ok (.putfield 18, 3) := by decide +kernel
theorem dX0_init_27 : decode cX0_init 27 = .ok (.aload_n 0, 1) := by decide +kernel
theorem dX0_init_28 : decode cX0_init 28 = .ok (.bipush 8, 2) := by decide +kernel
theorem dX0_init_30 : decode cX0_init 30 = .ok (.newarray .int, 2) := by decide +kernel
theorem dX0_init_32 : decode cX0_init 32 = .ok (.putfield 21, 3) := by decide +kernel
theorem dX0_init_35 : decode cX0_init 35 = .ok (.aload_n 0, 1) := by decide +kernel
theorem dX0_init_36 : decode cX0_init 36 = .ok (.bipush 8, 2) := by decide +kernel
theorem dX0_init_38 : decode cX0_init 38 = .ok (.newarray .int, 2) := by decide +kernel
theorem dX0_init_40 : decode cX0_init 40 = .ok (.putfield 24, 3) := by decide +kernel
theorem dX0_init_43 : decode cX0_init 43 = .ok (.aload_n 0, 1) := by decide +kernel
theorem dX0_init_44 : decode cX0_init 44 = .ok (.invokevirtual 27, 3) := by decide +kernel
theorem dX0_init_47 : decode cX0_init 47 = .ok (.return_, 1) := by decide +kernel
theorem dX1_init_0 : decode cX1_init 0 = .ok (.aload_n 0, 1) := by decide +kernel
theorem dX1_init_1 : decode cX1_init 1 = .ok (.invokespecial 3, 3) := by decide +kernel
theorem dX1_init_4 : decode cX1_init 4 = .ok (.aload_n 0, 1) := by decide +kernel
theorem dX1_init_5 : decode cX1_init 5 = .ok (.bipush 21, 2) := by decide +kernel
theorem dX1_init_7 : decode cX1_init 7 = .ok (.anewarray 9, 3) := by decide +kernel
theorem dX1_init_10 : decode cX1_init 10 = .ok (.putfield 11, 3) := by decide +kernel
theorem dX1_init_13 : decode cX1_init 13 = .ok (.aload_n 0, 1) := by decide +kernel
theorem dX1_init_14 : decode cX1_init 14 = .ok (.iconst 0, 1) := by decide +kernel
theorem dX1_init_15 : decode cX1_init 15 = .ok (.putfield 17, 3) := by decide +kernel
theorem dX1_init_18 : decode cX1_init 18 = .ok (.aload_n 0, 1) := by decide +kernel
theorem dX1_init_19 : decode cX1_init 19 = .ok (.iconst 0, 1) := by decide +kernel
theorem dX1_init_20 : decode cX1_init 20 = .ok (.putfield 21, 3) := by decide +kernel
theorem dX1_init_23 : decode cX1_init 23 = .ok (.iconst 0, 1) := by decide +kernel
theorem dX1_init_24 : decode cX1_init 24 = .ok (.istore_n 1, 1) := by decide +kernel
theorem dX1_init_25 : decode cX1_init 25 = .ok (.iload_n 1, 1) := by decide +kernel
theorem dX1_init_26 : decode cX1_init 26 = .ok (.bipush 20, 2) := by decide +kernel
theorem dX1_init_28 : decode cX1_init 28 = .ok (.if_icmp .gt 22, 3) := by decide +kernel
theorem dX1_init_31 : decode cX1_init 31 = .ok (.aload_n 0, 1) := by decide +kernel
theorem dX1_init_32 : decode cX1_init 32 = .ok (.getfield 11, 3) := by decide +kernel
theorem dX1_init_35 : decode cX1_init 35 = .ok (.iload_n 1, 1) := by decide +kernel
theorem dX1_init_36 : decode cX1_init 36 = .ok (.new 9, 3) := by decide +kernel
theorem dX1_init_39 : decode cX1_init 39 = .ok (.dup, 1) := by decide +kernel
theorem dX1_init_40 : decode cX1_init 40 = .ok (.invokespecial 24, 3) := by decide +kernel
theorem dX1_init_43 : decode cX1_init 43 = .ok (.aastore, 1) := by decide +kernel
theorem dX1_init_44 : decode cX1_init 44 = .ok (.iinc 1 1, 3) := by decide +kernel
theorem dX1_init_47 : decode cX1_init 47 = .ok (.goto (-22), 3) := by decide +kernel
theorem dX1_init_50 : decode cX1_init 50 = .ok (.return_, 1) := by decide +kernel
theorem dX2_init_0 : decode cX2_init 0 = .ok (.aload_n 0, 1) := by decide +kernel
theorem dX2_init_1 : decode cX2_init 1 = .ok (.invokespecial 3, 3) := by decide +kernel
theorem dX2_init_4 : decode cX2_init 4 = .ok (.aload_n 0, 1) := by decide +kernel
theorem dX2_init_5 : decode cX2_init 5 = .ok (.bipush 96, 2) := by decide +kernel
theorem dX2_init_7 : decode cX2_init 7 = .ok (.newarray .int, 2) := by decide +kernel
theorem dX2_init_9 : decode cX2_init 9 = .ok (.putfield 9, 3) := by decide +kernel
theorem dX2_init_12 : decode cX2_init 12 = .ok (.aload_n 0, 1) := by decide +kernel
theorem dX2_init_13 : decode cX2_init 13 = .ok (.bipush 96, 2) := by decide +kernel
theorem dX2_init_15 : decode cX2_init 15 = .ok (.newarray .int, 2) := by decide +kernel
theorem dX2_init_17 : decode cX2_init 17 = .ok (.putfield 15, 3) := by decide +kernel
theorem dX2_init_20 : decode cX2_init 20 = .ok (.aload_n 0, 1) := by decide +kernel
theorem dX2_init_21 : decode cX2_init 21 = .ok (.sipush 384, 3) := by decide +kernel
theorem dX2_init_24 : decode cX2_init 24 = .ok (.newarray .int, 2) := by decide +kernel
theorem dX2_init_26 : decode cX2_init 26 = .ok (.putfield 18, 3) := by decide +kernel
theorem dX2_init_29 : decode cX2_init 29 = .ok (.aload_n 0, 1) := by decide +kernel
theorem dX2_init_30 : decode cX2_init 30 = .ok (.bipush 8, 2) := by decide +kernel
theorem dX2_init_32 : decode cX2_init 32 = .ok (.newarray .int, 2) := by decide +kernel
theorem dX2_init_34 : decode cX2_init 34 = .ok (.putfield 21, 3) := by decide +kernel
theorem dX2_init_37 : decode cX2_init 37 = .ok (.aload_n 0, 1) := by decide +kernel
theorem dX2_init_38 : decode cX2_init 38 = .ok (.bipush 8, 2) := by decide +kernel
theorem dX2_init_40 : decode cX2_init 40 = .ok (.newarray .int, 2) := by decide +kernel
theorem dX2_init_42 : decode cX2_init 42 = .ok (.putfield 24, 3) := by decide +kernel
theorem dX2_init_45 : decode cX2_init 45 = .ok (.return_, 1) := by decide +kernel
theorem dX3_init_0 : decode cX3_init 0 = .ok (.aload_n 0, 1) := by decide +kernel
theorem dX3_init_1 : decode cX3_init 1 = .ok (.invokespecial 3, 3) := by decide +kernel
theorem dX3_init_4 : decode cX3_init 4 = .ok (.aload_n 0, 1) := by decide +kernel
theorem dX3_init_5 : decode cX3_init 5 = .ok (.bipush 96, 2) := by decide +kernel
theorem dX3_init_7 : decode cX3_init 7 = .ok (.newarray .boolean, 2) := by decide +kernel
theorem dX3_init_9 : decode cX3_init 9 = .ok (.putfield 9, 3) := by decide +kernel
theorem dX3_init_12 : decode cX3_init 12 = .ok (.aload_n 0, 1) := by decide +kernel
theorem dX3_init_13 : decode cX3_init 13 = .ok (.bipush 96, 2) := by decide +kernel
theorem dX3_init_15 : decode cX3_init 15 = .ok (.newarray .int, 2) := by decide +kernel
theorem dX3_init_17 : decode cX3_init 17 = .ok (.putfield 15, 3) := by decide +kernel
theorem dX3_init_20 : decode cX3_init 20 = .ok (.aload_n 0, 1) := by decide +kernel
theorem dX3_init_21 : decode cX3_init 21 = .ok (.iconst 0, 1) := by decide +kernel
theorem dX3_init_22 : decode cX3_init 22 = .ok (.putfield 19, 3) := by decide +kernel
theorem dX3_init_25 : decode cX3_init 25 = .ok (.aload_n 0, 1) := by decide +kernel
theorem dX3_init_26 : decode cX3_init 26 = .ok (.bipush 96, 2) := by decide +kernel
theorem dX3_init_28 : decode cX3_init 28 = .ok (.newarray .int, 2) := by decide +kernel
theorem dX3_init_30 : decode cX3_init 30 = .ok (.putfield 23, 3) := by decide +kernel
theorem dX3_init_33 : decode cX3_init 33 = .ok (.aload_n 0, 1) := by decide +kernel
theorem dX3_init_34 : decode cX3_init 34 = .ok (.iconst 0, 1) := by decide +kernel
theorem dX3_init_35 : decode cX3_init 35 = .ok (.putfield 26, 3) := by decide +kernel
theorem dX3_init_38 : decode cX3_init 38 = .ok (.aload_n 0, 1) := by decide +kernel
theorem dX3_init_39 : decode cX3_init 39 = .ok (.aload_n 1, 1) := by decide +kernel
theorem dX3_init_40 : decode cX3_init 40 = .ok (.putfield 29, 3) := by decide +kernel
theorem dX3_init_43 : decode cX3_init 43 = .ok (.return_, 1) := by decide +kernel
theorem dX4_init_0 : decode cX4_init 0 = .ok (.aload_n 0, 1) := by decide +kernel
theorem dX4_init_1 : decode cX4_init 1 = .ok (.invokespecial 3, 3) := by decide +kernel
theorem dX4_init_4 : decode cX4_init 4 = .ok (.aload_n 0, 1) := by decide +kernel
theorem dX4_init_5 : decode cX4_init 5 = .ok (.new 9, 3) := by decide +kernel
theorem dX4_init_8 : decode cX4_init 8 = .ok (.dup, 1) := by decide +kernel
theorem dX4_init_9 : decode cX4_init 9 = .ok (.invokespecial 11, 3) := by decide +kernel
theorem dX4_init_12 : decode cX4_init 12 = .ok (.putfield 12, 3) := by decide +kernel
theorem dX4_init_15 : decode cX4_init 15 = .ok (.aload_n 0, 1) := by decide +kernel
theorem dX4_init_16 : decode cX4_init 16 = .ok (.iconst 0, 1) := by decide +kernel
theorem dX4_init_17 : decode cX4_init 17 = .ok (.putfield 18, 3) := by decide +kernel
theorem dX4_init_20 : decode cX4_init 20 = .ok (.aload_n 0, 1) := by decide +kernel
theorem dX4_init_21 : decode cX4_init 21 = .ok (.iconst (-1), 1) := by decide +kernel
theorem dX4_init_22 : decode cX4_init 22 = .ok (.putfield 22, 3) := by decide +kernel
theorem dX4_init_25 : decode cX4_init 25 = .ok (.aload_n 0, 1) := by decide +kernel
theorem dX4_init_26 : decode cX4_init 26 = .ok (.iconst 0, 1) := by decide +kernel
theorem dX4_init_27 : decode cX4_init 27 = .ok (.putfield 25, 3) := by decide +kernel
theorem dX4_init_30 : decode cX4_init 30 = .ok (.aload_n 0, 1) := by decide +kernel
theorem dX4_init_31 : decode cX4_init 31 = .ok (.aload_n 1, 1) := by decide +kernel
theorem dX4_init_32 : decode cX4_init 32 = .ok (.putfield 28, 3) := by decide +kernel
theorem dX4_init_35 : decode cX4_init 35 = .ok (.return_, 1) := by decide +kernel
theorem dX5_init_0 : decode cX5_init 0 = .ok (.aload_n 0, 1) := by decide +kernel
theorem dX5_init_1 : decode cX5_init 1 = .ok (.invokespecial 3, 3) := by decide +kernel
theorem dX5_init_4 : decode cX5_init 4 = .ok (.aload_n 0, 1) := by decide +kernel
theorem dX5_init_5 : decode cX5_init 5 = .ok (.bipush 96, 2) := by decide +kernel
theorem dX5_init_7 : decode cX5_init 7 = .ok (.newarray .int, 2) := by decide +kernel
theorem dX5_init_9 : decode cX5_init 9 = .ok (.putfield 9, 3) := by decide +kernel
theorem dX5_init_12 : decode cX5_init 12 = .ok (.aload_n 0, 1) := by decide +kernel
theorem dX5_init_13 : decode cX5_init 13 = .ok (.bipush 96, 2) := by decide +kernel
theorem dX5_init_15 : decode cX5_init 15 = .ok (.newarray .int, 2) := by decide +kernel
theorem dX5_init_17 : decode cX5_init 17 = .ok (.putfield 15, 3) := by decide +kernel
theorem dX5_init_20 : decode cX5_init 20 = .ok (.aload_n 0, 1) := by decide +kernel
theorem dX5_init_21 : decode cX5_init 21 = .ok (.iconst 4, 1) := by decide +kernel
theorem dX5_init_22 : decode cX5_init 22 = .ok (.newarray .int, 2) := by decide +kernel
theorem dX5_init_24 : decode cX5_init 24 = .ok (.putfield 18, 3) := by decide +kernel
theorem dX5_init_27 : decode cX5_init 27 = .ok (.return_, 1) := by decide +kernel
theorem dX6_init_0 : decode cX6_init 0 = .ok (.aload_n 0, 1) := by decide +kernel
theorem dX6_init_1 : decode cX6_init 1 = .ok (.invokespecial 3, 3) := by decide +kernel
theorem dX6_init_4 : decode cX6_init 4 = .ok (.aload_n 0, 1) := by decide +kernel
theorem dX6_init_5 : decode cX6_init 5 = .ok (.bipush 20, 2) := by decide +kernel
theorem dX6_init_7 : decode cX6_init 7 = .ok (.newarray .int, 2) := by decide +kernel
theorem dX6_init_9 : decode cX6_init 9 = .ok (.putfield 9, 3) := by decide +kernel
theorem dX6_init_12 : decode cX6_init 12 = .ok (.aload_n 0, 1) := by decide +kernel
theorem dX6_init_13 : decode cX6_init 13 = .ok (.bipush 20, 2) := by decide +kernel
theorem dX6_init_15 : decode cX6_init 15 = .ok (.newarray .int, 2) := by decide +kernel
theorem dX6_init_17 : decode cX6_init 17 = .ok (.putfield 15, 3) := by decide +kernel
theorem dX6_init_20 : decode cX6_init 20 = .ok (.aload_n 0, 1) := by decide +kernel
theorem dX6_init_21 : decode cX6_init 21 = .ok (.bipush 20, 2) := by decide +kernel
theorem dX6_init_23 : decode cX6_init 23 = .ok (.newarray .long, 2) := by decide +kernel
theorem dX6_init_25 : decode cX6_init 25 = .ok (.putfield 18, 3) := by decide +kernel
theorem dX6_init_28 : decode cX6_init 28 = .ok (.aload_n 0, 1) := by decide +kernel
theorem dX6_init_29 : decode cX6_init 29 = .ok (.sipush 4800, 3) := by decide +kernel
theorem dX6_init_32 : decode cX6_init 32 = .ok (.newarray .int, 2) := by decide +kernel
theorem dX6_init_34 : decode cX6_init 34 = .ok (.putfield 22, 3) := by decide +kernel
theorem dX6_init_37 : decode cX6_init 37 = .ok (.aload_n 0, 1) := by decide +kernel
theorem dX6_init_38 : decode cX6_init 38 = .ok (.iconst 0, 1) := by decide +kernel
theorem dX6_init_39 : decode cX6_init 39 = .ok (.putfield 25, 3) := by decide +kernel
theorem dX6_init_42 : decode cX6_init 42 = .ok (.aload_n 0, 1) := by decide +kernel
theorem dX6_init_43 : decode cX6_init 43 = .ok (.aload_n 1, 1) := by decide +kernel
theorem dX6_init_44 : decode cX6_init 44 = .ok (.putfield 29, 3) := by decide +kernel
theorem dX6_init_47 : decode cX6_init 47 = .ok (.aload_n 0, 1) := by decide +kernel
theorem dX6_init_48 : decode cX6_init 48 = .ok (.aload_n 2, 1) := by decide +kernel
theorem dX6_init_49 : decode cX6_init 49 = .ok (.putfield 33, 3) := by decide +kernel
theorem dX6_init_52 : decode cX6_init 52 = .ok (.aload_n 0, 1) := by decide +kernel
theorem dX6_init_53 : decode cX6_init 53 = .ok (.aload_n 3, 1) := by decide +kernel
theorem dX6_init_54 : decode cX6_init 54 = .ok (.putfield 37, 3) := by decide +kernel
theorem dX6_init_57 : decode cX6_init 57 = .ok (.aload_n 0, 1) := by decide +kernel
theorem dX6_init_58 : decode cX6_init 58 = .ok (.aload 4, 2) := by decide +kernel
theorem dX6_init_60 : decode cX6_init 60 = .ok (.putfield 40, 3) := by decide +kernel
theorem dX6_init_63 : decode cX6_init 63 = .ok (.return_, 1) := by decide +kernel
theorem dX7_init_0 : decode cX7_init 0 = .ok (.aload_n 0, 1) := by decide +kernel
theorem dX7_init_1 : decode cX7_init 1 = .ok (.invokespecial 3, 3) := by decide +kernel
theorem dX7_init_4 : decode cX7_init 4 = .ok (.aload_n 0, 1) := by decide +kernel
theorem dX7_init_5 : decode cX7_init 5 = .ok (.bipush 12, 2) := by decide +kernel
theorem dX7_init_7 : decode cX7_init 7 = .ok (.newarray .int, 2) := by decide +kernel
theorem dX7_init_9 : decode cX7_init 9 = .ok (.putfield 9, 3) := by decide +kernel
theorem dX7_init_12 : decode cX7_init 12 = .ok (.aload_n 0, 1) := by decide +kernel
theorem dX7_init_13 : decode cX7_init 13 = .ok (.iconst 0, 1) := by decide +kernel
theorem dX7_init_14 : decode cX7_init 14 = .ok (.putfield 15, 3) := by decide +kernel
theorem dX7_init_17 : decode cX7_init 17 = .ok (.aload_n 0, 1) := by decide +kernel
theorem dX7_init_18 : decode cX7_init 18 = .ok (.iconst 0, 1) := by decide +kernel
theorem dX7_init_19 : decode cX7_init 19 = .ok (.putfield 19, 3) := by decide +kernel
theorem dX7_init_22 : decode cX7_init 22 = .ok (.aload_n 0, 1) := by decide +kernel
theorem dX7_init_23 : decode cX7_init 23 = .ok (.aload_n 1, 1) := by decide +kernel
theorem dX7_init_24 : decode cX7_init 24 = .ok (.putfield 22, 3) := by decide +kernel
theorem dX7_init_27 : decode cX7_init 27 = .ok (.aload_n 0, 1) := by decide +kernel
theorem dX7_init_28 : decode cX7_init 28 = .ok (.aload_n 2, 1) := by decide +kernel
theorem dX7_init_29 : decode cX7_init 29 = .ok (.putfield 26, 3) := by decide +kernel
theorem dX7_init_32 : decode cX7_init 32 = .ok (.return_, 1) := by decide +kernel
theorem dX8_init_0 : decode cX8_init 0 = .ok (.aload_n 0, 1) := by decide +kernel
theorem dX8_init_1 : decode cX8_init 1 = .ok (.invokespecial 3, 3) := by decide +kernel
theorem dX8_init_4 : decode cX8_init 4 = .ok (.aload_n 0, 1) := by decide +kernel
theorem dX8_init_5 : decode cX8_init 5 = .ok (.sipush 900, 3) := by decide +kernel
theorem dX8_init_8 : decode cX8_init 8 = .ok (.newarray .int, 2) := by decide +kernel
theorem dX8_init_10 : decode cX8_init 10 = .ok (.putfield 9, 3) := by decide +kernel
theorem dX8_init_13 : decode cX8_init 13 = .ok (.aload_n 0, 1) := by decide +kernel
theorem dX8_init_14 : decode cX8_init 14 = .ok (.iconst 0, 1) := by decide +kernel
theorem dX8_init_15 : decode cX8_init 15 = .ok (.putfield 15, 3) := by decide +kernel
theorem dX8_init_18 : decode cX8_init 18 = .ok (.aload_n 0, 1) := by decide +kernel
theorem dX8_init_19 : decode cX8_init 19 = .ok (.sipush 901, 3) := by decide +kernel
theorem dX8_init_22 : decode cX8_init 22 = .ok (.newarray .int, 2) := by decide +kernel
theorem dX8_init_24 : decode cX8_init 24 = .ok (.putfield 19, 3) := by decide +kernel
theorem dX8_init_27 : decode cX8_init 27 = .ok (.aload_n 0, 1) := by decide +kernel
theorem dX8_init_28 : decode cX8_init 28 = .ok (.sipush 901, 3) := by decide +kernel
theorem dX8_init_31 : decode cX8_init 31 = .ok (.newarray .int, 2) := by decide +kernel
theorem dX8_init_33 : decode cX8_init 33 = .ok (.putfield 22, 3) := by decide +kernel
theorem dX8_init_36 : decode cX8_init 36 = .ok (.aload_n 0, 1) := by decide +kernel
theorem dX8_init_37 : decode cX8_init 37 = .ok (.sipush 901, 3) := by decide +kernel
theorem dX8_init_40 : decode cX8_init 40 = .ok (.newarray .int, 2) := by decide +kernel
theorem dX8_init_42 : decode cX8_init 42 = .ok (.putfield 25, 3) := by decide +kernel
theorem dX8_init_45 : decode cX8_init 45 = .ok (.aload_n 0, 1) := by decide +kernel
theorem dX8_init_46 : decode cX8_init 46 = .ok (.iconst 0, 1) := by decide +kernel
theorem dX8_init_47 : decode cX8_init 47 = .ok (.putfield 28, 3) := by decide +kernel
theorem dX8_init_50 : decode cX8_init 50 = .ok (.return_, 1) := by decide +kernel
theorem dX9_init_0 : decode cX9_init 0 = .ok (.aload_n 0, 1) := by decide +kernel
theorem dX9_init_1 : decode cX9_init 1 = .ok (.invokespecial 1, 3) := by decide +kernel
theorem dX9_init_4 : decode cX9_init 4 = .ok (.aload_n 0, 1) := by decide +kernel
theorem dX9_init_5 : decode cX9_init 5 = .ok (.new 7, 3) := by decide +kernel
theorem dX9_init_8 : decode cX9_init 8 = .ok (.dup, 1) := by decide +kernel
theorem dX9_init_9 : decode cX9_init 9 = .ok (.invokespecial 9, 3) := by decide +kernel
theorem dX9_init_12 : decode cX9_init 12 = .ok (.putfield 10, 3) := by decide +kernel
theorem dX9_init_15 : decode cX9_init 15 = .ok (.aload_n 0, 1) := by decide +kernel
theorem dX9_init_16 : decode cX9_init 16 = .ok (.new 16, 3) := by decide +kernel
theorem dX9_init_19 : decode cX9_init 19 = .ok (.dup, 1) := by decide +kernel
theorem dX9_init_20 : decode cX9_init 20 = .ok (.aload_n 0, 1) := by decide +kernel
theorem dX9_init_21 : decode cX9_init 21 = .ok (.getfield 10, 3) := by decide +kernel
theorem dX9_init_24 : decode cX9_init 24 = .ok (.invokespecial 18, 3) := by decide +kernel
theorem dX9_init_27 : decode cX9_init 27 = .ok (.putfield 21, 3) := by decide +kernel
theorem dX9_init_30 : decode cX9_init 30 = .ok (.aload_n 0, 1) := by decide +kernel
theorem dX9_init_31 : decode cX9_init 31 = .ok (.new 25, 3) := by decide +kernel
theorem dX9_init_34 : decode cX9_init 34 = .ok (.dup, 1) := by decide +kernel
theorem dX9_init_35 : decode cX9_init 35 = .ok (.invokespecial 27, 3) := by decide +kernel
theorem dX9_init_38 : decode cX9_init 38 = .ok (.putfield 28, 3) := by decide +kernel
theorem dX9_init_41 : decode cX9_init 41 = .ok (.aload_n 0, 1) := by decide +kernel
theorem dX9_init_42 : decode cX9_init 42 = .ok (.new 32, 3) := by decide +kernel
theorem dX9_init_45 : decode cX9_init 45 = .ok (.dup, 1) := by decide +kernel
theorem dX9_init_46 : decode cX9_init 46 = .ok (.invokespecial 34, 3) := by decide +kernel
theorem dX9_init_49 : decode cX9_init 49 = .ok (.putfield 35, 3) := by decide +kernel
theorem dX9_init_52 : decode cX9_init 52 = .ok (.aload_n 0, 1) := by decide +kernel
theorem dX9_init_53 : decode cX9_init 53 = .ok (.new 32, 3) := by decide +kernel
theorem dX9_init_56 : decode cX9_init 56 = .ok (.dup, 1) := by decide +kernel
theorem dX9_init_57 : decode cX9_init 57 = .ok (.invokespecial 34, 3) := by decide +kernel
theorem dX9_init_60 : decode cX9_init 60 = .ok (.putfield 39, 3) := by decide +kernel
theorem dX9_init_63 : decode cX9_init 63 = .ok (.aload_n 0, 1) := by decide +kernel
theorem dX9_init_64 : decode cX9_init 64 = .ok (.new 32, 3) := by decide +kernel
theorem dX9_init_67 : decode cX9_init 67 = .ok (.dup, 1) := by decide +kernel
theorem dX9_init_68 : decode cX9_init 68 = .ok (.invokespecial 34, 3) := by decide +kernel
theorem dX9_init_71 : decode cX9_init 71 = .ok (.putfield 42, 3) := by decide +kernel
theorem dX9_init_74 : decode cX9_init 74 = .ok (.aload_n 0, 1) := by decide +kernel
theorem dX9_init_75 : decode cX9_init 75 = .ok (.new 45, 3) := by decide +kernel
theorem dX9_init_78 : decode cX9_init 78 = .ok (.dup, 1) := by decide +kernel
theorem dX9_init_79 : decode cX9_init 79 = .ok (.aload_n 0, 1) := by decide +kernel
theorem dX9_init_80 : decode cX9_init 80 = .ok (.getfield 28, 3) := by decide +kernel
theorem dX9_init_83 : decode cX9_init 83 = .ok (.aload_n 0, 1) := by decide +kernel
theorem dX9_init_84 : decode cX9_init 84 = .ok (.getfield 39, 3) := by decide +kernel
theorem dX9_init_87 : decode cX9_init 87 = .ok (.invokespecial 47, 3) := by decide +kernel
theorem dX9_init_90 : decode cX9_init 90 = .ok (.putfield 50, 3) := by decide +kernel
theorem dX9_init_93 : decode cX9_init 93 = .ok (.aload_n 0, 1) := by decide +kernel
theorem dX9_init_94 : decode cX9_init 94 = .ok (.new 45, 3) := by decide +kernel
theorem dX9_init_97 : decode cX9_init 97 = .ok (.dup, 1) := by decide +kernel
theorem dX9_init_98 : decode cX9_init 98 = .ok (.aload_n 0, 1) := by decide +kernel
theorem dX9_init_99 : decode cX9_init 99 = .ok (.getfield 28, 3) := by decide +kernel
theorem dX9_init_102 : decode cX9_init 102 = .ok (.aload_n 0, 1) := by decide +kernel
theorem dX9_init_103 : decode cX9_init 103 = .ok (.getfield 42, 3) := by decide +kernel
theorem dX9_init_106 : decode cX9_init 106 = .ok (.invokespecial 47, 3) := by decide +kernel
theorem dX9_init_109 : decode cX9_init 109 = .ok (.putfield 54, 3) := by decide +kernel
theorem dX9_init_112 : decode cX9_init 112 = .ok (.aload_n 0, 1) := by decide +kernel
theorem dX9_init_113 : decode cX9_init 113 = .ok (.new 57, 3) := by decide +kernel
theorem dX9_init_116 : decode cX9_init 116 = .ok (.dup, 1) := by decide +kernel
theorem dX9_init_117 : decode cX9_init 117 = .ok (.invokespecial 59, 3) := by decide +kernel
theorem dX9_init_120 : decode cX9_init 120 = .ok (.putfield 60, 3) := by decide +kernel
theorem dX9_init_123 : decode cX9_init 123 = .ok (.aload_n 0, 1) := by decide +kernel
theorem dX9_init_124 : decode cX9_init 124 = .ok (.new 64, 3) := by decide +kernel
theorem dX9_init_127 : decode cX9_init 127 = .ok (.dup, 1) := by decide +kernel
theorem dX9_init_128 : decode cX9_init 128 = .ok (.aload_n 0, 1) := by decide +kernel
theorem dX9_init_129 : decode cX9_init 129 = .ok (.getfield 28, 3) := by decide +kernel
theorem dX9_init_132 : decode cX9_init 132 = .ok (.aload_n 0, 1) := by decide +kernel
theorem dX9_init_133 : decode cX9_init 133 = .ok (.getfield 35, 3) := by decide +kernel
theorem dX9_init_136 : decode cX9_init 136 = .ok (.aload_n 0, 1) := by decide +kernel
theorem dX9_init_137 : decode cX9_init 137 = .ok (.getfield 42, 3) := by decide +kernel
theorem dX9_init_140 : decode cX9_init 140 = .ok (.aload_n 0, 1) := by decide +kernel
theorem dX9_init_141 : decode cX9_init 141 = .ok (.getfield 54, 3) := by decide +kernel
theorem dX9_init_144 : decode cX9_init 144 = .ok (.invokespecial 66, 3) := by decide +kernel
theorem dX9_init_147 : decode cX9_init 147 = .ok (.putfield 69, 3) := by decide +kernel
theorem dX9_init_150 : decode cX9_init 150 = .ok (.aload_n 0, 1) := by decide +kernel
theorem dX9_init_151 : decode cX9_init 151 = .ok (.new 73, 3) := by decide +kernel
theorem dX9_init_154 : decode cX9_init 154 = .ok (.dup, 1) := by decide +kernel
theorem dX9_init_155 : decode cX9_init 155 = .ok (.aload_n 0, 1) := by decide +kernel
theorem dX9_init_156 : decode cX9_init 156 = .ok (.getfield 28, 3) := by decide +kernel
theorem dX9_init_159 : decode cX9_init 159 = .ok (.invokespecial 75, 3) := by decide +kernel
theorem dX9_init_162 : decode cX9_init 162 = .ok (.putfield 78, 3) := by decide +kernel
theorem dX9_init_165 : decode cX9_init 165 = .ok (.aload_n 0, 1) := by decide +kernel
theorem dX9_init_166 : decode cX9_init 166 = .ok (.new 73, 3) := by decide +kernel
theorem dX9_init_169 : decode cX9_init 169 = .ok (.dup, 1) := by decide +kernel
theorem dX9_init_170 : decode cX9_init 170 = .ok (.aload_n 0, 1) := by decide +kernel
theorem dX9_init_171 : decode cX9_init 171 = .ok (.getfield 28, 3) := by decide +kernel
theorem dX9_init_174 : decode cX9_init 174 = .ok (.invokespecial 75, 3) := by decide +kernel
theorem dX9_init_177 : decode cX9_init 177 = .ok (.putfield 82, 3) := by decide +kernel
theorem dX9_init_180 : decode cX9_init 180 = .ok (.aload_n 0, 1) := by decide +kernel
theorem dX9_init_181 : decode cX9_init 181 = .ok (.iconst 3, 1) := by decide +kernel
theorem dX9_init_182 : decode cX9_init 182 = .ok (.anewarray 32, 3) := by decide +kernel
theorem dX9_init_185 : decode cX9_init 185 = .ok (.putfield 85, 3) := by decide +kernel
theorem dX9_init_188 : decode cX9_init 188 = .ok (.iconst 0, 1) := by decide +kernel
theorem dX9_init_189 : decode cX9_init 189 = .ok (.istore_n 1, 1) := by decide +kernel
theorem dX9_init_190 : decode cX9_init 190 = .ok (.iload_n 1, 1) := by decide +kernel
theorem dX9_init_191 : decode cX9_init 191 = .ok (.iconst 3, 1) := by decide +kernel
theorem dX9_init_192 : decode cX9_init 192 = .ok (.if_icmp .ge 22, 3) := by decide +kernel
theorem dX9_init_195 : decode cX9_init 195 = .ok (.aload_n 0, 1) := by decide +kernel
theorem dX9_init_196 : decode cX9_init 196 = .ok (.getfield 85, 3) := by decide +kernel
theorem dX9_init_199 : decode cX9_init 199 = .ok (.iload_n 1, 1) := by decide +kernel
theorem dX9_init_200 : decode cX9_init 200 = .ok (.new 32, 3) := by decide +kernel
theorem dX9_init_203 : decode cX9_init 203 = .ok (.dup, 1) := by decide +kernel
theorem dX9_init_204 : decode cX9_init 204 = .ok (.invokespecial 34, 3) := by decide +kernel
theorem dX9_init_207 : decode cX9_init 207 = .ok (.aastore, 1) := by decide +kernel
theorem dX9_init_208 : decode cX9_init 208 = .ok (.iinc 1 1, 3) := by decide +kernel
theorem dX9_init_211 : decode cX9_init 211 = .ok (.goto (-21), 3) := by decide +kernel
theorem dX9_init_214 : decode cX9_init 214 = .ok (.aload_n 0, 1) := by decide +kernel
theorem dX9_init_215 : decode cX9_init 215 = .ok (.iconst 3, 1) := by decide +kernel
theorem dX9_init_216 : decode cX9_init 216 = .ok (.newarray .boolean, 2) := by decide +kernel
theorem dX9_init_218 : decode cX9_init 218 = .ok (.putfield 89, 3) := by decide +kernel
theorem dX9_init_221 : decode cX9_init 221 = .ok (.aload_n 0, 1) := by decide +kernel
theorem dX9_init_222 : decode cX9_init 222 = .ok (.bipush 96, 2) := by decide +kernel
theorem dX9_init_224 : decode cX9_init 224 = .ok (.newarray .int, 2) := by decide +kernel
theorem dX9_init_226 : decode cX9_init 226 = .ok (.putfield 93, 3) := by decide +kernel
theorem dX9_init_229 : decode cX9_init 229 = .ok (.aload_n 0, 1) := by decide +kernel
theorem dX9_init_230 : decode cX9_init 230 = .ok (.iconst 0, 1) := by decide +kernel
theorem dX9_init_231 : decode cX9_init 231 = .ok (.putfield 97, 3) := by decide +kernel
theorem dX9_init_234 : decode cX9_init 234 = .ok (.aload_n 0, 1) := by decide +kernel
theorem dX9_init_235 : decode cX9_init 235 = .ok (.aload_n 0, 1) := by decide +kernel
theorem dX9_init_236 : decode cX9_init 236 = .ok (.getfield 21, 3) := by decide +kernel
theorem dX9_init_239 : decode cX9_init 239 = .ok (.getfield 101, 3) := by decide +kernel
theorem dX9_init_242 : decode cX9_init 242 = .ok (.invokevirtual 105, 3) := by decide +kernel
theorem dX9_init_245 : decode cX9_init 245 = .ok (.return_, 1) := by decide +kernel
section PH
variable {n x y z : Nat} {ρ r τ : List Nat}
theorem hp1 (h : x ≠ n) : ∀ p ∈ [(x, r)], p.1 ≠ n := fun p hp => by rcases List.mem_singleton.mp hp with rfl; exact h
theorem hp2 (h : x ≠ n) (h' : y ≠ n) : ∀ p ∈ [(x, ρ), (y, r)], p.1 ≠ n := fun p hp => by
  rcases List.mem_cons.mp hp with rfl | hp
  · exact h
  · exact hp1 h' p hp
theorem hp3 (h : x ≠ n) (h' : y ≠ n) (h'' : z ≠ n) : ∀ p ∈ [(x, ρ), (y, τ), (z, r)], p.1 ≠ n := fun p hp => by
  rcases List.mem_cons.mp hp with rfl | hp
  · exact h
  · exact hp2 h' h'' p hp
end PH
theorem n_tape {g : zG} {r : List Nat} {M : zM} : zC g mX8_init (4, 3603) [zA g 2] (Sp zSL1 zFL1 2 [(2, zer 6), (1, r)]) M (fun v σ M1 => v = none ∧ σ = Sp zSL1 zFL1 6 [(1, r)] ∧ M1 = zu (zrw (zrw (zrw (zu (zrw (M) 3 (fun _ => 0)) 2 1 0) 4 (fun _ => 0)) 5 (fun _ => 0)) 6 (fun _ => 0)) 2 5 0) := by
  refine zC_of rfl (Nat.le_of_ble_eq_true rfl) ?_
  refine zr_aload_n 0 dX8_init_0 rfl ?_
  refine zr_oinit dX8_init_1 oX8_init (by decide) ?_
  refine zr_aload_n 0 dX8_init_4 rfl ?_
  refine zr_sipush dX8_init_5 (by decide) ?_
  refine zn_arr (n := 2) (kd := 1) (m := 900) dX8_init_8 (Or.inl ⟨rfl, rfl⟩) z_ai rfl (by decide) rfl (hp2 (by decide) (by decide)) rfl ⟨by decide, by decide⟩ ?_
  refine zn_put dX8_init_10 fX8_9 lcX8 ltX8_0 rfl rfl rfl rfl (sp_zh (a := 1) (by decide) rfl) (by decide) (by decide) ?_
  refine zr_aload_n 0 dX8_init_13 rfl ?_
  refine zr_iconst dX8_init_14 ?_
  refine zr_puti dX8_init_15 fX8_15 lcX8 ltX8_1 rfl (sp_zh (a := 1) (by decide) rfl) ?_
  refine zr_aload_n 0 dX8_init_18 rfl ?_
  refine zr_sipush dX8_init_19 (by decide) ?_
  refine zn_arr (n := 3) (kd := 1) (m := 901) dX8_init_22 (Or.inl ⟨rfl, rfl⟩) z_ai rfl (by decide) rfl (hp2 (by decide) (by decide)) rfl ⟨by decide, by decide⟩ ?_
  refine zn_put dX8_init_24 fX8_19 lcX8 ltX8_2 rfl rfl rfl rfl (sp_zh (a := 1) (by decide) rfl) (by decide) (by decide) ?_
  refine zr_aload_n 0 dX8_init_27 rfl ?_
  refine zr_sipush dX8_init_28 (by decide) ?_
  refine zn_arr (n := 4) (kd := 1) (m := 901) dX8_init_31 (Or.inl ⟨rfl, rfl⟩) z_ai rfl (by decide) rfl (hp2 (by decide) (by decide)) rfl ⟨by decide, by decide⟩ ?_
  refine zn_put dX8_init_33 fX8_22 lcX8 ltX8_3 rfl rfl rfl rfl (sp_zh (a := 1) (by decide) rfl) (by decide) (by decide) ?_
  refine zr_aload_n 0 dX8_init_36 rfl ?_
  refine zr_sipush dX8_init_37 (by decide) ?_
  refine zn_arr (n := 5) (kd := 1) (m := 901) dX8_init_40 (Or.inl ⟨rfl, rfl⟩) z_ai rfl (by decide) rfl (hp2 (by decide) (by decide)) rfl ⟨by decide, by decide⟩ ?_
  refine zn_put dX8_init_42 fX8_25 lcX8 ltX8_4 rfl rfl rfl rfl (sp_zh (a := 1) (by decide) rfl) (by decide) (by decide) ?_
  refine zr_aload_n 0 dX8_init_45 rfl ?_
  refine zr_iconst dX8_init_46 ?_
  refine zr_puti dX8_init_47 fX8_28 lcX8 ltX8_5 rfl (sp_zh (a := 1) (by decide) rfl) ?_
  refine zr_return dX8_init_50 rfl rfl ⟨rfl, ?_, rfl⟩
  exact sp_drop rfl

theorem n_land {g : zG} {r : List Nat} {M : zM} : zC g mX2_init (5, 592) [zA g 14] (Sp zSL1 zFL1 14 [(14, zer 11), (1, r)]) M (fun v σ M1 => v = none ∧ σ = Sp zSL1 zFL1 19 [(1, r)] ∧ M1 = zrw (zrw (zrw (zrw (zrw (M) 15 (fun _ => 0)) 16 (fun _ => 0)) 17 (fun _ => 0)) 18 (fun _ => 0)) 19 (fun _ => 0)) := by
  refine zC_of rfl (Nat.le_of_ble_eq_true rfl) ?_
  refine zr_aload_n 0 dX2_init_0 rfl ?_
  refine zr_oinit dX2_init_1 oX2_init (by decide) ?_
  refine zr_aload_n 0 dX2_init_4 rfl ?_
  refine zr_bipush dX2_init_5 (by decide) ?_
  refine zn_arr (n := 14) (kd := 1) (m := 96) dX2_init_7 (Or.inl ⟨rfl, rfl⟩) z_ai rfl (by decide) rfl (hp2 (by decide) (by decide)) rfl ⟨by decide, by decide⟩ ?_
  refine zn_put dX2_init_9 fX2_9 lcX2 ltX2_6 rfl rfl rfl rfl (sp_zh (a := 13) (by decide) rfl) (by decide) (by decide) ?_
  refine zr_aload_n 0 dX2_init_12 rfl ?_
  refine zr_bipush dX2_init_13 (by decide) ?_
  refine zn_arr (n := 15) (kd := 1) (m := 96) dX2_init_15 (Or.inl ⟨rfl, rfl⟩) z_ai rfl (by decide) rfl (hp2 (by decide) (by decide)) rfl ⟨by decide, by decide⟩ ?_
  refine zn_put dX2_init_17 fX2_15 lcX2 ltX2_7 rfl rfl rfl rfl (sp_zh (a := 13) (by decide) rfl) (by decide) (by decide) ?_
  refine zr_aload_n 0 dX2_init_20 rfl ?_
  refine zr_sipush dX2_init_21 (by decide) ?_
  refine zn_arr (n := 16) (kd := 1) (m := 384) dX2_init_24 (Or.inl ⟨rfl, rfl⟩) z_ai rfl (by decide) rfl (hp2 (by decide) (by decide)) rfl ⟨by decide, by decide⟩ ?_
  refine zn_put dX2_init_26 fX2_18 lcX2 ltX2_8 rfl rfl rfl rfl (sp_zh (a := 13) (by decide) rfl) (by decide) (by decide) ?_
  refine zr_aload_n 0 dX2_init_29 rfl ?_
  refine zr_bipush dX2_init_30 (by decide) ?_
  refine zn_arr (n := 17) (kd := 1) (m := 8) dX2_init_32 (Or.inl ⟨rfl, rfl⟩) z_ai rfl (by decide) rfl (hp2 (by decide) (by decide)) rfl ⟨by decide, by decide⟩ ?_
  refine zn_put dX2_init_34 fX2_21 lcX2 ltX2_9 rfl rfl rfl rfl (sp_zh (a := 13) (by decide) rfl) (by decide) (by decide) ?_
  refine zr_aload_n 0 dX2_init_37 rfl ?_
  refine zr_bipush dX2_init_38 (by decide) ?_
  refine zn_arr (n := 18) (kd := 1) (m := 8) dX2_init_40 (Or.inl ⟨rfl, rfl⟩) z_ai rfl (by decide) rfl (hp2 (by decide) (by decide)) rfl ⟨by decide, by decide⟩ ?_
  refine zn_put dX2_init_42 fX2_24 lcX2 ltX2_10 rfl rfl rfl rfl (sp_zh (a := 13) (by decide) rfl) (by decide) (by decide) ?_
  refine zr_return dX2_init_45 rfl rfl ⟨rfl, ?_, rfl⟩
  exact sp_drop rfl

theorem n_storm32 {g : zG} {r : List Nat} {M : zM} : zC g mX7_init (1, 12) [zA g 32, zA g 14, zA g 24] (Sp zSL1 zFL1 32 [(32, zer 5), (1, r)]) M (fun v σ M1 => v = none ∧ σ = Sp zSL1 zFL1 33 [(1, r)] ∧ M1 = zu (zu (zrw (M) 33 (fun _ => 0)) 32 3 0) 32 4 0) := by
  refine zC_of rfl (Nat.le_of_ble_eq_true rfl) ?_
  refine zr_aload_n 0 dX7_init_0 rfl ?_
  refine zr_oinit dX7_init_1 oX7_init (by decide) ?_
  refine zr_aload_n 0 dX7_init_4 rfl ?_
  refine zr_bipush dX7_init_5 (by decide) ?_
  refine zn_arr (n := 32) (kd := 1) (m := 12) dX7_init_7 (Or.inl ⟨rfl, rfl⟩) z_ai rfl (by decide) rfl (hp2 (by decide) (by decide)) rfl ⟨by decide, by decide⟩ ?_
  refine zn_put dX7_init_9 fX7_9 lcX7 ltX7_2 rfl rfl rfl rfl (sp_zh (a := 31) (by decide) rfl) (by decide) (by decide) ?_
  refine zr_aload_n 0 dX7_init_12 rfl ?_
  refine zr_iconst dX7_init_13 ?_
  refine zr_puti dX7_init_14 fX7_15 lcX7 ltX7_3 rfl (sp_zh (a := 31) (by decide) rfl) ?_
  refine zr_aload_n 0 dX7_init_17 rfl ?_
  refine zr_iconst dX7_init_18 ?_
  refine zr_puti dX7_init_19 fX7_19 lcX7 ltX7_4 rfl (sp_zh (a := 31) (by decide) rfl) ?_
  refine zr_aload_n 0 dX7_init_22 rfl ?_
  refine zr_aload_n 1 dX7_init_23 rfl ?_
  refine zn_put dX7_init_24 fX7_22 lcX7 ltX7_0 rfl rfl rfl rfl (sp_zh (a := 31) (by decide) rfl) (by decide) (by decide) ?_
  refine zr_aload_n 0 dX7_init_27 rfl ?_
  refine zr_aload_n 2 dX7_init_28 rfl ?_
  refine zn_put dX7_init_29 fX7_26 lcX7 ltX7_1 rfl rfl rfl rfl (sp_zh (a := 31) (by decide) rfl) (by decide) (by decide) ?_
  refine zr_return dX7_init_32 rfl rfl ⟨rfl, ?_, rfl⟩
  exact sp_drop rfl

theorem n_storm34 {g : zG} {r : List Nat} {M : zM} : zC g mX7_init (1, 12) [zA g 34, zA g 14, zA g 28] (Sp zSL1 zFL1 34 [(34, zer 5), (1, r)]) M (fun v σ M1 => v = none ∧ σ = Sp zSL1 zFL1 35 [(1, r)] ∧ M1 = zu (zu (zrw (M) 35 (fun _ => 0)) 34 3 0) 34 4 0) := by
  refine zC_of rfl (Nat.le_of_ble_eq_true rfl) ?_
  refine zr_aload_n 0 dX7_init_0 rfl ?_
  refine zr_oinit dX7_init_1 oX7_init (by decide) ?_
  refine zr_aload_n 0 dX7_init_4 rfl ?_
  refine zr_bipush dX7_init_5 (by decide) ?_
  refine zn_arr (n := 34) (kd := 1) (m := 12) dX7_init_7 (Or.inl ⟨rfl, rfl⟩) z_ai rfl (by decide) rfl (hp2 (by decide) (by decide)) rfl ⟨by decide, by decide⟩ ?_
  refine zn_put dX7_init_9 fX7_9 lcX7 ltX7_2 rfl rfl rfl rfl (sp_zh (a := 33) (by decide) rfl) (by decide) (by decide) ?_
  refine zr_aload_n 0 dX7_init_12 rfl ?_
  refine zr_iconst dX7_init_13 ?_
  refine zr_puti dX7_init_14 fX7_15 lcX7 ltX7_3 rfl (sp_zh (a := 33) (by decide) rfl) ?_
  refine zr_aload_n 0 dX7_init_17 rfl ?_
  refine zr_iconst dX7_init_18 ?_
  refine zr_puti dX7_init_19 fX7_19 lcX7 ltX7_4 rfl (sp_zh (a := 33) (by decide) rfl) ?_
  refine zr_aload_n 0 dX7_init_22 rfl ?_
  refine zr_aload_n 1 dX7_init_23 rfl ?_
  refine zn_put dX7_init_24 fX7_22 lcX7 ltX7_0 rfl rfl rfl rfl (sp_zh (a := 33) (by decide) rfl) (by decide) (by decide) ?_
  refine zr_aload_n 0 dX7_init_27 rfl ?_
  refine zr_aload_n 2 dX7_init_28 rfl ?_
  refine zn_put dX7_init_29 fX7_26 lcX7 ltX7_1 rfl rfl rfl rfl (sp_zh (a := 33) (by decide) rfl) (by decide) (by decide) ?_
  refine zr_return dX7_init_32 rfl rfl ⟨rfl, ?_, rfl⟩
  exact sp_drop rfl

theorem n_sights {g : zG} {r : List Nat} {M : zM} : zC g mX6_init (4, 4860) [zA g 122, zA g 14, zA g 20, zA g 28, zA g 34] (Sp zSL1 zFL1 122 [(122, zer 9), (1, r)]) M (fun v σ M1 => v = none ∧ σ = Sp zSL1 zFL1 126 [(1, r)] ∧ M1 = zu (zrw (zrw (zrw (zrw (M) 123 (fun _ => 0)) 124 (fun _ => 0)) 125 (fun _ => 0)) 126 (fun _ => 0)) 122 8 0) := by
  refine zC_of rfl (Nat.le_of_ble_eq_true rfl) ?_
  refine zr_aload_n 0 dX6_init_0 rfl ?_
  refine zr_oinit dX6_init_1 oX6_init (by decide) ?_
  refine zr_aload_n 0 dX6_init_4 rfl ?_
  refine zr_bipush dX6_init_5 (by decide) ?_
  refine zn_arr (n := 122) (kd := 1) (m := 20) dX6_init_7 (Or.inl ⟨rfl, rfl⟩) z_ai rfl (by decide) rfl (hp2 (by decide) (by decide)) rfl ⟨by decide, by decide⟩ ?_
  refine zn_put dX6_init_9 fX6_9 lcX6 ltX6_4 rfl rfl rfl rfl (sp_zh (a := 121) (by decide) rfl) (by decide) (by decide) ?_
  refine zr_aload_n 0 dX6_init_12 rfl ?_
  refine zr_bipush dX6_init_13 (by decide) ?_
  refine zn_arr (n := 123) (kd := 1) (m := 20) dX6_init_15 (Or.inl ⟨rfl, rfl⟩) z_ai rfl (by decide) rfl (hp2 (by decide) (by decide)) rfl ⟨by decide, by decide⟩ ?_
  refine zn_put dX6_init_17 fX6_15 lcX6 ltX6_5 rfl rfl rfl rfl (sp_zh (a := 121) (by decide) rfl) (by decide) (by decide) ?_
  refine zr_aload_n 0 dX6_init_20 rfl ?_
  refine zr_bipush dX6_init_21 (by decide) ?_
  refine zn_arr (n := 124) (kd := 3) (m := 20) dX6_init_23 (Or.inr (Or.inr ⟨rfl, rfl⟩)) z_al rfl (by decide) rfl (hp2 (by decide) (by decide)) rfl ⟨by decide, by decide⟩ ?_
  refine zn_put dX6_init_25 fX6_18 lcX6 ltX6_6 rfl rfl rfl rfl (sp_zh (a := 121) (by decide) rfl) (by decide) (by decide) ?_
  refine zr_aload_n 0 dX6_init_28 rfl ?_
  refine zr_sipush dX6_init_29 (by decide) ?_
  refine zn_arr (n := 125) (kd := 1) (m := 4800) dX6_init_32 (Or.inl ⟨rfl, rfl⟩) z_ai rfl (by decide) rfl (hp2 (by decide) (by decide)) rfl ⟨by decide, by decide⟩ ?_
  refine zn_put dX6_init_34 fX6_22 lcX6 ltX6_7 rfl rfl rfl rfl (sp_zh (a := 121) (by decide) rfl) (by decide) (by decide) ?_
  refine zr_aload_n 0 dX6_init_37 rfl ?_
  refine zr_iconst dX6_init_38 ?_
  refine zr_puti dX6_init_39 fX6_25 lcX6 ltX6_8 rfl (sp_zh (a := 121) (by decide) rfl) ?_
  refine zr_aload_n 0 dX6_init_42 rfl ?_
  refine zr_aload_n 1 dX6_init_43 rfl ?_
  refine zn_put dX6_init_44 fX6_29 lcX6 ltX6_0 rfl rfl rfl rfl (sp_zh (a := 121) (by decide) rfl) (by decide) (by decide) ?_
  refine zr_aload_n 0 dX6_init_47 rfl ?_
  refine zr_aload_n 2 dX6_init_48 rfl ?_
  refine zn_put dX6_init_49 fX6_33 lcX6 ltX6_1 rfl rfl rfl rfl (sp_zh (a := 121) (by decide) rfl) (by decide) (by decide) ?_
  refine zr_aload_n 0 dX6_init_52 rfl ?_
  refine zr_aload_n 3 dX6_init_53 rfl ?_
  refine zn_put dX6_init_54 fX6_37 lcX6 ltX6_2 rfl rfl rfl rfl (sp_zh (a := 121) (by decide) rfl) (by decide) (by decide) ?_
  refine zr_aload_n 0 dX6_init_57 rfl ?_
  refine zr_aload 4 dX6_init_58 rfl ?_
  refine zn_put dX6_init_60 fX6_40 lcX6 ltX6_3 rfl rfl rfl rfl (sp_zh (a := 121) (by decide) rfl) (by decide) (by decide) ?_
  refine zr_return dX6_init_63 rfl rfl ⟨rfl, ?_, rfl⟩
  exact sp_drop rfl

theorem n_lumps127 {g : zG} {r : List Nat} {M : zM} : zC g mX3_init (3, 288) [zA g 127, zA g 14] (Sp zSL1 zFL1 127 [(127, zer 6), (1, r)]) M (fun v σ M1 => v = none ∧ σ = Sp zSL1 zFL1 130 [(1, r)] ∧ M1 = zu (zrw (zu (zrw (zrw (M) 128 (fun _ => 0)) 129 (fun _ => 0)) 127 3 0) 130 (fun _ => 0)) 127 5 0) := by
  refine zC_of rfl (Nat.le_of_ble_eq_true rfl) ?_
  refine zr_aload_n 0 dX3_init_0 rfl ?_
  refine zr_oinit dX3_init_1 oX3_init (by decide) ?_
  refine zr_aload_n 0 dX3_init_4 rfl ?_
  refine zr_bipush dX3_init_5 (by decide) ?_
  refine zn_arr (n := 127) (kd := 2) (m := 96) dX3_init_7 (Or.inr (Or.inl ⟨rfl, rfl⟩)) z_az rfl (by decide) rfl (hp2 (by decide) (by decide)) rfl ⟨by decide, by decide⟩ ?_
  refine zn_put dX3_init_9 fX3_9 lcX3 ltX3_1 rfl rfl rfl rfl (sp_zh (a := 126) (by decide) rfl) (by decide) (by decide) ?_
  refine zr_aload_n 0 dX3_init_12 rfl ?_
  refine zr_bipush dX3_init_13 (by decide) ?_
  refine zn_arr (n := 128) (kd := 1) (m := 96) dX3_init_15 (Or.inl ⟨rfl, rfl⟩) z_ai rfl (by decide) rfl (hp2 (by decide) (by decide)) rfl ⟨by decide, by decide⟩ ?_
  refine zn_put dX3_init_17 fX3_15 lcX3 ltX3_2 rfl rfl rfl rfl (sp_zh (a := 126) (by decide) rfl) (by decide) (by decide) ?_
  refine zr_aload_n 0 dX3_init_20 rfl ?_
  refine zr_iconst dX3_init_21 ?_
  refine zr_puti dX3_init_22 fX3_19 lcX3 ltX3_3 rfl (sp_zh (a := 126) (by decide) rfl) ?_
  refine zr_aload_n 0 dX3_init_25 rfl ?_
  refine zr_bipush dX3_init_26 (by decide) ?_
  refine zn_arr (n := 129) (kd := 1) (m := 96) dX3_init_28 (Or.inl ⟨rfl, rfl⟩) z_ai rfl (by decide) rfl (hp2 (by decide) (by decide)) rfl ⟨by decide, by decide⟩ ?_
  refine zn_put dX3_init_30 fX3_23 lcX3 ltX3_4 rfl rfl rfl rfl (sp_zh (a := 126) (by decide) rfl) (by decide) (by decide) ?_
  refine zr_aload_n 0 dX3_init_33 rfl ?_
  refine zr_iconst dX3_init_34 ?_
  refine zr_puti dX3_init_35 fX3_26 lcX3 ltX3_5 rfl (sp_zh (a := 126) (by decide) rfl) ?_
  refine zr_aload_n 0 dX3_init_38 rfl ?_
  refine zr_aload_n 1 dX3_init_39 rfl ?_
  refine zn_put dX3_init_40 fX3_29 lcX3 ltX3_0 rfl rfl rfl rfl (sp_zh (a := 126) (by decide) rfl) (by decide) (by decide) ?_
  refine zr_return dX3_init_43 rfl rfl ⟨rfl, ?_, rfl⟩
  exact sp_drop rfl

theorem n_lumps131 {g : zG} {r : List Nat} {M : zM} : zC g mX3_init (3, 288) [zA g 131, zA g 14] (Sp zSL1 zFL1 131 [(131, zer 6), (1, r)]) M (fun v σ M1 => v = none ∧ σ = Sp zSL1 zFL1 134 [(1, r)] ∧ M1 = zu (zrw (zu (zrw (zrw (M) 132 (fun _ => 0)) 133 (fun _ => 0)) 131 3 0) 134 (fun _ => 0)) 131 5 0) := by
  refine zC_of rfl (Nat.le_of_ble_eq_true rfl) ?_
  refine zr_aload_n 0 dX3_init_0 rfl ?_
  refine zr_oinit dX3_init_1 oX3_init (by decide) ?_
  refine zr_aload_n 0 dX3_init_4 rfl ?_
  refine zr_bipush dX3_init_5 (by decide) ?_
  refine zn_arr (n := 131) (kd := 2) (m := 96) dX3_init_7 (Or.inr (Or.inl ⟨rfl, rfl⟩)) z_az rfl (by decide) rfl (hp2 (by decide) (by decide)) rfl ⟨by decide, by decide⟩ ?_
  refine zn_put dX3_init_9 fX3_9 lcX3 ltX3_1 rfl rfl rfl rfl (sp_zh (a := 130) (by decide) rfl) (by decide) (by decide) ?_
  refine zr_aload_n 0 dX3_init_12 rfl ?_
  refine zr_bipush dX3_init_13 (by decide) ?_
  refine zn_arr (n := 132) (kd := 1) (m := 96) dX3_init_15 (Or.inl ⟨rfl, rfl⟩) z_ai rfl (by decide) rfl (hp2 (by decide) (by decide)) rfl ⟨by decide, by decide⟩ ?_
  refine zn_put dX3_init_17 fX3_15 lcX3 ltX3_2 rfl rfl rfl rfl (sp_zh (a := 130) (by decide) rfl) (by decide) (by decide) ?_
  refine zr_aload_n 0 dX3_init_20 rfl ?_
  refine zr_iconst dX3_init_21 ?_
  refine zr_puti dX3_init_22 fX3_19 lcX3 ltX3_3 rfl (sp_zh (a := 130) (by decide) rfl) ?_
  refine zr_aload_n 0 dX3_init_25 rfl ?_
  refine zr_bipush dX3_init_26 (by decide) ?_
  refine zn_arr (n := 133) (kd := 1) (m := 96) dX3_init_28 (Or.inl ⟨rfl, rfl⟩) z_ai rfl (by decide) rfl (hp2 (by decide) (by decide)) rfl ⟨by decide, by decide⟩ ?_
  refine zn_put dX3_init_30 fX3_23 lcX3 ltX3_4 rfl rfl rfl rfl (sp_zh (a := 130) (by decide) rfl) (by decide) (by decide) ?_
  refine zr_aload_n 0 dX3_init_33 rfl ?_
  refine zr_iconst dX3_init_34 ?_
  refine zr_puti dX3_init_35 fX3_26 lcX3 ltX3_5 rfl (sp_zh (a := 130) (by decide) rfl) ?_
  refine zr_aload_n 0 dX3_init_38 rfl ?_
  refine zr_aload_n 1 dX3_init_39 rfl ?_
  refine zn_put dX3_init_40 fX3_29 lcX3 ltX3_0 rfl rfl rfl rfl (sp_zh (a := 130) (by decide) rfl) (by decide) (by decide) ?_
  refine zr_return dX3_init_43 rfl rfl ⟨rfl, ?_, rfl⟩
  exact sp_drop rfl

