/-! rows of the bit count; bits of a set of seeds -/
theorem zl_ushr {x y p : Int} (hx : 0 ≤ x ∧ x ≤ 9223372036854775807) (hy : 0 ≤ y ∧ y ≤ 63) (hp : ((2 ^ y.toNat : Nat) : Int) = p) : ((Int64.ofInt x).toUInt64 >>> ((Int32.ofInt y).toInt64.toUInt64 &&& Int64.toUInt64 63)).toInt64 = Int64.ofInt (x / p) := by
  subst hp
  obtain ⟨a, rfl⟩ := znn hx.1
  obtain ⟨n, rfl⟩ := znn hy.1
  exact wb_shr (by omega) (by omega)
theorem zi_and7 {x : Int} : Int32.ofInt x &&& Int32.ofInt 127 = Int32.ofInt (x % 128) := by
  rw [pk_and (Int32.ofInt x) 7 (by decide)]
  apply Int32.toBitVec_inj.mp
  show BitVec.ofNat 32 _ = BitVec.ofInt 32 _
  apply BitVec.eq_of_toNat_eq
  have e : (Int32.ofInt x).toBitVec.toNat = (x % 4294967296).toNat := BitVec.toNat_ofInt ..
  rw [BitVec.toNat_ofNat, BitVec.toNat_ofInt, e]
  simp
  omega
section ZR9
variable {g : zG} {d : zD} {mm kw : Nat × Nat} {σ0 σ : zS} {Q : zP} {pc : Nat} {l : List (Nat × Value)} {st : List Value} {M : zM}
theorem zr_lushr {x y p : Int} (hd : decode d.2.1 pc = .ok (.lushr, 1)) (hx : 0 ≤ x ∧ x ≤ 9223372036854775807) (hy : 0 ≤ y ∧ y ≤ 63) (hp : ((2 ^ y.toNat : Nat) : Int) = p) (k : zR g d mm σ0 Q (pc + 1) l (zL (x / p) :: st) kw σ M) : zR g d mm σ0 Q pc l (zI y :: zL x :: st) kw σ M :=
  zr_st (fun B hl k => lv_lushr B.1 B.2.1 hd (zl_ushr hx hy hp) k) k
theorem zr_l2i {x : Int} (hd : decode d.2.1 pc = .ok (.l2i, 1)) (k : zR g d mm σ0 Q (pc + 1) l (zI x :: st) kw σ M) : zR g d mm σ0 Q pc l (zL x :: st) kw σ M :=
  zr_st (fun B hl k => lv_l2i B.1 B.2.1 hd Int64.toInt32_ofInt k) k
theorem zr_iand7 {x : Int} (hd : decode d.2.1 pc = .ok (.iand, 1)) (k : zR g d mm σ0 Q (pc + 1) l (zI (x % 128) :: st) kw σ M) : zR g d mm σ0 Q pc l (zI 127 :: zI x :: st) kw σ M :=
  zr_st (fun B hl k => lv_iand B.1 B.2.1 hd (by rw [zi_and7]; exact k)) k
end ZR9
theorem dJ13_bitCount_95d88_0 : decode cJ13_bitCount_95d88 0 = .ok (.lload_n 0, 1) := by decide +kernel
theorem dJ13_bitCount_95d88_1 : decode cJ13_bitCount_95d88 1 = .ok (.lload_n 0, 1) := by decide +kernel
theorem dJ13_bitCount_95d88_2 : decode cJ13_bitCount_95d88 2 = .ok (.iconst 1, 1) := by decide +kernel
theorem dJ13_bitCount_95d88_3 : decode cJ13_bitCount_95d88 3 = .ok (.lushr, 1) := by decide +kernel
theorem dJ13_bitCount_95d88_4 : decode cJ13_bitCount_95d88 4 = .ok (.ldc2_w 314, 3) := by decide +kernel
theorem dJ13_bitCount_95d88_7 : decode cJ13_bitCount_95d88 7 = .ok (.land, 1) := by decide +kernel
theorem dJ13_bitCount_95d88_8 : decode cJ13_bitCount_95d88 8 = .ok (.lsub, 1) := by decide +kernel
theorem dJ13_bitCount_95d88_9 : decode cJ13_bitCount_95d88 9 = .ok (.lstore_n 0, 1) := by decide +kernel
theorem dJ13_bitCount_95d88_10 : decode cJ13_bitCount_95d88 10 = .ok (.lload_n 0, 1) := by decide +kernel
theorem dJ13_bitCount_95d88_11 : decode cJ13_bitCount_95d88 11 = .ok (.ldc2_w 316, 3) := by decide +kernel
theorem dJ13_bitCount_95d88_14 : decode cJ13_bitCount_95d88 14 = .ok (.land, 1) := by decide +kernel
theorem dJ13_bitCount_95d88_15 : decode cJ13_bitCount_95d88 15 = .ok (.lload_n 0, 1) := by decide +kernel
theorem dJ13_bitCount_95d88_16 : decode cJ13_bitCount_95d88 16 = .ok (.iconst 2, 1) := by decide +kernel
theorem dJ13_bitCount_95d88_17 : decode cJ13_bitCount_95d88 17 = .ok (.lushr, 1) := by decide +kernel
theorem dJ13_bitCount_95d88_18 : decode cJ13_bitCount_95d88 18 = .ok (.ldc2_w 316, 3) := by decide +kernel
theorem dJ13_bitCount_95d88_21 : decode cJ13_bitCount_95d88 21 = .ok (.land, 1) := by decide +kernel
theorem dJ13_bitCount_95d88_22 : decode cJ13_bitCount_95d88 22 = .ok (.ladd, 1) := by decide +kernel
theorem dJ13_bitCount_95d88_23 : decode cJ13_bitCount_95d88 23 = .ok (.lstore_n 0, 1) := by decide +kernel
theorem dJ13_bitCount_95d88_24 : decode cJ13_bitCount_95d88 24 = .ok (.lload_n 0, 1) := by decide +kernel
theorem dJ13_bitCount_95d88_25 : decode cJ13_bitCount_95d88 25 = .ok (.lload_n 0, 1) := by decide +kernel
theorem dJ13_bitCount_95d88_26 : decode cJ13_bitCount_95d88 26 = .ok (.iconst 4, 1) := by decide +kernel
theorem dJ13_bitCount_95d88_27 : decode cJ13_bitCount_95d88 27 = .ok (.lushr, 1) := by decide +kernel
theorem dJ13_bitCount_95d88_28 : decode cJ13_bitCount_95d88 28 = .ok (.ladd, 1) := by decide +kernel
theorem dJ13_bitCount_95d88_29 : decode cJ13_bitCount_95d88 29 = .ok (.ldc2_w 318, 3) := by decide +kernel
theorem dJ13_bitCount_95d88_32 : decode cJ13_bitCount_95d88 32 = .ok (.land, 1) := by decide +kernel
theorem dJ13_bitCount_95d88_33 : decode cJ13_bitCount_95d88 33 = .ok (.lstore_n 0, 1) := by decide +kernel
theorem dJ13_bitCount_95d88_34 : decode cJ13_bitCount_95d88 34 = .ok (.lload_n 0, 1) := by decide +kernel
theorem dJ13_bitCount_95d88_35 : decode cJ13_bitCount_95d88 35 = .ok (.lload_n 0, 1) := by decide +kernel
theorem dJ13_bitCount_95d88_36 : decode cJ13_bitCount_95d88 36 = .ok (.bipush 8, 2) := by decide +kernel
theorem dJ13_bitCount_95d88_38 : decode cJ13_bitCount_95d88 38 = .ok (.lushr, 1) := by decide +kernel
theorem dJ13_bitCount_95d88_39 : decode cJ13_bitCount_95d88 39 = .ok (.ladd, 1) := by decide +kernel
theorem dJ13_bitCount_95d88_40 : decode cJ13_bitCount_95d88 40 = .ok (.lstore_n 0, 1) := by decide +kernel
theorem dJ13_bitCount_95d88_41 : decode cJ13_bitCount_95d88 41 = .ok (.lload_n 0, 1) := by decide +kernel
theorem dJ13_bitCount_95d88_42 : decode cJ13_bitCount_95d88 42 = .ok (.lload_n 0, 1) := by decide +kernel
theorem dJ13_bitCount_95d88_43 : decode cJ13_bitCount_95d88 43 = .ok (.bipush 16, 2) := by decide +kernel
theorem dJ13_bitCount_95d88_45 : decode cJ13_bitCount_95d88 45 = .ok (.lushr, 1) := by decide +kernel
theorem dJ13_bitCount_95d88_46 : decode cJ13_bitCount_95d88 46 = .ok (.ladd, 1) := by decide +kernel
theorem dJ13_bitCount_95d88_47 : decode cJ13_bitCount_95d88 47 = .ok (.lstore_n 0, 1) := by decide +kernel
theorem dJ13_bitCount_95d88_48 : decode cJ13_bitCount_95d88 48 = .ok (.lload_n 0, 1) := by decide +kernel
theorem dJ13_bitCount_95d88_49 : decode cJ13_bitCount_95d88 49 = .ok (.lload_n 0, 1) := by decide +kernel
theorem dJ13_bitCount_95d88_50 : decode cJ13_bitCount_95d88 50 = .ok (.bipush 32, 2) := by decide +kernel
theorem dJ13_bitCount_95d88_52 : decode cJ13_bitCount_95d88 52 = .ok (.lushr, 1) := by decide +kernel
theorem dJ13_bitCount_95d88_53 : decode cJ13_bitCount_95d88 53 = .ok (.ladd, 1) := by decide +kernel
theorem dJ13_bitCount_95d88_54 : decode cJ13_bitCount_95d88 54 = .ok (.lstore_n 0, 1) := by decide +kernel
theorem dJ13_bitCount_95d88_55 : decode cJ13_bitCount_95d88 55 = .ok (.lload_n 0, 1) := by decide +kernel
theorem dJ13_bitCount_95d88_56 : decode cJ13_bitCount_95d88 56 = .ok (.l2i, 1) := by decide +kernel
theorem dJ13_bitCount_95d88_57 : decode cJ13_bitCount_95d88 57 = .ok (.bipush 127, 2) := by decide +kernel
theorem dJ13_bitCount_95d88_59 : decode cJ13_bitCount_95d88 59 = .ok (.iand, 1) := by decide +kernel
theorem dJ13_bitCount_95d88_60 : decode cJ13_bitCount_95d88 60 = .ok (.ireturn, 1) := by decide +kernel
set_option maxRecDepth 100000 in
theorem SJ13_bitCount_95d88_0 {g : zG} {o : Bool} {M : zM} {q : Int → zM → Prop} {x0 : Int} (W : (0 ≤ x0 ∧ x0 ≤ 9223372036854775807) ∧ ((0 : Int) ≤ (x0 / 2) ∧ (x0 / 2) ≤ (9223372036854775807 : Int)) ∧ zT g (z1 o) mJ13_bitCount_95d88 (zQi (z1 o) q) 10 [(0, zL (x0 - ((Int.toNat (x0 / 2) &&& Int.toNat 6148914691236517205 : Nat) : Int)))] [] M) : zT g (z1 o) mJ13_bitCount_95d88 (zQi (z1 o) q) 0 [(0, zL x0)] [] M := by
  refine zr_lload_n 0 dJ13_bitCount_95d88_0 rfl ?_
  refine zr_lload_n 0 dJ13_bitCount_95d88_1 rfl ?_
  refine zr_iconst dJ13_bitCount_95d88_2 ?_
  obtain ⟨c1, W⟩ := W
  refine zr_lushr (y := 1) (p := 2) dJ13_bitCount_95d88_3 c1 (by decide) (by decide) ?_
  refine zr_ldc2 (x := 6148914691236517205) dJ13_bitCount_95d88_4 (zc5 50 (by decide +kernel) rfl) ?_
  obtain ⟨c2, W⟩ := W
  refine zr_land dJ13_bitCount_95d88_7 c2 ⟨by decide, by decide⟩ ?_
  refine zr_lsub dJ13_bitCount_95d88_8 ?_
  refine zr_lstore_n (l' := [(0, zL (x0 - ((Int.toNat (x0 / 2) &&& Int.toNat 6148914691236517205 : Nat) : Int)))]) dJ13_bitCount_95d88_9 (by decide) [0] rfl ?_
  exact W
set_option maxRecDepth 100000 in
theorem SJ13_bitCount_95d88_10 {g : zG} {o : Bool} {M : zM} {q : Int → zM → Prop} {x0 : Int} (W : ((0 : Int) ≤ x0 ∧ x0 ≤ (9223372036854775807 : Int)) ∧ (0 ≤ x0 ∧ x0 ≤ 9223372036854775807) ∧ ((0 : Int) ≤ (x0 / 4) ∧ (x0 / 4) ≤ (9223372036854775807 : Int)) ∧ zT g (z1 o) mJ13_bitCount_95d88 (zQi (z1 o) q) 24 [(0, zL (((Int.toNat x0 &&& Int.toNat 3689348814741910323 : Nat) : Int) + ((Int.toNat (x0 / 4) &&& Int.toNat 3689348814741910323 : Nat) : Int)))] [] M) : zT g (z1 o) mJ13_bitCount_95d88 (zQi (z1 o) q) 10 [(0, zL x0)] [] M := by
  refine zr_lload_n 0 dJ13_bitCount_95d88_10 rfl ?_
  refine zr_ldc2 (x := 3689348814741910323) dJ13_bitCount_95d88_11 (zc5 51 (by decide +kernel) rfl) ?_
  obtain ⟨c1, W⟩ := W
  refine zr_land dJ13_bitCount_95d88_14 c1 ⟨by decide, by decide⟩ ?_
  refine zr_lload_n 0 dJ13_bitCount_95d88_15 rfl ?_
  refine zr_iconst dJ13_bitCount_95d88_16 ?_
  obtain ⟨c2, W⟩ := W
  refine zr_lushr (y := 2) (p := 4) dJ13_bitCount_95d88_17 c2 (by decide) (by decide) ?_
  refine zr_ldc2 (x := 3689348814741910323) dJ13_bitCount_95d88_18 (zc5 51 (by decide +kernel) rfl) ?_
  obtain ⟨c3, W⟩ := W
  refine zr_land dJ13_bitCount_95d88_21 c3 ⟨by decide, by decide⟩ ?_
  refine zr_ladd dJ13_bitCount_95d88_22 ?_
  refine zr_lstore_n (l' := [(0, zL (((Int.toNat x0 &&& Int.toNat 3689348814741910323 : Nat) : Int) + ((Int.toNat (x0 / 4) &&& Int.toNat 3689348814741910323 : Nat) : Int)))]) dJ13_bitCount_95d88_23 (by decide) [0] rfl ?_
  exact W
set_option maxRecDepth 100000 in
theorem SJ13_bitCount_95d88_24 {g : zG} {o : Bool} {M : zM} {q : Int → zM → Prop} {x0 : Int} (W : (0 ≤ x0 ∧ x0 ≤ 9223372036854775807) ∧ ((0 : Int) ≤ (x0 + (x0 / 16)) ∧ (x0 + (x0 / 16)) ≤ (9223372036854775807 : Int)) ∧ zT g (z1 o) mJ13_bitCount_95d88 (zQi (z1 o) q) 34 [(0, zL ((Int.toNat (x0 + (x0 / 16)) &&& Int.toNat 1085102592571150095 : Nat) : Int))] [] M) : zT g (z1 o) mJ13_bitCount_95d88 (zQi (z1 o) q) 24 [(0, zL x0)] [] M := by
  refine zr_lload_n 0 dJ13_bitCount_95d88_24 rfl ?_
  refine zr_lload_n 0 dJ13_bitCount_95d88_25 rfl ?_
  refine zr_iconst dJ13_bitCount_95d88_26 ?_
  obtain ⟨c1, W⟩ := W
  refine zr_lushr (y := 4) (p := 16) dJ13_bitCount_95d88_27 c1 (by decide) (by decide) ?_
  refine zr_ladd dJ13_bitCount_95d88_28 ?_
  refine zr_ldc2 (x := 1085102592571150095) dJ13_bitCount_95d88_29 (zc5 52 (by decide +kernel) rfl) ?_
  obtain ⟨c2, W⟩ := W
  refine zr_land dJ13_bitCount_95d88_32 c2 ⟨by decide, by decide⟩ ?_
  refine zr_lstore_n (l' := [(0, zL ((Int.toNat (x0 + (x0 / 16)) &&& Int.toNat 1085102592571150095 : Nat) : Int))]) dJ13_bitCount_95d88_33 (by decide) [0] rfl ?_
  exact W
set_option maxRecDepth 100000 in
theorem SJ13_bitCount_95d88_34 {g : zG} {o : Bool} {M : zM} {q : Int → zM → Prop} {x0 : Int} (W : (0 ≤ x0 ∧ x0 ≤ 9223372036854775807) ∧ zT g (z1 o) mJ13_bitCount_95d88 (zQi (z1 o) q) 41 [(0, zL (x0 + (x0 / 256)))] [] M) : zT g (z1 o) mJ13_bitCount_95d88 (zQi (z1 o) q) 34 [(0, zL x0)] [] M := by
  refine zr_lload_n 0 dJ13_bitCount_95d88_34 rfl ?_
  refine zr_lload_n 0 dJ13_bitCount_95d88_35 rfl ?_
  refine zr_bipush dJ13_bitCount_95d88_36 (by decide) ?_
  obtain ⟨c1, W⟩ := W
  refine zr_lushr (y := 8) (p := 256) dJ13_bitCount_95d88_38 c1 (by decide) (by decide) ?_
  refine zr_ladd dJ13_bitCount_95d88_39 ?_
  refine zr_lstore_n (l' := [(0, zL (x0 + (x0 / 256)))]) dJ13_bitCount_95d88_40 (by decide) [0] rfl ?_
  exact W
set_option maxRecDepth 100000 in
theorem SJ13_bitCount_95d88_41 {g : zG} {o : Bool} {M : zM} {q : Int → zM → Prop} {x0 : Int} (W : (0 ≤ x0 ∧ x0 ≤ 9223372036854775807) ∧ zT g (z1 o) mJ13_bitCount_95d88 (zQi (z1 o) q) 48 [(0, zL (x0 + (x0 / 65536)))] [] M) : zT g (z1 o) mJ13_bitCount_95d88 (zQi (z1 o) q) 41 [(0, zL x0)] [] M := by
  refine zr_lload_n 0 dJ13_bitCount_95d88_41 rfl ?_
  refine zr_lload_n 0 dJ13_bitCount_95d88_42 rfl ?_
  refine zr_bipush dJ13_bitCount_95d88_43 (by decide) ?_
  obtain ⟨c1, W⟩ := W
  refine zr_lushr (y := 16) (p := 65536) dJ13_bitCount_95d88_45 c1 (by decide) (by decide) ?_
  refine zr_ladd dJ13_bitCount_95d88_46 ?_
  refine zr_lstore_n (l' := [(0, zL (x0 + (x0 / 65536)))]) dJ13_bitCount_95d88_47 (by decide) [0] rfl ?_
  exact W
set_option maxRecDepth 100000 in
theorem SJ13_bitCount_95d88_48 {g : zG} {o : Bool} {M : zM} {q : Int → zM → Prop} {x0 : Int} (W : (0 ≤ x0 ∧ x0 ≤ 9223372036854775807) ∧ zT g (z1 o) mJ13_bitCount_95d88 (zQi (z1 o) q) 55 [(0, zL (x0 + (x0 / 4294967296)))] [] M) : zT g (z1 o) mJ13_bitCount_95d88 (zQi (z1 o) q) 48 [(0, zL x0)] [] M := by
  refine zr_lload_n 0 dJ13_bitCount_95d88_48 rfl ?_
  refine zr_lload_n 0 dJ13_bitCount_95d88_49 rfl ?_
  refine zr_bipush dJ13_bitCount_95d88_50 (by decide) ?_
  obtain ⟨c1, W⟩ := W
  refine zr_lushr (y := 32) (p := 4294967296) dJ13_bitCount_95d88_52 c1 (by decide) (by decide) ?_
  refine zr_ladd dJ13_bitCount_95d88_53 ?_
  refine zr_lstore_n (l' := [(0, zL (x0 + (x0 / 4294967296)))]) dJ13_bitCount_95d88_54 (by decide) [0] rfl ?_
  exact W
set_option maxRecDepth 100000 in
theorem SJ13_bitCount_95d88_55 {g : zG} {o : Bool} {M : zM} {q : Int → zM → Prop} {x0 : Int} (W : q (x0 % 128) M) : zT g (z1 o) mJ13_bitCount_95d88 (zQi (z1 o) q) 55 [(0, zL x0)] [] M := by
  refine zr_lload_n 0 dJ13_bitCount_95d88_55 rfl ?_
  refine zr_l2i dJ13_bitCount_95d88_56 ?_
  refine zr_bipush dJ13_bitCount_95d88_57 (by decide) ?_
  refine zr_iand7 dJ13_bitCount_95d88_59 ?_
  exact zt_iret dJ13_bitCount_95d88_60 rfl W
theorem dX6_holds_0 : decode cX6_holds 0 = .ok (.lload_n 0, 1) := by decide +kernel
theorem dX6_holds_1 : decode cX6_holds 1 = .ok (.iload_n 2, 1) := by decide +kernel
theorem dX6_holds_2 : decode cX6_holds 2 = .ok (.lshr, 1) := by decide +kernel
theorem dX6_holds_3 : decode cX6_holds 3 = .ok (.lconst 1, 1) := by decide +kernel
theorem dX6_holds_4 : decode cX6_holds 4 = .ok (.land, 1) := by decide +kernel
theorem dX6_holds_5 : decode cX6_holds 5 = .ok (.lconst 1, 1) := by decide +kernel
theorem dX6_holds_6 : decode cX6_holds 6 = .ok (.lcmp, 1) := by decide +kernel
theorem dX6_holds_7 : decode cX6_holds 7 = .ok (.ifCond .ne 7, 3) := by decide +kernel
theorem dX6_holds_10 : decode cX6_holds 10 = .ok (.iconst 1, 1) := by decide +kernel
theorem dX6_holds_11 : decode cX6_holds 11 = .ok (.goto 4, 3) := by decide +kernel
theorem dX6_holds_14 : decode cX6_holds 14 = .ok (.iconst 0, 1) := by decide +kernel
theorem dX6_holds_15 : decode cX6_holds 15 = .ok (.ireturn, 1) := by decide +kernel
set_option maxRecDepth 100000 in
theorem SX6_holds_0 {g : zG} {o : Bool} {M : zM} {q : Int → zM → Prop} {x0 x2 : Int} (W : (0 ≤ x0 ∧ x0 < 4611686018427387904) ∧ (0 ≤ x2 ∧ x2 ≤ 63) ∧ ((0 : Int) ≤ (x0 / (2 ^ Int.toNat x2 : Nat)) ∧ (x0 / (2 ^ Int.toNat x2 : Nat)) ≤ (9223372036854775807 : Int)) ∧ (-9223372036854775808 ≤ ((Int.toNat (x0 / (2 ^ Int.toNat x2 : Nat)) &&& Int.toNat 1 : Nat) : Int) ∧ ((Int.toNat (x0 / (2 ^ Int.toNat x2 : Nat)) &&& Int.toNat 1 : Nat) : Int) ≤ 9223372036854775807) ∧ ((((Int.toNat (x0 / (2 ^ Int.toNat x2 : Nat)) &&& Int.toNat 1 : Nat) : Int) ≠ 1) → q 0 M) ∧ ((((Int.toNat (x0 / (2 ^ Int.toNat x2 : Nat)) &&& Int.toNat 1 : Nat) : Int) = 1) → q 1 M)) : zT g (z1 o) mX6_holds (zQi (z1 o) q) 0 [(0, zL x0), (2, zI x2)] [] M := by
  refine zr_lload_n 0 dX6_holds_0 rfl ?_
  refine zr_iload_n 1 dX6_holds_1 rfl ?_
  obtain ⟨c1, W⟩ := W
  obtain ⟨c2, W⟩ := W
  refine zr_lshr dX6_holds_2 c1 c2 ?_
  refine zr_lconst (x := 1) dX6_holds_3 rfl ?_
  obtain ⟨c3, W⟩ := W
  refine zr_land dX6_holds_4 c3 ⟨by decide, by decide⟩ ?_
  refine zr_lconst (x := 1) dX6_holds_5 rfl ?_
  obtain ⟨c4, W⟩ := W
  refine zr_lcmp dX6_holds_6 c4 ⟨by decide, by decide⟩ ?_
  refine zr_if_ne (tgt := 14) dX6_holds_7 (by decide) (zc_in _ _) (fun h => ?_) (fun h => ?_)
  · have W := W.1 (zc_ne.mp h)
    refine zr_iconst dX6_holds_14 ?_
    exact zt_zret dX6_holds_15 rfl (by decide) W
  · have W := W.2 (zc_eq.mp h)
    refine zr_iconst dX6_holds_10 ?_
    refine zr_goto (tgt := 15) dX6_holds_11 (by decide) ?_
    exact zt_zret dX6_holds_15 rfl (by decide) W
theorem dX10_doesCount_0 : decode cX10_doesCount 0 = .ok (.aload_n 0, 1) := by decide +kernel
theorem dX10_doesCount_1 : decode cX10_doesCount 1 = .ok (.getfield 81, 3) := by decide +kernel
theorem dX10_doesCount_4 : decode cX10_doesCount 4 = .ok (.iload_n 1, 1) := by decide +kernel
theorem dX10_doesCount_5 : decode cX10_doesCount 5 = .ok (.iaload, 1) := by decide +kernel
theorem dX10_doesCount_6 : decode cX10_doesCount 6 = .ok (.iload_n 2, 1) := by decide +kernel
theorem dX10_doesCount_7 : decode cX10_doesCount 7 = .ok (.if_icmp .gt 27, 3) := by decide +kernel
theorem dX10_doesCount_10 : decode cX10_doesCount 10 = .ok (.aload_n 0, 1) := by decide +kernel
theorem dX10_doesCount_11 : decode cX10_doesCount 11 = .ok (.getfield 84, 3) := by decide +kernel
theorem dX10_doesCount_14 : decode cX10_doesCount 14 = .ok (.iload_n 1, 1) := by decide +kernel
theorem dX10_doesCount_15 : decode cX10_doesCount 15 = .ok (.iaload, 1) := by decide +kernel
theorem dX10_doesCount_16 : decode cX10_doesCount 16 = .ok (.iconst (-1), 1) := by decide +kernel
theorem dX10_doesCount_17 : decode cX10_doesCount 17 = .ok (.if_icmp .eq 13, 3) := by decide +kernel
theorem dX10_doesCount_20 : decode cX10_doesCount 20 = .ok (.aload_n 0, 1) := by decide +kernel
theorem dX10_doesCount_21 : decode cX10_doesCount 21 = .ok (.getfield 84, 3) := by decide +kernel
theorem dX10_doesCount_24 : decode cX10_doesCount 24 = .ok (.iload_n 1, 1) := by decide +kernel
theorem dX10_doesCount_25 : decode cX10_doesCount 25 = .ok (.iaload, 1) := by decide +kernel
theorem dX10_doesCount_26 : decode cX10_doesCount 26 = .ok (.iload_n 2, 1) := by decide +kernel
theorem dX10_doesCount_27 : decode cX10_doesCount 27 = .ok (.if_icmp .le 7, 3) := by decide +kernel
theorem dX10_doesCount_30 : decode cX10_doesCount 30 = .ok (.iconst 1, 1) := by decide +kernel
theorem dX10_doesCount_31 : decode cX10_doesCount 31 = .ok (.goto 4, 3) := by decide +kernel
theorem dX10_doesCount_34 : decode cX10_doesCount 34 = .ok (.iconst 0, 1) := by decide +kernel
theorem dX10_doesCount_35 : decode cX10_doesCount 35 = .ok (.ireturn, 1) := by decide +kernel
set_option maxRecDepth 100000 in
theorem SX10_doesCount_0 {g : zG} {o : Bool} {M : zM} {q : Int → zM → Prop} {x1 x2 : Int} (W : (0 ≤ x1 ∧ x1 < 20) ∧ (-2147483648 ≤ (M 22 x1) ∧ (M 22 x1) ≤ 2147483647) ∧ (-2147483648 ≤ x2 ∧ x2 ≤ 2147483647) ∧ ((x2 < (M 22 x1)) → q 0 M) ∧ ((¬ (x2 < (M 22 x1))) → (-2147483648 ≤ (M 23 x1) ∧ (M 23 x1) ≤ 2147483647) ∧ (((M 23 x1) = (-1)) → q 1 M) ∧ ((¬ ((M 23 x1) = (-1))) → (((M 23 x1) ≤ x2) → q 0 M) ∧ ((¬ ((M 23 x1) ≤ x2)) → q 1 M)))) : zT g (z2 o) mX10_doesCount (zQi (z2 o) q) 0 [(0, zA g 1), (1, zI x1), (2, zI x2)] [] M := by
  refine zr_aload_n 0 dX10_doesCount_0 rfl ?_
  refine zr_getr (b := 22) dX10_doesCount_1 fX10_81 rfl rfl rfl (by decide) ?_
  refine zr_iload_n 1 dX10_doesCount_4 rfl ?_
  obtain ⟨c1, W⟩ := W
  refine zr_iald dX10_doesCount_5 rfl (by decide) c1 ?_
  refine zr_iload_n 2 dX10_doesCount_6 rfl ?_
  obtain ⟨c2, W⟩ := W
  obtain ⟨c3, W⟩ := W
  refine zr_icmp_gt (tgt := 34) dX10_doesCount_7 (by decide) c2 c3 (fun h => ?_) (fun h => ?_)
  · have W := W.1 h
    refine zr_iconst dX10_doesCount_34 ?_
    exact zt_zret dX10_doesCount_35 rfl (by decide) W
  · have W := W.2 h
    refine zr_aload_n 0 dX10_doesCount_10 rfl ?_
    refine zr_getr (b := 23) dX10_doesCount_11 fX10_84 rfl rfl rfl (by decide) ?_
    refine zr_iload_n 1 dX10_doesCount_14 rfl ?_
    refine zr_iald dX10_doesCount_15 rfl (by decide) c1 ?_
    refine zr_iconst dX10_doesCount_16 ?_
    obtain ⟨c4, W⟩ := W
    refine zr_icmp_eq (tgt := 30) dX10_doesCount_17 (by decide) c4 ⟨by decide, by decide⟩ (fun h => ?_) (fun h => ?_)
    · have W := W.1 h
      refine zr_iconst dX10_doesCount_30 ?_
      refine zr_goto (tgt := 35) dX10_doesCount_31 (by decide) ?_
      exact zt_zret dX10_doesCount_35 rfl (by decide) W
    · have W := W.2 h
      refine zr_aload_n 0 dX10_doesCount_20 rfl ?_
      refine zr_getr (b := 23) dX10_doesCount_21 fX10_84 rfl rfl rfl (by decide) ?_
      refine zr_iload_n 1 dX10_doesCount_24 rfl ?_
      refine zr_iald dX10_doesCount_25 rfl (by decide) c1 ?_
      refine zr_iload_n 2 dX10_doesCount_26 rfl ?_
      refine zr_icmp_le (tgt := 34) dX10_doesCount_27 (by decide) c4 c3 (fun h => ?_) (fun h => ?_)
      · have W := W.1 h
        refine zr_iconst dX10_doesCount_34 ?_
        exact zt_zret dX10_doesCount_35 rfl (by decide) W
      · have W := W.2 h
        refine zr_iconst dX10_doesCount_30 ?_
        refine zr_goto (tgt := 35) dX10_doesCount_31 (by decide) ?_
        exact zt_zret dX10_doesCount_35 rfl (by decide) W
/-- is a seed in a set -/
def hld (a s : Int) : Prop := a / (2 ^ s.toNat : Nat) % 2 = 1
/-- does what was seen count as known at a time -/
def dct (M : zM) (i k : Int) : Prop := M 22 i ≤ k ∧ (M 23 i = -1 ∨ k < M 23 i)
theorem hld_nat (x j : Nat) : hld x j ↔ x / 2 ^ j % 2 = 1 := by
  unfold hld
  rw [Int.toNat_natCast]
  have e : (x : Int) / ((2 ^ j : Nat) : Int) % 2 = ((x / 2 ^ j % 2 : Nat) : Int) := by rw [Int.natCast_emod, Int.natCast_ediv]; rfl
  rw [e]; omega
theorem hld_bit (x j : Nat) : hld x j ↔ x.testBit j = true := by
  rw [hld_nat, Nat.testBit_eq_decide_div_mod_eq, decide_eq_true_eq]
section CH
variable {g : zG} {o : Bool} {M : zM} {a s i k : Int}
theorem c_holds (ha : 0 ≤ a ∧ a < 1125899906842624) (hs : 0 ≤ s ∧ s < 50) : zKi g (z1 o) mX6_holds [zL a, zI s] M (fun r M' => r = zb (hld a s) ∧ M' = M) := by
  obtain ⟨x, rfl⟩ := znn ha.1
  obtain ⟨j, rfl⟩ := znn hs.1
  have e : (x : Int) / (2 ^ Int.toNat (j : Int) : Nat) = ((x / 2 ^ j : Nat) : Int) := by rw [Int.toNat_natCast, Int.natCast_ediv]
  have hle : x / 2 ^ j ≤ x := Nat.div_le_self _ _
  have hi := hld_nat x j
  refine zki_of rfl (Nat.le_of_ble_eq_true rfl) (SX6_holds_0 ⟨by omega, by omega, ?_⟩)
  rw [e, Int.toNat_natCast, show Int.toNat 1 = 1 from rfl, Nat.and_one_is_mod]
  obtain ⟨y, hy⟩ : ∃ y, y = x / 2 ^ j := ⟨_, rfl⟩
  rw [← hy] at hle hi ⊢
  refine ⟨by omega, by omega, fun h => ⟨?_, rfl⟩, fun h => ⟨?_, rfl⟩⟩
  · rw [zb_f (fun q => h (by have := hi.mp q; omega))]
  · rw [zb_t (hi.mpr (by omega))]
theorem c_doesCount (hi : 0 ≤ i ∧ i < 20) (hk : -2147483648 ≤ k ∧ k ≤ 2147483647) (h1 : -2147483648 ≤ (M 22 i) ∧ (M 22 i) ≤ 2147483647) (h2 : -2147483648 ≤ (M 23 i) ∧ (M 23 i) ≤ 2147483647) : zKi g (z2 o) mX10_doesCount [zA g 1, zI i, zI k] M (fun r M' => r = zb (dct M i k) ∧ M' = M) := by
  refine zki_of rfl (Nat.le_of_ble_eq_true rfl) (SX10_doesCount_0 ⟨hi, h1, hk, fun h => ⟨?_, rfl⟩, fun h => ⟨h2, fun h' => ⟨?_, rfl⟩, fun h' => ⟨fun h3 => ⟨?_, rfl⟩, fun h3 => ⟨?_, rfl⟩⟩⟩⟩)
  · rw [zb_f (fun q => by have := q.1; omega)]
  · rw [zb_t ⟨by omega, Or.inl h'⟩]
  · rw [zb_f (fun q => by rcases q.2 with e | e <;> omega)]
  · rw [zb_t ⟨by omega, Or.inr (by omega)⟩]
end CH
theorem dX6_tell_0 : decode cX6_tell 0 = .ok (.aload_n 0, 1) := by decide +kernel
theorem dX6_tell_1 : decode cX6_tell 1 = .ok (.getfield 25, 3) := by decide +kernel
theorem dX6_tell_4 : decode cX6_tell 4 = .ok (.bipush 20, 2) := by decide +kernel
theorem dX6_tell_6 : decode cX6_tell 6 = .ok (.if_icmp .lt 5, 3) := by decide +kernel
theorem dX6_tell_9 : decode cX6_tell 9 = .ok (.iconst (-1), 1) := by decide +kernel
theorem dX6_tell_10 : decode cX6_tell 10 = .ok (.ireturn, 1) := by decide +kernel
theorem dX6_tell_11 : decode cX6_tell 11 = .ok (.aload_n 0, 1) := by decide +kernel
theorem dX6_tell_12 : decode cX6_tell 12 = .ok (.getfield 9, 3) := by decide +kernel
theorem dX6_tell_15 : decode cX6_tell 15 = .ok (.aload_n 0, 1) := by decide +kernel
theorem dX6_tell_16 : decode cX6_tell 16 = .ok (.getfield 25, 3) := by decide +kernel
theorem dX6_tell_19 : decode cX6_tell 19 = .ok (.iload_n 3, 1) := by decide +kernel
theorem dX6_tell_20 : decode cX6_tell 20 = .ok (.iastore, 1) := by decide +kernel
theorem dX6_tell_21 : decode cX6_tell 21 = .ok (.aload_n 0, 1) := by decide +kernel
theorem dX6_tell_22 : decode cX6_tell 22 = .ok (.getfield 15, 3) := by decide +kernel
theorem dX6_tell_25 : decode cX6_tell 25 = .ok (.aload_n 0, 1) := by decide +kernel
theorem dX6_tell_26 : decode cX6_tell 26 = .ok (.getfield 25, 3) := by decide +kernel
theorem dX6_tell_29 : decode cX6_tell 29 = .ok (.iconst (-1), 1) := by decide +kernel
theorem dX6_tell_30 : decode cX6_tell 30 = .ok (.iastore, 1) := by decide +kernel
theorem dX6_tell_31 : decode cX6_tell 31 = .ok (.aload_n 0, 1) := by decide +kernel
theorem dX6_tell_32 : decode cX6_tell 32 = .ok (.getfield 18, 3) := by decide +kernel
theorem dX6_tell_35 : decode cX6_tell 35 = .ok (.aload_n 0, 1) := by decide +kernel
theorem dX6_tell_36 : decode cX6_tell 36 = .ok (.getfield 25, 3) := by decide +kernel
theorem dX6_tell_39 : decode cX6_tell 39 = .ok (.lload_n 1, 1) := by decide +kernel
theorem dX6_tell_40 : decode cX6_tell 40 = .ok (.lastore, 1) := by decide +kernel
theorem dX6_tell_41 : decode cX6_tell 41 = .ok (.aload_n 0, 1) := by decide +kernel
theorem dX6_tell_42 : decode cX6_tell 42 = .ok (.dup, 1) := by decide +kernel
theorem dX6_tell_43 : decode cX6_tell 43 = .ok (.getfield 25, 3) := by decide +kernel
theorem dX6_tell_46 : decode cX6_tell 46 = .ok (.iconst 1, 1) := by decide +kernel
theorem dX6_tell_47 : decode cX6_tell 47 = .ok (.iadd, 1) := by decide +kernel
theorem dX6_tell_48 : decode cX6_tell 48 = .ok (.putfield 25, 3) := by decide +kernel
theorem dX6_tell_51 : decode cX6_tell 51 = .ok (.aload_n 0, 1) := by decide +kernel
theorem dX6_tell_52 : decode cX6_tell 52 = .ok (.getfield 25, 3) := by decide +kernel
theorem dX6_tell_55 : decode cX6_tell 55 = .ok (.iconst 1, 1) := by decide +kernel
theorem dX6_tell_56 : decode cX6_tell 56 = .ok (.isub, 1) := by decide +kernel
theorem dX6_tell_57 : decode cX6_tell 57 = .ok (.ireturn, 1) := by decide +kernel
set_option maxRecDepth 100000 in
theorem SX6_tell_0 {g : zG} {o : Bool} {M : zM} {q : Int → zM → Prop} {x1 x3 : Int} (W : (-2147483648 ≤ (M 122 8) ∧ (M 122 8) ≤ 2147483647) ∧ (((M 122 8) < 20) → (0 ≤ (M 122 8) ∧ (M 122 8) < 20) ∧ (0 ≤ ((zu M 123 (M 122 8) x3) 122 8) ∧ ((zu M 123 (M 122 8) x3) 122 8) < 20) ∧ ∀ N4 : zM, N4 = zu M 123 (M 122 8) x3 → (0 ≤ ((zu N4 124 (N4 122 8) (-1)) 122 8) ∧ ((zu N4 124 (N4 122 8) (-1)) 122 8) < 20) ∧ ∀ N7 : zM, N7 = zu N4 124 (N4 122 8) (-1) → ∀ N9 : zM, N9 = zu N7 125 (N7 122 8) x1 → q (((zu N9 122 8 ((N9 122 8) + 1)) 122 8) - 1) (zu N9 122 8 ((N9 122 8) + 1))) ∧ ((¬ ((M 122 8) < 20)) → q (-1) M)) : zT g (z1 o) mX6_tell (zQi (z1 o) q) 0 [(0, zA g 122), (1, zL x1), (3, zI x3)] [] M := by
  refine zr_aload_n 0 dX6_tell_0 rfl ?_
  refine zt_geti 8 rfl dX6_tell_1 fX6_25 rfl (by decide) ?_
  refine zr_bipush dX6_tell_4 (by decide) ?_
  obtain ⟨c1, W⟩ := W
  refine zr_icmp_lt (tgt := 11) dX6_tell_6 (by decide) c1 ⟨by decide, by decide⟩ (fun h => ?_) (fun h => ?_)
  · have W := W.1 h
    refine zr_aload_n 0 dX6_tell_11 rfl ?_
    refine zr_getr (b := 123) dX6_tell_12 fX6_9 rfl rfl rfl (by decide) ?_
    refine zr_aload_n 0 dX6_tell_15 rfl ?_
    refine zt_geti 8 rfl dX6_tell_16 fX6_25 rfl (by decide) ?_
    refine zr_iload_n 2 dX6_tell_19 rfl ?_
    obtain ⟨c2, W⟩ := W
    refine zr_iast dX6_tell_20 rfl (by decide) c2 ?_
    refine zr_aload_n 0 dX6_tell_21 rfl ?_
    refine zr_getr (b := 124) dX6_tell_22 fX6_15 rfl rfl rfl (by decide) ?_
    refine zr_aload_n 0 dX6_tell_25 rfl ?_
    refine zt_geti 8 rfl dX6_tell_26 fX6_25 rfl (by decide) ?_
    refine zr_iconst dX6_tell_29 ?_
    obtain ⟨c3, W⟩ := W
    obtain ⟨N4, e5⟩ : ∃ N : zM, N = zu M 123 (M 122 8) x3 := ⟨_, rfl⟩
    rw [← e5]
    rw [← e5] at c3
    have W := W N4 e5
    refine zr_iast dX6_tell_30 rfl (by decide) c3 ?_
    refine zr_aload_n 0 dX6_tell_31 rfl ?_
    refine zr_getr (b := 125) dX6_tell_32 fX6_18 rfl rfl rfl (by decide) ?_
    refine zr_aload_n 0 dX6_tell_35 rfl ?_
    refine zt_geti 8 rfl dX6_tell_36 fX6_25 rfl (by decide) ?_
    refine zr_lload_n 1 dX6_tell_39 rfl ?_
    obtain ⟨c6, W⟩ := W
    obtain ⟨N7, e8⟩ : ∃ N : zM, N = zu N4 124 (N4 122 8) (-1) := ⟨_, rfl⟩
    rw [← e8]
    rw [← e8] at c6
    have W := W N7 e8
    refine zr_last dX6_tell_40 rfl (by decide) c6 ?_
    refine zr_aload_n 0 dX6_tell_41 rfl ?_
    refine zr_dup dX6_tell_42 rfl ?_
    refine zt_geti 8 rfl dX6_tell_43 fX6_25 rfl (by decide) ?_
    refine zr_iconst dX6_tell_46 ?_
    refine zr_iadd dX6_tell_47 ?_
    obtain ⟨N9, e10⟩ : ∃ N : zM, N = zu N7 125 (N7 122 8) x1 := ⟨_, rfl⟩
    rw [← e10]
    have W := W N9 e10
    refine zt_puti 8 rfl dX6_tell_48 fX6_25 lcX6 ltX6_8 rfl rfl ?_
    refine zr_aload_n 0 dX6_tell_51 rfl ?_
    refine zt_geti 8 rfl dX6_tell_52 fX6_25 rfl (by decide) ?_
    refine zr_iconst dX6_tell_55 ?_
    refine zr_isub dX6_tell_56 ?_
    exact zt_iret dX6_tell_57 rfl W
  · have W := W.2 h
    refine zr_iconst dX6_tell_9 ?_
    exact zt_iret dX6_tell_10 rfl W
theorem dX6_seedsFor_0 : decode cX6_seedsFor 0 = .ok (.lconst 0, 1) := by decide +kernel
theorem dX6_seedsFor_1 : decode cX6_seedsFor 1 = .ok (.lstore 5, 2) := by decide +kernel
theorem dX6_seedsFor_3 : decode cX6_seedsFor 3 = .ok (.iconst 0, 1) := by decide +kernel
theorem dX6_seedsFor_4 : decode cX6_seedsFor 4 = .ok (.istore 7, 2) := by decide +kernel
theorem dX6_seedsFor_6 : decode cX6_seedsFor 6 = .ok (.iload 7, 2) := by decide +kernel
theorem dX6_seedsFor_8 : decode cX6_seedsFor 8 = .ok (.bipush 50, 2) := by decide +kernel
theorem dX6_seedsFor_10 : decode cX6_seedsFor 10 = .ok (.if_icmp .ge 63, 3) := by decide +kernel
theorem dX6_seedsFor_13 : decode cX6_seedsFor 13 = .ok (.aload_n 0, 1) := by decide +kernel
theorem dX6_seedsFor_14 : decode cX6_seedsFor 14 = .ok (.getfield 40, 3) := by decide +kernel
theorem dX6_seedsFor_17 : decode cX6_seedsFor 17 = .ok (.aload_n 0, 1) := by decide +kernel
theorem dX6_seedsFor_18 : decode cX6_seedsFor 18 = .ok (.getfield 33, 3) := by decide +kernel
theorem dX6_seedsFor_21 : decode cX6_seedsFor 21 = .ok (.iload 7, 2) := by decide +kernel
theorem dX6_seedsFor_23 : decode cX6_seedsFor 23 = .ok (.invokevirtual 44, 3) := by decide +kernel
theorem dX6_seedsFor_26 : decode cX6_seedsFor 26 = .ok (.aload_n 0, 1) := by decide +kernel
theorem dX6_seedsFor_27 : decode cX6_seedsFor 27 = .ok (.getfield 40, 3) := by decide +kernel
theorem dX6_seedsFor_30 : decode cX6_seedsFor 30 = .ok (.iload_n 1, 1) := by decide +kernel
theorem dX6_seedsFor_31 : decode cX6_seedsFor 31 = .ok (.invokevirtual 50, 3) := by decide +kernel
theorem dX6_seedsFor_34 : decode cX6_seedsFor 34 = .ok (.pop, 1) := by decide +kernel
theorem dX6_seedsFor_35 : decode cX6_seedsFor 35 = .ok (.aload_n 0, 1) := by decide +kernel
theorem dX6_seedsFor_36 : decode cX6_seedsFor 36 = .ok (.getfield 37, 3) := by decide +kernel
theorem dX6_seedsFor_39 : decode cX6_seedsFor 39 = .ok (.getfield 54, 3) := by decide +kernel
theorem dX6_seedsFor_42 : decode cX6_seedsFor 42 = .ok (.iload_n 2, 1) := by decide +kernel
theorem dX6_seedsFor_43 : decode cX6_seedsFor 43 = .ok (.iaload, 1) := by decide +kernel
theorem dX6_seedsFor_44 : decode cX6_seedsFor 44 = .ok (.iload_n 3, 1) := by decide +kernel
theorem dX6_seedsFor_45 : decode cX6_seedsFor 45 = .ok (.if_icmp .lt 7, 3) := by decide +kernel
theorem dX6_seedsFor_48 : decode cX6_seedsFor 48 = .ok (.iconst 1, 1) := by decide +kernel
theorem dX6_seedsFor_49 : decode cX6_seedsFor 49 = .ok (.goto 4, 3) := by decide +kernel
theorem dX6_seedsFor_52 : decode cX6_seedsFor 52 = .ok (.iconst 0, 1) := by decide +kernel
theorem dX6_seedsFor_53 : decode cX6_seedsFor 53 = .ok (.iload 4, 2) := by decide +kernel
theorem dX6_seedsFor_55 : decode cX6_seedsFor 55 = .ok (.if_icmp .ne 12, 3) := by decide +kernel
theorem dX6_seedsFor_58 : decode cX6_seedsFor 58 = .ok (.lload 5, 2) := by decide +kernel
theorem dX6_seedsFor_60 : decode cX6_seedsFor 60 = .ok (.lconst 1, 1) := by decide +kernel
theorem dX6_seedsFor_61 : decode cX6_seedsFor 61 = .ok (.iload 7, 2) := by decide +kernel
theorem dX6_seedsFor_63 : decode cX6_seedsFor 63 = .ok (.lshl, 1) := by decide +kernel
theorem dX6_seedsFor_64 : decode cX6_seedsFor 64 = .ok (.lor, 1) := by decide +kernel
theorem dX6_seedsFor_65 : decode cX6_seedsFor 65 = .ok (.lstore 5, 2) := by decide +kernel
theorem dX6_seedsFor_67 : decode cX6_seedsFor 67 = .ok (.iinc 7 1, 3) := by decide +kernel
theorem dX6_seedsFor_70 : decode cX6_seedsFor 70 = .ok (.goto (-64), 3) := by decide +kernel
theorem dX6_seedsFor_73 : decode cX6_seedsFor 73 = .ok (.lload 5, 2) := by decide +kernel
theorem dX6_seedsFor_75 : decode cX6_seedsFor 75 = .ok (.lreturn, 1) := by decide +kernel
set_option maxRecDepth 100000 in
theorem SX6_seedsFor_0 {g : zG} {o : Bool} {M : zM} {q : Int → zM → Prop} {x1 x2 x3 x4 : Int} (W : zT g (z1 o) mX6_seedsFor (zQl (z1 o) q) 6 [(0, zA g 122), (1, zI x1), (2, zI x2), (3, zI x3), (4, zI x4), (5, zL 0), (7, zI 0)] [] M) : zT g (z1 o) mX6_seedsFor (zQl (z1 o) q) 0 [(0, zA g 122), (1, zI x1), (2, zI x2), (3, zI x3), (4, zI x4)] [] M := by
  refine zr_lconst (x := 0) dX6_seedsFor_0 rfl ?_
  refine zr_lstore (l' := [(0, zA g 122), (1, zI x1), (2, zI x2), (3, zI x3), (4, zI x4), (5, zL 0)]) dX6_seedsFor_1 (by decide) [1, 2, 3, 4, 5, 0] rfl ?_
  refine zr_iconst dX6_seedsFor_3 ?_
  refine zr_istore (l' := [(0, zA g 122), (1, zI x1), (2, zI x2), (3, zI x3), (4, zI x4), (5, zL 0), (7, zI 0)]) dX6_seedsFor_4 (by decide) [1, 2, 3, 4, 5, 6, 0] rfl ?_
  exact W
set_option maxRecDepth 100000 in
theorem SX6_seedsFor_6 {g : zG} {o : Bool} {M : zM} {q : Int → zM → Prop} {x1 x2 x3 x4 x5 x7 : Int} (W : (-2147483648 ≤ x7 ∧ x7 ≤ 2147483647) ∧ ((50 ≤ x7) → q x5 M) ∧ ((¬ (50 ≤ x7)) → ∃ q2 : zM → Prop, zKv g (z1 o) mX7_startFrom [zA g 34, zA g 20, zI x7] M q2 ∧ ∀ M4 : zM, q2 M4 → ∃ q7 : Int → zM → Prop, zKi g (z1 o) mX7_blowOn [zA g 34, zI x1] M4 q7 ∧ ∀ (r8 : Int) (M9 : zM), q7 r8 M9 → (0 ≤ x2 ∧ x2 < 96) ∧ (-2147483648 ≤ (M9 29 x2) ∧ (M9 29 x2) ≤ 2147483647) ∧ (-2147483648 ≤ x3 ∧ x3 ≤ 2147483647) ∧ (((M9 29 x2) < x3) → (-2147483648 ≤ x4 ∧ x4 ≤ 2147483647) ∧ ((0 ≠ x4) → zT g (z1 o) mX6_seedsFor (zQl (z1 o) q) 6 [(0, zA g 122), (1, zI x1), (2, zI x2), (3, zI x3), (4, zI x4), (5, zL x5), (7, zI (x7 + 1))] [] M9) ∧ ((0 = x4) → (0 ≤ x7 ∧ x7 ≤ 63) ∧ ((0 : Int) ≤ x5 ∧ x5 ≤ (9223372036854775807 : Int)) ∧ ((0 : Int) ≤ (1 * (2 ^ Int.toNat x7 : Nat)) ∧ (1 * (2 ^ Int.toNat x7 : Nat)) ≤ (9223372036854775807 : Int)) ∧ zT g (z1 o) mX6_seedsFor (zQl (z1 o) q) 6 [(0, zA g 122), (1, zI x1), (2, zI x2), (3, zI x3), (4, zI x4), (5, zL ((Int.toNat x5 ||| Int.toNat (1 * (2 ^ Int.toNat x7 : Nat)) : Nat) : Int)), (7, zI (x7 + 1))] [] M9)) ∧ ((¬ ((M9 29 x2) < x3)) → (-2147483648 ≤ x4 ∧ x4 ≤ 2147483647) ∧ ((1 ≠ x4) → zT g (z1 o) mX6_seedsFor (zQl (z1 o) q) 6 [(0, zA g 122), (1, zI x1), (2, zI x2), (3, zI x3), (4, zI x4), (5, zL x5), (7, zI (x7 + 1))] [] M9) ∧ ((1 = x4) → (0 ≤ x7 ∧ x7 ≤ 63) ∧ ((0 : Int) ≤ x5 ∧ x5 ≤ (9223372036854775807 : Int)) ∧ ((0 : Int) ≤ (1 * (2 ^ Int.toNat x7 : Nat)) ∧ (1 * (2 ^ Int.toNat x7 : Nat)) ≤ (9223372036854775807 : Int)) ∧ zT g (z1 o) mX6_seedsFor (zQl (z1 o) q) 6 [(0, zA g 122), (1, zI x1), (2, zI x2), (3, zI x3), (4, zI x4), (5, zL ((Int.toNat x5 ||| Int.toNat (1 * (2 ^ Int.toNat x7 : Nat)) : Nat) : Int)), (7, zI (x7 + 1))] [] M9)))) : zT g (z1 o) mX6_seedsFor (zQl (z1 o) q) 6 [(0, zA g 122), (1, zI x1), (2, zI x2), (3, zI x3), (4, zI x4), (5, zL x5), (7, zI x7)] [] M := by
  refine zr_iload 6 dX6_seedsFor_6 rfl ?_
  refine zr_bipush dX6_seedsFor_8 (by decide) ?_
  obtain ⟨c1, W⟩ := W
  refine zr_icmp_ge (tgt := 73) dX6_seedsFor_10 (by decide) c1 ⟨by decide, by decide⟩ (fun h => ?_) (fun h => ?_)
  · have W := W.1 h
    refine zr_lload 5 dX6_seedsFor_73 rfl ?_
    exact zt_lret dX6_seedsFor_75 rfl W
  · have W := W.2 h
    refine zr_aload_n 0 dX6_seedsFor_13 rfl ?_
    refine zr_getr (b := 34) dX6_seedsFor_14 fX6_40 rfl rfl rfl (by decide) ?_
    refine zr_aload_n 0 dX6_seedsFor_17 rfl ?_
    refine zr_getr (b := 20) dX6_seedsFor_18 fX6_33 rfl rfl rfl (by decide) ?_
    refine zr_iload 6 dX6_seedsFor_21 rfl ?_
    obtain ⟨q2, k6, W⟩ := W
    refine zt_callVv (As := [zA g 20, zI x7]) (rest := []) dX6_seedsFor_23 kX6_seedsFor_44 rfl rfl rfl rfl (Nat.le_of_ble_eq_true rfl) k6 (fun M4 h5 => ?_)
    have W := W M4 h5
    refine zr_aload_n 0 dX6_seedsFor_26 rfl ?_
    refine zr_getr (b := 34) dX6_seedsFor_27 fX6_40 rfl rfl rfl (by decide) ?_
    refine zr_iload_n 1 dX6_seedsFor_30 rfl ?_
    obtain ⟨q7, k11, W⟩ := W
    refine zt_callVi (As := [zI x1]) (rest := []) dX6_seedsFor_31 kX6_seedsFor_50 rfl rfl rfl rfl (Nat.le_of_ble_eq_true rfl) k11 (fun r8 M9 h10 => ?_)
    have W := W r8 M9 h10
    refine zr_pop dX6_seedsFor_34 rfl ?_
    refine zr_aload_n 0 dX6_seedsFor_35 rfl ?_
    refine zr_getr (b := 28) dX6_seedsFor_36 fX6_37 rfl rfl rfl (by decide) ?_
    refine zr_getr (b := 29) dX6_seedsFor_39 fX6_54 rfl rfl rfl (by decide) ?_
    refine zr_iload_n 2 dX6_seedsFor_42 rfl ?_
    obtain ⟨c12, W⟩ := W
    refine zr_iald dX6_seedsFor_43 rfl (by decide) c12 ?_
    refine zr_iload_n 3 dX6_seedsFor_44 rfl ?_
    obtain ⟨c13, W⟩ := W
    obtain ⟨c14, W⟩ := W
    refine zr_icmp_lt (tgt := 52) dX6_seedsFor_45 (by decide) c13 c14 (fun h => ?_) (fun h => ?_)
    · have W := W.1 h
      refine zr_iconst dX6_seedsFor_52 ?_
      refine zr_iload 4 dX6_seedsFor_53 rfl ?_
      obtain ⟨c15, W⟩ := W
      refine zr_icmp_ne (tgt := 67) dX6_seedsFor_55 (by decide) ⟨by decide, by decide⟩ c15 (fun h => ?_) (fun h => ?_)
      · have W := W.1 h
        refine zr_iinc (q := 6) (l' := [(0, zA g 122), (1, zI x1), (2, zI x2), (3, zI x3), (4, zI x4), (5, zL x5), (7, zI (x7 + 1))]) dX6_seedsFor_67 rfl (by decide) [1, 2, 3, 4, 5, 6, 0] rfl ?_
        refine zr_goto (tgt := 6) dX6_seedsFor_70 (by decide) ?_
        exact W
      · have W := W.2 h
        refine zr_lload 5 dX6_seedsFor_58 rfl ?_
        refine zr_lconst (x := 1) dX6_seedsFor_60 rfl ?_
        refine zr_iload 6 dX6_seedsFor_61 rfl ?_
        obtain ⟨c16, W⟩ := W
        refine zr_lshl dX6_seedsFor_63 (by decide) c16 ?_
        obtain ⟨c17, W⟩ := W
        obtain ⟨c18, W⟩ := W
        refine zr_lor dX6_seedsFor_64 c17 c18 ?_
        refine zr_lstore (l' := [(0, zA g 122), (1, zI x1), (2, zI x2), (3, zI x3), (4, zI x4), (5, zL ((Int.toNat x5 ||| Int.toNat (1 * (2 ^ Int.toNat x7 : Nat)) : Nat) : Int)), (7, zI x7)]) dX6_seedsFor_65 (by decide) [1, 2, 3, 4, 5, 0, 6] rfl ?_
        refine zr_iinc (q := 6) (l' := [(0, zA g 122), (1, zI x1), (2, zI x2), (3, zI x3), (4, zI x4), (5, zL ((Int.toNat x5 ||| Int.toNat (1 * (2 ^ Int.toNat x7 : Nat)) : Nat) : Int)), (7, zI (x7 + 1))]) dX6_seedsFor_67 rfl (by decide) [1, 2, 3, 4, 5, 6, 0] rfl ?_
        refine zr_goto (tgt := 6) dX6_seedsFor_70 (by decide) ?_
        exact W
    · have W := W.2 h
      refine zr_iconst dX6_seedsFor_48 ?_
      refine zr_goto (tgt := 53) dX6_seedsFor_49 (by decide) ?_
      refine zr_iload 4 dX6_seedsFor_53 rfl ?_
      obtain ⟨c19, W⟩ := W
      refine zr_icmp_ne (tgt := 67) dX6_seedsFor_55 (by decide) ⟨by decide, by decide⟩ c19 (fun h => ?_) (fun h => ?_)
      · have W := W.1 h
        refine zr_iinc (q := 6) (l' := [(0, zA g 122), (1, zI x1), (2, zI x2), (3, zI x3), (4, zI x4), (5, zL x5), (7, zI (x7 + 1))]) dX6_seedsFor_67 rfl (by decide) [1, 2, 3, 4, 5, 6, 0] rfl ?_
        refine zr_goto (tgt := 6) dX6_seedsFor_70 (by decide) ?_
        exact W
      · have W := W.2 h
        refine zr_lload 5 dX6_seedsFor_58 rfl ?_
        refine zr_lconst (x := 1) dX6_seedsFor_60 rfl ?_
        refine zr_iload 6 dX6_seedsFor_61 rfl ?_
        obtain ⟨c20, W⟩ := W
        refine zr_lshl dX6_seedsFor_63 (by decide) c20 ?_
        obtain ⟨c21, W⟩ := W
        obtain ⟨c22, W⟩ := W
        refine zr_lor dX6_seedsFor_64 c21 c22 ?_
        refine zr_lstore (l' := [(0, zA g 122), (1, zI x1), (2, zI x2), (3, zI x3), (4, zI x4), (5, zL ((Int.toNat x5 ||| Int.toNat (1 * (2 ^ Int.toNat x7 : Nat)) : Nat) : Int)), (7, zI x7)]) dX6_seedsFor_65 (by decide) [1, 2, 3, 4, 5, 0, 6] rfl ?_
        refine zr_iinc (q := 6) (l' := [(0, zA g 122), (1, zI x1), (2, zI x2), (3, zI x3), (4, zI x4), (5, zL ((Int.toNat x5 ||| Int.toNat (1 * (2 ^ Int.toNat x7 : Nat)) : Nat) : Int)), (7, zI (x7 + 1))]) dX6_seedsFor_67 rfl (by decide) [1, 2, 3, 4, 5, 6, 0] rfl ?_
        refine zr_goto (tgt := 6) dX6_seedsFor_70 (by decide) ?_
        exact W
theorem dX6_fitting_0 : decode cX6_fitting 0 = .ok (.ldc2_w 59, 3) := by decide +kernel
theorem dX6_fitting_3 : decode cX6_fitting 3 = .ok (.lstore_n 2, 1) := by decide +kernel
theorem dX6_fitting_4 : decode cX6_fitting 4 = .ok (.iconst 0, 1) := by decide +kernel
theorem dX6_fitting_5 : decode cX6_fitting 5 = .ok (.istore 4, 2) := by decide +kernel
theorem dX6_fitting_7 : decode cX6_fitting 7 = .ok (.iload 4, 2) := by decide +kernel
theorem dX6_fitting_9 : decode cX6_fitting 9 = .ok (.aload_n 0, 1) := by decide +kernel
theorem dX6_fitting_10 : decode cX6_fitting 10 = .ok (.getfield 25, 3) := by decide +kernel
theorem dX6_fitting_13 : decode cX6_fitting 13 = .ok (.if_icmp .ge 64, 3) := by decide +kernel
theorem dX6_fitting_16 : decode cX6_fitting 16 = .ok (.aload_n 0, 1) := by decide +kernel
theorem dX6_fitting_17 : decode cX6_fitting 17 = .ok (.getfield 15, 3) := by decide +kernel
theorem dX6_fitting_20 : decode cX6_fitting 20 = .ok (.iload 4, 2) := by decide +kernel
theorem dX6_fitting_22 : decode cX6_fitting 22 = .ok (.iaload, 1) := by decide +kernel
theorem dX6_fitting_23 : decode cX6_fitting 23 = .ok (.iconst (-1), 1) := by decide +kernel
theorem dX6_fitting_24 : decode cX6_fitting 24 = .ok (.if_icmp .eq 18, 3) := by decide +kernel
theorem dX6_fitting_27 : decode cX6_fitting 27 = .ok (.aload_n 0, 1) := by decide +kernel
theorem dX6_fitting_28 : decode cX6_fitting 28 = .ok (.getfield 15, 3) := by decide +kernel
theorem dX6_fitting_31 : decode cX6_fitting 31 = .ok (.iload 4, 2) := by decide +kernel
theorem dX6_fitting_33 : decode cX6_fitting 33 = .ok (.iaload, 1) := by decide +kernel
theorem dX6_fitting_34 : decode cX6_fitting 34 = .ok (.iload_n 1, 1) := by decide +kernel
theorem dX6_fitting_35 : decode cX6_fitting 35 = .ok (.if_icmp .gt 7, 3) := by decide +kernel
theorem dX6_fitting_38 : decode cX6_fitting 38 = .ok (.iconst 1, 1) := by decide +kernel
theorem dX6_fitting_39 : decode cX6_fitting 39 = .ok (.goto 4, 3) := by decide +kernel
theorem dX6_fitting_42 : decode cX6_fitting 42 = .ok (.iconst 0, 1) := by decide +kernel
theorem dX6_fitting_43 : decode cX6_fitting 43 = .ok (.istore 5, 2) := by decide +kernel
theorem dX6_fitting_45 : decode cX6_fitting 45 = .ok (.aload_n 0, 1) := by decide +kernel
theorem dX6_fitting_46 : decode cX6_fitting 46 = .ok (.getfield 9, 3) := by decide +kernel
theorem dX6_fitting_49 : decode cX6_fitting 49 = .ok (.iload 4, 2) := by decide +kernel
theorem dX6_fitting_51 : decode cX6_fitting 51 = .ok (.iaload, 1) := by decide +kernel
theorem dX6_fitting_52 : decode cX6_fitting 52 = .ok (.iload_n 1, 1) := by decide +kernel
theorem dX6_fitting_53 : decode cX6_fitting 53 = .ok (.if_icmp .gt 18, 3) := by decide +kernel
theorem dX6_fitting_56 : decode cX6_fitting 56 = .ok (.iload 5, 2) := by decide +kernel
theorem dX6_fitting_58 : decode cX6_fitting 58 = .ok (.ifCond .ne 13, 3) := by decide +kernel
theorem dX6_fitting_61 : decode cX6_fitting 61 = .ok (.lload_n 2, 1) := by decide +kernel
theorem dX6_fitting_62 : decode cX6_fitting 62 = .ok (.aload_n 0, 1) := by decide +kernel
theorem dX6_fitting_63 : decode cX6_fitting 63 = .ok (.getfield 18, 3) := by decide +kernel
theorem dX6_fitting_66 : decode cX6_fitting 66 = .ok (.iload 4, 2) := by decide +kernel
theorem dX6_fitting_68 : decode cX6_fitting 68 = .ok (.laload, 1) := by decide +kernel
theorem dX6_fitting_69 : decode cX6_fitting 69 = .ok (.land, 1) := by decide +kernel
theorem dX6_fitting_70 : decode cX6_fitting 70 = .ok (.lstore_n 2, 1) := by decide +kernel
theorem dX6_fitting_71 : decode cX6_fitting 71 = .ok (.iinc 4 1, 3) := by decide +kernel
theorem dX6_fitting_74 : decode cX6_fitting 74 = .ok (.goto (-67), 3) := by decide +kernel
theorem dX6_fitting_77 : decode cX6_fitting 77 = .ok (.lload_n 2, 1) := by decide +kernel
theorem dX6_fitting_78 : decode cX6_fitting 78 = .ok (.lreturn, 1) := by decide +kernel
set_option maxRecDepth 100000 in
theorem SX6_fitting_0 {g : zG} {o : Bool} {M : zM} {q : Int → zM → Prop} {x1 : Int} (W : zT g (z1 o) mX6_fitting (zQl (z1 o) q) 7 [(0, zA g 122), (1, zI x1), (2, zL 1125899906842623), (4, zI 0)] [] M) : zT g (z1 o) mX6_fitting (zQl (z1 o) q) 0 [(0, zA g 122), (1, zI x1)] [] M := by
  refine zr_ldc2 (x := 1125899906842623) dX6_fitting_0 (zc5 46 (by decide +kernel) rfl) ?_
  refine zr_lstore_n (l' := [(0, zA g 122), (1, zI x1), (2, zL 1125899906842623)]) dX6_fitting_3 (by decide) [1, 2, 0] rfl ?_
  refine zr_iconst dX6_fitting_4 ?_
  refine zr_istore (l' := [(0, zA g 122), (1, zI x1), (2, zL 1125899906842623), (4, zI 0)]) dX6_fitting_5 (by decide) [1, 2, 3, 0] rfl ?_
  exact W
set_option maxRecDepth 100000 in
theorem SX6_fitting_7 {g : zG} {o : Bool} {M : zM} {q : Int → zM → Prop} {x1 x2 x4 : Int} (W : (-2147483648 ≤ x4 ∧ x4 ≤ 2147483647) ∧ (-2147483648 ≤ (M 122 8) ∧ (M 122 8) ≤ 2147483647) ∧ (((M 122 8) ≤ x4) → q x2 M) ∧ ((¬ ((M 122 8) ≤ x4)) → (0 ≤ x4 ∧ x4 < 20) ∧ (-2147483648 ≤ (M 124 x4) ∧ (M 124 x4) ≤ 2147483647) ∧ (((M 124 x4) = (-1)) → zT g (z1 o) mX6_fitting (zQl (z1 o) q) 42 [(0, zA g 122), (1, zI x1), (2, zL x2), (4, zI x4)] [] M) ∧ ((¬ ((M 124 x4) = (-1))) → (-2147483648 ≤ x1 ∧ x1 ≤ 2147483647) ∧ ((x1 < (M 124 x4)) → zT g (z1 o) mX6_fitting (zQl (z1 o) q) 42 [(0, zA g 122), (1, zI x1), (2, zL x2), (4, zI x4)] [] M) ∧ ((¬ (x1 < (M 124 x4))) → (-2147483648 ≤ (M 123 x4) ∧ (M 123 x4) ≤ 2147483647) ∧ ((x1 < (M 123 x4)) → zT g (z1 o) mX6_fitting (zQl (z1 o) q) 7 [(0, zA g 122), (1, zI x1), (2, zL x2), (4, zI (x4 + 1))] [] M) ∧ ((¬ (x1 < (M 123 x4))) → zT g (z1 o) mX6_fitting (zQl (z1 o) q) 7 [(0, zA g 122), (1, zI x1), (2, zL x2), (4, zI (x4 + 1))] [] M))))) : zT g (z1 o) mX6_fitting (zQl (z1 o) q) 7 [(0, zA g 122), (1, zI x1), (2, zL x2), (4, zI x4)] [] M := by
  refine zr_iload 3 dX6_fitting_7 rfl ?_
  refine zr_aload_n 0 dX6_fitting_9 rfl ?_
  refine zt_geti 8 rfl dX6_fitting_10 fX6_25 rfl (by decide) ?_
  obtain ⟨c1, W⟩ := W
  obtain ⟨c2, W⟩ := W
  refine zr_icmp_ge (tgt := 77) dX6_fitting_13 (by decide) c1 c2 (fun h => ?_) (fun h => ?_)
  · have W := W.1 h
    refine zr_lload_n 2 dX6_fitting_77 rfl ?_
    exact zt_lret dX6_fitting_78 rfl W
  · have W := W.2 h
    refine zr_aload_n 0 dX6_fitting_16 rfl ?_
    refine zr_getr (b := 124) dX6_fitting_17 fX6_15 rfl rfl rfl (by decide) ?_
    refine zr_iload 3 dX6_fitting_20 rfl ?_
    obtain ⟨c3, W⟩ := W
    refine zr_iald dX6_fitting_22 rfl (by decide) c3 ?_
    refine zr_iconst dX6_fitting_23 ?_
    obtain ⟨c4, W⟩ := W
    refine zr_icmp_eq (tgt := 42) dX6_fitting_24 (by decide) c4 ⟨by decide, by decide⟩ (fun h => ?_) (fun h => ?_)
    · have W := W.1 h
      exact W
    · have W := W.2 h
      refine zr_aload_n 0 dX6_fitting_27 rfl ?_
      refine zr_getr (b := 124) dX6_fitting_28 fX6_15 rfl rfl rfl (by decide) ?_
      refine zr_iload 3 dX6_fitting_31 rfl ?_
      refine zr_iald dX6_fitting_33 rfl (by decide) c3 ?_
      refine zr_iload_n 1 dX6_fitting_34 rfl ?_
      obtain ⟨c5, W⟩ := W
      refine zr_icmp_gt (tgt := 42) dX6_fitting_35 (by decide) c4 c5 (fun h => ?_) (fun h => ?_)
      · have W := W.1 h
        exact W
      · have W := W.2 h
        refine zr_iconst dX6_fitting_38 ?_
        refine zr_goto (tgt := 43) dX6_fitting_39 (by decide) ?_
        refine zr_istore (l' := [(0, zA g 122), (1, zI x1), (2, zL x2), (4, zI x4), (5, zI 1)]) dX6_fitting_43 (by decide) [1, 2, 3, 4, 0] rfl ?_
        refine zr_aload_n 0 dX6_fitting_45 rfl ?_
        refine zr_getr (b := 123) dX6_fitting_46 fX6_9 rfl rfl rfl (by decide) ?_
        refine zr_iload 3 dX6_fitting_49 rfl ?_
        refine zr_iald dX6_fitting_51 rfl (by decide) c3 ?_
        refine zr_iload_n 1 dX6_fitting_52 rfl ?_
        obtain ⟨c6, W⟩ := W
        refine zr_icmp_gt (tgt := 71) dX6_fitting_53 (by decide) c6 c5 (fun h => ?_) (fun h => ?_)
        · have W := W.1 h
          refine zr_iinc (q := 3) (l' := [(0, zA g 122), (1, zI x1), (2, zL x2), (4, zI (x4 + 1))]) dX6_fitting_71 rfl (by decide) [1, 2, 3, 0] rfl ?_
          refine zr_goto (tgt := 7) dX6_fitting_74 (by decide) ?_
          exact W
        · have W := W.2 h
          refine zr_iload 4 dX6_fitting_56 rfl ?_
          refine zr_if_ne (tgt := 71) dX6_fitting_58 (by decide) ⟨by decide, by decide⟩ (fun h => ?_) (fun h => ?_)
          · skip
            refine zr_iinc (q := 3) (l' := [(0, zA g 122), (1, zI x1), (2, zL x2), (4, zI (x4 + 1))]) dX6_fitting_71 rfl (by decide) [1, 2, 3, 0] rfl ?_
            refine zr_goto (tgt := 7) dX6_fitting_74 (by decide) ?_
            exact W
          · exact absurd h (by decide)
set_option maxRecDepth 100000 in
theorem SX6_fitting_42 {g : zG} {o : Bool} {M : zM} {q : Int → zM → Prop} {x1 x2 x4 : Int} (W : (0 ≤ x4 ∧ x4 < 20) ∧ (-2147483648 ≤ (M 123 x4) ∧ (M 123 x4) ≤ 2147483647) ∧ (-2147483648 ≤ x1 ∧ x1 ≤ 2147483647) ∧ ((x1 < (M 123 x4)) → zT g (z1 o) mX6_fitting (zQl (z1 o) q) 7 [(0, zA g 122), (1, zI x1), (2, zL x2), (4, zI (x4 + 1))] [] M) ∧ ((¬ (x1 < (M 123 x4))) → ((0 : Int) ≤ x2 ∧ x2 ≤ (9223372036854775807 : Int)) ∧ ((0 : Int) ≤ (M 125 x4) ∧ (M 125 x4) ≤ (9223372036854775807 : Int)) ∧ zT g (z1 o) mX6_fitting (zQl (z1 o) q) 7 [(0, zA g 122), (1, zI x1), (2, zL ((Int.toNat x2 &&& Int.toNat (M 125 x4) : Nat) : Int)), (4, zI (x4 + 1))] [] M)) : zT g (z1 o) mX6_fitting (zQl (z1 o) q) 42 [(0, zA g 122), (1, zI x1), (2, zL x2), (4, zI x4)] [] M := by
  refine zr_iconst dX6_fitting_42 ?_
  refine zr_istore (l' := [(0, zA g 122), (1, zI x1), (2, zL x2), (4, zI x4), (5, zI 0)]) dX6_fitting_43 (by decide) [1, 2, 3, 4, 0] rfl ?_
  refine zr_aload_n 0 dX6_fitting_45 rfl ?_
  refine zr_getr (b := 123) dX6_fitting_46 fX6_9 rfl rfl rfl (by decide) ?_
  refine zr_iload 3 dX6_fitting_49 rfl ?_
  obtain ⟨c1, W⟩ := W
  refine zr_iald dX6_fitting_51 rfl (by decide) c1 ?_
  refine zr_iload_n 1 dX6_fitting_52 rfl ?_
  obtain ⟨c2, W⟩ := W
  obtain ⟨c3, W⟩ := W
  refine zr_icmp_gt (tgt := 71) dX6_fitting_53 (by decide) c2 c3 (fun h => ?_) (fun h => ?_)
  · have W := W.1 h
    refine zr_iinc (q := 3) (l' := [(0, zA g 122), (1, zI x1), (2, zL x2), (4, zI (x4 + 1))]) dX6_fitting_71 rfl (by decide) [1, 2, 3, 0] rfl ?_
    refine zr_goto (tgt := 7) dX6_fitting_74 (by decide) ?_
    exact W
  · have W := W.2 h
    refine zr_iload 4 dX6_fitting_56 rfl ?_
    refine zr_if_ne (tgt := 71) dX6_fitting_58 (by decide) ⟨by decide, by decide⟩ (fun h => ?_) (fun h => ?_)
    · exact absurd h (by decide)
    · skip
      refine zr_lload_n 2 dX6_fitting_61 rfl ?_
      refine zr_aload_n 0 dX6_fitting_62 rfl ?_
      refine zr_getr (b := 125) dX6_fitting_63 fX6_18 rfl rfl rfl (by decide) ?_
      refine zr_iload 3 dX6_fitting_66 rfl ?_
      refine zr_lald dX6_fitting_68 rfl (by decide) c1 ?_
      obtain ⟨c4, W⟩ := W
      obtain ⟨c5, W⟩ := W
      refine zr_land dX6_fitting_69 c4 c5 ?_
      refine zr_lstore_n (l' := [(0, zA g 122), (1, zI x1), (2, zL ((Int.toNat x2 &&& Int.toNat (M 125 x4) : Nat) : Int)), (4, zI x4)]) dX6_fitting_70 (by decide) [1, 2, 0, 3] rfl ?_
      refine zr_iinc (q := 3) (l' := [(0, zA g 122), (1, zI x1), (2, zL ((Int.toNat x2 &&& Int.toNat (M 125 x4) : Nat) : Int)), (4, zI (x4 + 1))]) dX6_fitting_71 rfl (by decide) [1, 2, 3, 0] rfl ?_
      refine zr_goto (tgt := 7) dX6_fitting_74 (by decide) ?_
      exact W
theorem dX6_survey_0 : decode cX6_survey 0 = .ok (.iconst 0, 1) := by decide +kernel
theorem dX6_survey_1 : decode cX6_survey 1 = .ok (.istore 4, 2) := by decide +kernel
theorem dX6_survey_3 : decode cX6_survey 3 = .ok (.iload 4, 2) := by decide +kernel
theorem dX6_survey_5 : decode cX6_survey 5 = .ok (.bipush 50, 2) := by decide +kernel
theorem dX6_survey_7 : decode cX6_survey 7 = .ok (.if_icmp .ge 67, 3) := by decide +kernel
theorem dX6_survey_10 : decode cX6_survey 10 = .ok (.lload_n 2, 1) := by decide +kernel
theorem dX6_survey_11 : decode cX6_survey 11 = .ok (.iload 4, 2) := by decide +kernel
theorem dX6_survey_13 : decode cX6_survey 13 = .ok (.invokestatic 61, 3) := by decide +kernel
theorem dX6_survey_16 : decode cX6_survey 16 = .ok (.ifCond .eq 52, 3) := by decide +kernel
theorem dX6_survey_19 : decode cX6_survey 19 = .ok (.aload_n 0, 1) := by decide +kernel
theorem dX6_survey_20 : decode cX6_survey 20 = .ok (.getfield 40, 3) := by decide +kernel
theorem dX6_survey_23 : decode cX6_survey 23 = .ok (.aload_n 0, 1) := by decide +kernel
theorem dX6_survey_24 : decode cX6_survey 24 = .ok (.getfield 33, 3) := by decide +kernel
theorem dX6_survey_27 : decode cX6_survey 27 = .ok (.iload 4, 2) := by decide +kernel
theorem dX6_survey_29 : decode cX6_survey 29 = .ok (.invokevirtual 44, 3) := by decide +kernel
theorem dX6_survey_32 : decode cX6_survey 32 = .ok (.aload_n 0, 1) := by decide +kernel
theorem dX6_survey_33 : decode cX6_survey 33 = .ok (.getfield 40, 3) := by decide +kernel
theorem dX6_survey_36 : decode cX6_survey 36 = .ok (.iload_n 1, 1) := by decide +kernel
theorem dX6_survey_37 : decode cX6_survey 37 = .ok (.invokevirtual 50, 3) := by decide +kernel
theorem dX6_survey_40 : decode cX6_survey 40 = .ok (.pop, 1) := by decide +kernel
theorem dX6_survey_41 : decode cX6_survey 41 = .ok (.aload_n 0, 1) := by decide +kernel
theorem dX6_survey_42 : decode cX6_survey 42 = .ok (.getfield 37, 3) := by decide +kernel
theorem dX6_survey_45 : decode cX6_survey 45 = .ok (.getfield 54, 3) := by decide +kernel
theorem dX6_survey_48 : decode cX6_survey 48 = .ok (.iconst 0, 1) := by decide +kernel
theorem dX6_survey_49 : decode cX6_survey 49 = .ok (.aload_n 0, 1) := by decide +kernel
theorem dX6_survey_50 : decode cX6_survey 50 = .ok (.getfield 22, 3) := by decide +kernel
theorem dX6_survey_53 : decode cX6_survey 53 = .ok (.iload 4, 2) := by decide +kernel
theorem dX6_survey_55 : decode cX6_survey 55 = .ok (.bipush 96, 2) := by decide +kernel
theorem dX6_survey_57 : decode cX6_survey 57 = .ok (.imul, 1) := by decide +kernel
theorem dX6_survey_58 : decode cX6_survey 58 = .ok (.aload_n 0, 1) := by decide +kernel
theorem dX6_survey_59 : decode cX6_survey 59 = .ok (.getfield 29, 3) := by decide +kernel
theorem dX6_survey_62 : decode cX6_survey 62 = .ok (.getfield 65, 3) := by decide +kernel
theorem dX6_survey_65 : decode cX6_survey 65 = .ok (.invokestatic 70, 3) := by decide +kernel
theorem dX6_survey_68 : decode cX6_survey 68 = .ok (.iinc 4 1, 3) := by decide +kernel
theorem dX6_survey_71 : decode cX6_survey 71 = .ok (.goto (-68), 3) := by decide +kernel
theorem dX6_survey_74 : decode cX6_survey 74 = .ok (.return_, 1) := by decide +kernel
set_option maxRecDepth 100000 in
theorem SX6_survey_0 {g : zG} {o : Bool} {M : zM} {q : zM → Prop} {x1 x2 : Int} (W : zT g (z1 o) mX6_survey (zQv (z1 o) q) 3 [(0, zA g 122), (1, zI x1), (2, zL x2), (4, zI 0)] [] M) : zT g (z1 o) mX6_survey (zQv (z1 o) q) 0 [(0, zA g 122), (1, zI x1), (2, zL x2)] [] M := by
  refine zr_iconst dX6_survey_0 ?_
  refine zr_istore (l' := [(0, zA g 122), (1, zI x1), (2, zL x2), (4, zI 0)]) dX6_survey_1 (by decide) [1, 2, 3, 0] rfl ?_
  exact W
set_option maxRecDepth 100000 in
theorem SX6_survey_3 {g : zG} {o : Bool} {M : zM} {q : zM → Prop} {x1 x2 x4 : Int} (W : (-2147483648 ≤ x4 ∧ x4 ≤ 2147483647) ∧ ((50 ≤ x4) → q M) ∧ ((¬ (50 ≤ x4)) → (0 ≤ x2 ∧ x2 < 1125899906842624) ∧ (0 ≤ x4 ∧ x4 < 50) ∧ ((¬ (hld x2 x4)) → zT g (z1 o) mX6_survey (zQv (z1 o) q) 3 [(0, zA g 122), (1, zI x1), (2, zL x2), (4, zI (x4 + 1))] [] M) ∧ ((hld x2 x4) → ∃ q7 : zM → Prop, zKv g (z1 o) mX7_startFrom [zA g 34, zA g 20, zI x4] M q7 ∧ ∀ M9 : zM, q7 M9 → ∃ q12 : Int → zM → Prop, zKi g (z1 o) mX7_blowOn [zA g 34, zI x1] M9 q12 ∧ ∀ (r13 : Int) (M14 : zM), q12 r13 M14 → (0 ≤ (x4 * 96)) ∧ (0 ≤ (M14 14 2)) ∧ (0 + (M14 14 2) ≤ 96) ∧ ((x4 * 96) + (M14 14 2) ≤ 4800) ∧ zT g (z1 o) mX6_survey (zQv (z1 o) q) 3 [(0, zA g 122), (1, zI x1), (2, zL x2), (4, zI (x4 + 1))] [] (zrw M14 126 (zcpy (M14 29) (M14 126) 0 (x4 * 96) (M14 14 2)))))) : zT g (z1 o) mX6_survey (zQv (z1 o) q) 3 [(0, zA g 122), (1, zI x1), (2, zL x2), (4, zI x4)] [] M := by
  refine zr_iload 3 dX6_survey_3 rfl ?_
  refine zr_bipush dX6_survey_5 (by decide) ?_
  obtain ⟨c1, W⟩ := W
  refine zr_icmp_ge (tgt := 74) dX6_survey_7 (by decide) c1 ⟨by decide, by decide⟩ (fun h => ?_) (fun h => ?_)
  · have W := W.1 h
    exact zt_ret dX6_survey_74 rfl W
  · have W := W.2 h
    refine zr_lload_n 2 dX6_survey_10 rfl ?_
    refine zr_iload 3 dX6_survey_11 rfl ?_
    obtain ⟨c2, W⟩ := W
    obtain ⟨c3, W⟩ := W
    refine zt_callSi (As := [zL x2, zI x4]) (rest := []) dX6_survey_13 kX6_survey_61 rfl rfl (Nat.le_of_ble_eq_true rfl) (c_holds c2 c3) (fun r4 N6 h5 => ?_)
    rw [h5.1, h5.2]
    refine zt_ifeq_b (tgt := 68) dX6_survey_16 (by decide) (fun h => ?_) (fun h => ?_)
    · have W := W.1 h
      refine zr_iinc (q := 3) (l' := [(0, zA g 122), (1, zI x1), (2, zL x2), (4, zI (x4 + 1))]) dX6_survey_68 rfl (by decide) [1, 2, 3, 0] rfl ?_
      refine zr_goto (tgt := 3) dX6_survey_71 (by decide) ?_
      exact W
    · have W := W.2 h
      refine zr_aload_n 0 dX6_survey_19 rfl ?_
      refine zr_getr (b := 34) dX6_survey_20 fX6_40 rfl rfl rfl (by decide) ?_
      refine zr_aload_n 0 dX6_survey_23 rfl ?_
      refine zr_getr (b := 20) dX6_survey_24 fX6_33 rfl rfl rfl (by decide) ?_
      refine zr_iload 3 dX6_survey_27 rfl ?_
      obtain ⟨q7, k11, W⟩ := W
      refine zt_callVv (As := [zA g 20, zI x4]) (rest := []) dX6_survey_29 kX6_survey_44 rfl rfl rfl rfl (Nat.le_of_ble_eq_true rfl) k11 (fun M9 h10 => ?_)
      have W := W M9 h10
      refine zr_aload_n 0 dX6_survey_32 rfl ?_
      refine zr_getr (b := 34) dX6_survey_33 fX6_40 rfl rfl rfl (by decide) ?_
      refine zr_iload_n 1 dX6_survey_36 rfl ?_
      obtain ⟨q12, k16, W⟩ := W
      refine zt_callVi (As := [zI x1]) (rest := []) dX6_survey_37 kX6_survey_50 rfl rfl rfl rfl (Nat.le_of_ble_eq_true rfl) k16 (fun r13 M14 h15 => ?_)
      have W := W r13 M14 h15
      refine zr_pop dX6_survey_40 rfl ?_
      refine zr_aload_n 0 dX6_survey_41 rfl ?_
      refine zr_getr (b := 28) dX6_survey_42 fX6_37 rfl rfl rfl (by decide) ?_
      refine zr_getr (b := 29) dX6_survey_45 fX6_54 rfl rfl rfl (by decide) ?_
      refine zr_iconst dX6_survey_48 ?_
      refine zr_aload_n 0 dX6_survey_49 rfl ?_
      refine zr_getr (b := 126) dX6_survey_50 fX6_22 rfl rfl rfl (by decide) ?_
      refine zr_iload 3 dX6_survey_53 rfl ?_
      refine zr_bipush dX6_survey_55 (by decide) ?_
      refine zr_imul dX6_survey_57 ?_
      refine zr_aload_n 0 dX6_survey_58 rfl ?_
      refine zr_getr (b := 14) dX6_survey_59 fX6_29 rfl rfl rfl (by decide) ?_
      refine zt_geti 2 rfl dX6_survey_62 fX6_65 rfl (by decide) ?_
      obtain ⟨c17, W⟩ := W
      obtain ⟨c18, W⟩ := W
      obtain ⟨c19, W⟩ := W
      obtain ⟨c20, W⟩ := W
      refine zr_copy dX6_survey_65 kX6_survey_70 rfl rfl (by decide) c17 c18 c19 c20 ⟨by decide, by decide⟩ (Nat.le_of_ble_eq_true rfl) ?_
      refine zr_iinc (q := 3) (l' := [(0, zA g 122), (1, zI x1), (2, zL x2), (4, zI (x4 + 1))]) dX6_survey_68 rfl (by decide) [1, 2, 3, 0] rfl ?_
      refine zr_goto (tgt := 3) dX6_survey_71 (by decide) ?_
      exact W
theorem dX6_mostAlike_0 : decode cX6_mostAlike 0 = .ok (.iconst 0, 1) := by decide +kernel
theorem dX6_mostAlike_1 : decode cX6_mostAlike 1 = .ok (.istore 4, 2) := by decide +kernel
theorem dX6_mostAlike_3 : decode cX6_mostAlike 3 = .ok (.iconst 0, 1) := by decide +kernel
theorem dX6_mostAlike_4 : decode cX6_mostAlike 4 = .ok (.istore 5, 2) := by decide +kernel
theorem dX6_mostAlike_6 : decode cX6_mostAlike 6 = .ok (.iload 5, 2) := by decide +kernel
theorem dX6_mostAlike_8 : decode cX6_mostAlike 8 = .ok (.bipush 50, 2) := by decide +kernel
theorem dX6_mostAlike_10 : decode cX6_mostAlike 10 = .ok (.if_icmp .ge 43, 3) := by decide +kernel
theorem dX6_mostAlike_13 : decode cX6_mostAlike 13 = .ok (.lload_n 2, 1) := by decide +kernel
theorem dX6_mostAlike_14 : decode cX6_mostAlike 14 = .ok (.iload 5, 2) := by decide +kernel
theorem dX6_mostAlike_16 : decode cX6_mostAlike 16 = .ok (.invokestatic 61, 3) := by decide +kernel
theorem dX6_mostAlike_19 : decode cX6_mostAlike 19 = .ok (.ifCond .eq 28, 3) := by decide +kernel
theorem dX6_mostAlike_22 : decode cX6_mostAlike 22 = .ok (.iload 4, 2) := by decide +kernel
theorem dX6_mostAlike_24 : decode cX6_mostAlike 24 = .ok (.aload_n 0, 1) := by decide +kernel
theorem dX6_mostAlike_25 : decode cX6_mostAlike 25 = .ok (.iload_n 1, 1) := by decide +kernel
theorem dX6_mostAlike_26 : decode cX6_mostAlike 26 = .ok (.aload_n 0, 1) := by decide +kernel
theorem dX6_mostAlike_27 : decode cX6_mostAlike 27 = .ok (.getfield 22, 3) := by decide +kernel
theorem dX6_mostAlike_30 : decode cX6_mostAlike 30 = .ok (.iload 5, 2) := by decide +kernel
theorem dX6_mostAlike_32 : decode cX6_mostAlike 32 = .ok (.bipush 96, 2) := by decide +kernel
theorem dX6_mostAlike_34 : decode cX6_mostAlike 34 = .ok (.imul, 1) := by decide +kernel
theorem dX6_mostAlike_35 : decode cX6_mostAlike 35 = .ok (.iload_n 1, 1) := by decide +kernel
theorem dX6_mostAlike_36 : decode cX6_mostAlike 36 = .ok (.iadd, 1) := by decide +kernel
theorem dX6_mostAlike_37 : decode cX6_mostAlike 37 = .ok (.iaload, 1) := by decide +kernel
theorem dX6_mostAlike_38 : decode cX6_mostAlike 38 = .ok (.lload_n 2, 1) := by decide +kernel
theorem dX6_mostAlike_39 : decode cX6_mostAlike 39 = .ok (.invokevirtual 76, 3) := by decide +kernel
theorem dX6_mostAlike_42 : decode cX6_mostAlike 42 = .ok (.invokestatic 80, 3) := by decide +kernel
theorem dX6_mostAlike_45 : decode cX6_mostAlike 45 = .ok (.istore 4, 2) := by decide +kernel
theorem dX6_mostAlike_47 : decode cX6_mostAlike 47 = .ok (.iinc 5 1, 3) := by decide +kernel
theorem dX6_mostAlike_50 : decode cX6_mostAlike 50 = .ok (.goto (-44), 3) := by decide +kernel
theorem dX6_mostAlike_53 : decode cX6_mostAlike 53 = .ok (.iload 4, 2) := by decide +kernel
theorem dX6_mostAlike_55 : decode cX6_mostAlike 55 = .ok (.ireturn, 1) := by decide +kernel
set_option maxRecDepth 100000 in
theorem SX6_mostAlike_0 {g : zG} {o : Bool} {M : zM} {q : Int → zM → Prop} {x1 x2 : Int} (W : zT g (z1 o) mX6_mostAlike (zQi (z1 o) q) 6 [(0, zA g 122), (1, zI x1), (2, zL x2), (4, zI 0), (5, zI 0)] [] M) : zT g (z1 o) mX6_mostAlike (zQi (z1 o) q) 0 [(0, zA g 122), (1, zI x1), (2, zL x2)] [] M := by
  refine zr_iconst dX6_mostAlike_0 ?_
  refine zr_istore (l' := [(0, zA g 122), (1, zI x1), (2, zL x2), (4, zI 0)]) dX6_mostAlike_1 (by decide) [1, 2, 3, 0] rfl ?_
  refine zr_iconst dX6_mostAlike_3 ?_
  refine zr_istore (l' := [(0, zA g 122), (1, zI x1), (2, zL x2), (4, zI 0), (5, zI 0)]) dX6_mostAlike_4 (by decide) [1, 2, 3, 4, 0] rfl ?_
  exact W
set_option maxRecDepth 100000 in
theorem SX6_mostAlike_6 {g : zG} {o : Bool} {M : zM} {q : Int → zM → Prop} {x1 x2 x4 x5 : Int} (W : (-2147483648 ≤ x5 ∧ x5 ≤ 2147483647) ∧ ((50 ≤ x5) → q x4 M) ∧ ((¬ (50 ≤ x5)) → (0 ≤ x2 ∧ x2 < 1125899906842624) ∧ (0 ≤ x5 ∧ x5 < 50) ∧ ((¬ (hld x2 x5)) → zT g (z1 o) mX6_mostAlike (zQi (z1 o) q) 6 [(0, zA g 122), (1, zI x1), (2, zL x2), (4, zI x4), (5, zI (x5 + 1))] [] M) ∧ ((hld x2 x5) → (0 ≤ ((x5 * 96) + x1) ∧ ((x5 * 96) + x1) < 4800) ∧ ∃ q8 : Int → zM → Prop, zKi g (z1 o) mX6_alike [zA g 122, zI x1, zI (M 126 ((x5 * 96) + x1)), zL x2] M q8 ∧ ∀ (r9 : Int) (M10 : zM), q8 r9 M10 → (-2147483648 ≤ x4 ∧ x4 ≤ 2147483647) ∧ (-2147483648 ≤ r9 ∧ r9 ≤ 2147483647) ∧ zT g (z1 o) mX6_mostAlike (zQi (z1 o) q) 6 [(0, zA g 122), (1, zI x1), (2, zL x2), (4, zI (max x4 r9)), (5, zI (x5 + 1))] [] M10))) : zT g (z1 o) mX6_mostAlike (zQi (z1 o) q) 6 [(0, zA g 122), (1, zI x1), (2, zL x2), (4, zI x4), (5, zI x5)] [] M := by
  refine zr_iload 4 dX6_mostAlike_6 rfl ?_
  refine zr_bipush dX6_mostAlike_8 (by decide) ?_
  obtain ⟨c1, W⟩ := W
  refine zr_icmp_ge (tgt := 53) dX6_mostAlike_10 (by decide) c1 ⟨by decide, by decide⟩ (fun h => ?_) (fun h => ?_)
  · have W := W.1 h
    refine zr_iload 3 dX6_mostAlike_53 rfl ?_
    exact zt_iret dX6_mostAlike_55 rfl W
  · have W := W.2 h
    refine zr_lload_n 2 dX6_mostAlike_13 rfl ?_
    refine zr_iload 4 dX6_mostAlike_14 rfl ?_
    obtain ⟨c2, W⟩ := W
    obtain ⟨c3, W⟩ := W
    refine zt_callSi (As := [zL x2, zI x5]) (rest := []) dX6_mostAlike_16 kX6_mostAlike_61 rfl rfl (Nat.le_of_ble_eq_true rfl) (c_holds c2 c3) (fun r4 N6 h5 => ?_)
    rw [h5.1, h5.2]
    refine zt_ifeq_b (tgt := 47) dX6_mostAlike_19 (by decide) (fun h => ?_) (fun h => ?_)
    · have W := W.1 h
      refine zr_iinc (q := 4) (l' := [(0, zA g 122), (1, zI x1), (2, zL x2), (4, zI x4), (5, zI (x5 + 1))]) dX6_mostAlike_47 rfl (by decide) [1, 2, 3, 4, 0] rfl ?_
      refine zr_goto (tgt := 6) dX6_mostAlike_50 (by decide) ?_
      exact W
    · have W := W.2 h
      refine zr_iload 3 dX6_mostAlike_22 rfl ?_
      refine zr_aload_n 0 dX6_mostAlike_24 rfl ?_
      refine zr_iload_n 1 dX6_mostAlike_25 rfl ?_
      refine zr_aload_n 0 dX6_mostAlike_26 rfl ?_
      refine zr_getr (b := 126) dX6_mostAlike_27 fX6_22 rfl rfl rfl (by decide) ?_
      refine zr_iload 4 dX6_mostAlike_30 rfl ?_
      refine zr_bipush dX6_mostAlike_32 (by decide) ?_
      refine zr_imul dX6_mostAlike_34 ?_
      refine zr_iload_n 1 dX6_mostAlike_35 rfl ?_
      refine zr_iadd dX6_mostAlike_36 ?_
      obtain ⟨c7, W⟩ := W
      refine zr_iald dX6_mostAlike_37 rfl (by decide) c7 ?_
      refine zr_lload_n 2 dX6_mostAlike_38 rfl ?_
      obtain ⟨q8, k12, W⟩ := W
      refine zt_callVi (As := [zI x1, zI (M 126 ((x5 * 96) + x1)), zL x2]) (rest := [zI x4]) dX6_mostAlike_39 kX6_mostAlike_76 rfl rfl rfl rfl (Nat.le_of_ble_eq_true rfl) k12 (fun r9 M10 h11 => ?_)
      have W := W r9 M10 h11
      obtain ⟨c13, W⟩ := W
      obtain ⟨c14, W⟩ := W
      refine zr_max dX6_mostAlike_42 kX6_mostAlike_80 c13 c14 (Nat.le_of_ble_eq_true rfl) ⟨Nat.le_refl _, Nat.le_refl _⟩ ?_
      refine zr_istore (l' := [(0, zA g 122), (1, zI x1), (2, zL x2), (4, zI (max x4 r9)), (5, zI x5)]) dX6_mostAlike_45 (by decide) [1, 2, 3, 0, 4] rfl ?_
      refine zr_iinc (q := 4) (l' := [(0, zA g 122), (1, zI x1), (2, zL x2), (4, zI (max x4 r9)), (5, zI (x5 + 1))]) dX6_mostAlike_47 rfl (by decide) [1, 2, 3, 4, 0] rfl ?_
      refine zr_goto (tgt := 6) dX6_mostAlike_50 (by decide) ?_
      exact W
theorem dX6_alike_0 : decode cX6_alike 0 = .ok (.iconst 0, 1) := by decide +kernel
theorem dX6_alike_1 : decode cX6_alike 1 = .ok (.istore 5, 2) := by decide +kernel
theorem dX6_alike_3 : decode cX6_alike 3 = .ok (.iconst 0, 1) := by decide +kernel
theorem dX6_alike_4 : decode cX6_alike 4 = .ok (.istore 6, 2) := by decide +kernel
theorem dX6_alike_6 : decode cX6_alike 6 = .ok (.iload 6, 2) := by decide +kernel
theorem dX6_alike_8 : decode cX6_alike 8 = .ok (.bipush 50, 2) := by decide +kernel
theorem dX6_alike_10 : decode cX6_alike 10 = .ok (.if_icmp .ge 37, 3) := by decide +kernel
theorem dX6_alike_13 : decode cX6_alike 13 = .ok (.lload_n 3, 1) := by decide +kernel
theorem dX6_alike_14 : decode cX6_alike 14 = .ok (.iload 6, 2) := by decide +kernel
theorem dX6_alike_16 : decode cX6_alike 16 = .ok (.invokestatic 61, 3) := by decide +kernel
theorem dX6_alike_19 : decode cX6_alike 19 = .ok (.ifCond .eq 22, 3) := by decide +kernel
theorem dX6_alike_22 : decode cX6_alike 22 = .ok (.aload_n 0, 1) := by decide +kernel
theorem dX6_alike_23 : decode cX6_alike 23 = .ok (.getfield 22, 3) := by decide +kernel
theorem dX6_alike_26 : decode cX6_alike 26 = .ok (.iload 6, 2) := by decide +kernel
theorem dX6_alike_28 : decode cX6_alike 28 = .ok (.bipush 96, 2) := by decide +kernel
theorem dX6_alike_30 : decode cX6_alike 30 = .ok (.imul, 1) := by decide +kernel
theorem dX6_alike_31 : decode cX6_alike 31 = .ok (.iload_n 1, 1) := by decide +kernel
theorem dX6_alike_32 : decode cX6_alike 32 = .ok (.iadd, 1) := by decide +kernel
theorem dX6_alike_33 : decode cX6_alike 33 = .ok (.iaload, 1) := by decide +kernel
theorem dX6_alike_34 : decode cX6_alike 34 = .ok (.iload_n 2, 1) := by decide +kernel
theorem dX6_alike_35 : decode cX6_alike 35 = .ok (.if_icmp .ne 6, 3) := by decide +kernel
theorem dX6_alike_38 : decode cX6_alike 38 = .ok (.iinc 5 1, 3) := by decide +kernel
theorem dX6_alike_41 : decode cX6_alike 41 = .ok (.iinc 6 1, 3) := by decide +kernel
theorem dX6_alike_44 : decode cX6_alike 44 = .ok (.goto (-38), 3) := by decide +kernel
theorem dX6_alike_47 : decode cX6_alike 47 = .ok (.iload 5, 2) := by decide +kernel
theorem dX6_alike_49 : decode cX6_alike 49 = .ok (.ireturn, 1) := by decide +kernel
set_option maxRecDepth 100000 in
theorem SX6_alike_0 {g : zG} {o : Bool} {M : zM} {q : Int → zM → Prop} {x1 x2 x3 : Int} (W : zT g (z1 o) mX6_alike (zQi (z1 o) q) 6 [(0, zA g 122), (1, zI x1), (2, zI x2), (3, zL x3), (5, zI 0), (6, zI 0)] [] M) : zT g (z1 o) mX6_alike (zQi (z1 o) q) 0 [(0, zA g 122), (1, zI x1), (2, zI x2), (3, zL x3)] [] M := by
  refine zr_iconst dX6_alike_0 ?_
  refine zr_istore (l' := [(0, zA g 122), (1, zI x1), (2, zI x2), (3, zL x3), (5, zI 0)]) dX6_alike_1 (by decide) [1, 2, 3, 4, 0] rfl ?_
  refine zr_iconst dX6_alike_3 ?_
  refine zr_istore (l' := [(0, zA g 122), (1, zI x1), (2, zI x2), (3, zL x3), (5, zI 0), (6, zI 0)]) dX6_alike_4 (by decide) [1, 2, 3, 4, 5, 0] rfl ?_
  exact W
set_option maxRecDepth 100000 in
theorem SX6_alike_6 {g : zG} {o : Bool} {M : zM} {q : Int → zM → Prop} {x1 x2 x3 x5 x6 : Int} (W : (-2147483648 ≤ x6 ∧ x6 ≤ 2147483647) ∧ ((50 ≤ x6) → q x5 M) ∧ ((¬ (50 ≤ x6)) → (0 ≤ x3 ∧ x3 < 1125899906842624) ∧ (0 ≤ x6 ∧ x6 < 50) ∧ ((¬ (hld x3 x6)) → zT g (z1 o) mX6_alike (zQi (z1 o) q) 6 [(0, zA g 122), (1, zI x1), (2, zI x2), (3, zL x3), (5, zI x5), (6, zI (x6 + 1))] [] M) ∧ ((hld x3 x6) → (0 ≤ ((x6 * 96) + x1) ∧ ((x6 * 96) + x1) < 4800) ∧ (-2147483648 ≤ (M 126 ((x6 * 96) + x1)) ∧ (M 126 ((x6 * 96) + x1)) ≤ 2147483647) ∧ (-2147483648 ≤ x2 ∧ x2 ≤ 2147483647) ∧ (((M 126 ((x6 * 96) + x1)) ≠ x2) → zT g (z1 o) mX6_alike (zQi (z1 o) q) 6 [(0, zA g 122), (1, zI x1), (2, zI x2), (3, zL x3), (5, zI x5), (6, zI (x6 + 1))] [] M) ∧ (((M 126 ((x6 * 96) + x1)) = x2) → zT g (z1 o) mX6_alike (zQi (z1 o) q) 6 [(0, zA g 122), (1, zI x1), (2, zI x2), (3, zL x3), (5, zI (x5 + 1)), (6, zI (x6 + 1))] [] M)))) : zT g (z1 o) mX6_alike (zQi (z1 o) q) 6 [(0, zA g 122), (1, zI x1), (2, zI x2), (3, zL x3), (5, zI x5), (6, zI x6)] [] M := by
  refine zr_iload 5 dX6_alike_6 rfl ?_
  refine zr_bipush dX6_alike_8 (by decide) ?_
  obtain ⟨c1, W⟩ := W
  refine zr_icmp_ge (tgt := 47) dX6_alike_10 (by decide) c1 ⟨by decide, by decide⟩ (fun h => ?_) (fun h => ?_)
  · have W := W.1 h
    refine zr_iload 4 dX6_alike_47 rfl ?_
    exact zt_iret dX6_alike_49 rfl W
  · have W := W.2 h
    refine zr_lload_n 3 dX6_alike_13 rfl ?_
    refine zr_iload 5 dX6_alike_14 rfl ?_
    obtain ⟨c2, W⟩ := W
    obtain ⟨c3, W⟩ := W
    refine zt_callSi (As := [zL x3, zI x6]) (rest := []) dX6_alike_16 kX6_alike_61 rfl rfl (Nat.le_of_ble_eq_true rfl) (c_holds c2 c3) (fun r4 N6 h5 => ?_)
    rw [h5.1, h5.2]
    refine zt_ifeq_b (tgt := 41) dX6_alike_19 (by decide) (fun h => ?_) (fun h => ?_)
    · have W := W.1 h
      refine zr_iinc (q := 5) (l' := [(0, zA g 122), (1, zI x1), (2, zI x2), (3, zL x3), (5, zI x5), (6, zI (x6 + 1))]) dX6_alike_41 rfl (by decide) [1, 2, 3, 4, 5, 0] rfl ?_
      refine zr_goto (tgt := 6) dX6_alike_44 (by decide) ?_
      exact W
    · have W := W.2 h
      refine zr_aload_n 0 dX6_alike_22 rfl ?_
      refine zr_getr (b := 126) dX6_alike_23 fX6_22 rfl rfl rfl (by decide) ?_
      refine zr_iload 5 dX6_alike_26 rfl ?_
      refine zr_bipush dX6_alike_28 (by decide) ?_
      refine zr_imul dX6_alike_30 ?_
      refine zr_iload_n 1 dX6_alike_31 rfl ?_
      refine zr_iadd dX6_alike_32 ?_
      obtain ⟨c7, W⟩ := W
      refine zr_iald dX6_alike_33 rfl (by decide) c7 ?_
      refine zr_iload_n 2 dX6_alike_34 rfl ?_
      obtain ⟨c8, W⟩ := W
      obtain ⟨c9, W⟩ := W
      refine zr_icmp_ne (tgt := 41) dX6_alike_35 (by decide) c8 c9 (fun h => ?_) (fun h => ?_)
      · have W := W.1 h
        refine zr_iinc (q := 5) (l' := [(0, zA g 122), (1, zI x1), (2, zI x2), (3, zL x3), (5, zI x5), (6, zI (x6 + 1))]) dX6_alike_41 rfl (by decide) [1, 2, 3, 4, 5, 0] rfl ?_
        refine zr_goto (tgt := 6) dX6_alike_44 (by decide) ?_
        exact W
      · have W := W.2 h
        refine zr_iinc (q := 4) (l' := [(0, zA g 122), (1, zI x1), (2, zI x2), (3, zL x3), (5, zI (x5 + 1)), (6, zI x6)]) dX6_alike_38 rfl (by decide) [1, 2, 3, 4, 0, 5] rfl ?_
        refine zr_iinc (q := 5) (l' := [(0, zA g 122), (1, zI x1), (2, zI x2), (3, zL x3), (5, zI (x5 + 1)), (6, zI (x6 + 1))]) dX6_alike_41 rfl (by decide) [1, 2, 3, 4, 5, 0] rfl ?_
        refine zr_goto (tgt := 6) dX6_alike_44 (by decide) ?_
        exact W
theorem dX9_seen_0 : decode cX9_seen 0 = .ok (.iload_n 1, 1) := by decide +kernel
theorem dX9_seen_1 : decode cX9_seen 1 = .ok (.ifCond .lt 37, 3) := by decide +kernel
theorem dX9_seen_4 : decode cX9_seen 4 = .ok (.iload_n 1, 1) := by decide +kernel
theorem dX9_seen_5 : decode cX9_seen 5 = .ok (.sipush 200, 3) := by decide +kernel
theorem dX9_seen_8 : decode cX9_seen 8 = .ok (.if_icmp .gt 30, 3) := by decide +kernel
theorem dX9_seen_11 : decode cX9_seen 11 = .ok (.aload_n 0, 1) := by decide +kernel
theorem dX9_seen_12 : decode cX9_seen 12 = .ok (.getfield 28, 3) := by decide +kernel
theorem dX9_seen_15 : decode cX9_seen 15 = .ok (.iload_n 2, 1) := by decide +kernel
theorem dX9_seen_16 : decode cX9_seen 16 = .ok (.invokevirtual 148, 3) := by decide +kernel
theorem dX9_seen_19 : decode cX9_seen 19 = .ok (.ifCond .eq 19, 3) := by decide +kernel
theorem dX9_seen_22 : decode cX9_seen 22 = .ok (.iload_n 3, 1) := by decide +kernel
theorem dX9_seen_23 : decode cX9_seen 23 = .ok (.ifCond .lt 15, 3) := by decide +kernel
theorem dX9_seen_26 : decode cX9_seen 26 = .ok (.aload_n 0, 1) := by decide +kernel
theorem dX9_seen_27 : decode cX9_seen 27 = .ok (.getfield 69, 3) := by decide +kernel
theorem dX9_seen_30 : decode cX9_seen 30 = .ok (.getfield 145, 3) := by decide +kernel
theorem dX9_seen_33 : decode cX9_seen 33 = .ok (.bipush 20, 2) := by decide +kernel
theorem dX9_seen_35 : decode cX9_seen 35 = .ok (.if_icmp .lt 5, 3) := by decide +kernel
theorem dX9_seen_38 : decode cX9_seen 38 = .ok (.iconst (-1), 1) := by decide +kernel
theorem dX9_seen_39 : decode cX9_seen 39 = .ok (.ireturn, 1) := by decide +kernel
theorem dX9_seen_40 : decode cX9_seen 40 = .ok (.aload_n 0, 1) := by decide +kernel
theorem dX9_seen_41 : decode cX9_seen 41 = .ok (.getfield 69, 3) := by decide +kernel
theorem dX9_seen_44 : decode cX9_seen 44 = .ok (.aload_n 0, 1) := by decide +kernel
theorem dX9_seen_45 : decode cX9_seen 45 = .ok (.getfield 69, 3) := by decide +kernel
theorem dX9_seen_48 : decode cX9_seen 48 = .ok (.iload_n 1, 1) := by decide +kernel
theorem dX9_seen_49 : decode cX9_seen 49 = .ok (.iload_n 2, 1) := by decide +kernel
theorem dX9_seen_50 : decode cX9_seen 50 = .ok (.iload_n 3, 1) := by decide +kernel
theorem dX9_seen_51 : decode cX9_seen 51 = .ok (.iload 4, 2) := by decide +kernel
theorem dX9_seen_53 : decode cX9_seen 53 = .ok (.invokevirtual 357, 3) := by decide +kernel
theorem dX9_seen_56 : decode cX9_seen 56 = .ok (.aload_n 0, 1) := by decide +kernel
theorem dX9_seen_57 : decode cX9_seen 57 = .ok (.getfield 97, 3) := by decide +kernel
theorem dX9_seen_60 : decode cX9_seen 60 = .ok (.invokevirtual 361, 3) := by decide +kernel
theorem dX9_seen_63 : decode cX9_seen 63 = .ok (.ireturn, 1) := by decide +kernel
set_option maxRecDepth 100000 in
theorem SX9_seen_0 {g : zG} {o : Bool} {C R : Int} {M : zM} {q : Int → zM → Prop} {x1 x2 x3 x4 : Int} (W : (-2147483648 ≤ x1 ∧ x1 ≤ 2147483647) ∧ ((x1 < 0) → q (-1) M) ∧ ((¬ (x1 < 0)) → ((200 < x1) → q (-1) M) ∧ ((¬ (200 < x1)) → (-2147483648 ≤ x2 ∧ x2 ≤ 2147483647) ∧ (zLand M C R) ∧ ((¬ (0 ≤ x2 ∧ x2 < C * R)) → q (-1) M) ∧ ((0 ≤ x2 ∧ x2 < C * R) → (-2147483648 ≤ x3 ∧ x3 ≤ 2147483647) ∧ ((x3 < 0) → q (-1) M) ∧ ((¬ (x3 < 0)) → (-2147483648 ≤ (M 122 8) ∧ (M 122 8) ≤ 2147483647) ∧ (((M 122 8) < 20) → ∃ q9 : Int → zM → Prop, zKl g (z1 o) mX6_seedsFor [zA g 122, zI x1, zI x2, zI x3, zI x4] M q9 ∧ ∀ (r10 : Int) (M11 : zM), q9 r10 M11 → ∃ q14 : Int → zM → Prop, zKi g (z1 o) mX6_tell [zA g 122, zL r10, zI (M11 1 15)] M11 q14 ∧ ∀ (r15 : Int) (M16 : zM), q14 r15 M16 → q r15 M16) ∧ ((¬ ((M 122 8) < 20)) → q (-1) M)))))) : zT g (z1 o) mX9_seen (zQi (z1 o) q) 0 [(0, zA g 1), (1, zI x1), (2, zI x2), (3, zI x3), (4, zI x4)] [] M := by
  refine zr_iload_n 1 dX9_seen_0 rfl ?_
  obtain ⟨c1, W⟩ := W
  refine zr_if_lt (tgt := 38) dX9_seen_1 (by decide) c1 (fun h => ?_) (fun h => ?_)
  · have W := W.1 h
    refine zr_iconst dX9_seen_38 ?_
    exact zt_iret dX9_seen_39 rfl W
  · have W := W.2 h
    refine zr_iload_n 1 dX9_seen_4 rfl ?_
    refine zr_sipush dX9_seen_5 (by decide) ?_
    refine zr_icmp_gt (tgt := 38) dX9_seen_8 (by decide) c1 ⟨by decide, by decide⟩ (fun h => ?_) (fun h => ?_)
    · have W := W.1 h
      refine zr_iconst dX9_seen_38 ?_
      exact zt_iret dX9_seen_39 rfl W
    · have W := W.2 h
      refine zr_aload_n 0 dX9_seen_11 rfl ?_
      refine zr_getr (b := 14) dX9_seen_12 fX9_28 rfl rfl rfl (by decide) ?_
      refine zr_iload_n 2 dX9_seen_15 rfl ?_
      obtain ⟨c2, W⟩ := W
      obtain ⟨c3, W⟩ := W
      refine zt_callVi (As := [zI x2]) (rest := []) dX9_seen_16 kX9_seen_148 rfl rfl rfl rfl (Nat.le_of_ble_eq_true rfl) (c_has c2 c3) (fun r4 N6 h5 => ?_)
      rw [h5.1, h5.2]
      refine zt_ifeq_b (tgt := 38) dX9_seen_19 (by decide) (fun h => ?_) (fun h => ?_)
      · have W := W.1 h
        refine zr_iconst dX9_seen_38 ?_
        exact zt_iret dX9_seen_39 rfl W
      · have W := W.2 h
        refine zr_iload_n 3 dX9_seen_22 rfl ?_
        obtain ⟨c7, W⟩ := W
        refine zr_if_lt (tgt := 38) dX9_seen_23 (by decide) c7 (fun h => ?_) (fun h => ?_)
        · have W := W.1 h
          refine zr_iconst dX9_seen_38 ?_
          exact zt_iret dX9_seen_39 rfl W
        · have W := W.2 h
          refine zr_aload_n 0 dX9_seen_26 rfl ?_
          refine zr_getr (b := 122) dX9_seen_27 fX9_69 rfl rfl rfl (by decide) ?_
          refine zt_geti 8 rfl dX9_seen_30 fX9_145 rfl (by decide) ?_
          refine zr_bipush dX9_seen_33 (by decide) ?_
          obtain ⟨c8, W⟩ := W
          refine zr_icmp_lt (tgt := 40) dX9_seen_35 (by decide) c8 ⟨by decide, by decide⟩ (fun h => ?_) (fun h => ?_)
          · have W := W.1 h
            refine zr_aload_n 0 dX9_seen_40 rfl ?_
            refine zr_getr (b := 122) dX9_seen_41 fX9_69 rfl rfl rfl (by decide) ?_
            refine zr_aload_n 0 dX9_seen_44 rfl ?_
            refine zr_getr (b := 122) dX9_seen_45 fX9_69 rfl rfl rfl (by decide) ?_
            refine zr_iload_n 1 dX9_seen_48 rfl ?_
            refine zr_iload_n 2 dX9_seen_49 rfl ?_
            refine zr_iload_n 3 dX9_seen_50 rfl ?_
            refine zr_iload 4 dX9_seen_51 rfl ?_
            obtain ⟨q9, k13, W⟩ := W
            refine zt_callVl (As := [zI x1, zI x2, zI x3, zI x4]) (rest := [zA g 122]) dX9_seen_53 kX9_seen_357 rfl rfl rfl rfl (Nat.le_of_ble_eq_true rfl) k13 (fun r10 M11 h12 => ?_)
            have W := W r10 M11 h12
            refine zr_aload_n 0 dX9_seen_56 rfl ?_
            refine zt_geti 15 rfl dX9_seen_57 fX9_97 rfl (by decide) ?_
            obtain ⟨q14, k18, W⟩ := W
            refine zt_callVi (As := [zL r10, zI (M11 1 15)]) (rest := []) dX9_seen_60 kX9_seen_361 rfl rfl rfl rfl (Nat.le_of_ble_eq_true rfl) k18 (fun r15 M16 h17 => ?_)
            have W := W r15 M16 h17
            exact zt_iret dX9_seen_63 rfl W
          · have W := W.2 h
            refine zr_iconst dX9_seen_38 ?_
            exact zt_iret dX9_seen_39 rfl W
theorem dX9_fits_0 : decode cX9_fits 0 = .ok (.aload_n 0, 1) := by decide +kernel
theorem dX9_fits_1 : decode cX9_fits 1 = .ok (.getfield 69, 3) := by decide +kernel
theorem dX9_fits_4 : decode cX9_fits 4 = .ok (.iload_n 1, 1) := by decide +kernel
theorem dX9_fits_5 : decode cX9_fits 5 = .ok (.invokevirtual 369, 3) := by decide +kernel
theorem dX9_fits_8 : decode cX9_fits 8 = .ok (.invokestatic 373, 3) := by decide +kernel
theorem dX9_fits_11 : decode cX9_fits 11 = .ok (.ireturn, 1) := by decide +kernel
set_option maxRecDepth 100000 in
theorem SX9_fits_0 {g : zG} {o : Bool} {M : zM} {q : Int → zM → Prop} {x1 : Int} (W : ∃ q1 : Int → zM → Prop, zKl g (z1 o) mX6_fitting [zA g 122, zI x1] M q1 ∧ ∀ (r2 : Int) (M3 : zM), q1 r2 M3 → ∃ q6 : Int → zM → Prop, zKi g (z1 o) mJ13_bitCount_95d88 [zL r2] M3 q6 ∧ ∀ (r7 : Int) (M8 : zM), q6 r7 M8 → q r7 M8) : zT g (z1 o) mX9_fits (zQi (z1 o) q) 0 [(0, zA g 1), (1, zI x1)] [] M := by
  refine zr_aload_n 0 dX9_fits_0 rfl ?_
  refine zr_getr (b := 122) dX9_fits_1 fX9_69 rfl rfl rfl (by decide) ?_
  refine zr_iload_n 1 dX9_fits_4 rfl ?_
  obtain ⟨q1, k5, W⟩ := W
  refine zt_callVl (As := [zI x1]) (rest := []) dX9_fits_5 kX9_fits_369 rfl rfl rfl rfl (Nat.le_of_ble_eq_true rfl) k5 (fun r2 M3 h4 => ?_)
  have W := W r2 M3 h4
  obtain ⟨q6, k10, W⟩ := W
  refine zt_callSi (As := [zL r2]) (rest := []) dX9_fits_8 kX9_fits_373 rfl rfl (Nat.le_of_ble_eq_true rfl) k10 (fun r7 M8 h9 => ?_)
  have W := W r7 M8 h9
  exact zt_iret dX9_fits_11 rfl W
theorem dX9_fit_0 : decode cX9_fit 0 = .ok (.iload_n 1, 1) := by decide +kernel
theorem dX9_fit_1 : decode cX9_fit 1 = .ok (.ifCond .ge 5, 3) := by decide +kernel
theorem dX9_fit_4 : decode cX9_fit 4 = .ok (.iconst (-1), 1) := by decide +kernel
theorem dX9_fit_5 : decode cX9_fit 5 = .ok (.ireturn, 1) := by decide +kernel
theorem dX9_fit_6 : decode cX9_fit 6 = .ok (.aload_n 0, 1) := by decide +kernel
theorem dX9_fit_7 : decode cX9_fit 7 = .ok (.getfield 69, 3) := by decide +kernel
theorem dX9_fit_10 : decode cX9_fit 10 = .ok (.iload_n 2, 1) := by decide +kernel
theorem dX9_fit_11 : decode cX9_fit 11 = .ok (.invokevirtual 369, 3) := by decide +kernel
theorem dX9_fit_14 : decode cX9_fit 14 = .ok (.lstore_n 3, 1) := by decide +kernel
theorem dX9_fit_15 : decode cX9_fit 15 = .ok (.iconst 0, 1) := by decide +kernel
theorem dX9_fit_16 : decode cX9_fit 16 = .ok (.istore 5, 2) := by decide +kernel
theorem dX9_fit_18 : decode cX9_fit 18 = .ok (.iconst 0, 1) := by decide +kernel
theorem dX9_fit_19 : decode cX9_fit 19 = .ok (.istore 6, 2) := by decide +kernel
theorem dX9_fit_21 : decode cX9_fit 21 = .ok (.iload 6, 2) := by decide +kernel
theorem dX9_fit_23 : decode cX9_fit 23 = .ok (.bipush 50, 2) := by decide +kernel
theorem dX9_fit_25 : decode cX9_fit 25 = .ok (.if_icmp .ge 30, 3) := by decide +kernel
theorem dX9_fit_28 : decode cX9_fit 28 = .ok (.lload_n 3, 1) := by decide +kernel
theorem dX9_fit_29 : decode cX9_fit 29 = .ok (.iload 6, 2) := by decide +kernel
theorem dX9_fit_31 : decode cX9_fit 31 = .ok (.invokestatic 379, 3) := by decide +kernel
theorem dX9_fit_34 : decode cX9_fit 34 = .ok (.ifCond .eq 15, 3) := by decide +kernel
theorem dX9_fit_37 : decode cX9_fit 37 = .ok (.iload 5, 2) := by decide +kernel
theorem dX9_fit_39 : decode cX9_fit 39 = .ok (.iload_n 1, 1) := by decide +kernel
theorem dX9_fit_40 : decode cX9_fit 40 = .ok (.if_icmp .ne 6, 3) := by decide +kernel
theorem dX9_fit_43 : decode cX9_fit 43 = .ok (.iload 6, 2) := by decide +kernel
theorem dX9_fit_45 : decode cX9_fit 45 = .ok (.ireturn, 1) := by decide +kernel
theorem dX9_fit_46 : decode cX9_fit 46 = .ok (.iinc 5 1, 3) := by decide +kernel
theorem dX9_fit_49 : decode cX9_fit 49 = .ok (.iinc 6 1, 3) := by decide +kernel
theorem dX9_fit_52 : decode cX9_fit 52 = .ok (.goto (-31), 3) := by decide +kernel
theorem dX9_fit_55 : decode cX9_fit 55 = .ok (.iconst (-1), 1) := by decide +kernel
theorem dX9_fit_56 : decode cX9_fit 56 = .ok (.ireturn, 1) := by decide +kernel
set_option maxRecDepth 100000 in
theorem SX9_fit_0 {g : zG} {o : Bool} {M : zM} {q : Int → zM → Prop} {x1 x2 : Int} (W : (-2147483648 ≤ x1 ∧ x1 ≤ 2147483647) ∧ ((0 ≤ x1) → ∃ q2 : Int → zM → Prop, zKl g (z1 o) mX6_fitting [zA g 122, zI x2] M q2 ∧ ∀ (r3 : Int) (M4 : zM), q2 r3 M4 → zT g (z1 o) mX9_fit (zQi (z1 o) q) 21 [(1, zI x1), (3, zL r3), (5, zI 0), (6, zI 0)] [] M4) ∧ ((¬ (0 ≤ x1)) → q (-1) M)) : zT g (z1 o) mX9_fit (zQi (z1 o) q) 0 [(0, zA g 1), (1, zI x1), (2, zI x2)] [] M := by
  refine zr_iload_n 1 dX9_fit_0 rfl ?_
  obtain ⟨c1, W⟩ := W
  refine zr_if_ge (tgt := 6) dX9_fit_1 (by decide) c1 (fun h => ?_) (fun h => ?_)
  · have W := W.1 h
    refine zr_aload_n 0 dX9_fit_6 rfl ?_
    refine zr_getr (b := 122) dX9_fit_7 fX9_69 rfl rfl rfl (by decide) ?_
    refine zr_iload_n 2 dX9_fit_10 rfl ?_
    obtain ⟨q2, k6, W⟩ := W
    refine zt_callVl (As := [zI x2]) (rest := []) dX9_fit_11 kX9_fit_369 rfl rfl rfl rfl (Nat.le_of_ble_eq_true rfl) k6 (fun r3 M4 h5 => ?_)
    have W := W r3 M4 h5
    refine zr_lstore_n (l' := [(1, zI x1), (3, zL r3)]) dX9_fit_14 (by decide) [2, 0] rfl ?_
    refine zr_iconst dX9_fit_15 ?_
    refine zr_istore (l' := [(1, zI x1), (3, zL r3), (5, zI 0)]) dX9_fit_16 (by decide) [1, 2, 0] rfl ?_
    refine zr_iconst dX9_fit_18 ?_
    refine zr_istore (l' := [(1, zI x1), (3, zL r3), (5, zI 0), (6, zI 0)]) dX9_fit_19 (by decide) [1, 2, 3, 0] rfl ?_
    exact W
  · have W := W.2 h
    refine zr_iconst dX9_fit_4 ?_
    exact zt_iret dX9_fit_5 rfl W
set_option maxRecDepth 100000 in
theorem SX9_fit_21 {g : zG} {o : Bool} {M : zM} {q : Int → zM → Prop} {x1 x3 x5 x6 : Int} (W : (-2147483648 ≤ x6 ∧ x6 ≤ 2147483647) ∧ ((50 ≤ x6) → q (-1) M) ∧ ((¬ (50 ≤ x6)) → (0 ≤ x3 ∧ x3 < 1125899906842624) ∧ (0 ≤ x6 ∧ x6 < 50) ∧ ((¬ (hld x3 x6)) → zT g (z1 o) mX9_fit (zQi (z1 o) q) 21 [(1, zI x1), (3, zL x3), (5, zI x5), (6, zI (x6 + 1))] [] M) ∧ ((hld x3 x6) → (-2147483648 ≤ x5 ∧ x5 ≤ 2147483647) ∧ (-2147483648 ≤ x1 ∧ x1 ≤ 2147483647) ∧ ((x5 ≠ x1) → zT g (z1 o) mX9_fit (zQi (z1 o) q) 21 [(1, zI x1), (3, zL x3), (5, zI (x5 + 1)), (6, zI (x6 + 1))] [] M) ∧ ((x5 = x1) → q x6 M)))) : zT g (z1 o) mX9_fit (zQi (z1 o) q) 21 [(1, zI x1), (3, zL x3), (5, zI x5), (6, zI x6)] [] M := by
  refine zr_iload 3 dX9_fit_21 rfl ?_
  refine zr_bipush dX9_fit_23 (by decide) ?_
  obtain ⟨c1, W⟩ := W
  refine zr_icmp_ge (tgt := 55) dX9_fit_25 (by decide) c1 ⟨by decide, by decide⟩ (fun h => ?_) (fun h => ?_)
  · have W := W.1 h
    refine zr_iconst dX9_fit_55 ?_
    exact zt_iret dX9_fit_56 rfl W
  · have W := W.2 h
    refine zr_lload_n 1 dX9_fit_28 rfl ?_
    refine zr_iload 3 dX9_fit_29 rfl ?_
    obtain ⟨c2, W⟩ := W
    obtain ⟨c3, W⟩ := W
    refine zt_callSi (As := [zL x3, zI x6]) (rest := []) dX9_fit_31 kX9_fit_379 rfl rfl (Nat.le_of_ble_eq_true rfl) (c_holds c2 c3) (fun r4 N6 h5 => ?_)
    rw [h5.1, h5.2]
    refine zt_ifeq_b (tgt := 49) dX9_fit_34 (by decide) (fun h => ?_) (fun h => ?_)
    · have W := W.1 h
      refine zr_iinc (q := 3) (l' := [(1, zI x1), (3, zL x3), (5, zI x5), (6, zI (x6 + 1))]) dX9_fit_49 rfl (by decide) [1, 2, 3, 0] rfl ?_
      refine zr_goto (tgt := 21) dX9_fit_52 (by decide) ?_
      exact W
    · have W := W.2 h
      refine zr_iload 2 dX9_fit_37 rfl ?_
      refine zr_iload_n 0 dX9_fit_39 rfl ?_
      obtain ⟨c7, W⟩ := W
      obtain ⟨c8, W⟩ := W
      refine zr_icmp_ne (tgt := 46) dX9_fit_40 (by decide) c7 c8 (fun h => ?_) (fun h => ?_)
      · have W := W.1 h
        refine zr_iinc (q := 2) (l' := [(1, zI x1), (3, zL x3), (5, zI (x5 + 1)), (6, zI x6)]) dX9_fit_46 rfl (by decide) [1, 2, 0, 3] rfl ?_
        refine zr_iinc (q := 3) (l' := [(1, zI x1), (3, zL x3), (5, zI (x5 + 1)), (6, zI (x6 + 1))]) dX9_fit_49 rfl (by decide) [1, 2, 3, 0] rfl ?_
        refine zr_goto (tgt := 21) dX9_fit_52 (by decide) ?_
        exact W
      · have W := W.2 h
        refine zr_iload 3 dX9_fit_43 rfl ?_
        exact zt_iret dX9_fit_45 rfl W
theorem dX9_ask_0 : decode cX9_ask 0 = .ok (.iload_n 1, 1) := by decide +kernel
theorem dX9_ask_1 : decode cX9_ask 1 = .ok (.ifCond .lt 19, 3) := by decide +kernel
theorem dX9_ask_4 : decode cX9_ask 4 = .ok (.iload_n 1, 1) := by decide +kernel
theorem dX9_ask_5 : decode cX9_ask 5 = .ok (.sipush 200, 3) := by decide +kernel
theorem dX9_ask_8 : decode cX9_ask 8 = .ok (.if_icmp .gt 12, 3) := by decide +kernel
theorem dX9_ask_11 : decode cX9_ask 11 = .ok (.iload_n 2, 1) := by decide +kernel
theorem dX9_ask_12 : decode cX9_ask 12 = .ok (.ifCond .lt 8, 3) := by decide +kernel
theorem dX9_ask_15 : decode cX9_ask 15 = .ok (.iload_n 2, 1) := by decide +kernel
theorem dX9_ask_16 : decode cX9_ask 16 = .ok (.iconst 1, 1) := by decide +kernel
theorem dX9_ask_17 : decode cX9_ask 17 = .ok (.if_icmp .le 5, 3) := by decide +kernel
theorem dX9_ask_20 : decode cX9_ask 20 = .ok (.iconst (-1), 1) := by decide +kernel
theorem dX9_ask_21 : decode cX9_ask 21 = .ok (.ireturn, 1) := by decide +kernel
theorem dX9_ask_22 : decode cX9_ask 22 = .ok (.aload_n 0, 1) := by decide +kernel
theorem dX9_ask_23 : decode cX9_ask 23 = .ok (.getfield 69, 3) := by decide +kernel
theorem dX9_ask_26 : decode cX9_ask 26 = .ok (.iload_n 3, 1) := by decide +kernel
theorem dX9_ask_27 : decode cX9_ask 27 = .ok (.invokevirtual 369, 3) := by decide +kernel
theorem dX9_ask_30 : decode cX9_ask 30 = .ok (.lstore 4, 2) := by decide +kernel
theorem dX9_ask_32 : decode cX9_ask 32 = .ok (.lload 4, 2) := by decide +kernel
theorem dX9_ask_34 : decode cX9_ask 34 = .ok (.lconst 0, 1) := by decide +kernel
theorem dX9_ask_35 : decode cX9_ask 35 = .ok (.lcmp, 1) := by decide +kernel
theorem dX9_ask_36 : decode cX9_ask 36 = .ok (.ifCond .ne 5, 3) := by decide +kernel
theorem dX9_ask_39 : decode cX9_ask 39 = .ok (.iconst (-1), 1) := by decide +kernel
theorem dX9_ask_40 : decode cX9_ask 40 = .ok (.ireturn, 1) := by decide +kernel
theorem dX9_ask_41 : decode cX9_ask 41 = .ok (.aload_n 0, 1) := by decide +kernel
theorem dX9_ask_42 : decode cX9_ask 42 = .ok (.getfield 69, 3) := by decide +kernel
theorem dX9_ask_45 : decode cX9_ask 45 = .ok (.iload_n 1, 1) := by decide +kernel
theorem dX9_ask_46 : decode cX9_ask 46 = .ok (.lload 4, 2) := by decide +kernel
theorem dX9_ask_48 : decode cX9_ask 48 = .ok (.invokevirtual 383, 3) := by decide +kernel
theorem dX9_ask_51 : decode cX9_ask 51 = .ok (.iconst 0, 1) := by decide +kernel
theorem dX9_ask_52 : decode cX9_ask 52 = .ok (.istore 6, 2) := by decide +kernel
theorem dX9_ask_54 : decode cX9_ask 54 = .ok (.bipush 51, 2) := by decide +kernel
theorem dX9_ask_56 : decode cX9_ask 56 = .ok (.istore 7, 2) := by decide +kernel
theorem dX9_ask_58 : decode cX9_ask 58 = .ok (.iconst 0, 1) := by decide +kernel
theorem dX9_ask_59 : decode cX9_ask 59 = .ok (.istore 8, 2) := by decide +kernel
theorem dX9_ask_61 : decode cX9_ask 61 = .ok (.iload 8, 2) := by decide +kernel
theorem dX9_ask_63 : decode cX9_ask 63 = .ok (.aload_n 0, 1) := by decide +kernel
theorem dX9_ask_64 : decode cX9_ask 64 = .ok (.getfield 28, 3) := by decide +kernel
theorem dX9_ask_67 : decode cX9_ask 67 = .ok (.getfield 120, 3) := by decide +kernel
theorem dX9_ask_70 : decode cX9_ask 70 = .ok (.if_icmp .ge 37, 3) := by decide +kernel
theorem dX9_ask_73 : decode cX9_ask 73 = .ok (.aload_n 0, 1) := by decide +kernel
theorem dX9_ask_74 : decode cX9_ask 74 = .ok (.getfield 69, 3) := by decide +kernel
theorem dX9_ask_77 : decode cX9_ask 77 = .ok (.iload 8, 2) := by decide +kernel
theorem dX9_ask_79 : decode cX9_ask 79 = .ok (.lload 4, 2) := by decide +kernel
theorem dX9_ask_81 : decode cX9_ask 81 = .ok (.invokevirtual 387, 3) := by decide +kernel
theorem dX9_ask_84 : decode cX9_ask 84 = .ok (.istore 9, 2) := by decide +kernel
theorem dX9_ask_86 : decode cX9_ask 86 = .ok (.iload 9, 2) := by decide +kernel
theorem dX9_ask_88 : decode cX9_ask 88 = .ok (.iload 7, 2) := by decide +kernel
theorem dX9_ask_90 : decode cX9_ask 90 = .ok (.if_icmp .ge 11, 3) := by decide +kernel
theorem dX9_ask_93 : decode cX9_ask 93 = .ok (.iload 9, 2) := by decide +kernel
theorem dX9_ask_95 : decode cX9_ask 95 = .ok (.istore 7, 2) := by decide +kernel
theorem dX9_ask_97 : decode cX9_ask 97 = .ok (.iload 8, 2) := by decide +kernel
theorem dX9_ask_99 : decode cX9_ask 99 = .ok (.istore 6, 2) := by decide +kernel
theorem dX9_ask_101 : decode cX9_ask 101 = .ok (.iinc 8 1, 3) := by decide +kernel
theorem dX9_ask_104 : decode cX9_ask 104 = .ok (.goto (-43), 3) := by decide +kernel
theorem dX9_ask_107 : decode cX9_ask 107 = .ok (.iload_n 2, 1) := by decide +kernel
theorem dX9_ask_108 : decode cX9_ask 108 = .ok (.ifCond .ne 8, 3) := by decide +kernel
theorem dX9_ask_111 : decode cX9_ask 111 = .ok (.iload 6, 2) := by decide +kernel
theorem dX9_ask_113 : decode cX9_ask 113 = .ok (.goto 5, 3) := by decide +kernel
theorem dX9_ask_116 : decode cX9_ask 116 = .ok (.iload 7, 2) := by decide +kernel
theorem dX9_ask_118 : decode cX9_ask 118 = .ok (.ireturn, 1) := by decide +kernel
set_option maxRecDepth 100000 in
theorem SX9_ask_0 {g : zG} {o : Bool} {M : zM} {q : Int → zM → Prop} {x1 x2 x3 : Int} (W : (-2147483648 ≤ x1 ∧ x1 ≤ 2147483647) ∧ ((x1 < 0) → q (-1) M) ∧ ((¬ (x1 < 0)) → ((200 < x1) → q (-1) M) ∧ ((¬ (200 < x1)) → (-2147483648 ≤ x2 ∧ x2 ≤ 2147483647) ∧ ((x2 < 0) → q (-1) M) ∧ ((¬ (x2 < 0)) → ((x2 ≤ 1) → ∃ q3 : Int → zM → Prop, zKl g (z1 o) mX6_fitting [zA g 122, zI x3] M q3 ∧ ∀ (r4 : Int) (M5 : zM), q3 r4 M5 → (-9223372036854775808 ≤ r4 ∧ r4 ≤ 9223372036854775807) ∧ ((r4 ≠ 0) → ∃ q9 : zM → Prop, zKv g (z1 o) mX6_survey [zA g 122, zI x1, zL r4] M5 q9 ∧ ∀ M11 : zM, q9 M11 → zT g (z1 o) mX9_ask (zQi (z1 o) q) 61 [(0, zA g 1), (2, zI x2), (4, zL r4), (6, zI 0), (7, zI 51), (8, zI 0)] [] M11) ∧ ((r4 = 0) → q (-1) M5)) ∧ ((¬ (x2 ≤ 1)) → q (-1) M))))) : zT g (z1 o) mX9_ask (zQi (z1 o) q) 0 [(0, zA g 1), (1, zI x1), (2, zI x2), (3, zI x3)] [] M := by
  refine zr_iload_n 1 dX9_ask_0 rfl ?_
  obtain ⟨c1, W⟩ := W
  refine zr_if_lt (tgt := 20) dX9_ask_1 (by decide) c1 (fun h => ?_) (fun h => ?_)
  · have W := W.1 h
    refine zr_iconst dX9_ask_20 ?_
    exact zt_iret dX9_ask_21 rfl W
  · have W := W.2 h
    refine zr_iload_n 1 dX9_ask_4 rfl ?_
    refine zr_sipush dX9_ask_5 (by decide) ?_
    refine zr_icmp_gt (tgt := 20) dX9_ask_8 (by decide) c1 ⟨by decide, by decide⟩ (fun h => ?_) (fun h => ?_)
    · have W := W.1 h
      refine zr_iconst dX9_ask_20 ?_
      exact zt_iret dX9_ask_21 rfl W
    · have W := W.2 h
      refine zr_iload_n 2 dX9_ask_11 rfl ?_
      obtain ⟨c2, W⟩ := W
      refine zr_if_lt (tgt := 20) dX9_ask_12 (by decide) c2 (fun h => ?_) (fun h => ?_)
      · have W := W.1 h
        refine zr_iconst dX9_ask_20 ?_
        exact zt_iret dX9_ask_21 rfl W
      · have W := W.2 h
        refine zr_iload_n 2 dX9_ask_15 rfl ?_
        refine zr_iconst dX9_ask_16 ?_
        refine zr_icmp_le (tgt := 22) dX9_ask_17 (by decide) c2 ⟨by decide, by decide⟩ (fun h => ?_) (fun h => ?_)
        · have W := W.1 h
          refine zr_aload_n 0 dX9_ask_22 rfl ?_
          refine zr_getr (b := 122) dX9_ask_23 fX9_69 rfl rfl rfl (by decide) ?_
          refine zr_iload_n 3 dX9_ask_26 rfl ?_
          obtain ⟨q3, k7, W⟩ := W
          refine zt_callVl (As := [zI x3]) (rest := []) dX9_ask_27 kX9_ask_369 rfl rfl rfl rfl (Nat.le_of_ble_eq_true rfl) k7 (fun r4 M5 h6 => ?_)
          have W := W r4 M5 h6
          refine zr_lstore (l' := [(0, zA g 1), (1, zI x1), (2, zI x2), (4, zL r4)]) dX9_ask_30 (by decide) [1, 2, 3, 0] rfl ?_
          refine zr_lload 3 dX9_ask_32 rfl ?_
          refine zr_lconst (x := 0) dX9_ask_34 rfl ?_
          obtain ⟨c8, W⟩ := W
          refine zr_lcmp dX9_ask_35 c8 ⟨by decide, by decide⟩ ?_
          refine zr_if_ne (tgt := 41) dX9_ask_36 (by decide) (zc_in _ _) (fun h => ?_) (fun h => ?_)
          · have W := W.1 (zc_ne.mp h)
            refine zr_aload_n 0 dX9_ask_41 rfl ?_
            refine zr_getr (b := 122) dX9_ask_42 fX9_69 rfl rfl rfl (by decide) ?_
            refine zr_iload_n 1 dX9_ask_45 rfl ?_
            refine zr_lload 3 dX9_ask_46 rfl ?_
            obtain ⟨q9, k13, W⟩ := W
            refine zt_callVv (As := [zI x1, zL r4]) (rest := []) dX9_ask_48 kX9_ask_383 rfl rfl rfl rfl (Nat.le_of_ble_eq_true rfl) k13 (fun M11 h12 => ?_)
            have W := W M11 h12
            refine zr_iconst dX9_ask_51 ?_
            refine zr_istore (l' := [(0, zA g 1), (2, zI x2), (4, zL r4), (6, zI 0)]) dX9_ask_52 (by decide) [1, 3, 4, 0] rfl ?_
            refine zr_bipush dX9_ask_54 (by decide) ?_
            refine zr_istore (l' := [(0, zA g 1), (2, zI x2), (4, zL r4), (6, zI 0), (7, zI 51)]) dX9_ask_56 (by decide) [1, 2, 3, 4, 0] rfl ?_
            refine zr_iconst dX9_ask_58 ?_
            refine zr_istore (l' := [(0, zA g 1), (2, zI x2), (4, zL r4), (6, zI 0), (7, zI 51), (8, zI 0)]) dX9_ask_59 (by decide) [1, 2, 3, 4, 5, 0] rfl ?_
            exact W
          · have W := W.2 (zc_eq.mp h)
            refine zr_iconst dX9_ask_39 ?_
            exact zt_iret dX9_ask_40 rfl W
        · have W := W.2 h
          refine zr_iconst dX9_ask_20 ?_
          exact zt_iret dX9_ask_21 rfl W
set_option maxRecDepth 100000 in
theorem SX9_ask_61 {g : zG} {o : Bool} {M : zM} {q : Int → zM → Prop} {x2 x4 x6 x7 x8 : Int} (W : (-2147483648 ≤ x8 ∧ x8 ≤ 2147483647) ∧ (-2147483648 ≤ (M 14 2) ∧ (M 14 2) ≤ 2147483647) ∧ (((M 14 2) ≤ x8) → (-2147483648 ≤ x2 ∧ x2 ≤ 2147483647) ∧ ((x2 ≠ 0) → q x7 M) ∧ ((x2 = 0) → q x6 M)) ∧ ((¬ ((M 14 2) ≤ x8)) → ∃ q4 : Int → zM → Prop, zKi g (z1 o) mX6_mostAlike [zA g 122, zI x8, zL x4] M q4 ∧ ∀ (r5 : Int) (M6 : zM), q4 r5 M6 → (-2147483648 ≤ r5 ∧ r5 ≤ 2147483647) ∧ (-2147483648 ≤ x7 ∧ x7 ≤ 2147483647) ∧ ((x7 ≤ r5) → zT g (z1 o) mX9_ask (zQi (z1 o) q) 61 [(0, zA g 1), (2, zI x2), (4, zL x4), (6, zI x6), (7, zI x7), (8, zI (x8 + 1))] [] M6) ∧ ((¬ (x7 ≤ r5)) → zT g (z1 o) mX9_ask (zQi (z1 o) q) 61 [(0, zA g 1), (2, zI x2), (4, zL x4), (6, zI x8), (7, zI r5), (8, zI (x8 + 1))] [] M6))) : zT g (z1 o) mX9_ask (zQi (z1 o) q) 61 [(0, zA g 1), (2, zI x2), (4, zL x4), (6, zI x6), (7, zI x7), (8, zI x8)] [] M := by
  refine zr_iload 5 dX9_ask_61 rfl ?_
  refine zr_aload_n 0 dX9_ask_63 rfl ?_
  refine zr_getr (b := 14) dX9_ask_64 fX9_28 rfl rfl rfl (by decide) ?_
  refine zt_geti 2 rfl dX9_ask_67 fX9_120 rfl (by decide) ?_
  obtain ⟨c1, W⟩ := W
  obtain ⟨c2, W⟩ := W
  refine zr_icmp_ge (tgt := 107) dX9_ask_70 (by decide) c1 c2 (fun h => ?_) (fun h => ?_)
  · have W := W.1 h
    refine zr_iload_n 1 dX9_ask_107 rfl ?_
    obtain ⟨c3, W⟩ := W
    refine zr_if_ne (tgt := 116) dX9_ask_108 (by decide) c3 (fun h => ?_) (fun h => ?_)
    · have W := W.1 h
      refine zr_iload 4 dX9_ask_116 rfl ?_
      exact zt_iret dX9_ask_118 rfl W
    · have W := W.2 h
      refine zr_iload 3 dX9_ask_111 rfl ?_
      refine zr_goto (tgt := 118) dX9_ask_113 (by decide) ?_
      exact zt_iret dX9_ask_118 rfl W
  · have W := W.2 h
    refine zr_aload_n 0 dX9_ask_73 rfl ?_
    refine zr_getr (b := 122) dX9_ask_74 fX9_69 rfl rfl rfl (by decide) ?_
    refine zr_iload 5 dX9_ask_77 rfl ?_
    refine zr_lload 2 dX9_ask_79 rfl ?_
    obtain ⟨q4, k8, W⟩ := W
    refine zt_callVi (As := [zI x8, zL x4]) (rest := []) dX9_ask_81 kX9_ask_387 rfl rfl rfl rfl (Nat.le_of_ble_eq_true rfl) k8 (fun r5 M6 h7 => ?_)
    have W := W r5 M6 h7
    refine zr_istore (l' := [(0, zA g 1), (2, zI x2), (4, zL x4), (6, zI x6), (7, zI x7), (8, zI x8), (9, zI r5)]) dX9_ask_84 (by decide) [1, 2, 3, 4, 5, 6, 0] rfl ?_
    refine zr_iload 6 dX9_ask_86 rfl ?_
    refine zr_iload 4 dX9_ask_88 rfl ?_
    obtain ⟨c9, W⟩ := W
    obtain ⟨c10, W⟩ := W
    refine zr_icmp_ge (tgt := 101) dX9_ask_90 (by decide) c9 c10 (fun h => ?_) (fun h => ?_)
    · have W := W.1 h
      refine zr_iinc (q := 5) (l' := [(0, zA g 1), (2, zI x2), (4, zL x4), (6, zI x6), (7, zI x7), (8, zI (x8 + 1))]) dX9_ask_101 rfl (by decide) [1, 2, 3, 4, 5, 0] rfl ?_
      refine zr_goto (tgt := 61) dX9_ask_104 (by decide) ?_
      exact W
    · have W := W.2 h
      refine zr_iload 6 dX9_ask_93 rfl ?_
      refine zr_istore (l' := [(0, zA g 1), (2, zI x2), (4, zL x4), (7, zI r5), (8, zI x8)]) dX9_ask_95 (by decide) [1, 2, 3, 0, 5] rfl ?_
      refine zr_iload 4 dX9_ask_97 rfl ?_
      refine zr_istore (l' := [(0, zA g 1), (2, zI x2), (4, zL x4), (6, zI x8), (7, zI r5), (8, zI x8)]) dX9_ask_99 (by decide) [1, 2, 3, 0, 4, 5] rfl ?_
      refine zr_iinc (q := 5) (l' := [(0, zA g 1), (2, zI x2), (4, zL x4), (6, zI x8), (7, zI r5), (8, zI (x8 + 1))]) dX9_ask_101 rfl (by decide) [1, 2, 3, 4, 5, 0] rfl ?_
      refine zr_goto (tgt := 61) dX9_ask_104 (by decide) ?_
      exact W
theorem dX10_seen_0 : decode cX10_seen 0 = .ok (.iload_n 1, 1) := by decide +kernel
theorem dX10_seen_1 : decode cX10_seen 1 = .ok (.iconst 0, 1) := by decide +kernel
theorem dX10_seen_2 : decode cX10_seen 2 = .ok (.sipush 200, 3) := by decide +kernel
theorem dX10_seen_5 : decode cX10_seen 5 = .ok (.invokestatic 106, 3) := by decide +kernel
theorem dX10_seen_8 : decode cX10_seen 8 = .ok (.ifCond .eq 24, 3) := by decide +kernel
theorem dX10_seen_11 : decode cX10_seen 11 = .ok (.aload_n 0, 1) := by decide +kernel
theorem dX10_seen_12 : decode cX10_seen 12 = .ok (.iload_n 2, 1) := by decide +kernel
theorem dX10_seen_13 : decode cX10_seen 13 = .ok (.invokevirtual 336, 3) := by decide +kernel
theorem dX10_seen_16 : decode cX10_seen 16 = .ok (.ifCond .eq 16, 3) := by decide +kernel
theorem dX10_seen_19 : decode cX10_seen 19 = .ok (.iload_n 3, 1) := by decide +kernel
theorem dX10_seen_20 : decode cX10_seen 20 = .ok (.ifCond .lt 12, 3) := by decide +kernel
theorem dX10_seen_23 : decode cX10_seen 23 = .ok (.aload_n 0, 1) := by decide +kernel
theorem dX10_seen_24 : decode cX10_seen 24 = .ok (.getfield 241, 3) := by decide +kernel
theorem dX10_seen_27 : decode cX10_seen 27 = .ok (.bipush 20, 2) := by decide +kernel
theorem dX10_seen_29 : decode cX10_seen 29 = .ok (.if_icmp .ne 5, 3) := by decide +kernel
theorem dX10_seen_32 : decode cX10_seen 32 = .ok (.iconst (-1), 1) := by decide +kernel
theorem dX10_seen_33 : decode cX10_seen 33 = .ok (.ireturn, 1) := by decide +kernel
theorem dX10_seen_34 : decode cX10_seen 34 = .ok (.aload_n 0, 1) := by decide +kernel
theorem dX10_seen_35 : decode cX10_seen 35 = .ok (.getfield 69, 3) := by decide +kernel
theorem dX10_seen_38 : decode cX10_seen 38 = .ok (.aload_n 0, 1) := by decide +kernel
theorem dX10_seen_39 : decode cX10_seen 39 = .ok (.getfield 241, 3) := by decide +kernel
theorem dX10_seen_42 : decode cX10_seen 42 = .ok (.iload_n 1, 1) := by decide +kernel
theorem dX10_seen_43 : decode cX10_seen 43 = .ok (.iastore, 1) := by decide +kernel
theorem dX10_seen_44 : decode cX10_seen 44 = .ok (.aload_n 0, 1) := by decide +kernel
theorem dX10_seen_45 : decode cX10_seen 45 = .ok (.getfield 72, 3) := by decide +kernel
theorem dX10_seen_48 : decode cX10_seen 48 = .ok (.aload_n 0, 1) := by decide +kernel
theorem dX10_seen_49 : decode cX10_seen 49 = .ok (.getfield 241, 3) := by decide +kernel
theorem dX10_seen_52 : decode cX10_seen 52 = .ok (.iload_n 2, 1) := by decide +kernel
theorem dX10_seen_53 : decode cX10_seen 53 = .ok (.iastore, 1) := by decide +kernel
theorem dX10_seen_54 : decode cX10_seen 54 = .ok (.aload_n 0, 1) := by decide +kernel
theorem dX10_seen_55 : decode cX10_seen 55 = .ok (.getfield 75, 3) := by decide +kernel
theorem dX10_seen_58 : decode cX10_seen 58 = .ok (.aload_n 0, 1) := by decide +kernel
theorem dX10_seen_59 : decode cX10_seen 59 = .ok (.getfield 241, 3) := by decide +kernel
theorem dX10_seen_62 : decode cX10_seen 62 = .ok (.iload_n 3, 1) := by decide +kernel
theorem dX10_seen_63 : decode cX10_seen 63 = .ok (.iastore, 1) := by decide +kernel
theorem dX10_seen_64 : decode cX10_seen 64 = .ok (.aload_n 0, 1) := by decide +kernel
theorem dX10_seen_65 : decode cX10_seen 65 = .ok (.getfield 78, 3) := by decide +kernel
theorem dX10_seen_68 : decode cX10_seen 68 = .ok (.aload_n 0, 1) := by decide +kernel
theorem dX10_seen_69 : decode cX10_seen 69 = .ok (.getfield 241, 3) := by decide +kernel
theorem dX10_seen_72 : decode cX10_seen 72 = .ok (.iload 4, 2) := by decide +kernel
theorem dX10_seen_74 : decode cX10_seen 74 = .ok (.invokestatic 317, 3) := by decide +kernel
theorem dX10_seen_77 : decode cX10_seen 77 = .ok (.iastore, 1) := by decide +kernel
theorem dX10_seen_78 : decode cX10_seen 78 = .ok (.aload_n 0, 1) := by decide +kernel
theorem dX10_seen_79 : decode cX10_seen 79 = .ok (.getfield 81, 3) := by decide +kernel
theorem dX10_seen_82 : decode cX10_seen 82 = .ok (.aload_n 0, 1) := by decide +kernel
theorem dX10_seen_83 : decode cX10_seen 83 = .ok (.getfield 241, 3) := by decide +kernel
theorem dX10_seen_86 : decode cX10_seen 86 = .ok (.aload_n 0, 1) := by decide +kernel
theorem dX10_seen_87 : decode cX10_seen 87 = .ok (.getfield 438, 3) := by decide +kernel
theorem dX10_seen_90 : decode cX10_seen 90 = .ok (.iastore, 1) := by decide +kernel
theorem dX10_seen_91 : decode cX10_seen 91 = .ok (.aload_n 0, 1) := by decide +kernel
theorem dX10_seen_92 : decode cX10_seen 92 = .ok (.getfield 84, 3) := by decide +kernel
theorem dX10_seen_95 : decode cX10_seen 95 = .ok (.aload_n 0, 1) := by decide +kernel
theorem dX10_seen_96 : decode cX10_seen 96 = .ok (.getfield 241, 3) := by decide +kernel
theorem dX10_seen_99 : decode cX10_seen 99 = .ok (.iconst (-1), 1) := by decide +kernel
theorem dX10_seen_100 : decode cX10_seen 100 = .ok (.iastore, 1) := by decide +kernel
theorem dX10_seen_101 : decode cX10_seen 101 = .ok (.aload_n 0, 1) := by decide +kernel
theorem dX10_seen_102 : decode cX10_seen 102 = .ok (.dup, 1) := by decide +kernel
theorem dX10_seen_103 : decode cX10_seen 103 = .ok (.getfield 241, 3) := by decide +kernel
theorem dX10_seen_106 : decode cX10_seen 106 = .ok (.iconst 1, 1) := by decide +kernel
theorem dX10_seen_107 : decode cX10_seen 107 = .ok (.iadd, 1) := by decide +kernel
theorem dX10_seen_108 : decode cX10_seen 108 = .ok (.putfield 241, 3) := by decide +kernel
theorem dX10_seen_111 : decode cX10_seen 111 = .ok (.aload_n 0, 1) := by decide +kernel
theorem dX10_seen_112 : decode cX10_seen 112 = .ok (.getfield 241, 3) := by decide +kernel
theorem dX10_seen_115 : decode cX10_seen 115 = .ok (.iconst 1, 1) := by decide +kernel
theorem dX10_seen_116 : decode cX10_seen 116 = .ok (.isub, 1) := by decide +kernel
theorem dX10_seen_117 : decode cX10_seen 117 = .ok (.ireturn, 1) := by decide +kernel
set_option maxRecDepth 100000 in
theorem SX10_seen_0 {g : zG} {o : Bool} {C R : Int} {M : zM} {q : Int → zM → Prop} {x1 x2 x3 x4 : Int} (W : (-2147483648 ≤ x1 ∧ x1 ≤ 2147483647) ∧ ((¬ (0 ≤ x1 ∧ x1 ≤ 200)) → q (-1) M) ∧ ((0 ≤ x1 ∧ x1 ≤ 200) → (zRf M C R) ∧ (-2147483648 ≤ x2 ∧ x2 ≤ 2147483647) ∧ ((¬ (0 ≤ x2 ∧ x2 < C * R)) → q (-1) M) ∧ ((0 ≤ x2 ∧ x2 < C * R) → (-2147483648 ≤ x3 ∧ x3 ≤ 2147483647) ∧ ((x3 < 0) → q (-1) M) ∧ ((¬ (x3 < 0)) → (-2147483648 ≤ (M 1 42) ∧ (M 1 42) ≤ 2147483647) ∧ (((M 1 42) ≠ 20) → (0 ≤ (M 1 42) ∧ (M 1 42) < 20) ∧ (0 ≤ ((zu M 18 (M 1 42) x1) 1 42) ∧ ((zu M 18 (M 1 42) x1) 1 42) < 20) ∧ ∀ N14 : zM, N14 = zu M 18 (M 1 42) x1 → (0 ≤ ((zu N14 19 (N14 1 42) x2) 1 42) ∧ ((zu N14 19 (N14 1 42) x2) 1 42) < 20) ∧ ∀ N17 : zM, N17 = zu N14 19 (N14 1 42) x2 → (x4 = 0 ∨ x4 = 1) ∧ (0 ≤ ((zu N17 20 (N17 1 42) x3) 1 42) ∧ ((zu N17 20 (N17 1 42) x3) 1 42) < 20) ∧ ∀ N24 : zM, N24 = zu N17 20 (N17 1 42) x3 → (0 ≤ ((zu N24 21 (N24 1 42) x4) 1 42) ∧ ((zu N24 21 (N24 1 42) x4) 1 42) < 20) ∧ ∀ N27 : zM, N27 = zu N24 21 (N24 1 42) x4 → (0 ≤ ((zu N27 22 (N27 1 42) (N27 1 43)) 1 42) ∧ ((zu N27 22 (N27 1 42) (N27 1 43)) 1 42) < 20) ∧ ∀ N30 : zM, N30 = zu N27 22 (N27 1 42) (N27 1 43) → ∀ N32 : zM, N32 = zu N30 23 (N30 1 42) (-1) → q (((zu N32 1 42 ((N32 1 42) + 1)) 1 42) - 1) (zu N32 1 42 ((N32 1 42) + 1))) ∧ (((M 1 42) = 20) → q (-1) M))))) : zT g (z2 o) mX10_seen (zQi (z2 o) q) 0 [(0, zA g 1), (1, zI x1), (2, zI x2), (3, zI x3), (4, zI x4)] [] M := by
  refine zr_iload_n 1 dX10_seen_0 rfl ?_
  refine zr_iconst dX10_seen_1 ?_
  refine zr_sipush dX10_seen_2 (by decide) ?_
  obtain ⟨c1, W⟩ := W
  refine zt_callSi (As := [zI x1, zI 0, zI 200]) (rest := []) dX10_seen_5 kX10_seen_106 rfl rfl (Nat.le_of_ble_eq_true rfl) (c_isIn c1 ⟨by decide, by decide⟩ ⟨by decide, by decide⟩) (fun r2 N4 h3 => ?_)
  rw [h3.1, h3.2]
  refine zt_ifeq_b (tgt := 32) dX10_seen_8 (by decide) (fun h => ?_) (fun h => ?_)
  · have W := W.1 h
    refine zr_iconst dX10_seen_32 ?_
    exact zt_iret dX10_seen_33 rfl W
  · have W := W.2 h
    refine zr_aload_n 0 dX10_seen_11 rfl ?_
    refine zr_iload_n 2 dX10_seen_12 rfl ?_
    obtain ⟨c5, W⟩ := W
    obtain ⟨c6, W⟩ := W
    refine zt_callVi (As := [zI x2]) (rest := []) dX10_seen_13 kX10_seen_336 rfl rfl rfl rfl (Nat.le_of_ble_eq_true rfl) (c_isCell c5 c6) (fun r7 N9 h8 => ?_)
    rw [h8.1, h8.2]
    refine zt_ifeq_b (tgt := 32) dX10_seen_16 (by decide) (fun h => ?_) (fun h => ?_)
    · have W := W.1 h
      refine zr_iconst dX10_seen_32 ?_
      exact zt_iret dX10_seen_33 rfl W
    · have W := W.2 h
      refine zr_iload_n 3 dX10_seen_19 rfl ?_
      obtain ⟨c10, W⟩ := W
      refine zr_if_lt (tgt := 32) dX10_seen_20 (by decide) c10 (fun h => ?_) (fun h => ?_)
      · have W := W.1 h
        refine zr_iconst dX10_seen_32 ?_
        exact zt_iret dX10_seen_33 rfl W
      · have W := W.2 h
        refine zr_aload_n 0 dX10_seen_23 rfl ?_
        refine zt_geti 42 rfl dX10_seen_24 fX10_241 rfl (by decide) ?_
        refine zr_bipush dX10_seen_27 (by decide) ?_
        obtain ⟨c11, W⟩ := W
        refine zr_icmp_ne (tgt := 34) dX10_seen_29 (by decide) c11 ⟨by decide, by decide⟩ (fun h => ?_) (fun h => ?_)
        · have W := W.1 h
          refine zr_aload_n 0 dX10_seen_34 rfl ?_
          refine zr_getr (b := 18) dX10_seen_35 fX10_69 rfl rfl rfl (by decide) ?_
          refine zr_aload_n 0 dX10_seen_38 rfl ?_
          refine zt_geti 42 rfl dX10_seen_39 fX10_241 rfl (by decide) ?_
          refine zr_iload_n 1 dX10_seen_42 rfl ?_
          obtain ⟨c12, W⟩ := W
          refine zr_iast dX10_seen_43 rfl (by decide) c12 ?_
          refine zr_aload_n 0 dX10_seen_44 rfl ?_
          refine zr_getr (b := 19) dX10_seen_45 fX10_72 rfl rfl rfl (by decide) ?_
          refine zr_aload_n 0 dX10_seen_48 rfl ?_
          refine zt_geti 42 rfl dX10_seen_49 fX10_241 rfl (by decide) ?_
          refine zr_iload_n 2 dX10_seen_52 rfl ?_
          obtain ⟨c13, W⟩ := W
          obtain ⟨N14, e15⟩ : ∃ N : zM, N = zu M 18 (M 1 42) x1 := ⟨_, rfl⟩
          rw [← e15]
          rw [← e15] at c13
          have W := W N14 e15
          refine zr_iast dX10_seen_53 rfl (by decide) c13 ?_
          refine zr_aload_n 0 dX10_seen_54 rfl ?_
          refine zr_getr (b := 20) dX10_seen_55 fX10_75 rfl rfl rfl (by decide) ?_
          refine zr_aload_n 0 dX10_seen_58 rfl ?_
          refine zt_geti 42 rfl dX10_seen_59 fX10_241 rfl (by decide) ?_
          refine zr_iload_n 3 dX10_seen_62 rfl ?_
          obtain ⟨c16, W⟩ := W
          obtain ⟨N17, e18⟩ : ∃ N : zM, N = zu N14 19 (N14 1 42) x2 := ⟨_, rfl⟩
          rw [← e18]
          rw [← e18] at c16
          have W := W N17 e18
          refine zr_iast dX10_seen_63 rfl (by decide) c16 ?_
          refine zr_aload_n 0 dX10_seen_64 rfl ?_
          refine zr_getr (b := 21) dX10_seen_65 fX10_78 rfl rfl rfl (by decide) ?_
          refine zr_aload_n 0 dX10_seen_68 rfl ?_
          refine zt_geti 42 rfl dX10_seen_69 fX10_241 rfl (by decide) ?_
          refine zr_iload 4 dX10_seen_72 rfl ?_
          obtain ⟨c19, W⟩ := W
          refine zt_callSi (As := [zI x4]) (rest := [zI ((zu N17 20 (N17 1 42) x3) 1 42), zA g 21]) dX10_seen_74 kX10_seen_317 rfl rfl (Nat.le_of_ble_eq_true rfl) (c_truthi c19) (fun r20 N22 h21 => ?_)
          rw [h21.1, h21.2]
          obtain ⟨c23, W⟩ := W
          obtain ⟨N24, e25⟩ : ∃ N : zM, N = zu N17 20 (N17 1 42) x3 := ⟨_, rfl⟩
          rw [← e25]
          rw [← e25] at c23
          have W := W N24 e25
          refine zr_iast dX10_seen_77 rfl (by decide) c23 ?_
          refine zr_aload_n 0 dX10_seen_78 rfl ?_
          refine zr_getr (b := 22) dX10_seen_79 fX10_81 rfl rfl rfl (by decide) ?_
          refine zr_aload_n 0 dX10_seen_82 rfl ?_
          refine zt_geti 42 rfl dX10_seen_83 fX10_241 rfl (by decide) ?_
          refine zr_aload_n 0 dX10_seen_86 rfl ?_
          refine zt_geti 43 rfl dX10_seen_87 fX10_438 rfl (by decide) ?_
          obtain ⟨c26, W⟩ := W
          obtain ⟨N27, e28⟩ : ∃ N : zM, N = zu N24 21 (N24 1 42) x4 := ⟨_, rfl⟩
          rw [← e28]
          rw [← e28] at c26
          have W := W N27 e28
          refine zr_iast dX10_seen_90 rfl (by decide) c26 ?_
          refine zr_aload_n 0 dX10_seen_91 rfl ?_
          refine zr_getr (b := 23) dX10_seen_92 fX10_84 rfl rfl rfl (by decide) ?_
          refine zr_aload_n 0 dX10_seen_95 rfl ?_
          refine zt_geti 42 rfl dX10_seen_96 fX10_241 rfl (by decide) ?_
          refine zr_iconst dX10_seen_99 ?_
          obtain ⟨c29, W⟩ := W
          obtain ⟨N30, e31⟩ : ∃ N : zM, N = zu N27 22 (N27 1 42) (N27 1 43) := ⟨_, rfl⟩
          rw [← e31]
          rw [← e31] at c29
          have W := W N30 e31
          refine zr_iast dX10_seen_100 rfl (by decide) c29 ?_
          refine zr_aload_n 0 dX10_seen_101 rfl ?_
          refine zr_dup dX10_seen_102 rfl ?_
          refine zt_geti 42 rfl dX10_seen_103 fX10_241 rfl (by decide) ?_
          refine zr_iconst dX10_seen_106 ?_
          refine zr_iadd dX10_seen_107 ?_
          obtain ⟨N32, e33⟩ : ∃ N : zM, N = zu N30 23 (N30 1 42) (-1) := ⟨_, rfl⟩
          rw [← e33]
          have W := W N32 e33
          refine zt_puti 42 rfl dX10_seen_108 fX10_241 lcX10 ltX10_42 rfl rfl ?_
          refine zr_aload_n 0 dX10_seen_111 rfl ?_
          refine zt_geti 42 rfl dX10_seen_112 fX10_241 rfl (by decide) ?_
          refine zr_iconst dX10_seen_115 ?_
          refine zr_isub dX10_seen_116 ?_
          exact zt_iret dX10_seen_117 rfl W
        · have W := W.2 h
          refine zr_iconst dX10_seen_32 ?_
          exact zt_iret dX10_seen_33 rfl W
theorem dX10_asTold_0 : decode cX10_asTold 0 = .ok (.iconst 0, 1) := by decide +kernel
theorem dX10_asTold_1 : decode cX10_asTold 1 = .ok (.istore_n 2, 1) := by decide +kernel
theorem dX10_asTold_2 : decode cX10_asTold 2 = .ok (.iload_n 2, 1) := by decide +kernel
theorem dX10_asTold_3 : decode cX10_asTold 3 = .ok (.bipush 96, 2) := by decide +kernel
theorem dX10_asTold_5 : decode cX10_asTold 5 = .ok (.if_icmp .ge 36, 3) := by decide +kernel
theorem dX10_asTold_8 : decode cX10_asTold 8 = .ok (.aload_n 0, 1) := by decide +kernel
theorem dX10_asTold_9 : decode cX10_asTold 9 = .ok (.getfield 45, 3) := by decide +kernel
theorem dX10_asTold_12 : decode cX10_asTold 12 = .ok (.iload_n 2, 1) := by decide +kernel
theorem dX10_asTold_13 : decode cX10_asTold 13 = .ok (.aload_n 0, 1) := by decide +kernel
theorem dX10_asTold_14 : decode cX10_asTold 14 = .ok (.getfield 35, 3) := by decide +kernel
theorem dX10_asTold_17 : decode cX10_asTold 17 = .ok (.iload_n 2, 1) := by decide +kernel
theorem dX10_asTold_18 : decode cX10_asTold 18 = .ok (.iaload, 1) := by decide +kernel
theorem dX10_asTold_19 : decode cX10_asTold 19 = .ok (.iastore, 1) := by decide +kernel
theorem dX10_asTold_20 : decode cX10_asTold 20 = .ok (.aload_n 0, 1) := by decide +kernel
theorem dX10_asTold_21 : decode cX10_asTold 21 = .ok (.getfield 45, 3) := by decide +kernel
theorem dX10_asTold_24 : decode cX10_asTold 24 = .ok (.bipush 96, 2) := by decide +kernel
theorem dX10_asTold_26 : decode cX10_asTold 26 = .ok (.iload_n 2, 1) := by decide +kernel
theorem dX10_asTold_27 : decode cX10_asTold 27 = .ok (.iadd, 1) := by decide +kernel
theorem dX10_asTold_28 : decode cX10_asTold 28 = .ok (.aload_n 0, 1) := by decide +kernel
theorem dX10_asTold_29 : decode cX10_asTold 29 = .ok (.getfield 32, 3) := by decide +kernel
theorem dX10_asTold_32 : decode cX10_asTold 32 = .ok (.iload_n 2, 1) := by decide +kernel
theorem dX10_asTold_33 : decode cX10_asTold 33 = .ok (.iaload, 1) := by decide +kernel
theorem dX10_asTold_34 : decode cX10_asTold 34 = .ok (.iastore, 1) := by decide +kernel
theorem dX10_asTold_35 : decode cX10_asTold 35 = .ok (.iinc 2 1, 3) := by decide +kernel
theorem dX10_asTold_38 : decode cX10_asTold 38 = .ok (.goto (-36), 3) := by decide +kernel
theorem dX10_asTold_41 : decode cX10_asTold 41 = .ok (.aload_n 0, 1) := by decide +kernel
theorem dX10_asTold_42 : decode cX10_asTold 42 = .ok (.getfield 45, 3) := by decide +kernel
theorem dX10_asTold_45 : decode cX10_asTold 45 = .ok (.sipush 192, 3) := by decide +kernel
theorem dX10_asTold_48 : decode cX10_asTold 48 = .ok (.aload_n 0, 1) := by decide +kernel
theorem dX10_asTold_49 : decode cX10_asTold 49 = .ok (.getfield 20, 3) := by decide +kernel
theorem dX10_asTold_52 : decode cX10_asTold 52 = .ok (.iconst 3, 1) := by decide +kernel
theorem dX10_asTold_53 : decode cX10_asTold 53 = .ok (.iaload, 1) := by decide +kernel
theorem dX10_asTold_54 : decode cX10_asTold 54 = .ok (.iastore, 1) := by decide +kernel
theorem dX10_asTold_55 : decode cX10_asTold 55 = .ok (.aload_n 0, 1) := by decide +kernel
theorem dX10_asTold_56 : decode cX10_asTold 56 = .ok (.getfield 45, 3) := by decide +kernel
theorem dX10_asTold_59 : decode cX10_asTold 59 = .ok (.sipush 193, 3) := by decide +kernel
theorem dX10_asTold_62 : decode cX10_asTold 62 = .ok (.aload_n 0, 1) := by decide +kernel
theorem dX10_asTold_63 : decode cX10_asTold 63 = .ok (.getfield 20, 3) := by decide +kernel
theorem dX10_asTold_66 : decode cX10_asTold 66 = .ok (.iconst 4, 1) := by decide +kernel
theorem dX10_asTold_67 : decode cX10_asTold 67 = .ok (.iaload, 1) := by decide +kernel
theorem dX10_asTold_68 : decode cX10_asTold 68 = .ok (.iastore, 1) := by decide +kernel
theorem dX10_asTold_69 : decode cX10_asTold 69 = .ok (.aload_n 0, 1) := by decide +kernel
theorem dX10_asTold_70 : decode cX10_asTold 70 = .ok (.getfield 45, 3) := by decide +kernel
theorem dX10_asTold_73 : decode cX10_asTold 73 = .ok (.sipush 194, 3) := by decide +kernel
theorem dX10_asTold_76 : decode cX10_asTold 76 = .ok (.aload_n 0, 1) := by decide +kernel
theorem dX10_asTold_77 : decode cX10_asTold 77 = .ok (.getfield 20, 3) := by decide +kernel
theorem dX10_asTold_80 : decode cX10_asTold 80 = .ok (.bipush 6, 2) := by decide +kernel
theorem dX10_asTold_82 : decode cX10_asTold 82 = .ok (.iaload, 1) := by decide +kernel
theorem dX10_asTold_83 : decode cX10_asTold 83 = .ok (.iastore, 1) := by decide +kernel
theorem dX10_asTold_84 : decode cX10_asTold 84 = .ok (.aload_n 0, 1) := by decide +kernel
theorem dX10_asTold_85 : decode cX10_asTold 85 = .ok (.getfield 45, 3) := by decide +kernel
theorem dX10_asTold_88 : decode cX10_asTold 88 = .ok (.sipush 195, 3) := by decide +kernel
theorem dX10_asTold_91 : decode cX10_asTold 91 = .ok (.aload_n 0, 1) := by decide +kernel
theorem dX10_asTold_92 : decode cX10_asTold 92 = .ok (.getfield 20, 3) := by decide +kernel
theorem dX10_asTold_95 : decode cX10_asTold 95 = .ok (.bipush 7, 2) := by decide +kernel
theorem dX10_asTold_97 : decode cX10_asTold 97 = .ok (.iaload, 1) := by decide +kernel
theorem dX10_asTold_98 : decode cX10_asTold 98 = .ok (.iastore, 1) := by decide +kernel
theorem dX10_asTold_99 : decode cX10_asTold 99 = .ok (.aload_n 0, 1) := by decide +kernel
theorem dX10_asTold_100 : decode cX10_asTold 100 = .ok (.getfield 45, 3) := by decide +kernel
theorem dX10_asTold_103 : decode cX10_asTold 103 = .ok (.sipush 196, 3) := by decide +kernel
theorem dX10_asTold_106 : decode cX10_asTold 106 = .ok (.iload_n 1, 1) := by decide +kernel
theorem dX10_asTold_107 : decode cX10_asTold 107 = .ok (.iastore, 1) := by decide +kernel
theorem dX10_asTold_108 : decode cX10_asTold 108 = .ok (.aload_n 0, 1) := by decide +kernel
theorem dX10_asTold_109 : decode cX10_asTold 109 = .ok (.getfield 45, 3) := by decide +kernel
theorem dX10_asTold_112 : decode cX10_asTold 112 = .ok (.sipush 197, 3) := by decide +kernel
theorem dX10_asTold_115 : decode cX10_asTold 115 = .ok (.iconst 0, 1) := by decide +kernel
theorem dX10_asTold_116 : decode cX10_asTold 116 = .ok (.iastore, 1) := by decide +kernel
theorem dX10_asTold_117 : decode cX10_asTold 117 = .ok (.return_, 1) := by decide +kernel
set_option maxRecDepth 100000 in
theorem SX10_asTold_0 {g : zG} {o : Bool} {M : zM} {q : zM → Prop} {x1 : Int} (W : zT g (z2 o) mX10_asTold (zQv (z2 o) q) 2 [(0, zA g 1), (1, zI x1), (2, zI 0)] [] M) : zT g (z2 o) mX10_asTold (zQv (z2 o) q) 0 [(0, zA g 1), (1, zI x1)] [] M := by
  refine zr_iconst dX10_asTold_0 ?_
  refine zr_istore_n (l' := [(0, zA g 1), (1, zI x1), (2, zI 0)]) dX10_asTold_1 (by decide) [1, 2, 0] rfl ?_
  exact W
set_option maxRecDepth 100000 in
theorem SX10_asTold_2 {g : zG} {o : Bool} {M : zM} {q : zM → Prop} {x1 x2 : Int} (W : (-2147483648 ≤ x2 ∧ x2 ≤ 2147483647) ∧ ((96 ≤ x2) → ∀ N2 : zM, N2 = zu M 11 192 (M 3 3) → ∀ N4 : zM, N4 = zu N2 11 193 (N2 3 4) → ∀ N6 : zM, N6 = zu N4 11 194 (N4 3 6) → ∀ N8 : zM, N8 = zu N6 11 195 (N6 3 7) → ∀ N10 : zM, N10 = zu N8 11 196 x1 → q (zu N10 11 197 0)) ∧ ((¬ (96 ≤ x2)) → (0 ≤ x2 ∧ x2 < 96) ∧ (0 ≤ x2 ∧ x2 < 198) ∧ (0 ≤ x2 ∧ x2 < 192) ∧ (0 ≤ (96 + x2) ∧ (96 + x2) < 198) ∧ ∀ N16 : zM, N16 = zu M 11 x2 (M 8 x2) → zT g (z2 o) mX10_asTold (zQv (z2 o) q) 2 [(0, zA g 1), (1, zI x1), (2, zI (x2 + 1))] [] (zu N16 11 (96 + x2) (N16 7 x2)))) : zT g (z2 o) mX10_asTold (zQv (z2 o) q) 2 [(0, zA g 1), (1, zI x1), (2, zI x2)] [] M := by
  refine zr_iload_n 2 dX10_asTold_2 rfl ?_
  refine zr_bipush dX10_asTold_3 (by decide) ?_
  obtain ⟨c1, W⟩ := W
  refine zr_icmp_ge (tgt := 41) dX10_asTold_5 (by decide) c1 ⟨by decide, by decide⟩ (fun h => ?_) (fun h => ?_)
  · have W := W.1 h
    refine zr_aload_n 0 dX10_asTold_41 rfl ?_
    refine zr_getr (b := 11) dX10_asTold_42 fX10_45 rfl rfl rfl (by decide) ?_
    refine zr_sipush dX10_asTold_45 (by decide) ?_
    refine zr_aload_n 0 dX10_asTold_48 rfl ?_
    refine zr_getr (b := 3) dX10_asTold_49 fX10_20 rfl rfl rfl (by decide) ?_
    refine zr_iconst dX10_asTold_52 ?_
    refine zr_iald dX10_asTold_53 rfl (by decide) ⟨by decide, by decide⟩ ?_
    refine zr_iast dX10_asTold_54 rfl (by decide) ⟨by decide, by decide⟩ ?_
    refine zr_aload_n 0 dX10_asTold_55 rfl ?_
    refine zr_getr (b := 11) dX10_asTold_56 fX10_45 rfl rfl rfl (by decide) ?_
    refine zr_sipush dX10_asTold_59 (by decide) ?_
    refine zr_aload_n 0 dX10_asTold_62 rfl ?_
    refine zr_getr (b := 3) dX10_asTold_63 fX10_20 rfl rfl rfl (by decide) ?_
    refine zr_iconst dX10_asTold_66 ?_
    refine zr_iald dX10_asTold_67 rfl (by decide) ⟨by decide, by decide⟩ ?_
    obtain ⟨N2, e3⟩ : ∃ N : zM, N = zu M 11 192 (M 3 3) := ⟨_, rfl⟩
    rw [← e3]
    have W := W N2 e3
    refine zr_iast dX10_asTold_68 rfl (by decide) ⟨by decide, by decide⟩ ?_
    refine zr_aload_n 0 dX10_asTold_69 rfl ?_
    refine zr_getr (b := 11) dX10_asTold_70 fX10_45 rfl rfl rfl (by decide) ?_
    refine zr_sipush dX10_asTold_73 (by decide) ?_
    refine zr_aload_n 0 dX10_asTold_76 rfl ?_
    refine zr_getr (b := 3) dX10_asTold_77 fX10_20 rfl rfl rfl (by decide) ?_
    refine zr_bipush dX10_asTold_80 (by decide) ?_
    refine zr_iald dX10_asTold_82 rfl (by decide) ⟨by decide, by decide⟩ ?_
    obtain ⟨N4, e5⟩ : ∃ N : zM, N = zu N2 11 193 (N2 3 4) := ⟨_, rfl⟩
    rw [← e5]
    have W := W N4 e5
    refine zr_iast dX10_asTold_83 rfl (by decide) ⟨by decide, by decide⟩ ?_
    refine zr_aload_n 0 dX10_asTold_84 rfl ?_
    refine zr_getr (b := 11) dX10_asTold_85 fX10_45 rfl rfl rfl (by decide) ?_
    refine zr_sipush dX10_asTold_88 (by decide) ?_
    refine zr_aload_n 0 dX10_asTold_91 rfl ?_
    refine zr_getr (b := 3) dX10_asTold_92 fX10_20 rfl rfl rfl (by decide) ?_
    refine zr_bipush dX10_asTold_95 (by decide) ?_
    refine zr_iald dX10_asTold_97 rfl (by decide) ⟨by decide, by decide⟩ ?_
    obtain ⟨N6, e7⟩ : ∃ N : zM, N = zu N4 11 194 (N4 3 6) := ⟨_, rfl⟩
    rw [← e7]
    have W := W N6 e7
    refine zr_iast dX10_asTold_98 rfl (by decide) ⟨by decide, by decide⟩ ?_
    refine zr_aload_n 0 dX10_asTold_99 rfl ?_
    refine zr_getr (b := 11) dX10_asTold_100 fX10_45 rfl rfl rfl (by decide) ?_
    refine zr_sipush dX10_asTold_103 (by decide) ?_
    refine zr_iload_n 1 dX10_asTold_106 rfl ?_
    obtain ⟨N8, e9⟩ : ∃ N : zM, N = zu N6 11 195 (N6 3 7) := ⟨_, rfl⟩
    rw [← e9]
    have W := W N8 e9
    refine zr_iast dX10_asTold_107 rfl (by decide) ⟨by decide, by decide⟩ ?_
    refine zr_aload_n 0 dX10_asTold_108 rfl ?_
    refine zr_getr (b := 11) dX10_asTold_109 fX10_45 rfl rfl rfl (by decide) ?_
    refine zr_sipush dX10_asTold_112 (by decide) ?_
    refine zr_iconst dX10_asTold_115 ?_
    obtain ⟨N10, e11⟩ : ∃ N : zM, N = zu N8 11 196 x1 := ⟨_, rfl⟩
    rw [← e11]
    have W := W N10 e11
    refine zr_iast dX10_asTold_116 rfl (by decide) ⟨by decide, by decide⟩ ?_
    exact zt_ret dX10_asTold_117 rfl W
  · have W := W.2 h
    refine zr_aload_n 0 dX10_asTold_8 rfl ?_
    refine zr_getr (b := 11) dX10_asTold_9 fX10_45 rfl rfl rfl (by decide) ?_
    refine zr_iload_n 2 dX10_asTold_12 rfl ?_
    refine zr_aload_n 0 dX10_asTold_13 rfl ?_
    refine zr_getr (b := 8) dX10_asTold_14 fX10_35 rfl rfl rfl (by decide) ?_
    refine zr_iload_n 2 dX10_asTold_17 rfl ?_
    obtain ⟨c12, W⟩ := W
    refine zr_iald dX10_asTold_18 rfl (by decide) c12 ?_
    obtain ⟨c13, W⟩ := W
    refine zr_iast dX10_asTold_19 rfl (by decide) c13 ?_
    refine zr_aload_n 0 dX10_asTold_20 rfl ?_
    refine zr_getr (b := 11) dX10_asTold_21 fX10_45 rfl rfl rfl (by decide) ?_
    refine zr_bipush dX10_asTold_24 (by decide) ?_
    refine zr_iload_n 2 dX10_asTold_26 rfl ?_
    refine zr_iadd dX10_asTold_27 ?_
    refine zr_aload_n 0 dX10_asTold_28 rfl ?_
    refine zr_getr (b := 7) dX10_asTold_29 fX10_32 rfl rfl rfl (by decide) ?_
    refine zr_iload_n 2 dX10_asTold_32 rfl ?_
    obtain ⟨c14, W⟩ := W
    refine zr_iald dX10_asTold_33 rfl (by decide) c14 ?_
    obtain ⟨c15, W⟩ := W
    obtain ⟨N16, e17⟩ : ∃ N : zM, N = zu M 11 x2 (M 8 x2) := ⟨_, rfl⟩
    rw [← e17]
    have W := W N16 e17
    refine zr_iast dX10_asTold_34 rfl (by decide) c15 ?_
    refine zr_iinc (q := 2) (l' := [(0, zA g 1), (1, zI x1), (2, zI (x2 + 1))]) dX10_asTold_35 rfl (by decide) [1, 2, 0] rfl ?_
    refine zr_goto (tgt := 2) dX10_asTold_38 (by decide) ?_
    exact W
theorem dX10_isSoAfter_0 : decode cX10_isSoAfter 0 = .ok (.iconst 0, 1) := by decide +kernel
theorem dX10_isSoAfter_1 : decode cX10_isSoAfter 1 = .ok (.istore_n 3, 1) := by decide +kernel
theorem dX10_isSoAfter_2 : decode cX10_isSoAfter 2 = .ok (.iload_n 3, 1) := by decide +kernel
theorem dX10_isSoAfter_3 : decode cX10_isSoAfter 3 = .ok (.aload_n 0, 1) := by decide +kernel
theorem dX10_isSoAfter_4 : decode cX10_isSoAfter 4 = .ok (.getfield 241, 3) := by decide +kernel
theorem dX10_isSoAfter_7 : decode cX10_isSoAfter 7 = .ok (.if_icmp .ge 67, 3) := by decide +kernel
theorem dX10_isSoAfter_10 : decode cX10_isSoAfter 10 = .ok (.aload_n 0, 1) := by decide +kernel
theorem dX10_isSoAfter_11 : decode cX10_isSoAfter 11 = .ok (.getfield 69, 3) := by decide +kernel
theorem dX10_isSoAfter_14 : decode cX10_isSoAfter 14 = .ok (.iload_n 3, 1) := by decide +kernel
theorem dX10_isSoAfter_15 : decode cX10_isSoAfter 15 = .ok (.iaload, 1) := by decide +kernel
theorem dX10_isSoAfter_16 : decode cX10_isSoAfter 16 = .ok (.iload_n 1, 1) := by decide +kernel
theorem dX10_isSoAfter_17 : decode cX10_isSoAfter 17 = .ok (.if_icmp .ne 51, 3) := by decide +kernel
theorem dX10_isSoAfter_20 : decode cX10_isSoAfter 20 = .ok (.aload_n 0, 1) := by decide +kernel
theorem dX10_isSoAfter_21 : decode cX10_isSoAfter 21 = .ok (.iload_n 3, 1) := by decide +kernel
theorem dX10_isSoAfter_22 : decode cX10_isSoAfter 22 = .ok (.iload_n 2, 1) := by decide +kernel
theorem dX10_isSoAfter_23 : decode cX10_isSoAfter 23 = .ok (.invokevirtual 442, 3) := by decide +kernel
theorem dX10_isSoAfter_26 : decode cX10_isSoAfter 26 = .ok (.ifCond .eq 42, 3) := by decide +kernel
theorem dX10_isSoAfter_29 : decode cX10_isSoAfter 29 = .ok (.aload_n 0, 1) := by decide +kernel
theorem dX10_isSoAfter_30 : decode cX10_isSoAfter 30 = .ok (.getfield 45, 3) := by decide +kernel
theorem dX10_isSoAfter_33 : decode cX10_isSoAfter 33 = .ok (.aload_n 0, 1) := by decide +kernel
theorem dX10_isSoAfter_34 : decode cX10_isSoAfter 34 = .ok (.getfield 72, 3) := by decide +kernel
theorem dX10_isSoAfter_37 : decode cX10_isSoAfter 37 = .ok (.iload_n 3, 1) := by decide +kernel
theorem dX10_isSoAfter_38 : decode cX10_isSoAfter 38 = .ok (.iaload, 1) := by decide +kernel
theorem dX10_isSoAfter_39 : decode cX10_isSoAfter 39 = .ok (.iaload, 1) := by decide +kernel
theorem dX10_isSoAfter_40 : decode cX10_isSoAfter 40 = .ok (.aload_n 0, 1) := by decide +kernel
theorem dX10_isSoAfter_41 : decode cX10_isSoAfter 41 = .ok (.getfield 75, 3) := by decide +kernel
theorem dX10_isSoAfter_44 : decode cX10_isSoAfter 44 = .ok (.iload_n 3, 1) := by decide +kernel
theorem dX10_isSoAfter_45 : decode cX10_isSoAfter 45 = .ok (.iaload, 1) := by decide +kernel
theorem dX10_isSoAfter_46 : decode cX10_isSoAfter 46 = .ok (.if_icmp .lt 7, 3) := by decide +kernel
theorem dX10_isSoAfter_49 : decode cX10_isSoAfter 49 = .ok (.iconst 1, 1) := by decide +kernel
theorem dX10_isSoAfter_50 : decode cX10_isSoAfter 50 = .ok (.goto 4, 3) := by decide +kernel
theorem dX10_isSoAfter_53 : decode cX10_isSoAfter 53 = .ok (.iconst 0, 1) := by decide +kernel
theorem dX10_isSoAfter_54 : decode cX10_isSoAfter 54 = .ok (.invokestatic 317, 3) := by decide +kernel
theorem dX10_isSoAfter_57 : decode cX10_isSoAfter 57 = .ok (.aload_n 0, 1) := by decide +kernel
theorem dX10_isSoAfter_58 : decode cX10_isSoAfter 58 = .ok (.getfield 78, 3) := by decide +kernel
theorem dX10_isSoAfter_61 : decode cX10_isSoAfter 61 = .ok (.iload_n 3, 1) := by decide +kernel
theorem dX10_isSoAfter_62 : decode cX10_isSoAfter 62 = .ok (.iaload, 1) := by decide +kernel
theorem dX10_isSoAfter_63 : decode cX10_isSoAfter 63 = .ok (.if_icmp .eq 5, 3) := by decide +kernel
theorem dX10_isSoAfter_66 : decode cX10_isSoAfter 66 = .ok (.iconst 0, 1) := by decide +kernel
theorem dX10_isSoAfter_67 : decode cX10_isSoAfter 67 = .ok (.ireturn, 1) := by decide +kernel
theorem dX10_isSoAfter_68 : decode cX10_isSoAfter 68 = .ok (.iinc 3 1, 3) := by decide +kernel
theorem dX10_isSoAfter_71 : decode cX10_isSoAfter 71 = .ok (.goto (-69), 3) := by decide +kernel
theorem dX10_isSoAfter_74 : decode cX10_isSoAfter 74 = .ok (.iconst 1, 1) := by decide +kernel
theorem dX10_isSoAfter_75 : decode cX10_isSoAfter 75 = .ok (.ireturn, 1) := by decide +kernel
set_option maxRecDepth 100000 in
theorem SX10_isSoAfter_0 {g : zG} {o : Bool} {M : zM} {q : Int → zM → Prop} {x1 x2 : Int} (W : zT g (z2 o) mX10_isSoAfter (zQi (z2 o) q) 2 [(0, zA g 1), (1, zI x1), (2, zI x2), (3, zI 0)] [] M) : zT g (z2 o) mX10_isSoAfter (zQi (z2 o) q) 0 [(0, zA g 1), (1, zI x1), (2, zI x2)] [] M := by
  refine zr_iconst dX10_isSoAfter_0 ?_
  refine zr_istore_n (l' := [(0, zA g 1), (1, zI x1), (2, zI x2), (3, zI 0)]) dX10_isSoAfter_1 (by decide) [1, 2, 3, 0] rfl ?_
  exact W
set_option maxRecDepth 100000 in
theorem SX10_isSoAfter_2 {g : zG} {o : Bool} {M : zM} {q : Int → zM → Prop} {x1 x2 x3 : Int} (W : (-2147483648 ≤ x3 ∧ x3 ≤ 2147483647) ∧ (-2147483648 ≤ (M 1 42) ∧ (M 1 42) ≤ 2147483647) ∧ (((M 1 42) ≤ x3) → q 1 M) ∧ ((¬ ((M 1 42) ≤ x3)) → (0 ≤ x3 ∧ x3 < 20) ∧ (-2147483648 ≤ (M 18 x3) ∧ (M 18 x3) ≤ 2147483647) ∧ (-2147483648 ≤ x1 ∧ x1 ≤ 2147483647) ∧ (((M 18 x3) ≠ x1) → zT g (z2 o) mX10_isSoAfter (zQi (z2 o) q) 2 [(0, zA g 1), (1, zI x1), (2, zI x2), (3, zI (x3 + 1))] [] M) ∧ (((M 18 x3) = x1) → (-2147483648 ≤ x2 ∧ x2 ≤ 2147483647) ∧ (-2147483648 ≤ (M 22 x3) ∧ (M 22 x3) ≤ 2147483647) ∧ (-2147483648 ≤ (M 23 x3) ∧ (M 23 x3) ≤ 2147483647) ∧ ((¬ (dct M x3 x2)) → zT g (z2 o) mX10_isSoAfter (zQi (z2 o) q) 2 [(0, zA g 1), (1, zI x1), (2, zI x2), (3, zI (x3 + 1))] [] M) ∧ ((dct M x3 x2) → (0 ≤ (M 19 x3) ∧ (M 19 x3) < 198) ∧ (-2147483648 ≤ (M 11 (M 19 x3)) ∧ (M 11 (M 19 x3)) ≤ 2147483647) ∧ (-2147483648 ≤ (M 20 x3) ∧ (M 20 x3) ≤ 2147483647) ∧ (((M 11 (M 19 x3)) < (M 20 x3)) → (-2147483648 ≤ (M 21 x3) ∧ (M 21 x3) ≤ 2147483647) ∧ ((0 = (M 21 x3)) → zT g (z2 o) mX10_isSoAfter (zQi (z2 o) q) 2 [(0, zA g 1), (1, zI x1), (2, zI x2), (3, zI (x3 + 1))] [] M) ∧ ((¬ (0 = (M 21 x3))) → q 0 M)) ∧ ((¬ ((M 11 (M 19 x3)) < (M 20 x3))) → (-2147483648 ≤ (M 21 x3) ∧ (M 21 x3) ≤ 2147483647) ∧ ((1 = (M 21 x3)) → zT g (z2 o) mX10_isSoAfter (zQi (z2 o) q) 2 [(0, zA g 1), (1, zI x1), (2, zI x2), (3, zI (x3 + 1))] [] M) ∧ ((¬ (1 = (M 21 x3))) → q 0 M)))))) : zT g (z2 o) mX10_isSoAfter (zQi (z2 o) q) 2 [(0, zA g 1), (1, zI x1), (2, zI x2), (3, zI x3)] [] M := by
  refine zr_iload_n 3 dX10_isSoAfter_2 rfl ?_
  refine zr_aload_n 0 dX10_isSoAfter_3 rfl ?_
  refine zt_geti 42 rfl dX10_isSoAfter_4 fX10_241 rfl (by decide) ?_
  obtain ⟨c1, W⟩ := W
  obtain ⟨c2, W⟩ := W
  refine zr_icmp_ge (tgt := 74) dX10_isSoAfter_7 (by decide) c1 c2 (fun h => ?_) (fun h => ?_)
  · have W := W.1 h
    refine zr_iconst dX10_isSoAfter_74 ?_
    exact zt_zret dX10_isSoAfter_75 rfl (by decide) W
  · have W := W.2 h
    refine zr_aload_n 0 dX10_isSoAfter_10 rfl ?_
    refine zr_getr (b := 18) dX10_isSoAfter_11 fX10_69 rfl rfl rfl (by decide) ?_
    refine zr_iload_n 3 dX10_isSoAfter_14 rfl ?_
    obtain ⟨c3, W⟩ := W
    refine zr_iald dX10_isSoAfter_15 rfl (by decide) c3 ?_
    refine zr_iload_n 1 dX10_isSoAfter_16 rfl ?_
    obtain ⟨c4, W⟩ := W
    obtain ⟨c5, W⟩ := W
    refine zr_icmp_ne (tgt := 68) dX10_isSoAfter_17 (by decide) c4 c5 (fun h => ?_) (fun h => ?_)
    · have W := W.1 h
      refine zr_iinc (q := 3) (l' := [(0, zA g 1), (1, zI x1), (2, zI x2), (3, zI (x3 + 1))]) dX10_isSoAfter_68 rfl (by decide) [1, 2, 3, 0] rfl ?_
      refine zr_goto (tgt := 2) dX10_isSoAfter_71 (by decide) ?_
      exact W
    · have W := W.2 h
      refine zr_aload_n 0 dX10_isSoAfter_20 rfl ?_
      refine zr_iload_n 3 dX10_isSoAfter_21 rfl ?_
      refine zr_iload_n 2 dX10_isSoAfter_22 rfl ?_
      obtain ⟨c6, W⟩ := W
      obtain ⟨c7, W⟩ := W
      obtain ⟨c8, W⟩ := W
      refine zt_callVi (As := [zI x3, zI x2]) (rest := []) dX10_isSoAfter_23 kX10_isSoAfter_442 rfl rfl rfl rfl (Nat.le_of_ble_eq_true rfl) (c_doesCount c3 c6 c7 c8) (fun r9 N11 h10 => ?_)
      rw [h10.1, h10.2]
      refine zt_ifeq_b (tgt := 68) dX10_isSoAfter_26 (by decide) (fun h => ?_) (fun h => ?_)
      · have W := W.1 h
        refine zr_iinc (q := 3) (l' := [(0, zA g 1), (1, zI x1), (2, zI x2), (3, zI (x3 + 1))]) dX10_isSoAfter_68 rfl (by decide) [1, 2, 3, 0] rfl ?_
        refine zr_goto (tgt := 2) dX10_isSoAfter_71 (by decide) ?_
        exact W
      · have W := W.2 h
        refine zr_aload_n 0 dX10_isSoAfter_29 rfl ?_
        refine zr_getr (b := 11) dX10_isSoAfter_30 fX10_45 rfl rfl rfl (by decide) ?_
        refine zr_aload_n 0 dX10_isSoAfter_33 rfl ?_
        refine zr_getr (b := 19) dX10_isSoAfter_34 fX10_72 rfl rfl rfl (by decide) ?_
        refine zr_iload_n 3 dX10_isSoAfter_37 rfl ?_
        refine zr_iald dX10_isSoAfter_38 rfl (by decide) c3 ?_
        obtain ⟨c12, W⟩ := W
        refine zr_iald dX10_isSoAfter_39 rfl (by decide) c12 ?_
        refine zr_aload_n 0 dX10_isSoAfter_40 rfl ?_
        refine zr_getr (b := 20) dX10_isSoAfter_41 fX10_75 rfl rfl rfl (by decide) ?_
        refine zr_iload_n 3 dX10_isSoAfter_44 rfl ?_
        refine zr_iald dX10_isSoAfter_45 rfl (by decide) c3 ?_
        obtain ⟨c13, W⟩ := W
        obtain ⟨c14, W⟩ := W
        refine zr_icmp_lt (tgt := 53) dX10_isSoAfter_46 (by decide) c13 c14 (fun h => ?_) (fun h => ?_)
        · have W := W.1 h
          refine zr_iconst dX10_isSoAfter_53 ?_
          refine zt_callSi (As := [zI 0]) (rest := []) dX10_isSoAfter_54 kX10_isSoAfter_317 rfl rfl (Nat.le_of_ble_eq_true rfl) (c_truthi (by decide)) (fun r15 N17 h16 => ?_)
          rw [h16.1, h16.2]
          refine zr_aload_n 0 dX10_isSoAfter_57 rfl ?_
          refine zr_getr (b := 21) dX10_isSoAfter_58 fX10_78 rfl rfl rfl (by decide) ?_
          refine zr_iload_n 3 dX10_isSoAfter_61 rfl ?_
          refine zr_iald dX10_isSoAfter_62 rfl (by decide) c3 ?_
          obtain ⟨c18, W⟩ := W
          refine zr_icmp_eq (tgt := 68) dX10_isSoAfter_63 (by decide) ⟨by decide, by decide⟩ c18 (fun h => ?_) (fun h => ?_)
          · have W := W.1 h
            refine zr_iinc (q := 3) (l' := [(0, zA g 1), (1, zI x1), (2, zI x2), (3, zI (x3 + 1))]) dX10_isSoAfter_68 rfl (by decide) [1, 2, 3, 0] rfl ?_
            refine zr_goto (tgt := 2) dX10_isSoAfter_71 (by decide) ?_
            exact W
          · have W := W.2 h
            refine zr_iconst dX10_isSoAfter_66 ?_
            exact zt_zret dX10_isSoAfter_67 rfl (by decide) W
        · have W := W.2 h
          refine zr_iconst dX10_isSoAfter_49 ?_
          refine zr_goto (tgt := 54) dX10_isSoAfter_50 (by decide) ?_
          refine zt_callSi (As := [zI 1]) (rest := []) dX10_isSoAfter_54 kX10_isSoAfter_317 rfl rfl (Nat.le_of_ble_eq_true rfl) (c_truthi (by decide)) (fun r19 N21 h20 => ?_)
          rw [h20.1, h20.2]
          refine zr_aload_n 0 dX10_isSoAfter_57 rfl ?_
          refine zr_getr (b := 21) dX10_isSoAfter_58 fX10_78 rfl rfl rfl (by decide) ?_
          refine zr_iload_n 3 dX10_isSoAfter_61 rfl ?_
          refine zr_iald dX10_isSoAfter_62 rfl (by decide) c3 ?_
          obtain ⟨c22, W⟩ := W
          refine zr_icmp_eq (tgt := 68) dX10_isSoAfter_63 (by decide) ⟨by decide, by decide⟩ c22 (fun h => ?_) (fun h => ?_)
          · have W := W.1 h
            refine zr_iinc (q := 3) (l' := [(0, zA g 1), (1, zI x1), (2, zI x2), (3, zI (x3 + 1))]) dX10_isSoAfter_68 rfl (by decide) [1, 2, 3, 0] rfl ?_
            refine zr_goto (tgt := 2) dX10_isSoAfter_71 (by decide) ?_
            exact W
          · have W := W.2 h
            refine zr_iconst dX10_isSoAfter_66 ?_
            exact zt_zret dX10_isSoAfter_67 rfl (by decide) W
theorem dX10_lastSeen_0 : decode cX10_lastSeen 0 = .ok (.iconst 0, 1) := by decide +kernel
theorem dX10_lastSeen_1 : decode cX10_lastSeen 1 = .ok (.istore_n 2, 1) := by decide +kernel
theorem dX10_lastSeen_2 : decode cX10_lastSeen 2 = .ok (.iconst 0, 1) := by decide +kernel
theorem dX10_lastSeen_3 : decode cX10_lastSeen 3 = .ok (.istore_n 3, 1) := by decide +kernel
theorem dX10_lastSeen_4 : decode cX10_lastSeen 4 = .ok (.iload_n 3, 1) := by decide +kernel
theorem dX10_lastSeen_5 : decode cX10_lastSeen 5 = .ok (.aload_n 0, 1) := by decide +kernel
theorem dX10_lastSeen_6 : decode cX10_lastSeen 6 = .ok (.getfield 241, 3) := by decide +kernel
theorem dX10_lastSeen_9 : decode cX10_lastSeen 9 = .ok (.if_icmp .ge 33, 3) := by decide +kernel
theorem dX10_lastSeen_12 : decode cX10_lastSeen 12 = .ok (.aload_n 0, 1) := by decide +kernel
theorem dX10_lastSeen_13 : decode cX10_lastSeen 13 = .ok (.iload_n 3, 1) := by decide +kernel
theorem dX10_lastSeen_14 : decode cX10_lastSeen 14 = .ok (.iload_n 1, 1) := by decide +kernel
theorem dX10_lastSeen_15 : decode cX10_lastSeen 15 = .ok (.invokevirtual 442, 3) := by decide +kernel
theorem dX10_lastSeen_18 : decode cX10_lastSeen 18 = .ok (.ifCond .eq 16, 3) := by decide +kernel
theorem dX10_lastSeen_21 : decode cX10_lastSeen 21 = .ok (.iload_n 2, 1) := by decide +kernel
theorem dX10_lastSeen_22 : decode cX10_lastSeen 22 = .ok (.aload_n 0, 1) := by decide +kernel
theorem dX10_lastSeen_23 : decode cX10_lastSeen 23 = .ok (.getfield 69, 3) := by decide +kernel
theorem dX10_lastSeen_26 : decode cX10_lastSeen 26 = .ok (.iload_n 3, 1) := by decide +kernel
theorem dX10_lastSeen_27 : decode cX10_lastSeen 27 = .ok (.iaload, 1) := by decide +kernel
theorem dX10_lastSeen_28 : decode cX10_lastSeen 28 = .ok (.invokestatic 349, 3) := by decide +kernel
theorem dX10_lastSeen_31 : decode cX10_lastSeen 31 = .ok (.goto 4, 3) := by decide +kernel
theorem dX10_lastSeen_34 : decode cX10_lastSeen 34 = .ok (.iload_n 2, 1) := by decide +kernel
theorem dX10_lastSeen_35 : decode cX10_lastSeen 35 = .ok (.istore_n 2, 1) := by decide +kernel
theorem dX10_lastSeen_36 : decode cX10_lastSeen 36 = .ok (.iinc 3 1, 3) := by decide +kernel
theorem dX10_lastSeen_39 : decode cX10_lastSeen 39 = .ok (.goto (-35), 3) := by decide +kernel
theorem dX10_lastSeen_42 : decode cX10_lastSeen 42 = .ok (.iload_n 2, 1) := by decide +kernel
theorem dX10_lastSeen_43 : decode cX10_lastSeen 43 = .ok (.ireturn, 1) := by decide +kernel
set_option maxRecDepth 100000 in
theorem SX10_lastSeen_0 {g : zG} {o : Bool} {M : zM} {q : Int → zM → Prop} {x1 : Int} (W : zT g (z2 o) mX10_lastSeen (zQi (z2 o) q) 4 [(0, zA g 1), (1, zI x1), (2, zI 0), (3, zI 0)] [] M) : zT g (z2 o) mX10_lastSeen (zQi (z2 o) q) 0 [(0, zA g 1), (1, zI x1)] [] M := by
  refine zr_iconst dX10_lastSeen_0 ?_
  refine zr_istore_n (l' := [(0, zA g 1), (1, zI x1), (2, zI 0)]) dX10_lastSeen_1 (by decide) [1, 2, 0] rfl ?_
  refine zr_iconst dX10_lastSeen_2 ?_
  refine zr_istore_n (l' := [(0, zA g 1), (1, zI x1), (2, zI 0), (3, zI 0)]) dX10_lastSeen_3 (by decide) [1, 2, 3, 0] rfl ?_
  exact W
set_option maxRecDepth 100000 in
theorem SX10_lastSeen_4 {g : zG} {o : Bool} {M : zM} {q : Int → zM → Prop} {x1 x2 x3 : Int} (W : (-2147483648 ≤ x3 ∧ x3 ≤ 2147483647) ∧ (-2147483648 ≤ (M 1 42) ∧ (M 1 42) ≤ 2147483647) ∧ (((M 1 42) ≤ x3) → q x2 M) ∧ ((¬ ((M 1 42) ≤ x3)) → (0 ≤ x3 ∧ x3 < 20) ∧ (-2147483648 ≤ x1 ∧ x1 ≤ 2147483647) ∧ (-2147483648 ≤ (M 22 x3) ∧ (M 22 x3) ≤ 2147483647) ∧ (-2147483648 ≤ (M 23 x3) ∧ (M 23 x3) ≤ 2147483647) ∧ ((¬ (dct M x3 x1)) → zT g (z2 o) mX10_lastSeen (zQi (z2 o) q) 4 [(0, zA g 1), (1, zI x1), (2, zI x2), (3, zI (x3 + 1))] [] M) ∧ ((dct M x3 x1) → (-2147483648 ≤ x2 ∧ x2 ≤ 2147483647) ∧ (-2147483648 ≤ (M 18 x3) ∧ (M 18 x3) ≤ 2147483647) ∧ zT g (z2 o) mX10_lastSeen (zQi (z2 o) q) 4 [(0, zA g 1), (1, zI x1), (2, zI (max x2 (M 18 x3))), (3, zI (x3 + 1))] [] M))) : zT g (z2 o) mX10_lastSeen (zQi (z2 o) q) 4 [(0, zA g 1), (1, zI x1), (2, zI x2), (3, zI x3)] [] M := by
  refine zr_iload_n 3 dX10_lastSeen_4 rfl ?_
  refine zr_aload_n 0 dX10_lastSeen_5 rfl ?_
  refine zt_geti 42 rfl dX10_lastSeen_6 fX10_241 rfl (by decide) ?_
  obtain ⟨c1, W⟩ := W
  obtain ⟨c2, W⟩ := W
  refine zr_icmp_ge (tgt := 42) dX10_lastSeen_9 (by decide) c1 c2 (fun h => ?_) (fun h => ?_)
  · have W := W.1 h
    refine zr_iload_n 2 dX10_lastSeen_42 rfl ?_
    exact zt_iret dX10_lastSeen_43 rfl W
  · have W := W.2 h
    refine zr_aload_n 0 dX10_lastSeen_12 rfl ?_
    refine zr_iload_n 3 dX10_lastSeen_13 rfl ?_
    refine zr_iload_n 1 dX10_lastSeen_14 rfl ?_
    obtain ⟨c3, W⟩ := W
    obtain ⟨c4, W⟩ := W
    obtain ⟨c5, W⟩ := W
    obtain ⟨c6, W⟩ := W
    refine zt_callVi (As := [zI x3, zI x1]) (rest := []) dX10_lastSeen_15 kX10_lastSeen_442 rfl rfl rfl rfl (Nat.le_of_ble_eq_true rfl) (c_doesCount c3 c4 c5 c6) (fun r7 N9 h8 => ?_)
    rw [h8.1, h8.2]
    refine zt_ifeq_b (tgt := 34) dX10_lastSeen_18 (by decide) (fun h => ?_) (fun h => ?_)
    · have W := W.1 h
      refine zr_iload_n 2 dX10_lastSeen_34 rfl ?_
      refine zr_istore_n (l' := [(0, zA g 1), (1, zI x1), (2, zI x2), (3, zI x3)]) dX10_lastSeen_35 (by decide) [1, 2, 0, 3] rfl ?_
      refine zr_iinc (q := 3) (l' := [(0, zA g 1), (1, zI x1), (2, zI x2), (3, zI (x3 + 1))]) dX10_lastSeen_36 rfl (by decide) [1, 2, 3, 0] rfl ?_
      refine zr_goto (tgt := 4) dX10_lastSeen_39 (by decide) ?_
      exact W
    · have W := W.2 h
      refine zr_iload_n 2 dX10_lastSeen_21 rfl ?_
      refine zr_aload_n 0 dX10_lastSeen_22 rfl ?_
      refine zr_getr (b := 18) dX10_lastSeen_23 fX10_69 rfl rfl rfl (by decide) ?_
      refine zr_iload_n 3 dX10_lastSeen_26 rfl ?_
      refine zr_iald dX10_lastSeen_27 rfl (by decide) c3 ?_
      obtain ⟨c10, W⟩ := W
      obtain ⟨c11, W⟩ := W
      refine zt_callSi (As := [zI x2, zI (M 18 x3)]) (rest := []) dX10_lastSeen_28 kX10_lastSeen_349 rfl rfl (Nat.le_of_ble_eq_true rfl) (c_greater c10 c11) (fun r12 N14 h13 => ?_)
      rw [h13.1, h13.2]
      refine zr_goto (tgt := 35) dX10_lastSeen_31 (by decide) ?_
      refine zr_istore_n (l' := [(0, zA g 1), (1, zI x1), (2, zI (max x2 (M 18 x3))), (3, zI x3)]) dX10_lastSeen_35 (by decide) [1, 2, 0, 3] rfl ?_
      refine zr_iinc (q := 3) (l' := [(0, zA g 1), (1, zI x1), (2, zI (max x2 (M 18 x3))), (3, zI (x3 + 1))]) dX10_lastSeen_36 rfl (by decide) [1, 2, 3, 0] rfl ?_
      refine zr_goto (tgt := 4) dX10_lastSeen_39 (by decide) ?_
      exact W
theorem dX10_fitsBy_0 : decode cX10_fitsBy 0 = .ok (.aload_n 0, 1) := by decide +kernel
theorem dX10_fitsBy_1 : decode cX10_fitsBy 1 = .ok (.iload_n 1, 1) := by decide +kernel
theorem dX10_fitsBy_2 : decode cX10_fitsBy 2 = .ok (.invokevirtual 232, 3) := by decide +kernel
theorem dX10_fitsBy_5 : decode cX10_fitsBy 5 = .ok (.aload_n 0, 1) := by decide +kernel
theorem dX10_fitsBy_6 : decode cX10_fitsBy 6 = .ok (.iload_n 2, 1) := by decide +kernel
theorem dX10_fitsBy_7 : decode cX10_fitsBy 7 = .ok (.invokevirtual 445, 3) := by decide +kernel
theorem dX10_fitsBy_10 : decode cX10_fitsBy 10 = .ok (.istore_n 3, 1) := by decide +kernel
theorem dX10_fitsBy_11 : decode cX10_fitsBy 11 = .ok (.aload_n 0, 1) := by decide +kernel
theorem dX10_fitsBy_12 : decode cX10_fitsBy 12 = .ok (.iconst 0, 1) := by decide +kernel
theorem dX10_fitsBy_13 : decode cX10_fitsBy 13 = .ok (.iload_n 2, 1) := by decide +kernel
theorem dX10_fitsBy_14 : decode cX10_fitsBy 14 = .ok (.invokevirtual 448, 3) := by decide +kernel
theorem dX10_fitsBy_17 : decode cX10_fitsBy 17 = .ok (.istore 4, 2) := by decide +kernel
theorem dX10_fitsBy_19 : decode cX10_fitsBy 19 = .ok (.iconst 1, 1) := by decide +kernel
theorem dX10_fitsBy_20 : decode cX10_fitsBy 20 = .ok (.istore 5, 2) := by decide +kernel
theorem dX10_fitsBy_22 : decode cX10_fitsBy 22 = .ok (.iload 5, 2) := by decide +kernel
theorem dX10_fitsBy_24 : decode cX10_fitsBy 24 = .ok (.iload_n 3, 1) := by decide +kernel
theorem dX10_fitsBy_25 : decode cX10_fitsBy 25 = .ok (.if_icmp .gt 29, 3) := by decide +kernel
theorem dX10_fitsBy_28 : decode cX10_fitsBy 28 = .ok (.iload 4, 2) := by decide +kernel
theorem dX10_fitsBy_30 : decode cX10_fitsBy 30 = .ok (.ifCond .eq 24, 3) := by decide +kernel
theorem dX10_fitsBy_33 : decode cX10_fitsBy 33 = .ok (.aload_n 0, 1) := by decide +kernel
theorem dX10_fitsBy_34 : decode cX10_fitsBy 34 = .ok (.invokevirtual 315, 3) := by decide +kernel
theorem dX10_fitsBy_37 : decode cX10_fitsBy 37 = .ok (.istore 6, 2) := by decide +kernel
theorem dX10_fitsBy_39 : decode cX10_fitsBy 39 = .ok (.aload_n 0, 1) := by decide +kernel
theorem dX10_fitsBy_40 : decode cX10_fitsBy 40 = .ok (.iload 5, 2) := by decide +kernel
theorem dX10_fitsBy_42 : decode cX10_fitsBy 42 = .ok (.iload_n 2, 1) := by decide +kernel
theorem dX10_fitsBy_43 : decode cX10_fitsBy 43 = .ok (.invokevirtual 448, 3) := by decide +kernel
theorem dX10_fitsBy_46 : decode cX10_fitsBy 46 = .ok (.istore 4, 2) := by decide +kernel
theorem dX10_fitsBy_48 : decode cX10_fitsBy 48 = .ok (.iinc 5 1, 3) := by decide +kernel
theorem dX10_fitsBy_51 : decode cX10_fitsBy 51 = .ok (.goto (-29), 3) := by decide +kernel
theorem dX10_fitsBy_54 : decode cX10_fitsBy 54 = .ok (.iload 4, 2) := by decide +kernel
theorem dX10_fitsBy_56 : decode cX10_fitsBy 56 = .ok (.ireturn, 1) := by decide +kernel
set_option maxRecDepth 100000 in
theorem SX10_fitsBy_0 {g : zG} {o : Bool} {M : zM} {q : Int → zM → Prop} {x1 x2 : Int} (W : ∃ q1 : zM → Prop, zKv g (z2 o) mX10_asTold [zA g 1, zI x1] M q1 ∧ ∀ M3 : zM, q1 M3 → ∃ q6 : Int → zM → Prop, zKi g (z2 o) mX10_lastSeen [zA g 1, zI x2] M3 q6 ∧ ∀ (r7 : Int) (M8 : zM), q6 r7 M8 → ∃ q11 : Int → zM → Prop, zKi g (z2 o) mX10_isSoAfter [zA g 1, zI 0, zI x2] M8 q11 ∧ ∀ (r12 : Int) (M13 : zM), q11 r12 M13 → zT g (z2 o) mX10_fitsBy (zQi (z2 o) q) 22 [(0, zA g 1), (2, zI x2), (3, zI r7), (4, zI r12), (5, zI 1)] [] M13) : zT g (z2 o) mX10_fitsBy (zQi (z2 o) q) 0 [(0, zA g 1), (1, zI x1), (2, zI x2)] [] M := by
  refine zr_aload_n 0 dX10_fitsBy_0 rfl ?_
  refine zr_iload_n 1 dX10_fitsBy_1 rfl ?_
  obtain ⟨q1, k5, W⟩ := W
  refine zt_callVv (As := [zI x1]) (rest := []) dX10_fitsBy_2 kX10_fitsBy_232 rfl rfl rfl rfl (Nat.le_of_ble_eq_true rfl) k5 (fun M3 h4 => ?_)
  have W := W M3 h4
  refine zr_aload_n 0 dX10_fitsBy_5 rfl ?_
  refine zr_iload_n 2 dX10_fitsBy_6 rfl ?_
  obtain ⟨q6, k10, W⟩ := W
  refine zt_callVi (As := [zI x2]) (rest := []) dX10_fitsBy_7 kX10_fitsBy_445 rfl rfl rfl rfl (Nat.le_of_ble_eq_true rfl) k10 (fun r7 M8 h9 => ?_)
  have W := W r7 M8 h9
  refine zr_istore_n (l' := [(0, zA g 1), (2, zI x2), (3, zI r7)]) dX10_fitsBy_10 (by decide) [1, 3, 0] rfl ?_
  refine zr_aload_n 0 dX10_fitsBy_11 rfl ?_
  refine zr_iconst dX10_fitsBy_12 ?_
  refine zr_iload_n 1 dX10_fitsBy_13 rfl ?_
  obtain ⟨q11, k15, W⟩ := W
  refine zt_callVi (As := [zI 0, zI x2]) (rest := []) dX10_fitsBy_14 kX10_fitsBy_448 rfl rfl rfl rfl (Nat.le_of_ble_eq_true rfl) k15 (fun r12 M13 h14 => ?_)
  have W := W r12 M13 h14
  refine zr_istore (l' := [(0, zA g 1), (2, zI x2), (3, zI r7), (4, zI r12)]) dX10_fitsBy_17 (by decide) [1, 2, 3, 0] rfl ?_
  refine zr_iconst dX10_fitsBy_19 ?_
  refine zr_istore (l' := [(0, zA g 1), (2, zI x2), (3, zI r7), (4, zI r12), (5, zI 1)]) dX10_fitsBy_20 (by decide) [1, 2, 3, 4, 0] rfl ?_
  exact W
set_option maxRecDepth 100000 in
theorem SX10_fitsBy_22 {g : zG} {o : Bool} {M : zM} {q : Int → zM → Prop} {x2 x3 x4 x5 : Int} (W : (-2147483648 ≤ x5 ∧ x5 ≤ 2147483647) ∧ (-2147483648 ≤ x3 ∧ x3 ≤ 2147483647) ∧ ((x3 < x5) → (x4 = 0 ∨ x4 = 1) ∧ q x4 M) ∧ ((¬ (x3 < x5)) → (-2147483648 ≤ x4 ∧ x4 ≤ 2147483647) ∧ ((x4 = 0) → (x4 = 0 ∨ x4 = 1) ∧ q x4 M) ∧ ((¬ (x4 = 0)) → ∃ q4 : Int → zM → Prop, zKi g (z2 o) mX10_tries [zA g 1] M q4 ∧ ∀ (r5 : Int) (M6 : zM), q4 r5 M6 → ∃ q9 : Int → zM → Prop, zKi g (z2 o) mX10_isSoAfter [zA g 1, zI x5, zI x2] M6 q9 ∧ ∀ (r10 : Int) (M11 : zM), q9 r10 M11 → zT g (z2 o) mX10_fitsBy (zQi (z2 o) q) 22 [(0, zA g 1), (2, zI x2), (3, zI x3), (4, zI r10), (5, zI (x5 + 1))] [] M11))) : zT g (z2 o) mX10_fitsBy (zQi (z2 o) q) 22 [(0, zA g 1), (2, zI x2), (3, zI x3), (4, zI x4), (5, zI x5)] [] M := by
  refine zr_iload 4 dX10_fitsBy_22 rfl ?_
  refine zr_iload_n 2 dX10_fitsBy_24 rfl ?_
  obtain ⟨c1, W⟩ := W
  obtain ⟨c2, W⟩ := W
  refine zr_icmp_gt (tgt := 54) dX10_fitsBy_25 (by decide) c1 c2 (fun h => ?_) (fun h => ?_)
  · have W := W.1 h
    refine zr_iload 3 dX10_fitsBy_54 rfl ?_
    exact zt_zret dX10_fitsBy_56 rfl W.1 W.2
  · have W := W.2 h
    refine zr_iload 3 dX10_fitsBy_28 rfl ?_
    obtain ⟨c3, W⟩ := W
    refine zr_if_eq (tgt := 54) dX10_fitsBy_30 (by decide) c3 (fun h => ?_) (fun h => ?_)
    · have W := W.1 h
      refine zr_iload 3 dX10_fitsBy_54 rfl ?_
      exact zt_zret dX10_fitsBy_56 rfl W.1 W.2
    · have W := W.2 h
      refine zr_aload_n 0 dX10_fitsBy_33 rfl ?_
      obtain ⟨q4, k8, W⟩ := W
      refine zt_callVi (As := []) (rest := []) dX10_fitsBy_34 kX10_fitsBy_315 rfl rfl rfl rfl (Nat.le_of_ble_eq_true rfl) k8 (fun r5 M6 h7 => ?_)
      have W := W r5 M6 h7
      refine zr_istore (l' := [(0, zA g 1), (2, zI x2), (3, zI x3), (5, zI x5)]) dX10_fitsBy_37 (by decide) [1, 2, 3, 5] rfl ?_
      refine zr_aload_n 0 dX10_fitsBy_39 rfl ?_
      refine zr_iload 3 dX10_fitsBy_40 rfl ?_
      refine zr_iload_n 1 dX10_fitsBy_42 rfl ?_
      obtain ⟨q9, k13, W⟩ := W
      refine zt_callVi (As := [zI x5, zI x2]) (rest := []) dX10_fitsBy_43 kX10_fitsBy_448 rfl rfl rfl rfl (Nat.le_of_ble_eq_true rfl) k13 (fun r10 M11 h12 => ?_)
      have W := W r10 M11 h12
      refine zr_istore (l' := [(0, zA g 1), (2, zI x2), (3, zI x3), (4, zI r10), (5, zI x5)]) dX10_fitsBy_46 (by decide) [1, 2, 3, 0, 4] rfl ?_
      refine zr_iinc (q := 4) (l' := [(0, zA g 1), (2, zI x2), (3, zI x3), (4, zI r10), (5, zI (x5 + 1))]) dX10_fitsBy_48 rfl (by decide) [1, 2, 3, 4, 0] rfl ?_
      refine zr_goto (tgt := 22) dX10_fitsBy_51 (by decide) ?_
      exact W
theorem dX10_laysFits_0 : decode cX10_laysFits 0 = .ok (.iconst 0, 1) := by decide +kernel
theorem dX10_laysFits_1 : decode cX10_laysFits 1 = .ok (.istore_n 2, 1) := by decide +kernel
theorem dX10_laysFits_2 : decode cX10_laysFits 2 = .ok (.iconst 0, 1) := by decide +kernel
theorem dX10_laysFits_3 : decode cX10_laysFits 3 = .ok (.istore_n 3, 1) := by decide +kernel
theorem dX10_laysFits_4 : decode cX10_laysFits 4 = .ok (.iload_n 3, 1) := by decide +kernel
theorem dX10_laysFits_5 : decode cX10_laysFits 5 = .ok (.bipush 50, 2) := by decide +kernel
theorem dX10_laysFits_7 : decode cX10_laysFits 7 = .ok (.if_icmp .ge 33, 3) := by decide +kernel
theorem dX10_laysFits_10 : decode cX10_laysFits 10 = .ok (.aload_n 0, 1) := by decide +kernel
theorem dX10_laysFits_11 : decode cX10_laysFits 11 = .ok (.getfield 87, 3) := by decide +kernel
theorem dX10_laysFits_14 : decode cX10_laysFits 14 = .ok (.iload_n 3, 1) := by decide +kernel
theorem dX10_laysFits_15 : decode cX10_laysFits 15 = .ok (.aload_n 0, 1) := by decide +kernel
theorem dX10_laysFits_16 : decode cX10_laysFits 16 = .ok (.iload_n 3, 1) := by decide +kernel
theorem dX10_laysFits_17 : decode cX10_laysFits 17 = .ok (.iload_n 1, 1) := by decide +kernel
theorem dX10_laysFits_18 : decode cX10_laysFits 18 = .ok (.invokevirtual 451, 3) := by decide +kernel
theorem dX10_laysFits_21 : decode cX10_laysFits 21 = .ok (.bastore, 1) := by decide +kernel
theorem dX10_laysFits_22 : decode cX10_laysFits 22 = .ok (.iload_n 2, 1) := by decide +kernel
theorem dX10_laysFits_23 : decode cX10_laysFits 23 = .ok (.aload_n 0, 1) := by decide +kernel
theorem dX10_laysFits_24 : decode cX10_laysFits 24 = .ok (.getfield 87, 3) := by decide +kernel
theorem dX10_laysFits_27 : decode cX10_laysFits 27 = .ok (.iload_n 3, 1) := by decide +kernel
theorem dX10_laysFits_28 : decode cX10_laysFits 28 = .ok (.baload, 1) := by decide +kernel
theorem dX10_laysFits_29 : decode cX10_laysFits 29 = .ok (.invokestatic 317, 3) := by decide +kernel
theorem dX10_laysFits_32 : decode cX10_laysFits 32 = .ok (.iadd, 1) := by decide +kernel
theorem dX10_laysFits_33 : decode cX10_laysFits 33 = .ok (.istore_n 2, 1) := by decide +kernel
theorem dX10_laysFits_34 : decode cX10_laysFits 34 = .ok (.iinc 3 1, 3) := by decide +kernel
theorem dX10_laysFits_37 : decode cX10_laysFits 37 = .ok (.goto (-33), 3) := by decide +kernel
theorem dX10_laysFits_40 : decode cX10_laysFits 40 = .ok (.iload_n 2, 1) := by decide +kernel
theorem dX10_laysFits_41 : decode cX10_laysFits 41 = .ok (.ireturn, 1) := by decide +kernel
set_option maxRecDepth 100000 in
theorem SX10_laysFits_0 {g : zG} {o : Bool} {M : zM} {q : Int → zM → Prop} {x1 : Int} (W : zT g (z2 o) mX10_laysFits (zQi (z2 o) q) 4 [(0, zA g 1), (1, zI x1), (2, zI 0), (3, zI 0)] [] M) : zT g (z2 o) mX10_laysFits (zQi (z2 o) q) 0 [(0, zA g 1), (1, zI x1)] [] M := by
  refine zr_iconst dX10_laysFits_0 ?_
  refine zr_istore_n (l' := [(0, zA g 1), (1, zI x1), (2, zI 0)]) dX10_laysFits_1 (by decide) [1, 2, 0] rfl ?_
  refine zr_iconst dX10_laysFits_2 ?_
  refine zr_istore_n (l' := [(0, zA g 1), (1, zI x1), (2, zI 0), (3, zI 0)]) dX10_laysFits_3 (by decide) [1, 2, 3, 0] rfl ?_
  exact W
set_option maxRecDepth 100000 in
theorem SX10_laysFits_4 {g : zG} {o : Bool} {M : zM} {q : Int → zM → Prop} {x1 x2 x3 : Int} (W : (-2147483648 ≤ x3 ∧ x3 ≤ 2147483647) ∧ ((50 ≤ x3) → q x2 M) ∧ ((¬ (50 ≤ x3)) → ∃ q2 : Int → zM → Prop, zKi g (z2 o) mX10_fitsBy [zA g 1, zI x3, zI x1] M q2 ∧ ∀ (r3 : Int) (M4 : zM), q2 r3 M4 → (0 ≤ x3 ∧ x3 < 50) ∧ (r3 = 0 ∨ r3 = 1) ∧ (((zu M4 24 x3 r3) 24 x3) = 0 ∨ ((zu M4 24 x3 r3) 24 x3) = 1) ∧ zT g (z2 o) mX10_laysFits (zQi (z2 o) q) 4 [(0, zA g 1), (1, zI x1), (2, zI (x2 + ((zu M4 24 x3 r3) 24 x3))), (3, zI (x3 + 1))] [] (zu M4 24 x3 r3))) : zT g (z2 o) mX10_laysFits (zQi (z2 o) q) 4 [(0, zA g 1), (1, zI x1), (2, zI x2), (3, zI x3)] [] M := by
  refine zr_iload_n 3 dX10_laysFits_4 rfl ?_
  refine zr_bipush dX10_laysFits_5 (by decide) ?_
  obtain ⟨c1, W⟩ := W
  refine zr_icmp_ge (tgt := 40) dX10_laysFits_7 (by decide) c1 ⟨by decide, by decide⟩ (fun h => ?_) (fun h => ?_)
  · have W := W.1 h
    refine zr_iload_n 2 dX10_laysFits_40 rfl ?_
    exact zt_iret dX10_laysFits_41 rfl W
  · have W := W.2 h
    refine zr_aload_n 0 dX10_laysFits_10 rfl ?_
    refine zr_getr (b := 24) dX10_laysFits_11 fX10_87 rfl rfl rfl (by decide) ?_
    refine zr_iload_n 3 dX10_laysFits_14 rfl ?_
    refine zr_aload_n 0 dX10_laysFits_15 rfl ?_
    refine zr_iload_n 3 dX10_laysFits_16 rfl ?_
    refine zr_iload_n 1 dX10_laysFits_17 rfl ?_
    obtain ⟨q2, k6, W⟩ := W
    refine zt_callVi (As := [zI x3, zI x1]) (rest := [zI x3, zA g 24]) dX10_laysFits_18 kX10_laysFits_451 rfl rfl rfl rfl (Nat.le_of_ble_eq_true rfl) k6 (fun r3 M4 h5 => ?_)
    have W := W r3 M4 h5
    obtain ⟨c7, W⟩ := W
    obtain ⟨c8, W⟩ := W
    refine zr_zast dX10_laysFits_21 rfl (by decide) c7 c8 ?_
    refine zr_iload_n 2 dX10_laysFits_22 rfl ?_
    refine zr_aload_n 0 dX10_laysFits_23 rfl ?_
    refine zr_getr (b := 24) dX10_laysFits_24 fX10_87 rfl rfl rfl (by decide) ?_
    refine zr_iload_n 3 dX10_laysFits_27 rfl ?_
    refine zr_zald dX10_laysFits_28 rfl (by decide) c7 ?_
    obtain ⟨c9, W⟩ := W
    refine zt_callSi (As := [zI ((zu M4 24 x3 r3) 24 x3)]) (rest := [zI x2]) dX10_laysFits_29 kX10_laysFits_317 rfl rfl (Nat.le_of_ble_eq_true rfl) (c_truthi c9) (fun r10 N12 h11 => ?_)
    rw [h11.1, h11.2]
    refine zr_iadd dX10_laysFits_32 ?_
    refine zr_istore_n (l' := [(0, zA g 1), (1, zI x1), (2, zI (x2 + ((zu M4 24 x3 r3) 24 x3))), (3, zI x3)]) dX10_laysFits_33 (by decide) [1, 2, 0, 3] rfl ?_
    refine zr_iinc (q := 3) (l' := [(0, zA g 1), (1, zI x1), (2, zI (x2 + ((zu M4 24 x3 r3) 24 x3))), (3, zI (x3 + 1))]) dX10_laysFits_34 rfl (by decide) [1, 2, 3, 0] rfl ?_
    refine zr_goto (tgt := 4) dX10_laysFits_37 (by decide) ?_
    exact W
theorem dX10_fits_0 : decode cX10_fits 0 = .ok (.aload_n 0, 1) := by decide +kernel
theorem dX10_fits_1 : decode cX10_fits 1 = .ok (.iload_n 1, 1) := by decide +kernel
theorem dX10_fits_2 : decode cX10_fits 2 = .ok (.invokevirtual 454, 3) := by decide +kernel
theorem dX10_fits_5 : decode cX10_fits 5 = .ok (.ireturn, 1) := by decide +kernel
set_option maxRecDepth 100000 in
theorem SX10_fits_0 {g : zG} {o : Bool} {M : zM} {q : Int → zM → Prop} {x1 : Int} (W : ∃ q1 : Int → zM → Prop, zKi g (z2 o) mX10_laysFits [zA g 1, zI x1] M q1 ∧ ∀ (r2 : Int) (M3 : zM), q1 r2 M3 → q r2 M3) : zT g (z2 o) mX10_fits (zQi (z2 o) q) 0 [(0, zA g 1), (1, zI x1)] [] M := by
  refine zr_aload_n 0 dX10_fits_0 rfl ?_
  refine zr_iload_n 1 dX10_fits_1 rfl ?_
  obtain ⟨q1, k5, W⟩ := W
  refine zt_callVi (As := [zI x1]) (rest := []) dX10_fits_2 kX10_fits_454 rfl rfl rfl rfl (Nat.le_of_ble_eq_true rfl) k5 (fun r2 M3 h4 => ?_)
  have W := W r2 M3 h4
  exact zt_iret dX10_fits_5 rfl W
theorem dX10_fit_0 : decode cX10_fit 0 = .ok (.aload_n 0, 1) := by decide +kernel
theorem dX10_fit_1 : decode cX10_fit 1 = .ok (.iload_n 2, 1) := by decide +kernel
theorem dX10_fit_2 : decode cX10_fit 2 = .ok (.invokevirtual 454, 3) := by decide +kernel
theorem dX10_fit_5 : decode cX10_fit 5 = .ok (.istore_n 3, 1) := by decide +kernel
theorem dX10_fit_6 : decode cX10_fit 6 = .ok (.iconst 0, 1) := by decide +kernel
theorem dX10_fit_7 : decode cX10_fit 7 = .ok (.istore 4, 2) := by decide +kernel
theorem dX10_fit_9 : decode cX10_fit 9 = .ok (.iconst 0, 1) := by decide +kernel
theorem dX10_fit_10 : decode cX10_fit 10 = .ok (.istore 5, 2) := by decide +kernel
theorem dX10_fit_12 : decode cX10_fit 12 = .ok (.iload 5, 2) := by decide +kernel
theorem dX10_fit_14 : decode cX10_fit 14 = .ok (.bipush 50, 2) := by decide +kernel
theorem dX10_fit_16 : decode cX10_fit 16 = .ok (.if_icmp .ge 45, 3) := by decide +kernel
theorem dX10_fit_19 : decode cX10_fit 19 = .ok (.iload_n 1, 1) := by decide +kernel
theorem dX10_fit_20 : decode cX10_fit 20 = .ok (.iconst 0, 1) := by decide +kernel
theorem dX10_fit_21 : decode cX10_fit 21 = .ok (.iload_n 3, 1) := by decide +kernel
theorem dX10_fit_22 : decode cX10_fit 22 = .ok (.iconst 1, 1) := by decide +kernel
theorem dX10_fit_23 : decode cX10_fit 23 = .ok (.isub, 1) := by decide +kernel
theorem dX10_fit_24 : decode cX10_fit 24 = .ok (.invokestatic 106, 3) := by decide +kernel
theorem dX10_fit_27 : decode cX10_fit 27 = .ok (.ifCond .eq 34, 3) := by decide +kernel
theorem dX10_fit_30 : decode cX10_fit 30 = .ok (.aload_n 0, 1) := by decide +kernel
theorem dX10_fit_31 : decode cX10_fit 31 = .ok (.getfield 87, 3) := by decide +kernel
theorem dX10_fit_34 : decode cX10_fit 34 = .ok (.iload 5, 2) := by decide +kernel
theorem dX10_fit_36 : decode cX10_fit 36 = .ok (.baload, 1) := by decide +kernel
theorem dX10_fit_37 : decode cX10_fit 37 = .ok (.ifCond .ne 6, 3) := by decide +kernel
theorem dX10_fit_40 : decode cX10_fit 40 = .ok (.goto 15, 3) := by decide +kernel
theorem dX10_fit_43 : decode cX10_fit 43 = .ok (.iload 4, 2) := by decide +kernel
theorem dX10_fit_45 : decode cX10_fit 45 = .ok (.iload_n 1, 1) := by decide +kernel
theorem dX10_fit_46 : decode cX10_fit 46 = .ok (.if_icmp .ne 6, 3) := by decide +kernel
theorem dX10_fit_49 : decode cX10_fit 49 = .ok (.iload 5, 2) := by decide +kernel
theorem dX10_fit_51 : decode cX10_fit 51 = .ok (.ireturn, 1) := by decide +kernel
theorem dX10_fit_52 : decode cX10_fit 52 = .ok (.iinc 4 1, 3) := by decide +kernel
theorem dX10_fit_55 : decode cX10_fit 55 = .ok (.iinc 5 1, 3) := by decide +kernel
theorem dX10_fit_58 : decode cX10_fit 58 = .ok (.goto (-46), 3) := by decide +kernel
theorem dX10_fit_61 : decode cX10_fit 61 = .ok (.iconst (-1), 1) := by decide +kernel
theorem dX10_fit_62 : decode cX10_fit 62 = .ok (.ireturn, 1) := by decide +kernel
set_option maxRecDepth 100000 in
theorem SX10_fit_0 {g : zG} {o : Bool} {M : zM} {q : Int → zM → Prop} {x1 x2 : Int} (W : ∃ q1 : Int → zM → Prop, zKi g (z2 o) mX10_laysFits [zA g 1, zI x2] M q1 ∧ ∀ (r2 : Int) (M3 : zM), q1 r2 M3 → zT g (z2 o) mX10_fit (zQi (z2 o) q) 12 [(0, zA g 1), (1, zI x1), (3, zI r2), (4, zI 0), (5, zI 0)] [] M3) : zT g (z2 o) mX10_fit (zQi (z2 o) q) 0 [(0, zA g 1), (1, zI x1), (2, zI x2)] [] M := by
  refine zr_aload_n 0 dX10_fit_0 rfl ?_
  refine zr_iload_n 2 dX10_fit_1 rfl ?_
  obtain ⟨q1, k5, W⟩ := W
  refine zt_callVi (As := [zI x2]) (rest := []) dX10_fit_2 kX10_fit_454 rfl rfl rfl rfl (Nat.le_of_ble_eq_true rfl) k5 (fun r2 M3 h4 => ?_)
  have W := W r2 M3 h4
  refine zr_istore_n (l' := [(0, zA g 1), (1, zI x1), (3, zI r2)]) dX10_fit_5 (by decide) [1, 2, 0] rfl ?_
  refine zr_iconst dX10_fit_6 ?_
  refine zr_istore (l' := [(0, zA g 1), (1, zI x1), (3, zI r2), (4, zI 0)]) dX10_fit_7 (by decide) [1, 2, 3, 0] rfl ?_
  refine zr_iconst dX10_fit_9 ?_
  refine zr_istore (l' := [(0, zA g 1), (1, zI x1), (3, zI r2), (4, zI 0), (5, zI 0)]) dX10_fit_10 (by decide) [1, 2, 3, 4, 0] rfl ?_
  exact W
set_option maxRecDepth 100000 in
theorem SX10_fit_12 {g : zG} {o : Bool} {M : zM} {q : Int → zM → Prop} {x1 x3 x4 x5 : Int} (W : (-2147483648 ≤ x5 ∧ x5 ≤ 2147483647) ∧ ((50 ≤ x5) → q (-1) M) ∧ ((¬ (50 ≤ x5)) → (-2147483648 ≤ x1 ∧ x1 ≤ 2147483647) ∧ (-2147483648 ≤ (x3 - 1) ∧ (x3 - 1) ≤ 2147483647) ∧ ((¬ (0 ≤ x1 ∧ x1 ≤ (x3 - 1))) → q (-1) M) ∧ ((0 ≤ x1 ∧ x1 ≤ (x3 - 1)) → (0 ≤ x5 ∧ x5 < 50) ∧ (-2147483648 ≤ (M 24 x5) ∧ (M 24 x5) ≤ 2147483647) ∧ (((M 24 x5) ≠ 0) → (-2147483648 ≤ x4 ∧ x4 ≤ 2147483647) ∧ (-2147483648 ≤ x1 ∧ x1 ≤ 2147483647) ∧ ((x4 ≠ x1) → zT g (z2 o) mX10_fit (zQi (z2 o) q) 12 [(0, zA g 1), (1, zI x1), (3, zI x3), (4, zI (x4 + 1)), (5, zI (x5 + 1))] [] M) ∧ ((x4 = x1) → q x5 M)) ∧ (((M 24 x5) = 0) → zT g (z2 o) mX10_fit (zQi (z2 o) q) 12 [(0, zA g 1), (1, zI x1), (3, zI x3), (4, zI x4), (5, zI (x5 + 1))] [] M)))) : zT g (z2 o) mX10_fit (zQi (z2 o) q) 12 [(0, zA g 1), (1, zI x1), (3, zI x3), (4, zI x4), (5, zI x5)] [] M := by
  refine zr_iload 4 dX10_fit_12 rfl ?_
  refine zr_bipush dX10_fit_14 (by decide) ?_
  obtain ⟨c1, W⟩ := W
  refine zr_icmp_ge (tgt := 61) dX10_fit_16 (by decide) c1 ⟨by decide, by decide⟩ (fun h => ?_) (fun h => ?_)
  · have W := W.1 h
    refine zr_iconst dX10_fit_61 ?_
    exact zt_iret dX10_fit_62 rfl W
  · have W := W.2 h
    refine zr_iload_n 1 dX10_fit_19 rfl ?_
    refine zr_iconst dX10_fit_20 ?_
    refine zr_iload_n 2 dX10_fit_21 rfl ?_
    refine zr_iconst dX10_fit_22 ?_
    refine zr_isub dX10_fit_23 ?_
    obtain ⟨c2, W⟩ := W
    obtain ⟨c3, W⟩ := W
    refine zt_callSi (As := [zI x1, zI 0, zI (x3 - 1)]) (rest := []) dX10_fit_24 kX10_fit_106 rfl rfl (Nat.le_of_ble_eq_true rfl) (c_isIn c2 ⟨by decide, by decide⟩ c3) (fun r4 N6 h5 => ?_)
    rw [h5.1, h5.2]
    refine zt_ifeq_b (tgt := 61) dX10_fit_27 (by decide) (fun h => ?_) (fun h => ?_)
    · have W := W.1 h
      refine zr_iconst dX10_fit_61 ?_
      exact zt_iret dX10_fit_62 rfl W
    · have W := W.2 h
      refine zr_aload_n 0 dX10_fit_30 rfl ?_
      refine zr_getr (b := 24) dX10_fit_31 fX10_87 rfl rfl rfl (by decide) ?_
      refine zr_iload 4 dX10_fit_34 rfl ?_
      obtain ⟨c7, W⟩ := W
      refine zr_zald dX10_fit_36 rfl (by decide) c7 ?_
      obtain ⟨c8, W⟩ := W
      refine zr_if_ne (tgt := 43) dX10_fit_37 (by decide) c8 (fun h => ?_) (fun h => ?_)
      · have W := W.1 h
        refine zr_iload 3 dX10_fit_43 rfl ?_
        refine zr_iload_n 1 dX10_fit_45 rfl ?_
        obtain ⟨c9, W⟩ := W
        obtain ⟨c10, W⟩ := W
        refine zr_icmp_ne (tgt := 52) dX10_fit_46 (by decide) c9 c10 (fun h => ?_) (fun h => ?_)
        · have W := W.1 h
          refine zr_iinc (q := 3) (l' := [(0, zA g 1), (1, zI x1), (3, zI x3), (4, zI (x4 + 1)), (5, zI x5)]) dX10_fit_52 rfl (by decide) [1, 2, 3, 0, 4] rfl ?_
          refine zr_iinc (q := 4) (l' := [(0, zA g 1), (1, zI x1), (3, zI x3), (4, zI (x4 + 1)), (5, zI (x5 + 1))]) dX10_fit_55 rfl (by decide) [1, 2, 3, 4, 0] rfl ?_
          refine zr_goto (tgt := 12) dX10_fit_58 (by decide) ?_
          exact W
        · have W := W.2 h
          refine zr_iload 4 dX10_fit_49 rfl ?_
          exact zt_iret dX10_fit_51 rfl W
      · have W := W.2 h
        refine zr_goto (tgt := 55) dX10_fit_40 (by decide) ?_
        refine zr_iinc (q := 4) (l' := [(0, zA g 1), (1, zI x1), (3, zI x3), (4, zI x4), (5, zI (x5 + 1))]) dX10_fit_55 rfl (by decide) [1, 2, 3, 4, 0] rfl ?_
        refine zr_goto (tgt := 12) dX10_fit_58 (by decide) ?_
        exact W
theorem dX10_leftBy_0 : decode cX10_leftBy 0 = .ok (.iconst 0, 1) := by decide +kernel
theorem dX10_leftBy_1 : decode cX10_leftBy 1 = .ok (.istore_n 2, 1) := by decide +kernel
theorem dX10_leftBy_2 : decode cX10_leftBy 2 = .ok (.iconst 0, 1) := by decide +kernel
theorem dX10_leftBy_3 : decode cX10_leftBy 3 = .ok (.istore_n 3, 1) := by decide +kernel
theorem dX10_leftBy_4 : decode cX10_leftBy 4 = .ok (.iload_n 3, 1) := by decide +kernel
theorem dX10_leftBy_5 : decode cX10_leftBy 5 = .ok (.bipush 50, 2) := by decide +kernel
theorem dX10_leftBy_7 : decode cX10_leftBy 7 = .ok (.if_icmp .ge 93, 3) := by decide +kernel
theorem dX10_leftBy_10 : decode cX10_leftBy 10 = .ok (.iconst 0, 1) := by decide +kernel
theorem dX10_leftBy_11 : decode cX10_leftBy 11 = .ok (.istore 4, 2) := by decide +kernel
theorem dX10_leftBy_13 : decode cX10_leftBy 13 = .ok (.iconst 0, 1) := by decide +kernel
theorem dX10_leftBy_14 : decode cX10_leftBy 14 = .ok (.istore 5, 2) := by decide +kernel
theorem dX10_leftBy_16 : decode cX10_leftBy 16 = .ok (.iload 5, 2) := by decide +kernel
theorem dX10_leftBy_18 : decode cX10_leftBy 18 = .ok (.bipush 50, 2) := by decide +kernel
theorem dX10_leftBy_20 : decode cX10_leftBy 20 = .ok (.if_icmp .ge 67, 3) := by decide +kernel
theorem dX10_leftBy_23 : decode cX10_leftBy 23 = .ok (.iload 4, 2) := by decide +kernel
theorem dX10_leftBy_25 : decode cX10_leftBy 25 = .ok (.aload_n 0, 1) := by decide +kernel
theorem dX10_leftBy_26 : decode cX10_leftBy 26 = .ok (.getfield 87, 3) := by decide +kernel
theorem dX10_leftBy_29 : decode cX10_leftBy 29 = .ok (.iload_n 3, 1) := by decide +kernel
theorem dX10_leftBy_30 : decode cX10_leftBy 30 = .ok (.baload, 1) := by decide +kernel
theorem dX10_leftBy_31 : decode cX10_leftBy 31 = .ok (.ifCond .eq 43, 3) := by decide +kernel
theorem dX10_leftBy_34 : decode cX10_leftBy 34 = .ok (.aload_n 0, 1) := by decide +kernel
theorem dX10_leftBy_35 : decode cX10_leftBy 35 = .ok (.getfield 87, 3) := by decide +kernel
theorem dX10_leftBy_38 : decode cX10_leftBy 38 = .ok (.iload 5, 2) := by decide +kernel
theorem dX10_leftBy_40 : decode cX10_leftBy 40 = .ok (.baload, 1) := by decide +kernel
theorem dX10_leftBy_41 : decode cX10_leftBy 41 = .ok (.ifCond .eq 33, 3) := by decide +kernel
theorem dX10_leftBy_44 : decode cX10_leftBy 44 = .ok (.aload_n 0, 1) := by decide +kernel
theorem dX10_leftBy_45 : decode cX10_leftBy 45 = .ok (.getfield 90, 3) := by decide +kernel
theorem dX10_leftBy_48 : decode cX10_leftBy 48 = .ok (.bipush 96, 2) := by decide +kernel
theorem dX10_leftBy_50 : decode cX10_leftBy 50 = .ok (.iload_n 3, 1) := by decide +kernel
theorem dX10_leftBy_51 : decode cX10_leftBy 51 = .ok (.imul, 1) := by decide +kernel
theorem dX10_leftBy_52 : decode cX10_leftBy 52 = .ok (.iload_n 1, 1) := by decide +kernel
theorem dX10_leftBy_53 : decode cX10_leftBy 53 = .ok (.iadd, 1) := by decide +kernel
theorem dX10_leftBy_54 : decode cX10_leftBy 54 = .ok (.iaload, 1) := by decide +kernel
theorem dX10_leftBy_55 : decode cX10_leftBy 55 = .ok (.aload_n 0, 1) := by decide +kernel
theorem dX10_leftBy_56 : decode cX10_leftBy 56 = .ok (.getfield 90, 3) := by decide +kernel
theorem dX10_leftBy_59 : decode cX10_leftBy 59 = .ok (.bipush 96, 2) := by decide +kernel
theorem dX10_leftBy_61 : decode cX10_leftBy 61 = .ok (.iload 5, 2) := by decide +kernel
theorem dX10_leftBy_63 : decode cX10_leftBy 63 = .ok (.imul, 1) := by decide +kernel
theorem dX10_leftBy_64 : decode cX10_leftBy 64 = .ok (.iload_n 1, 1) := by decide +kernel
theorem dX10_leftBy_65 : decode cX10_leftBy 65 = .ok (.iadd, 1) := by decide +kernel
theorem dX10_leftBy_66 : decode cX10_leftBy 66 = .ok (.iaload, 1) := by decide +kernel
theorem dX10_leftBy_67 : decode cX10_leftBy 67 = .ok (.if_icmp .ne 7, 3) := by decide +kernel
theorem dX10_leftBy_70 : decode cX10_leftBy 70 = .ok (.iconst 1, 1) := by decide +kernel
theorem dX10_leftBy_71 : decode cX10_leftBy 71 = .ok (.goto 4, 3) := by decide +kernel
theorem dX10_leftBy_74 : decode cX10_leftBy 74 = .ok (.iconst 0, 1) := by decide +kernel
theorem dX10_leftBy_75 : decode cX10_leftBy 75 = .ok (.invokestatic 317, 3) := by decide +kernel
theorem dX10_leftBy_78 : decode cX10_leftBy 78 = .ok (.iadd, 1) := by decide +kernel
theorem dX10_leftBy_79 : decode cX10_leftBy 79 = .ok (.istore 4, 2) := by decide +kernel
theorem dX10_leftBy_81 : decode cX10_leftBy 81 = .ok (.iinc 5 1, 3) := by decide +kernel
theorem dX10_leftBy_84 : decode cX10_leftBy 84 = .ok (.goto (-68), 3) := by decide +kernel
theorem dX10_leftBy_87 : decode cX10_leftBy 87 = .ok (.iload_n 2, 1) := by decide +kernel
theorem dX10_leftBy_88 : decode cX10_leftBy 88 = .ok (.iload 4, 2) := by decide +kernel
theorem dX10_leftBy_90 : decode cX10_leftBy 90 = .ok (.invokestatic 349, 3) := by decide +kernel
theorem dX10_leftBy_93 : decode cX10_leftBy 93 = .ok (.istore_n 2, 1) := by decide +kernel
theorem dX10_leftBy_94 : decode cX10_leftBy 94 = .ok (.iinc 3 1, 3) := by decide +kernel
theorem dX10_leftBy_97 : decode cX10_leftBy 97 = .ok (.goto (-93), 3) := by decide +kernel
theorem dX10_leftBy_100 : decode cX10_leftBy 100 = .ok (.iload_n 2, 1) := by decide +kernel
theorem dX10_leftBy_101 : decode cX10_leftBy 101 = .ok (.ireturn, 1) := by decide +kernel
set_option maxRecDepth 100000 in
theorem SX10_leftBy_0 {g : zG} {o : Bool} {M : zM} {q : Int → zM → Prop} {x1 : Int} (W : zT g (z2 o) mX10_leftBy (zQi (z2 o) q) 4 [(0, zA g 1), (1, zI x1), (2, zI 0), (3, zI 0)] [] M) : zT g (z2 o) mX10_leftBy (zQi (z2 o) q) 0 [(0, zA g 1), (1, zI x1)] [] M := by
  refine zr_iconst dX10_leftBy_0 ?_
  refine zr_istore_n (l' := [(0, zA g 1), (1, zI x1), (2, zI 0)]) dX10_leftBy_1 (by decide) [1, 2, 0] rfl ?_
  refine zr_iconst dX10_leftBy_2 ?_
  refine zr_istore_n (l' := [(0, zA g 1), (1, zI x1), (2, zI 0), (3, zI 0)]) dX10_leftBy_3 (by decide) [1, 2, 3, 0] rfl ?_
  exact W
set_option maxRecDepth 100000 in
theorem SX10_leftBy_4 {g : zG} {o : Bool} {M : zM} {q : Int → zM → Prop} {x1 x2 x3 : Int} (W : (-2147483648 ≤ x3 ∧ x3 ≤ 2147483647) ∧ ((50 ≤ x3) → q x2 M) ∧ ((¬ (50 ≤ x3)) → zT g (z2 o) mX10_leftBy (zQi (z2 o) q) 16 [(0, zA g 1), (1, zI x1), (2, zI x2), (3, zI x3), (4, zI 0), (5, zI 0)] [] M)) : zT g (z2 o) mX10_leftBy (zQi (z2 o) q) 4 [(0, zA g 1), (1, zI x1), (2, zI x2), (3, zI x3)] [] M := by
  refine zr_iload_n 3 dX10_leftBy_4 rfl ?_
  refine zr_bipush dX10_leftBy_5 (by decide) ?_
  obtain ⟨c1, W⟩ := W
  refine zr_icmp_ge (tgt := 100) dX10_leftBy_7 (by decide) c1 ⟨by decide, by decide⟩ (fun h => ?_) (fun h => ?_)
  · have W := W.1 h
    refine zr_iload_n 2 dX10_leftBy_100 rfl ?_
    exact zt_iret dX10_leftBy_101 rfl W
  · have W := W.2 h
    refine zr_iconst dX10_leftBy_10 ?_
    refine zr_istore (l' := [(0, zA g 1), (1, zI x1), (2, zI x2), (3, zI x3), (4, zI 0)]) dX10_leftBy_11 (by decide) [1, 2, 3, 4, 0] rfl ?_
    refine zr_iconst dX10_leftBy_13 ?_
    refine zr_istore (l' := [(0, zA g 1), (1, zI x1), (2, zI x2), (3, zI x3), (4, zI 0), (5, zI 0)]) dX10_leftBy_14 (by decide) [1, 2, 3, 4, 5, 0] rfl ?_
    exact W
set_option maxRecDepth 100000 in
theorem SX10_leftBy_16 {g : zG} {o : Bool} {M : zM} {q : Int → zM → Prop} {x1 x2 x3 x4 x5 : Int} (W : (-2147483648 ≤ x5 ∧ x5 ≤ 2147483647) ∧ ((50 ≤ x5) → (-2147483648 ≤ x2 ∧ x2 ≤ 2147483647) ∧ (-2147483648 ≤ x4 ∧ x4 ≤ 2147483647) ∧ zT g (z2 o) mX10_leftBy (zQi (z2 o) q) 4 [(0, zA g 1), (1, zI x1), (2, zI (max x2 x4)), (3, zI (x3 + 1))] [] M) ∧ ((¬ (50 ≤ x5)) → (0 ≤ x3 ∧ x3 < 50) ∧ (-2147483648 ≤ (M 24 x3) ∧ (M 24 x3) ≤ 2147483647) ∧ (((M 24 x3) = 0) → zT g (z2 o) mX10_leftBy (zQi (z2 o) q) 16 [(0, zA g 1), (1, zI x1), (2, zI x2), (3, zI x3), (4, zI (x4 + 0)), (5, zI (x5 + 1))] [] M) ∧ ((¬ ((M 24 x3) = 0)) → (0 ≤ x5 ∧ x5 < 50) ∧ (-2147483648 ≤ (M 24 x5) ∧ (M 24 x5) ≤ 2147483647) ∧ (((M 24 x5) = 0) → zT g (z2 o) mX10_leftBy (zQi (z2 o) q) 16 [(0, zA g 1), (1, zI x1), (2, zI x2), (3, zI x3), (4, zI (x4 + 0)), (5, zI (x5 + 1))] [] M) ∧ ((¬ ((M 24 x5) = 0)) → (0 ≤ ((96 * x3) + x1) ∧ ((96 * x3) + x1) < 4800) ∧ (0 ≤ ((96 * x5) + x1) ∧ ((96 * x5) + x1) < 4800) ∧ (-2147483648 ≤ (M 25 ((96 * x3) + x1)) ∧ (M 25 ((96 * x3) + x1)) ≤ 2147483647) ∧ (-2147483648 ≤ (M 25 ((96 * x5) + x1)) ∧ (M 25 ((96 * x5) + x1)) ≤ 2147483647) ∧ (((M 25 ((96 * x3) + x1)) ≠ (M 25 ((96 * x5) + x1))) → zT g (z2 o) mX10_leftBy (zQi (z2 o) q) 16 [(0, zA g 1), (1, zI x1), (2, zI x2), (3, zI x3), (4, zI (x4 + 0)), (5, zI (x5 + 1))] [] M) ∧ (((M 25 ((96 * x3) + x1)) = (M 25 ((96 * x5) + x1))) → zT g (z2 o) mX10_leftBy (zQi (z2 o) q) 16 [(0, zA g 1), (1, zI x1), (2, zI x2), (3, zI x3), (4, zI (x4 + 1)), (5, zI (x5 + 1))] [] M))))) : zT g (z2 o) mX10_leftBy (zQi (z2 o) q) 16 [(0, zA g 1), (1, zI x1), (2, zI x2), (3, zI x3), (4, zI x4), (5, zI x5)] [] M := by
  refine zr_iload 5 dX10_leftBy_16 rfl ?_
  refine zr_bipush dX10_leftBy_18 (by decide) ?_
  obtain ⟨c1, W⟩ := W
  refine zr_icmp_ge (tgt := 87) dX10_leftBy_20 (by decide) c1 ⟨by decide, by decide⟩ (fun h => ?_) (fun h => ?_)
  · have W := W.1 h
    refine zr_iload_n 2 dX10_leftBy_87 rfl ?_
    refine zr_iload 4 dX10_leftBy_88 rfl ?_
    obtain ⟨c2, W⟩ := W
    obtain ⟨c3, W⟩ := W
    refine zt_callSi (As := [zI x2, zI x4]) (rest := []) dX10_leftBy_90 kX10_leftBy_349 rfl rfl (Nat.le_of_ble_eq_true rfl) (c_greater c2 c3) (fun r4 N6 h5 => ?_)
    rw [h5.1, h5.2]
    refine zr_istore_n (l' := [(0, zA g 1), (1, zI x1), (2, zI (max x2 x4)), (3, zI x3)]) dX10_leftBy_93 (by decide) [1, 2, 0, 3] rfl ?_
    refine zr_iinc (q := 3) (l' := [(0, zA g 1), (1, zI x1), (2, zI (max x2 x4)), (3, zI (x3 + 1))]) dX10_leftBy_94 rfl (by decide) [1, 2, 3, 0] rfl ?_
    refine zr_goto (tgt := 4) dX10_leftBy_97 (by decide) ?_
    exact W
  · have W := W.2 h
    refine zr_iload 4 dX10_leftBy_23 rfl ?_
    refine zr_aload_n 0 dX10_leftBy_25 rfl ?_
    refine zr_getr (b := 24) dX10_leftBy_26 fX10_87 rfl rfl rfl (by decide) ?_
    refine zr_iload_n 3 dX10_leftBy_29 rfl ?_
    obtain ⟨c7, W⟩ := W
    refine zr_zald dX10_leftBy_30 rfl (by decide) c7 ?_
    obtain ⟨c8, W⟩ := W
    refine zr_if_eq (tgt := 74) dX10_leftBy_31 (by decide) c8 (fun h => ?_) (fun h => ?_)
    · have W := W.1 h
      refine zr_iconst dX10_leftBy_74 ?_
      refine zt_callSi (As := [zI 0]) (rest := [zI x4]) dX10_leftBy_75 kX10_leftBy_317 rfl rfl (Nat.le_of_ble_eq_true rfl) (c_truthi (by decide)) (fun r9 N11 h10 => ?_)
      rw [h10.1, h10.2]
      refine zr_iadd dX10_leftBy_78 ?_
      refine zr_istore (l' := [(0, zA g 1), (1, zI x1), (2, zI x2), (3, zI x3), (4, zI (x4 + 0)), (5, zI x5)]) dX10_leftBy_79 (by decide) [1, 2, 3, 4, 0, 5] rfl ?_
      refine zr_iinc (q := 5) (l' := [(0, zA g 1), (1, zI x1), (2, zI x2), (3, zI x3), (4, zI (x4 + 0)), (5, zI (x5 + 1))]) dX10_leftBy_81 rfl (by decide) [1, 2, 3, 4, 5, 0] rfl ?_
      refine zr_goto (tgt := 16) dX10_leftBy_84 (by decide) ?_
      exact W
    · have W := W.2 h
      refine zr_aload_n 0 dX10_leftBy_34 rfl ?_
      refine zr_getr (b := 24) dX10_leftBy_35 fX10_87 rfl rfl rfl (by decide) ?_
      refine zr_iload 5 dX10_leftBy_38 rfl ?_
      obtain ⟨c12, W⟩ := W
      refine zr_zald dX10_leftBy_40 rfl (by decide) c12 ?_
      obtain ⟨c13, W⟩ := W
      refine zr_if_eq (tgt := 74) dX10_leftBy_41 (by decide) c13 (fun h => ?_) (fun h => ?_)
      · have W := W.1 h
        refine zr_iconst dX10_leftBy_74 ?_
        refine zt_callSi (As := [zI 0]) (rest := [zI x4]) dX10_leftBy_75 kX10_leftBy_317 rfl rfl (Nat.le_of_ble_eq_true rfl) (c_truthi (by decide)) (fun r14 N16 h15 => ?_)
        rw [h15.1, h15.2]
        refine zr_iadd dX10_leftBy_78 ?_
        refine zr_istore (l' := [(0, zA g 1), (1, zI x1), (2, zI x2), (3, zI x3), (4, zI (x4 + 0)), (5, zI x5)]) dX10_leftBy_79 (by decide) [1, 2, 3, 4, 0, 5] rfl ?_
        refine zr_iinc (q := 5) (l' := [(0, zA g 1), (1, zI x1), (2, zI x2), (3, zI x3), (4, zI (x4 + 0)), (5, zI (x5 + 1))]) dX10_leftBy_81 rfl (by decide) [1, 2, 3, 4, 5, 0] rfl ?_
        refine zr_goto (tgt := 16) dX10_leftBy_84 (by decide) ?_
        exact W
      · have W := W.2 h
        refine zr_aload_n 0 dX10_leftBy_44 rfl ?_
        refine zr_getr (b := 25) dX10_leftBy_45 fX10_90 rfl rfl rfl (by decide) ?_
        refine zr_bipush dX10_leftBy_48 (by decide) ?_
        refine zr_iload_n 3 dX10_leftBy_50 rfl ?_
        refine zr_imul dX10_leftBy_51 ?_
        refine zr_iload_n 1 dX10_leftBy_52 rfl ?_
        refine zr_iadd dX10_leftBy_53 ?_
        obtain ⟨c17, W⟩ := W
        refine zr_iald dX10_leftBy_54 rfl (by decide) c17 ?_
        refine zr_aload_n 0 dX10_leftBy_55 rfl ?_
        refine zr_getr (b := 25) dX10_leftBy_56 fX10_90 rfl rfl rfl (by decide) ?_
        refine zr_bipush dX10_leftBy_59 (by decide) ?_
        refine zr_iload 5 dX10_leftBy_61 rfl ?_
        refine zr_imul dX10_leftBy_63 ?_
        refine zr_iload_n 1 dX10_leftBy_64 rfl ?_
        refine zr_iadd dX10_leftBy_65 ?_
        obtain ⟨c18, W⟩ := W
        refine zr_iald dX10_leftBy_66 rfl (by decide) c18 ?_
        obtain ⟨c19, W⟩ := W
        obtain ⟨c20, W⟩ := W
        refine zr_icmp_ne (tgt := 74) dX10_leftBy_67 (by decide) c19 c20 (fun h => ?_) (fun h => ?_)
        · have W := W.1 h
          refine zr_iconst dX10_leftBy_74 ?_
          refine zt_callSi (As := [zI 0]) (rest := [zI x4]) dX10_leftBy_75 kX10_leftBy_317 rfl rfl (Nat.le_of_ble_eq_true rfl) (c_truthi (by decide)) (fun r21 N23 h22 => ?_)
          rw [h22.1, h22.2]
          refine zr_iadd dX10_leftBy_78 ?_
          refine zr_istore (l' := [(0, zA g 1), (1, zI x1), (2, zI x2), (3, zI x3), (4, zI (x4 + 0)), (5, zI x5)]) dX10_leftBy_79 (by decide) [1, 2, 3, 4, 0, 5] rfl ?_
          refine zr_iinc (q := 5) (l' := [(0, zA g 1), (1, zI x1), (2, zI x2), (3, zI x3), (4, zI (x4 + 0)), (5, zI (x5 + 1))]) dX10_leftBy_81 rfl (by decide) [1, 2, 3, 4, 5, 0] rfl ?_
          refine zr_goto (tgt := 16) dX10_leftBy_84 (by decide) ?_
          exact W
        · have W := W.2 h
          refine zr_iconst dX10_leftBy_70 ?_
          refine zr_goto (tgt := 75) dX10_leftBy_71 (by decide) ?_
          refine zt_callSi (As := [zI 1]) (rest := [zI x4]) dX10_leftBy_75 kX10_leftBy_317 rfl rfl (Nat.le_of_ble_eq_true rfl) (c_truthi (by decide)) (fun r24 N26 h25 => ?_)
          rw [h25.1, h25.2]
          refine zr_iadd dX10_leftBy_78 ?_
          refine zr_istore (l' := [(0, zA g 1), (1, zI x1), (2, zI x2), (3, zI x3), (4, zI (x4 + 1)), (5, zI x5)]) dX10_leftBy_79 (by decide) [1, 2, 3, 4, 0, 5] rfl ?_
          refine zr_iinc (q := 5) (l' := [(0, zA g 1), (1, zI x1), (2, zI x2), (3, zI x3), (4, zI (x4 + 1)), (5, zI (x5 + 1))]) dX10_leftBy_81 rfl (by decide) [1, 2, 3, 4, 5, 0] rfl ?_
          refine zr_goto (tgt := 16) dX10_leftBy_84 (by decide) ?_
          exact W
theorem dX10_ask_0 : decode cX10_ask 0 = .ok (.iload_n 1, 1) := by decide +kernel
theorem dX10_ask_1 : decode cX10_ask 1 = .ok (.iconst 0, 1) := by decide +kernel
theorem dX10_ask_2 : decode cX10_ask 2 = .ok (.sipush 200, 3) := by decide +kernel
theorem dX10_ask_5 : decode cX10_ask 5 = .ok (.invokestatic 106, 3) := by decide +kernel
theorem dX10_ask_8 : decode cX10_ask 8 = .ok (.ifCond .eq 20, 3) := by decide +kernel
theorem dX10_ask_11 : decode cX10_ask 11 = .ok (.iload_n 2, 1) := by decide +kernel
theorem dX10_ask_12 : decode cX10_ask 12 = .ok (.iconst 0, 1) := by decide +kernel
theorem dX10_ask_13 : decode cX10_ask 13 = .ok (.iconst 1, 1) := by decide +kernel
theorem dX10_ask_14 : decode cX10_ask 14 = .ok (.invokestatic 106, 3) := by decide +kernel
theorem dX10_ask_17 : decode cX10_ask 17 = .ok (.ifCond .eq 11, 3) := by decide +kernel
theorem dX10_ask_20 : decode cX10_ask 20 = .ok (.aload_n 0, 1) := by decide +kernel
theorem dX10_ask_21 : decode cX10_ask 21 = .ok (.iload_n 3, 1) := by decide +kernel
theorem dX10_ask_22 : decode cX10_ask 22 = .ok (.invokevirtual 454, 3) := by decide +kernel
theorem dX10_ask_25 : decode cX10_ask 25 = .ok (.ifCond .ne 5, 3) := by decide +kernel
theorem dX10_ask_28 : decode cX10_ask 28 = .ok (.iconst (-1), 1) := by decide +kernel
theorem dX10_ask_29 : decode cX10_ask 29 = .ok (.ireturn, 1) := by decide +kernel
theorem dX10_ask_30 : decode cX10_ask 30 = .ok (.iconst 0, 1) := by decide +kernel
theorem dX10_ask_31 : decode cX10_ask 31 = .ok (.istore 4, 2) := by decide +kernel
theorem dX10_ask_33 : decode cX10_ask 33 = .ok (.iload 4, 2) := by decide +kernel
theorem dX10_ask_35 : decode cX10_ask 35 = .ok (.bipush 50, 2) := by decide +kernel
theorem dX10_ask_37 : decode cX10_ask 37 = .ok (.if_icmp .ge 73, 3) := by decide +kernel
theorem dX10_ask_40 : decode cX10_ask 40 = .ok (.aload_n 0, 1) := by decide +kernel
theorem dX10_ask_41 : decode cX10_ask 41 = .ok (.getfield 87, 3) := by decide +kernel
theorem dX10_ask_44 : decode cX10_ask 44 = .ok (.iload 4, 2) := by decide +kernel
theorem dX10_ask_46 : decode cX10_ask 46 = .ok (.baload, 1) := by decide +kernel
theorem dX10_ask_47 : decode cX10_ask 47 = .ok (.ifCond .ne 6, 3) := by decide +kernel
theorem dX10_ask_50 : decode cX10_ask 50 = .ok (.goto 54, 3) := by decide +kernel
theorem dX10_ask_53 : decode cX10_ask 53 = .ok (.aload_n 0, 1) := by decide +kernel
theorem dX10_ask_54 : decode cX10_ask 54 = .ok (.iload 4, 2) := by decide +kernel
theorem dX10_ask_56 : decode cX10_ask 56 = .ok (.invokevirtual 232, 3) := by decide +kernel
theorem dX10_ask_59 : decode cX10_ask 59 = .ok (.aload_n 0, 1) := by decide +kernel
theorem dX10_ask_60 : decode cX10_ask 60 = .ok (.iload_n 1, 1) := by decide +kernel
theorem dX10_ask_61 : decode cX10_ask 61 = .ok (.invokevirtual 330, 3) := by decide +kernel
theorem dX10_ask_64 : decode cX10_ask 64 = .ok (.istore 5, 2) := by decide +kernel
theorem dX10_ask_66 : decode cX10_ask 66 = .ok (.iconst 0, 1) := by decide +kernel
theorem dX10_ask_67 : decode cX10_ask 67 = .ok (.istore 6, 2) := by decide +kernel
theorem dX10_ask_69 : decode cX10_ask 69 = .ok (.iload 6, 2) := by decide +kernel
theorem dX10_ask_71 : decode cX10_ask 71 = .ok (.aload_n 0, 1) := by decide +kernel
theorem dX10_ask_72 : decode cX10_ask 72 = .ok (.invokevirtual 226, 3) := by decide +kernel
theorem dX10_ask_75 : decode cX10_ask 75 = .ok (.if_icmp .ge 29, 3) := by decide +kernel
theorem dX10_ask_78 : decode cX10_ask 78 = .ok (.aload_n 0, 1) := by decide +kernel
theorem dX10_ask_79 : decode cX10_ask 79 = .ok (.getfield 90, 3) := by decide +kernel
theorem dX10_ask_82 : decode cX10_ask 82 = .ok (.bipush 96, 2) := by decide +kernel
theorem dX10_ask_84 : decode cX10_ask 84 = .ok (.iload 4, 2) := by decide +kernel
theorem dX10_ask_86 : decode cX10_ask 86 = .ok (.imul, 1) := by decide +kernel
theorem dX10_ask_87 : decode cX10_ask 87 = .ok (.iload 6, 2) := by decide +kernel
theorem dX10_ask_89 : decode cX10_ask 89 = .ok (.iadd, 1) := by decide +kernel
theorem dX10_ask_90 : decode cX10_ask 90 = .ok (.aload_n 0, 1) := by decide +kernel
theorem dX10_ask_91 : decode cX10_ask 91 = .ok (.getfield 45, 3) := by decide +kernel
theorem dX10_ask_94 : decode cX10_ask 94 = .ok (.iload 6, 2) := by decide +kernel
theorem dX10_ask_96 : decode cX10_ask 96 = .ok (.iaload, 1) := by decide +kernel
theorem dX10_ask_97 : decode cX10_ask 97 = .ok (.iastore, 1) := by decide +kernel
theorem dX10_ask_98 : decode cX10_ask 98 = .ok (.iinc 6 1, 3) := by decide +kernel
theorem dX10_ask_101 : decode cX10_ask 101 = .ok (.goto (-32), 3) := by decide +kernel
theorem dX10_ask_104 : decode cX10_ask 104 = .ok (.iinc 4 1, 3) := by decide +kernel
theorem dX10_ask_107 : decode cX10_ask 107 = .ok (.goto (-74), 3) := by decide +kernel
theorem dX10_ask_110 : decode cX10_ask 110 = .ok (.iconst (-1), 1) := by decide +kernel
theorem dX10_ask_111 : decode cX10_ask 111 = .ok (.istore 4, 2) := by decide +kernel
theorem dX10_ask_113 : decode cX10_ask 113 = .ok (.iconst 0, 1) := by decide +kernel
theorem dX10_ask_114 : decode cX10_ask 114 = .ok (.istore 5, 2) := by decide +kernel
theorem dX10_ask_116 : decode cX10_ask 116 = .ok (.iconst 0, 1) := by decide +kernel
theorem dX10_ask_117 : decode cX10_ask 117 = .ok (.istore 6, 2) := by decide +kernel
theorem dX10_ask_119 : decode cX10_ask 119 = .ok (.iload 6, 2) := by decide +kernel
theorem dX10_ask_121 : decode cX10_ask 121 = .ok (.aload_n 0, 1) := by decide +kernel
theorem dX10_ask_122 : decode cX10_ask 122 = .ok (.invokevirtual 226, 3) := by decide +kernel
theorem dX10_ask_125 : decode cX10_ask 125 = .ok (.if_icmp .ge 41, 3) := by decide +kernel
theorem dX10_ask_128 : decode cX10_ask 128 = .ok (.aload_n 0, 1) := by decide +kernel
theorem dX10_ask_129 : decode cX10_ask 129 = .ok (.iload 6, 2) := by decide +kernel
theorem dX10_ask_131 : decode cX10_ask 131 = .ok (.invokevirtual 457, 3) := by decide +kernel
theorem dX10_ask_134 : decode cX10_ask 134 = .ok (.istore 7, 2) := by decide +kernel
theorem dX10_ask_136 : decode cX10_ask 136 = .ok (.iload 4, 2) := by decide +kernel
theorem dX10_ask_138 : decode cX10_ask 138 = .ok (.iconst (-1), 1) := by decide +kernel
theorem dX10_ask_139 : decode cX10_ask 139 = .ok (.if_icmp .eq 13, 3) := by decide +kernel
theorem dX10_ask_142 : decode cX10_ask 142 = .ok (.iload 7, 2) := by decide +kernel
theorem dX10_ask_144 : decode cX10_ask 144 = .ok (.iload 5, 2) := by decide +kernel
theorem dX10_ask_146 : decode cX10_ask 146 = .ok (.if_icmp .lt 6, 3) := by decide +kernel
theorem dX10_ask_149 : decode cX10_ask 149 = .ok (.goto 11, 3) := by decide +kernel
theorem dX10_ask_152 : decode cX10_ask 152 = .ok (.iload 6, 2) := by decide +kernel
theorem dX10_ask_154 : decode cX10_ask 154 = .ok (.istore 4, 2) := by decide +kernel
theorem dX10_ask_156 : decode cX10_ask 156 = .ok (.iload 7, 2) := by decide +kernel
theorem dX10_ask_158 : decode cX10_ask 158 = .ok (.istore 5, 2) := by decide +kernel
theorem dX10_ask_160 : decode cX10_ask 160 = .ok (.iinc 6 1, 3) := by decide +kernel
theorem dX10_ask_163 : decode cX10_ask 163 = .ok (.goto (-44), 3) := by decide +kernel
theorem dX10_ask_166 : decode cX10_ask 166 = .ok (.iload_n 2, 1) := by decide +kernel
theorem dX10_ask_167 : decode cX10_ask 167 = .ok (.ifCond .ne 8, 3) := by decide +kernel
theorem dX10_ask_170 : decode cX10_ask 170 = .ok (.iload 4, 2) := by decide +kernel
theorem dX10_ask_172 : decode cX10_ask 172 = .ok (.goto 5, 3) := by decide +kernel
theorem dX10_ask_175 : decode cX10_ask 175 = .ok (.iload 5, 2) := by decide +kernel
theorem dX10_ask_177 : decode cX10_ask 177 = .ok (.ireturn, 1) := by decide +kernel
set_option maxRecDepth 100000 in
theorem SX10_ask_0 {g : zG} {o : Bool} {M : zM} {q : Int → zM → Prop} {x1 x2 x3 : Int} (W : (-2147483648 ≤ x1 ∧ x1 ≤ 2147483647) ∧ ((¬ (0 ≤ x1 ∧ x1 ≤ 200)) → q (-1) M) ∧ ((0 ≤ x1 ∧ x1 ≤ 200) → (-2147483648 ≤ x2 ∧ x2 ≤ 2147483647) ∧ ((¬ (0 ≤ x2 ∧ x2 ≤ 1)) → q (-1) M) ∧ ((0 ≤ x2 ∧ x2 ≤ 1) → ∃ q9 : Int → zM → Prop, zKi g (z2 o) mX10_laysFits [zA g 1, zI x3] M q9 ∧ ∀ (r10 : Int) (M11 : zM), q9 r10 M11 → (-2147483648 ≤ r10 ∧ r10 ≤ 2147483647) ∧ ((r10 ≠ 0) → zT g (z2 o) mX10_ask (zQi (z2 o) q) 33 [(0, zA g 1), (1, zI x1), (2, zI x2), (4, zI 0)] [] M11) ∧ ((r10 = 0) → q (-1) M11)))) : zT g (z2 o) mX10_ask (zQi (z2 o) q) 0 [(0, zA g 1), (1, zI x1), (2, zI x2), (3, zI x3)] [] M := by
  refine zr_iload_n 1 dX10_ask_0 rfl ?_
  refine zr_iconst dX10_ask_1 ?_
  refine zr_sipush dX10_ask_2 (by decide) ?_
  obtain ⟨c1, W⟩ := W
  refine zt_callSi (As := [zI x1, zI 0, zI 200]) (rest := []) dX10_ask_5 kX10_ask_106 rfl rfl (Nat.le_of_ble_eq_true rfl) (c_isIn c1 ⟨by decide, by decide⟩ ⟨by decide, by decide⟩) (fun r2 N4 h3 => ?_)
  rw [h3.1, h3.2]
  refine zt_ifeq_b (tgt := 28) dX10_ask_8 (by decide) (fun h => ?_) (fun h => ?_)
  · have W := W.1 h
    refine zr_iconst dX10_ask_28 ?_
    exact zt_iret dX10_ask_29 rfl W
  · have W := W.2 h
    refine zr_iload_n 2 dX10_ask_11 rfl ?_
    refine zr_iconst dX10_ask_12 ?_
    refine zr_iconst dX10_ask_13 ?_
    obtain ⟨c5, W⟩ := W
    refine zt_callSi (As := [zI x2, zI 0, zI 1]) (rest := []) dX10_ask_14 kX10_ask_106 rfl rfl (Nat.le_of_ble_eq_true rfl) (c_isIn c5 ⟨by decide, by decide⟩ ⟨by decide, by decide⟩) (fun r6 N8 h7 => ?_)
    rw [h7.1, h7.2]
    refine zt_ifeq_b (tgt := 28) dX10_ask_17 (by decide) (fun h => ?_) (fun h => ?_)
    · have W := W.1 h
      refine zr_iconst dX10_ask_28 ?_
      exact zt_iret dX10_ask_29 rfl W
    · have W := W.2 h
      refine zr_aload_n 0 dX10_ask_20 rfl ?_
      refine zr_iload_n 3 dX10_ask_21 rfl ?_
      obtain ⟨q9, k13, W⟩ := W
      refine zt_callVi (As := [zI x3]) (rest := []) dX10_ask_22 kX10_ask_454 rfl rfl rfl rfl (Nat.le_of_ble_eq_true rfl) k13 (fun r10 M11 h12 => ?_)
      have W := W r10 M11 h12
      obtain ⟨c14, W⟩ := W
      refine zr_if_ne (tgt := 30) dX10_ask_25 (by decide) c14 (fun h => ?_) (fun h => ?_)
      · have W := W.1 h
        refine zr_iconst dX10_ask_30 ?_
        refine zr_istore (l' := [(0, zA g 1), (1, zI x1), (2, zI x2), (4, zI 0)]) dX10_ask_31 (by decide) [1, 2, 3, 0] rfl ?_
        exact W
      · have W := W.2 h
        refine zr_iconst dX10_ask_28 ?_
        exact zt_iret dX10_ask_29 rfl W
set_option maxRecDepth 100000 in
theorem SX10_ask_33 {g : zG} {o : Bool} {M : zM} {q : Int → zM → Prop} {x1 x2 x4 : Int} (W : (-2147483648 ≤ x4 ∧ x4 ≤ 2147483647) ∧ ((50 ≤ x4) → zT g (z2 o) mX10_ask (zQi (z2 o) q) 119 [(0, zA g 1), (2, zI x2), (4, zI (-1)), (5, zI 0), (6, zI 0)] [] M) ∧ ((¬ (50 ≤ x4)) → (0 ≤ x4 ∧ x4 < 50) ∧ (-2147483648 ≤ (M 24 x4) ∧ (M 24 x4) ≤ 2147483647) ∧ (((M 24 x4) ≠ 0) → ∃ q4 : zM → Prop, zKv g (z2 o) mX10_asTold [zA g 1, zI x4] M q4 ∧ ∀ M6 : zM, q4 M6 → ∃ q9 : Int → zM → Prop, zKi g (z2 o) mX10_blows [zA g 1, zI x1] M6 q9 ∧ ∀ (r10 : Int) (M11 : zM), q9 r10 M11 → zT g (z2 o) mX10_ask (zQi (z2 o) q) 69 [(0, zA g 1), (1, zI x1), (2, zI x2), (4, zI x4), (6, zI 0)] [] M11) ∧ (((M 24 x4) = 0) → zT g (z2 o) mX10_ask (zQi (z2 o) q) 33 [(0, zA g 1), (1, zI x1), (2, zI x2), (4, zI (x4 + 1))] [] M))) : zT g (z2 o) mX10_ask (zQi (z2 o) q) 33 [(0, zA g 1), (1, zI x1), (2, zI x2), (4, zI x4)] [] M := by
  refine zr_iload 3 dX10_ask_33 rfl ?_
  refine zr_bipush dX10_ask_35 (by decide) ?_
  obtain ⟨c1, W⟩ := W
  refine zr_icmp_ge (tgt := 110) dX10_ask_37 (by decide) c1 ⟨by decide, by decide⟩ (fun h => ?_) (fun h => ?_)
  · have W := W.1 h
    refine zr_iconst dX10_ask_110 ?_
    refine zr_istore (l' := [(0, zA g 1), (2, zI x2), (4, zI (-1))]) dX10_ask_111 (by decide) [1, 3, 0] rfl ?_
    refine zr_iconst dX10_ask_113 ?_
    refine zr_istore (l' := [(0, zA g 1), (2, zI x2), (4, zI (-1)), (5, zI 0)]) dX10_ask_114 (by decide) [1, 2, 3, 0] rfl ?_
    refine zr_iconst dX10_ask_116 ?_
    refine zr_istore (l' := [(0, zA g 1), (2, zI x2), (4, zI (-1)), (5, zI 0), (6, zI 0)]) dX10_ask_117 (by decide) [1, 2, 3, 4, 0] rfl ?_
    exact W
  · have W := W.2 h
    refine zr_aload_n 0 dX10_ask_40 rfl ?_
    refine zr_getr (b := 24) dX10_ask_41 fX10_87 rfl rfl rfl (by decide) ?_
    refine zr_iload 3 dX10_ask_44 rfl ?_
    obtain ⟨c2, W⟩ := W
    refine zr_zald dX10_ask_46 rfl (by decide) c2 ?_
    obtain ⟨c3, W⟩ := W
    refine zr_if_ne (tgt := 53) dX10_ask_47 (by decide) c3 (fun h => ?_) (fun h => ?_)
    · have W := W.1 h
      refine zr_aload_n 0 dX10_ask_53 rfl ?_
      refine zr_iload 3 dX10_ask_54 rfl ?_
      obtain ⟨q4, k8, W⟩ := W
      refine zt_callVv (As := [zI x4]) (rest := []) dX10_ask_56 kX10_ask_232 rfl rfl rfl rfl (Nat.le_of_ble_eq_true rfl) k8 (fun M6 h7 => ?_)
      have W := W M6 h7
      refine zr_aload_n 0 dX10_ask_59 rfl ?_
      refine zr_iload_n 1 dX10_ask_60 rfl ?_
      obtain ⟨q9, k13, W⟩ := W
      refine zt_callVi (As := [zI x1]) (rest := []) dX10_ask_61 kX10_ask_330 rfl rfl rfl rfl (Nat.le_of_ble_eq_true rfl) k13 (fun r10 M11 h12 => ?_)
      have W := W r10 M11 h12
      refine zr_istore (l' := [(0, zA g 1), (1, zI x1), (2, zI x2), (4, zI x4)]) dX10_ask_64 (by decide) [1, 2, 3, 4] rfl ?_
      refine zr_iconst dX10_ask_66 ?_
      refine zr_istore (l' := [(0, zA g 1), (1, zI x1), (2, zI x2), (4, zI x4), (6, zI 0)]) dX10_ask_67 (by decide) [1, 2, 3, 4, 0] rfl ?_
      exact W
    · have W := W.2 h
      refine zr_goto (tgt := 104) dX10_ask_50 (by decide) ?_
      refine zr_iinc (q := 3) (l' := [(0, zA g 1), (1, zI x1), (2, zI x2), (4, zI (x4 + 1))]) dX10_ask_104 rfl (by decide) [1, 2, 3, 0] rfl ?_
      refine zr_goto (tgt := 33) dX10_ask_107 (by decide) ?_
      exact W
set_option maxRecDepth 100000 in
theorem SX10_ask_119 {g : zG} {o : Bool} {C R : Int} {M : zM} {q : Int → zM → Prop} {x2 x4 x5 x6 : Int} (W : (zRf M C R) ∧ (-2147483648 ≤ x6 ∧ x6 ≤ 2147483647) ∧ (-2147483648 ≤ (C * R) ∧ (C * R) ≤ 2147483647) ∧ (((C * R) ≤ x6) → (-2147483648 ≤ x2 ∧ x2 ≤ 2147483647) ∧ ((x2 ≠ 0) → q x5 M) ∧ ((x2 = 0) → q x4 M)) ∧ ((¬ ((C * R) ≤ x6)) → ∃ q8 : Int → zM → Prop, zKi g (z2 o) mX10_leftBy [zA g 1, zI x6] M q8 ∧ ∀ (r9 : Int) (M10 : zM), q8 r9 M10 → (-2147483648 ≤ x4 ∧ x4 ≤ 2147483647) ∧ ((x4 = (-1)) → zT g (z2 o) mX10_ask (zQi (z2 o) q) 119 [(0, zA g 1), (2, zI x2), (4, zI x6), (5, zI r9), (6, zI (x6 + 1))] [] M10) ∧ ((¬ (x4 = (-1))) → (-2147483648 ≤ r9 ∧ r9 ≤ 2147483647) ∧ (-2147483648 ≤ x5 ∧ x5 ≤ 2147483647) ∧ ((r9 < x5) → zT g (z2 o) mX10_ask (zQi (z2 o) q) 119 [(0, zA g 1), (2, zI x2), (4, zI x6), (5, zI r9), (6, zI (x6 + 1))] [] M10) ∧ ((¬ (r9 < x5)) → zT g (z2 o) mX10_ask (zQi (z2 o) q) 119 [(0, zA g 1), (2, zI x2), (4, zI x4), (5, zI x5), (6, zI (x6 + 1))] [] M10)))) : zT g (z2 o) mX10_ask (zQi (z2 o) q) 119 [(0, zA g 1), (2, zI x2), (4, zI x4), (5, zI x5), (6, zI x6)] [] M := by
  refine zr_iload 4 dX10_ask_119 rfl ?_
  refine zr_aload_n 0 dX10_ask_121 rfl ?_
  obtain ⟨c1, W⟩ := W
  refine zt_callVi (As := []) (rest := [zI x6]) dX10_ask_122 kX10_ask_226 rfl rfl rfl rfl (Nat.le_of_ble_eq_true rfl) (c_cells c1) (fun r2 N4 h3 => ?_)
  rw [h3.1, h3.2]
  obtain ⟨c5, W⟩ := W
  obtain ⟨c6, W⟩ := W
  refine zr_icmp_ge (tgt := 166) dX10_ask_125 (by decide) c5 c6 (fun h => ?_) (fun h => ?_)
  · have W := W.1 h
    refine zr_iload_n 1 dX10_ask_166 rfl ?_
    obtain ⟨c7, W⟩ := W
    refine zr_if_ne (tgt := 175) dX10_ask_167 (by decide) c7 (fun h => ?_) (fun h => ?_)
    · have W := W.1 h
      refine zr_iload 3 dX10_ask_175 rfl ?_
      exact zt_iret dX10_ask_177 rfl W
    · have W := W.2 h
      refine zr_iload 2 dX10_ask_170 rfl ?_
      refine zr_goto (tgt := 177) dX10_ask_172 (by decide) ?_
      exact zt_iret dX10_ask_177 rfl W
  · have W := W.2 h
    refine zr_aload_n 0 dX10_ask_128 rfl ?_
    refine zr_iload 4 dX10_ask_129 rfl ?_
    obtain ⟨q8, k12, W⟩ := W
    refine zt_callVi (As := [zI x6]) (rest := []) dX10_ask_131 kX10_ask_457 rfl rfl rfl rfl (Nat.le_of_ble_eq_true rfl) k12 (fun r9 M10 h11 => ?_)
    have W := W r9 M10 h11
    refine zr_istore (l' := [(0, zA g 1), (2, zI x2), (4, zI x4), (5, zI x5), (6, zI x6), (7, zI r9)]) dX10_ask_134 (by decide) [1, 2, 3, 4, 5, 0] rfl ?_
    refine zr_iload 2 dX10_ask_136 rfl ?_
    refine zr_iconst dX10_ask_138 ?_
    obtain ⟨c13, W⟩ := W
    refine zr_icmp_eq (tgt := 152) dX10_ask_139 (by decide) c13 ⟨by decide, by decide⟩ (fun h => ?_) (fun h => ?_)
    · have W := W.1 h
      refine zr_iload 4 dX10_ask_152 rfl ?_
      refine zr_istore (l' := [(0, zA g 1), (2, zI x2), (4, zI x6), (6, zI x6), (7, zI r9)]) dX10_ask_154 (by decide) [1, 2, 0, 4, 5] rfl ?_
      refine zr_iload 4 dX10_ask_156 rfl ?_
      refine zr_istore (l' := [(0, zA g 1), (2, zI x2), (4, zI x6), (5, zI r9), (6, zI x6)]) dX10_ask_158 (by decide) [1, 2, 3, 0, 4] rfl ?_
      refine zr_iinc (q := 4) (l' := [(0, zA g 1), (2, zI x2), (4, zI x6), (5, zI r9), (6, zI (x6 + 1))]) dX10_ask_160 rfl (by decide) [1, 2, 3, 4, 0] rfl ?_
      refine zr_goto (tgt := 119) dX10_ask_163 (by decide) ?_
      exact W
    · have W := W.2 h
      refine zr_iload 5 dX10_ask_142 rfl ?_
      refine zr_iload 3 dX10_ask_144 rfl ?_
      obtain ⟨c14, W⟩ := W
      obtain ⟨c15, W⟩ := W
      refine zr_icmp_lt (tgt := 152) dX10_ask_146 (by decide) c14 c15 (fun h => ?_) (fun h => ?_)
      · have W := W.1 h
        refine zr_iload 4 dX10_ask_152 rfl ?_
        refine zr_istore (l' := [(0, zA g 1), (2, zI x2), (4, zI x6), (6, zI x6), (7, zI r9)]) dX10_ask_154 (by decide) [1, 2, 0, 4, 5] rfl ?_
        refine zr_iload 4 dX10_ask_156 rfl ?_
        refine zr_istore (l' := [(0, zA g 1), (2, zI x2), (4, zI x6), (5, zI r9), (6, zI x6)]) dX10_ask_158 (by decide) [1, 2, 3, 0, 4] rfl ?_
        refine zr_iinc (q := 4) (l' := [(0, zA g 1), (2, zI x2), (4, zI x6), (5, zI r9), (6, zI (x6 + 1))]) dX10_ask_160 rfl (by decide) [1, 2, 3, 4, 0] rfl ?_
        refine zr_goto (tgt := 119) dX10_ask_163 (by decide) ?_
        exact W
      · have W := W.2 h
        refine zr_goto (tgt := 160) dX10_ask_149 (by decide) ?_
        refine zr_iinc (q := 4) (l' := [(0, zA g 1), (2, zI x2), (4, zI x4), (5, zI x5), (6, zI (x6 + 1))]) dX10_ask_160 rfl (by decide) [1, 2, 3, 4, 0] rfl ?_
        refine zr_goto (tgt := 119) dX10_ask_163 (by decide) ?_
        exact W
set_option maxRecDepth 100000 in
theorem SX10_ask_69 {g : zG} {o : Bool} {C R : Int} {M : zM} {q : Int → zM → Prop} {x1 x2 x4 x6 : Int} (W : (zRf M C R) ∧ (-2147483648 ≤ x6 ∧ x6 ≤ 2147483647) ∧ (-2147483648 ≤ (C * R) ∧ (C * R) ≤ 2147483647) ∧ (((C * R) ≤ x6) → zT g (z2 o) mX10_ask (zQi (z2 o) q) 33 [(0, zA g 1), (1, zI x1), (2, zI x2), (4, zI (x4 + 1))] [] M) ∧ ((¬ ((C * R) ≤ x6)) → (0 ≤ x6 ∧ x6 < 198) ∧ (0 ≤ ((96 * x4) + x6) ∧ ((96 * x4) + x6) < 4800) ∧ zT g (z2 o) mX10_ask (zQi (z2 o) q) 69 [(0, zA g 1), (1, zI x1), (2, zI x2), (4, zI x4), (6, zI (x6 + 1))] [] (zu M 25 ((96 * x4) + x6) (M 11 x6)))) : zT g (z2 o) mX10_ask (zQi (z2 o) q) 69 [(0, zA g 1), (1, zI x1), (2, zI x2), (4, zI x4), (6, zI x6)] [] M := by
  refine zr_iload 4 dX10_ask_69 rfl ?_
  refine zr_aload_n 0 dX10_ask_71 rfl ?_
  obtain ⟨c1, W⟩ := W
  refine zt_callVi (As := []) (rest := [zI x6]) dX10_ask_72 kX10_ask_226 rfl rfl rfl rfl (Nat.le_of_ble_eq_true rfl) (c_cells c1) (fun r2 N4 h3 => ?_)
  rw [h3.1, h3.2]
  obtain ⟨c5, W⟩ := W
  obtain ⟨c6, W⟩ := W
  refine zr_icmp_ge (tgt := 104) dX10_ask_75 (by decide) c5 c6 (fun h => ?_) (fun h => ?_)
  · have W := W.1 h
    refine zr_iinc (q := 3) (l' := [(0, zA g 1), (1, zI x1), (2, zI x2), (4, zI (x4 + 1))]) dX10_ask_104 rfl (by decide) [1, 2, 3, 0] rfl ?_
    refine zr_goto (tgt := 33) dX10_ask_107 (by decide) ?_
    exact W
  · have W := W.2 h
    refine zr_aload_n 0 dX10_ask_78 rfl ?_
    refine zr_getr (b := 25) dX10_ask_79 fX10_90 rfl rfl rfl (by decide) ?_
    refine zr_bipush dX10_ask_82 (by decide) ?_
    refine zr_iload 3 dX10_ask_84 rfl ?_
    refine zr_imul dX10_ask_86 ?_
    refine zr_iload 4 dX10_ask_87 rfl ?_
    refine zr_iadd dX10_ask_89 ?_
    refine zr_aload_n 0 dX10_ask_90 rfl ?_
    refine zr_getr (b := 11) dX10_ask_91 fX10_45 rfl rfl rfl (by decide) ?_
    refine zr_iload 4 dX10_ask_94 rfl ?_
    obtain ⟨c7, W⟩ := W
    refine zr_iald dX10_ask_96 rfl (by decide) c7 ?_
    obtain ⟨c8, W⟩ := W
    refine zr_iast dX10_ask_97 rfl (by decide) c8 ?_
    refine zr_iinc (q := 4) (l' := [(0, zA g 1), (1, zI x1), (2, zI x2), (4, zI x4), (6, zI (x6 + 1))]) dX10_ask_98 rfl (by decide) [1, 2, 3, 4, 0] rfl ?_
    refine zr_goto (tgt := 69) dX10_ask_101 (by decide) ?_
    exact W
