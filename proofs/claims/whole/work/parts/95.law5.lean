/-! the law: the cases of its switch -/
def lwO : Array Int := #[175, 238, 261, 274, 297, 330, 363, 386, 409, 442, 465, 514, 547, 560, 573, 596, 629, 683, 706, 749, 782, 805, 838, 861, 904, 947, 980, 1013, 1046, 1079, 1122, 1155, 1224, 1247, 1270, 1293, 1326, 1369, 1392, 1415]
theorem dL_0 : decode code 0 = .ok (.new 7, 3) := by decide +kernel
theorem dL_3 : decode code 3 = .ok (.dup, 1) := by decide +kernel
theorem dL_4 : decode code 4 = .ok (.invokespecial 9, 3) := by decide +kernel
theorem dL_7 : decode code 7 = .ok (.astore_n 1, 1) := by decide +kernel
theorem dL_8 : decode code 8 = .ok (.new 10, 3) := by decide +kernel
theorem dL_11 : decode code 11 = .ok (.dup, 1) := by decide +kernel
theorem dL_12 : decode code 12 = .ok (.invokespecial 12, 3) := by decide +kernel
theorem dL_15 : decode code 15 = .ok (.astore_n 2, 1) := by decide +kernel
theorem dL_16 : decode code 16 = .ok (.iconst 0, 1) := by decide +kernel
theorem dL_17 : decode code 17 = .ok (.istore_n 3, 1) := by decide +kernel
theorem dL_18 : decode code 18 = .ok (.iload_n 3, 1) := by decide +kernel
theorem dL_19 : decode code 19 = .ok (.aload_n 0, 1) := by decide +kernel
theorem dL_20 : decode code 20 = .ok (.arraylength, 1) := by decide +kernel
theorem dL_21 : decode code 21 = .ok (.bipush 6, 2) := by decide +kernel
theorem dL_23 : decode code 23 = .ok (.isub, 1) := by decide +kernel
theorem dL_24 : decode code 24 = .ok (.if_icmp .gt 1453, 3) := by decide +kernel
theorem dL_27 : decode code 27 = .ok (.aload_n 0, 1) := by decide +kernel
theorem dL_28 : decode code 28 = .ok (.iload_n 3, 1) := by decide +kernel
theorem dL_29 : decode code 29 = .ok (.iaload, 1) := by decide +kernel
theorem dL_30 : decode code 30 = .ok (.bipush 63, 2) := by decide +kernel
theorem dL_32 : decode code 32 = .ok (.iand, 1) := by decide +kernel
theorem dL_1471 : decode code 1471 = .ok (.iinc 3 6, 3) := by decide +kernel
theorem dL_1474 : decode code 1474 = .ok (.goto (-1456), 3) := by decide +kernel
theorem dL_1477 : decode code 1477 = .ok (.iconst 1, 1) := by decide +kernel
theorem dL_1478 : decode code 1478 = .ok (.ireturn, 1) := by decide +kernel
theorem dL_33 : decode code 33 = .ok (.tableswitch 1438 0 39 lwO, 175) := by decide +kernel
theorem lwd_0 : lwC 208 5 13 17 1205 := ⟨by decide +kernel, by decide +kernel, by decide +kernel, by decide +kernel, by decide +kernel, by decide +kernel, by decide +kernel, by decide +kernel⟩
theorem lwd_1 : lwC 271 1 18 22 1182 := ⟨by decide +kernel, by decide +kernel, by decide +kernel, by decide +kernel, by decide +kernel, by decide +kernel, by decide +kernel, by decide +kernel⟩
theorem lwd_2 : lwC 294 0 23 27 1169 := ⟨by decide +kernel, by decide +kernel, by decide +kernel, by decide +kernel, by decide +kernel, by decide +kernel, by decide +kernel, by decide +kernel⟩
theorem lwd_3 : lwC 307 1 28 31 1146 := ⟨by decide +kernel, by decide +kernel, by decide +kernel, by decide +kernel, by decide +kernel, by decide +kernel, by decide +kernel, by decide +kernel⟩
theorem lwd_4 : lwC 330 2 32 36 1113 := ⟨by decide +kernel, by decide +kernel, by decide +kernel, by decide +kernel, by decide +kernel, by decide +kernel, by decide +kernel, by decide +kernel⟩
theorem lwd_5 : lwC 363 2 37 40 1080 := ⟨by decide +kernel, by decide +kernel, by decide +kernel, by decide +kernel, by decide +kernel, by decide +kernel, by decide +kernel, by decide +kernel⟩
theorem lwd_6 : lwC 396 1 41 44 1057 := ⟨by decide +kernel, by decide +kernel, by decide +kernel, by decide +kernel, by decide +kernel, by decide +kernel, by decide +kernel, by decide +kernel⟩
theorem lwd_7 : lwC 419 1 45 48 1034 := ⟨by decide +kernel, by decide +kernel, by decide +kernel, by decide +kernel, by decide +kernel, by decide +kernel, by decide +kernel, by decide +kernel⟩
theorem lwd_8 : lwC 442 2 49 52 1001 := ⟨by decide +kernel, by decide +kernel, by decide +kernel, by decide +kernel, by decide +kernel, by decide +kernel, by decide +kernel, by decide +kernel⟩
theorem lwd_9 : lwC 475 1 53 56 978 := ⟨by decide +kernel, by decide +kernel, by decide +kernel, by decide +kernel, by decide +kernel, by decide +kernel, by decide +kernel, by decide +kernel⟩
theorem lwd_10 : lwD 498 2 57 61 929 := ⟨by decide +kernel, by decide +kernel, by decide +kernel, by decide +kernel, by decide +kernel, by decide +kernel, by decide +kernel, by decide +kernel, by decide +kernel, by decide +kernel⟩
theorem lwd_11 : lwC 547 2 62 65 896 := ⟨by decide +kernel, by decide +kernel, by decide +kernel, by decide +kernel, by decide +kernel, by decide +kernel, by decide +kernel, by decide +kernel⟩
theorem lwd_12 : lwC 580 0 66 70 883 := ⟨by decide +kernel, by decide +kernel, by decide +kernel, by decide +kernel, by decide +kernel, by decide +kernel, by decide +kernel, by decide +kernel⟩
theorem lwd_13 : lwC 593 0 71 74 870 := ⟨by decide +kernel, by decide +kernel, by decide +kernel, by decide +kernel, by decide +kernel, by decide +kernel, by decide +kernel, by decide +kernel⟩
theorem lwd_14 : lwC 606 1 75 78 847 := ⟨by decide +kernel, by decide +kernel, by decide +kernel, by decide +kernel, by decide +kernel, by decide +kernel, by decide +kernel, by decide +kernel⟩
theorem lwd_15 : lwC 629 2 79 82 814 := ⟨by decide +kernel, by decide +kernel, by decide +kernel, by decide +kernel, by decide +kernel, by decide +kernel, by decide +kernel, by decide +kernel⟩
theorem lwd_16 : lwE 662 4 83 87 760 := ⟨by decide +kernel, by decide +kernel, by decide +kernel, by decide +kernel, by decide +kernel, by decide +kernel, by decide +kernel, by decide +kernel, by decide +kernel⟩
theorem lwd_17 : lwC 716 1 88 91 737 := ⟨by decide +kernel, by decide +kernel, by decide +kernel, by decide +kernel, by decide +kernel, by decide +kernel, by decide +kernel, by decide +kernel⟩
theorem lwd_18 : lwC 739 3 92 96 694 := ⟨by decide +kernel, by decide +kernel, by decide +kernel, by decide +kernel, by decide +kernel, by decide +kernel, by decide +kernel, by decide +kernel⟩
theorem lwd_19 : lwC 782 2 97 100 661 := ⟨by decide +kernel, by decide +kernel, by decide +kernel, by decide +kernel, by decide +kernel, by decide +kernel, by decide +kernel, by decide +kernel⟩
theorem lwd_20 : lwC 815 1 101 104 638 := ⟨by decide +kernel, by decide +kernel, by decide +kernel, by decide +kernel, by decide +kernel, by decide +kernel, by decide +kernel, by decide +kernel⟩
theorem lwd_21 : lwC 838 2 105 108 605 := ⟨by decide +kernel, by decide +kernel, by decide +kernel, by decide +kernel, by decide +kernel, by decide +kernel, by decide +kernel, by decide +kernel⟩
theorem lwd_22 : lwC 871 1 109 112 582 := ⟨by decide +kernel, by decide +kernel, by decide +kernel, by decide +kernel, by decide +kernel, by decide +kernel, by decide +kernel, by decide +kernel⟩
theorem lwd_23 : lwC 894 3 113 116 539 := ⟨by decide +kernel, by decide +kernel, by decide +kernel, by decide +kernel, by decide +kernel, by decide +kernel, by decide +kernel, by decide +kernel⟩
theorem lwd_24 : lwC 937 3 117 120 496 := ⟨by decide +kernel, by decide +kernel, by decide +kernel, by decide +kernel, by decide +kernel, by decide +kernel, by decide +kernel, by decide +kernel⟩
theorem lwd_25 : lwC 980 2 121 124 463 := ⟨by decide +kernel, by decide +kernel, by decide +kernel, by decide +kernel, by decide +kernel, by decide +kernel, by decide +kernel, by decide +kernel⟩
theorem lwd_26 : lwC 1013 2 125 128 430 := ⟨by decide +kernel, by decide +kernel, by decide +kernel, by decide +kernel, by decide +kernel, by decide +kernel, by decide +kernel, by decide +kernel⟩
theorem lwd_27 : lwC 1046 2 129 132 397 := ⟨by decide +kernel, by decide +kernel, by decide +kernel, by decide +kernel, by decide +kernel, by decide +kernel, by decide +kernel, by decide +kernel⟩
theorem lwd_28 : lwC 1079 2 133 136 364 := ⟨by decide +kernel, by decide +kernel, by decide +kernel, by decide +kernel, by decide +kernel, by decide +kernel, by decide +kernel, by decide +kernel⟩
theorem lwd_29 : lwC 1112 3 137 140 321 := ⟨by decide +kernel, by decide +kernel, by decide +kernel, by decide +kernel, by decide +kernel, by decide +kernel, by decide +kernel, by decide +kernel⟩
theorem lwd_30 : lwC 1155 2 141 144 288 := ⟨by decide +kernel, by decide +kernel, by decide +kernel, by decide +kernel, by decide +kernel, by decide +kernel, by decide +kernel, by decide +kernel⟩
theorem lwd_31 : lwD 1188 4 145 149 219 := ⟨by decide +kernel, by decide +kernel, by decide +kernel, by decide +kernel, by decide +kernel, by decide +kernel, by decide +kernel, by decide +kernel, by decide +kernel, by decide +kernel⟩
theorem lwd_32 : lwC 1257 1 150 154 196 := ⟨by decide +kernel, by decide +kernel, by decide +kernel, by decide +kernel, by decide +kernel, by decide +kernel, by decide +kernel, by decide +kernel⟩
theorem lwd_33 : lwC 1280 1 155 158 173 := ⟨by decide +kernel, by decide +kernel, by decide +kernel, by decide +kernel, by decide +kernel, by decide +kernel, by decide +kernel, by decide +kernel⟩
theorem lwd_34 : lwC 1303 1 159 162 150 := ⟨by decide +kernel, by decide +kernel, by decide +kernel, by decide +kernel, by decide +kernel, by decide +kernel, by decide +kernel, by decide +kernel⟩
theorem lwd_35 : lwC 1326 2 163 166 117 := ⟨by decide +kernel, by decide +kernel, by decide +kernel, by decide +kernel, by decide +kernel, by decide +kernel, by decide +kernel, by decide +kernel⟩
theorem lwd_36 : lwC 1359 3 167 170 74 := ⟨by decide +kernel, by decide +kernel, by decide +kernel, by decide +kernel, by decide +kernel, by decide +kernel, by decide +kernel, by decide +kernel⟩
theorem lwd_37 : lwC 1402 1 171 174 51 := ⟨by decide +kernel, by decide +kernel, by decide +kernel, by decide +kernel, by decide +kernel, by decide +kernel, by decide +kernel, by decide +kernel⟩
theorem lwd_38 : lwC 1425 1 175 178 28 := ⟨by decide +kernel, by decide +kernel, by decide +kernel, by decide +kernel, by decide +kernel, by decide +kernel, by decide +kernel, by decide +kernel⟩
theorem lwd_39 : lwC 1448 1 179 182 5 := ⟨by decide +kernel, by decide +kernel, by decide +kernel, by decide +kernel, by decide +kernel, by decide +kernel, by decide +kernel, by decide +kernel⟩
section LC
variable {p : Program} {la : Launch} {e : Env} {s : State} {m : MethodId} {below : List Frame} {meth : Method} {c : Code} {b L : Nat} {xs : Nat → Int32} {g g' : zG} {M1 M2 : zM} {i k C R : Int}
theorem lc_0 (hA : LA p s m meth c b L xs g g') (hi : 0 ≤ i) (h6 : i + 6 ≤ L) (hJ : Jt k C R M1 M2) (hk : k < 1000) (go : ∀ C R N1 N2, Jt (k + 1) C R N1 N2 → LR p la e s m below meth c b g g' 1471 (LL b g g' i) [] N1 N2) : LR p la e s m below meth c b g g' 208 (LL b g g' i) [] M1 M2 :=
  lr_caseI (n := 5) (as := [zI (sv xs (i + (((0 : Nat) : Int) + 1))), zI (sv xs (i + (((1 : Nat) : Int) + 1))), zI (sv xs (i + (((2 : Nat) : Int) + 1))), zI (sv xs (i + (((3 : Nat) : Int) + 1))), zI (sv xs (i + (((4 : Nat) : Int) + 1)))]) hA hi h6 lwd_0 (by decide) rfl rfl kL_13 kL_17 rfl rfl (zE.f (p_feed hJ hk (sv_in _ _) (sv_in _ _) (sv_in _ _) (sv_in _ _) (sv_in _ _))) go
theorem lc_1 (hA : LA p s m meth c b L xs g g') (hi : 0 ≤ i) (h6 : i + 6 ≤ L) (hJ : Jt k C R M1 M2) (hk : k < 1000) (go : ∀ C R N1 N2, Jt (k + 1) C R N1 N2 → LR p la e s m below meth c b g g' 1471 (LL b g g' i) [] N1 N2) : LR p la e s m below meth c b g g' 271 (LL b g g' i) [] M1 M2 :=
  lr_caseI (n := 1) (as := [zI (sv xs (i + (((0 : Nat) : Int) + 1)))]) hA hi h6 lwd_1 (by decide) rfl rfl kL_18 kL_22 rfl rfl (zE.f (p_end hJ hk (sv_in _ _))) go
theorem lc_2 (hA : LA p s m meth c b L xs g g') (hi : 0 ≤ i) (h6 : i + 6 ≤ L) (hJ : Jt k C R M1 M2) (hk : k < 1000) (go : ∀ C R N1 N2, Jt (k + 1) C R N1 N2 → LR p la e s m below meth c b g g' 1471 (LL b g g' i) [] N1 N2) : LR p la e s m below meth c b g g' 294 (LL b g g' i) [] M1 M2 :=
  lr_caseI (n := 0) (as := []) hA hi h6 lwd_2 (by decide) rfl rfl kL_23 kL_27 rfl rfl (zEs.f (p_field hJ hk)) go
theorem lc_3 (hA : LA p s m meth c b L xs g g') (hi : 0 ≤ i) (h6 : i + 6 ≤ L) (hJ : Jt k C R M1 M2) (hk : k < 1000) (go : ∀ C R N1 N2, Jt (k + 1) C R N1 N2 → LR p la e s m below meth c b g g' 1471 (LL b g g' i) [] N1 N2) : LR p la e s m below meth c b g g' 307 (LL b g g' i) [] M1 M2 :=
  lr_caseI (n := 1) (as := [zI (sv xs (i + (((0 : Nat) : Int) + 1)))]) hA hi h6 lwd_3 (by decide) rfl rfl kL_28 kL_31 rfl rfl (zE.f (p_fault hJ hk (sv_in _ _))) go
theorem lc_4 (hA : LA p s m meth c b L xs g g') (hi : 0 ≤ i) (h6 : i + 6 ≤ L) (hJ : Jt k C R M1 M2) (hk : k < 1000) (go : ∀ C R N1 N2, Jt (k + 1) C R N1 N2 → LR p la e s m below meth c b g g' 1471 (LL b g g' i) [] N1 N2) : LR p la e s m below meth c b g g' 330 (LL b g g' i) [] M1 M2 :=
  lr_caseI (n := 2) (as := [zI (sv xs (i + (((0 : Nat) : Int) + 1))), zI (sv xs (i + (((1 : Nat) : Int) + 1)))]) hA hi h6 lwd_4 (by decide) rfl rfl kL_32 kL_36 rfl rfl (zE.f (p_cell hJ hk (sv_in _ _) (sv_in _ _))) go
theorem lc_5 (hA : LA p s m meth c b L xs g g') (hi : 0 ≤ i) (h6 : i + 6 ≤ L) (hJ : Jt k C R M1 M2) (hk : k < 1000) (go : ∀ C R N1 N2, Jt (k + 1) C R N1 N2 → LR p la e s m below meth c b g g' 1471 (LL b g g' i) [] N1 N2) : LR p la e s m below meth c b g g' 363 (LL b g g' i) [] M1 M2 :=
  lr_caseI (n := 2) (as := [zI (sv xs (i + (((0 : Nat) : Int) + 1))), zI (sv xs (i + (((1 : Nat) : Int) + 1)))]) hA hi h6 lwd_5 (by decide) rfl rfl kL_37 kL_40 rfl rfl (zE.f (p_beside hJ hk (sv_in _ _) (sv_in _ _))) go
theorem lc_6 (hA : LA p s m meth c b L xs g g') (hi : 0 ≤ i) (h6 : i + 6 ≤ L) (hJ : Jt k C R M1 M2) (hk : k < 1000) (go : ∀ C R N1 N2, Jt (k + 1) C R N1 N2 → LR p la e s m below meth c b g g' 1471 (LL b g g' i) [] N1 N2) : LR p la e s m below meth c b g g' 396 (LL b g g' i) [] M1 M2 :=
  lr_caseI (n := 1) (as := [zI (sv xs (i + (((0 : Nat) : Int) + 1)))]) hA hi h6 lwd_6 (by decide) rfl rfl kL_41 kL_44 rfl rfl (zE.f (p_wind hJ hk (sv_in _ _))) go
theorem lc_7 (hA : LA p s m meth c b L xs g g') (hi : 0 ≤ i) (h6 : i + 6 ≤ L) (hJ : Jt k C R M1 M2) (hk : k < 1000) (go : ∀ C R N1 N2, Jt (k + 1) C R N1 N2 → LR p la e s m below meth c b g g' 1471 (LL b g g' i) [] N1 N2) : LR p la e s m below meth c b g g' 419 (LL b g g' i) [] M1 M2 :=
  lr_caseI (n := 1) (as := [zI (sv xs (i + (((0 : Nat) : Int) + 1)))]) hA hi h6 lwd_7 (by decide) rfl rfl kL_45 kL_48 rfl rfl (zE.f (p_blow hJ hk (sv_in _ _))) go
theorem lc_8 (hA : LA p s m meth c b L xs g g') (hi : 0 ≤ i) (h6 : i + 6 ≤ L) (hJ : Jt k C R M1 M2) (hk : k < 1000) (go : ∀ C R N1 N2, Jt (k + 1) C R N1 N2 → LR p la e s m below meth c b g g' 1471 (LL b g g' i) [] N1 N2) : LR p la e s m below meth c b g g' 442 (LL b g g' i) [] M1 M2 :=
  lr_caseI (n := 2) (as := [zI (sv xs (i + (((0 : Nat) : Int) + 1))), zI (sv xs (i + (((1 : Nat) : Int) + 1)))]) hA hi h6 lwd_8 (by decide) rfl rfl kL_49 kL_52 rfl rfl (zE.f (p_put hJ hk (sv_in _ _) (sv_in _ _))) go
theorem lc_9 (hA : LA p s m meth c b L xs g g') (hi : 0 ≤ i) (h6 : i + 6 ≤ L) (hJ : Jt k C R M1 M2) (hk : k < 1000) (go : ∀ C R N1 N2, Jt (k + 1) C R N1 N2 → LR p la e s m below meth c b g g' 1471 (LL b g g' i) [] N1 N2) : LR p la e s m below meth c b g g' 475 (LL b g g' i) [] M1 M2 :=
  lr_caseI (n := 1) (as := [zI (sv xs (i + (((0 : Nat) : Int) + 1)))]) hA hi h6 lwd_9 (by decide) rfl rfl kL_53 kL_56 rfl rfl (zE.f (p_take hJ hk (sv_in _ _))) go
theorem lc_10 (hA : LA p s m meth c b L xs g g') (hi : 0 ≤ i) (h6 : i + 6 ≤ L) (hJ : Jt k C R M1 M2) (hk : k < 1000) (go : ∀ C R N1 N2, Jt (k + 1) C R N1 N2 → LR p la e s m below meth c b g g' 1471 (LL b g g' i) [] N1 N2) : LR p la e s m below meth c b g g' 498 (LL b g g' i) [] M1 M2 :=
  lr_caseB (n := 1) (as := [zI (sv xs (i + (((0 : Nat) : Int) + 1))), zI (nz (sv xs (i + (((1 : Nat) : Int) + 1))))]) hA hi h6 lwd_10 (by decide) rfl rfl kL_57 kL_61 rfl rfl (zE.f (p_sow hJ hk (sv_in _ _) (nz01 _))) go
theorem lc_11 (hA : LA p s m meth c b L xs g g') (hi : 0 ≤ i) (h6 : i + 6 ≤ L) (hJ : Jt k C R M1 M2) (hk : k < 1000) (go : ∀ C R N1 N2, Jt (k + 1) C R N1 N2 → LR p la e s m below meth c b g g' 1471 (LL b g g' i) [] N1 N2) : LR p la e s m below meth c b g g' 547 (LL b g g' i) [] M1 M2 :=
  lr_caseI (n := 2) (as := [zI (sv xs (i + (((0 : Nat) : Int) + 1))), zI (sv xs (i + (((1 : Nat) : Int) + 1)))]) hA hi h6 lwd_11 (by decide) rfl rfl kL_62 kL_65 rfl rfl (zE.f (p_turn hJ hk (sv_in _ _) (sv_in _ _))) go
theorem lc_12 (hA : LA p s m meth c b L xs g g') (hi : 0 ≤ i) (h6 : i + 6 ≤ L) (hJ : Jt k C R M1 M2) (hk : k < 1000) (go : ∀ C R N1 N2, Jt (k + 1) C R N1 N2 → LR p la e s m below meth c b g g' 1471 (LL b g g' i) [] N1 N2) : LR p la e s m below meth c b g g' 580 (LL b g g' i) [] M1 M2 :=
  lr_caseI (n := 0) (as := []) hA hi h6 lwd_12 (by decide) rfl rfl kL_66 kL_70 rfl rfl (zE.f (p_undo hJ hk)) go
theorem lc_13 (hA : LA p s m meth c b L xs g g') (hi : 0 ≤ i) (h6 : i + 6 ≤ L) (hJ : Jt k C R M1 M2) (hk : k < 1000) (go : ∀ C R N1 N2, Jt (k + 1) C R N1 N2 → LR p la e s m below meth c b g g' 1471 (LL b g g' i) [] N1 N2) : LR p la e s m below meth c b g g' 593 (LL b g g' i) [] M1 M2 :=
  lr_caseI (n := 0) (as := []) hA hi h6 lwd_13 (by decide) rfl rfl kL_71 kL_74 rfl rfl (zE.f (p_redo hJ hk)) go
theorem lc_14 (hA : LA p s m meth c b L xs g g') (hi : 0 ≤ i) (h6 : i + 6 ≤ L) (hJ : Jt k C R M1 M2) (hk : k < 1000) (go : ∀ C R N1 N2, Jt (k + 1) C R N1 N2 → LR p la e s m below meth c b g g' 1471 (LL b g g' i) [] N1 N2) : LR p la e s m below meth c b g g' 606 (LL b g g' i) [] M1 M2 :=
  lr_caseI (n := 1) (as := [zI (sv xs (i + (((0 : Nat) : Int) + 1)))]) hA hi h6 lwd_14 (by decide) rfl rfl kL_75 kL_78 rfl rfl (zE.f (p_all hJ hk (sv_in _ _))) go
theorem lc_15 (hA : LA p s m meth c b L xs g g') (hi : 0 ≤ i) (h6 : i + 6 ≤ L) (hJ : Jt k C R M1 M2) (hk : k < 1000) (go : ∀ C R N1 N2, Jt (k + 1) C R N1 N2 → LR p la e s m below meth c b g g' 1471 (LL b g g' i) [] N1 N2) : LR p la e s m below meth c b g g' 629 (LL b g g' i) [] M1 M2 :=
  lr_caseI (n := 2) (as := [zI (sv xs (i + (((0 : Nat) : Int) + 1))), zI (sv xs (i + (((1 : Nat) : Int) + 1)))]) hA hi h6 lwd_15 (by decide) rfl rfl kL_79 kL_82 rfl rfl (zE.f (p_skyline hJ hk (sv_in _ _) (sv_in _ _))) go
theorem lc_16 (hA : LA p s m meth c b L xs g g') (hi : 0 ≤ i) (h6 : i + 6 ≤ L) (hJ : Jt k C R M1 M2) (hk : k < 1000) (go : ∀ C R N1 N2, Jt (k + 1) C R N1 N2 → LR p la e s m below meth c b g g' 1471 (LL b g g' i) [] N1 N2) : LR p la e s m below meth c b g g' 662 (LL b g g' i) [] M1 M2 :=
  lr_caseL (n := 4) (as := [zI (sv xs (i + (((0 : Nat) : Int) + 1))), zI (sv xs (i + (((1 : Nat) : Int) + 1))), zI (sv xs (i + (((2 : Nat) : Int) + 1))), zI (sv xs (i + (((3 : Nat) : Int) + 1)))]) hA hi h6 lwd_16 (by decide) rfl rfl kL_83 kL_87 rfl rfl (zEl.f (p_lands hJ hk (sv_in _ _) (sv_in _ _) (sv_in _ _) (sv_in _ _))) go
theorem lc_17 (hA : LA p s m meth c b L xs g g') (hi : 0 ≤ i) (h6 : i + 6 ≤ L) (hJ : Jt k C R M1 M2) (hk : k < 1000) (go : ∀ C R N1 N2, Jt (k + 1) C R N1 N2 → LR p la e s m below meth c b g g' 1471 (LL b g g' i) [] N1 N2) : LR p la e s m below meth c b g g' 716 (LL b g g' i) [] M1 M2 :=
  lr_caseI (n := 1) (as := [zI (sv xs (i + (((0 : Nat) : Int) + 1)))]) hA hi h6 lwd_17 (by decide) rfl rfl kL_88 kL_91 rfl rfl (zE.f (p_dunes hJ hk (sv_in _ _))) go
theorem lc_18 (hA : LA p s m meth c b L xs g g') (hi : 0 ≤ i) (h6 : i + 6 ≤ L) (hJ : Jt k C R M1 M2) (hk : k < 1000) (go : ∀ C R N1 N2, Jt (k + 1) C R N1 N2 → LR p la e s m below meth c b g g' 1471 (LL b g g' i) [] N1 N2) : LR p la e s m below meth c b g g' 739 (LL b g g' i) [] M1 M2 :=
  lr_caseI (n := 3) (as := [zI (sv xs (i + (((0 : Nat) : Int) + 1))), zI (sv xs (i + (((1 : Nat) : Int) + 1))), zI (sv xs (i + (((2 : Nat) : Int) + 1)))]) hA hi h6 lwd_18 (by decide) rfl rfl kL_92 kL_96 rfl rfl (zE.f (p_dune hJ hk (sv_in _ _) (sv_in _ _) (sv_in _ _))) go
theorem lc_19 (hA : LA p s m meth c b L xs g g') (hi : 0 ≤ i) (h6 : i + 6 ≤ L) (hJ : Jt k C R M1 M2) (hk : k < 1000) (go : ∀ C R N1 N2, Jt (k + 1) C R N1 N2 → LR p la e s m below meth c b g g' 1471 (LL b g g' i) [] N1 N2) : LR p la e s m below meth c b g g' 782 (LL b g g' i) [] M1 M2 :=
  lr_caseI (n := 2) (as := [zI (sv xs (i + (((0 : Nat) : Int) + 1))), zI (sv xs (i + (((1 : Nat) : Int) + 1)))]) hA hi h6 lwd_19 (by decide) rfl rfl kL_97 kL_100 rfl rfl (zE.f (p_duneOf hJ hk (sv_in _ _) (sv_in _ _))) go
theorem lc_20 (hA : LA p s m meth c b L xs g g') (hi : 0 ≤ i) (h6 : i + 6 ≤ L) (hJ : Jt k C R M1 M2) (hk : k < 1000) (go : ∀ C R N1 N2, Jt (k + 1) C R N1 N2 → LR p la e s m below meth c b g g' 1471 (LL b g g' i) [] N1 N2) : LR p la e s m below meth c b g g' 815 (LL b g g' i) [] M1 M2 :=
  lr_caseI (n := 1) (as := [zI (sv xs (i + (((0 : Nat) : Int) + 1)))]) hA hi h6 lwd_20 (by decide) rfl rfl kL_101 kL_104 rfl rfl (zE.f (p_parts hJ hk (sv_in _ _))) go
theorem lc_21 (hA : LA p s m meth c b L xs g g') (hi : 0 ≤ i) (h6 : i + 6 ≤ L) (hJ : Jt k C R M1 M2) (hk : k < 1000) (go : ∀ C R N1 N2, Jt (k + 1) C R N1 N2 → LR p la e s m below meth c b g g' 1471 (LL b g g' i) [] N1 N2) : LR p la e s m below meth c b g g' 838 (LL b g g' i) [] M1 M2 :=
  lr_caseI (n := 2) (as := [zI (sv xs (i + (((0 : Nat) : Int) + 1))), zI (sv xs (i + (((1 : Nat) : Int) + 1)))]) hA hi h6 lwd_21 (by decide) rfl rfl kL_105 kL_108 rfl rfl (zE.f (p_saddle hJ hk (sv_in _ _) (sv_in _ _))) go
theorem lc_22 (hA : LA p s m meth c b L xs g g') (hi : 0 ≤ i) (h6 : i + 6 ≤ L) (hJ : Jt k C R M1 M2) (hk : k < 1000) (go : ∀ C R N1 N2, Jt (k + 1) C R N1 N2 → LR p la e s m below meth c b g g' 1471 (LL b g g' i) [] N1 N2) : LR p la e s m below meth c b g g' 871 (LL b g g' i) [] M1 M2 :=
  lr_caseI (n := 1) (as := [zI (sv xs (i + (((0 : Nat) : Int) + 1)))]) hA hi h6 lwd_22 (by decide) rfl rfl kL_109 kL_112 rfl rfl (zE.f (p_crests hJ hk (sv_in _ _))) go
theorem lc_23 (hA : LA p s m meth c b L xs g g') (hi : 0 ≤ i) (h6 : i + 6 ≤ L) (hJ : Jt k C R M1 M2) (hk : k < 1000) (go : ∀ C R N1 N2, Jt (k + 1) C R N1 N2 → LR p la e s m below meth c b g g' 1471 (LL b g g' i) [] N1 N2) : LR p la e s m below meth c b g g' 894 (LL b g g' i) [] M1 M2 :=
  lr_caseI (n := 3) (as := [zI (sv xs (i + (((0 : Nat) : Int) + 1))), zI (sv xs (i + (((1 : Nat) : Int) + 1))), zI (sv xs (i + (((2 : Nat) : Int) + 1)))]) hA hi h6 lwd_23 (by decide) rfl rfl kL_113 kL_116 rfl rfl (zE.f (p_follows hJ hk (sv_in _ _) (sv_in _ _) (sv_in _ _))) go
theorem lc_24 (hA : LA p s m meth c b L xs g g') (hi : 0 ≤ i) (h6 : i + 6 ≤ L) (hJ : Jt k C R M1 M2) (hk : k < 1000) (go : ∀ C R N1 N2, Jt (k + 1) C R N1 N2 → LR p la e s m below meth c b g g' 1471 (LL b g g' i) [] N1 N2) : LR p la e s m below meth c b g g' 937 (LL b g g' i) [] M1 M2 :=
  lr_caseI (n := 3) (as := [zI (sv xs (i + (((0 : Nat) : Int) + 1))), zI (sv xs (i + (((1 : Nat) : Int) + 1))), zI (sv xs (i + (((2 : Nat) : Int) + 1)))]) hA hi h6 lwd_24 (by decide) rfl rfl kL_117 kL_120 rfl rfl (zE.f (p_fates hJ hk (sv_in _ _) (sv_in _ _) (sv_in _ _))) go
theorem lc_25 (hA : LA p s m meth c b L xs g g') (hi : 0 ≤ i) (h6 : i + 6 ≤ L) (hJ : Jt k C R M1 M2) (hk : k < 1000) (go : ∀ C R N1 N2, Jt (k + 1) C R N1 N2 → LR p la e s m below meth c b g g' 1471 (LL b g g' i) [] N1 N2) : LR p la e s m below meth c b g g' 980 (LL b g g' i) [] M1 M2 :=
  lr_caseI (n := 2) (as := [zI (sv xs (i + (((0 : Nat) : Int) + 1))), zI (sv xs (i + (((1 : Nat) : Int) + 1)))]) hA hi h6 lwd_25 (by decide) rfl rfl kL_121 kL_124 rfl rfl (zE.f (p_shift hJ hk (sv_in _ _) (sv_in _ _))) go
theorem lc_26 (hA : LA p s m meth c b L xs g g') (hi : 0 ≤ i) (h6 : i + 6 ≤ L) (hJ : Jt k C R M1 M2) (hk : k < 1000) (go : ∀ C R N1 N2, Jt (k + 1) C R N1 N2 → LR p la e s m below meth c b g g' 1471 (LL b g g' i) [] N1 N2) : LR p la e s m below meth c b g g' 1013 (LL b g g' i) [] M1 M2 :=
  lr_caseI (n := 2) (as := [zI (sv xs (i + (((0 : Nat) : Int) + 1))), zI (sv xs (i + (((1 : Nat) : Int) + 1)))]) hA hi h6 lwd_26 (by decide) rfl rfl kL_125 kL_128 rfl rfl (zE.f (p_would hJ hk (sv_in _ _) (sv_in _ _))) go
theorem lc_27 (hA : LA p s m meth c b L xs g g') (hi : 0 ≤ i) (h6 : i + 6 ≤ L) (hJ : Jt k C R M1 M2) (hk : k < 1000) (go : ∀ C R N1 N2, Jt (k + 1) C R N1 N2 → LR p la e s m below meth c b g g' 1471 (LL b g g' i) [] N1 N2) : LR p la e s m below meth c b g g' 1046 (LL b g g' i) [] M1 M2 :=
  lr_caseI (n := 2) (as := [zI (sv xs (i + (((0 : Nat) : Int) + 1))), zI (sv xs (i + (((1 : Nat) : Int) + 1)))]) hA hi h6 lwd_27 (by decide) rfl rfl kL_129 kL_132 rfl rfl (zE.f (p_next hJ hk (sv_in _ _) (sv_in _ _))) go
theorem lc_28 (hA : LA p s m meth c b L xs g g') (hi : 0 ≤ i) (h6 : i + 6 ≤ L) (hJ : Jt k C R M1 M2) (hk : k < 1000) (go : ∀ C R N1 N2, Jt (k + 1) C R N1 N2 → LR p la e s m below meth c b g g' 1471 (LL b g g' i) [] N1 N2) : LR p la e s m below meth c b g g' 1079 (LL b g g' i) [] M1 M2 :=
  lr_caseI (n := 2) (as := [zI (sv xs (i + (((0 : Nat) : Int) + 1))), zI (sv xs (i + (((1 : Nat) : Int) + 1)))]) hA hi h6 lwd_28 (by decide) rfl rfl kL_133 kL_136 rfl rfl (zE.f (p_flux hJ hk (sv_in _ _) (sv_in _ _))) go
theorem lc_29 (hA : LA p s m meth c b L xs g g') (hi : 0 ≤ i) (h6 : i + 6 ≤ L) (hJ : Jt k C R M1 M2) (hk : k < 1000) (go : ∀ C R N1 N2, Jt (k + 1) C R N1 N2 → LR p la e s m below meth c b g g' 1471 (LL b g g' i) [] N1 N2) : LR p la e s m below meth c b g g' 1112 (LL b g g' i) [] M1 M2 :=
  lr_caseI (n := 3) (as := [zI (sv xs (i + (((0 : Nat) : Int) + 1))), zI (sv xs (i + (((1 : Nat) : Int) + 1))), zI (sv xs (i + (((2 : Nat) : Int) + 1)))]) hA hi h6 lwd_29 (by decide) rfl rfl kL_137 kL_140 rfl rfl (zE.f (p_game hJ hk (sv_in _ _) (sv_in _ _) (sv_in _ _))) go
theorem lc_30 (hA : LA p s m meth c b L xs g g') (hi : 0 ≤ i) (h6 : i + 6 ≤ L) (hJ : Jt k C R M1 M2) (hk : k < 1000) (go : ∀ C R N1 N2, Jt (k + 1) C R N1 N2 → LR p la e s m below meth c b g g' 1471 (LL b g g' i) [] N1 N2) : LR p la e s m below meth c b g g' 1155 (LL b g g' i) [] M1 M2 :=
  lr_caseI (n := 2) (as := [zI (sv xs (i + (((0 : Nat) : Int) + 1))), zI (sv xs (i + (((1 : Nat) : Int) + 1)))]) hA hi h6 lwd_30 (by decide) rfl rfl kL_141 kL_144 rfl rfl (zE.f (p_tallest hJ hk (sv_in _ _) (sv_in _ _))) go
theorem lc_31 (hA : LA p s m meth c b L xs g g') (hi : 0 ≤ i) (h6 : i + 6 ≤ L) (hJ : Jt k C R M1 M2) (hk : k < 1000) (go : ∀ C R N1 N2, Jt (k + 1) C R N1 N2 → LR p la e s m below meth c b g g' 1471 (LL b g g' i) [] N1 N2) : LR p la e s m below meth c b g g' 1188 (LL b g g' i) [] M1 M2 :=
  lr_caseB (n := 3) (as := [zI (sv xs (i + (((0 : Nat) : Int) + 1))), zI (sv xs (i + (((1 : Nat) : Int) + 1))), zI (sv xs (i + (((2 : Nat) : Int) + 1))), zI (nz (sv xs (i + (((3 : Nat) : Int) + 1))))]) hA hi h6 lwd_31 (by decide) rfl rfl kL_145 kL_149 rfl rfl (zE.f (p_seen hJ hk (sv_in _ _) (sv_in _ _) (sv_in _ _) (nz01 _))) go
theorem lc_32 (hA : LA p s m meth c b L xs g g') (hi : 0 ≤ i) (h6 : i + 6 ≤ L) (hJ : Jt k C R M1 M2) (hk : k < 1000) (go : ∀ C R N1 N2, Jt (k + 1) C R N1 N2 → LR p la e s m below meth c b g g' 1471 (LL b g g' i) [] N1 N2) : LR p la e s m below meth c b g g' 1257 (LL b g g' i) [] M1 M2 :=
  lr_caseI (n := 1) (as := [zI (sv xs (i + (((0 : Nat) : Int) + 1)))]) hA hi h6 lwd_32 (by decide) rfl rfl kL_150 kL_154 rfl rfl (zE.f (p_untell hJ hk (sv_in _ _))) go
theorem lc_33 (hA : LA p s m meth c b L xs g g') (hi : 0 ≤ i) (h6 : i + 6 ≤ L) (hJ : Jt k C R M1 M2) (hk : k < 1000) (go : ∀ C R N1 N2, Jt (k + 1) C R N1 N2 → LR p la e s m below meth c b g g' 1471 (LL b g g' i) [] N1 N2) : LR p la e s m below meth c b g g' 1280 (LL b g g' i) [] M1 M2 :=
  lr_caseI (n := 1) (as := [zI (sv xs (i + (((0 : Nat) : Int) + 1)))]) hA hi h6 lwd_33 (by decide) rfl rfl kL_155 kL_158 rfl rfl (zE.f (p_later hJ hk (sv_in _ _))) go
theorem lc_34 (hA : LA p s m meth c b L xs g g') (hi : 0 ≤ i) (h6 : i + 6 ≤ L) (hJ : Jt k C R M1 M2) (hk : k < 1000) (go : ∀ C R N1 N2, Jt (k + 1) C R N1 N2 → LR p la e s m below meth c b g g' 1471 (LL b g g' i) [] N1 N2) : LR p la e s m below meth c b g g' 1303 (LL b g g' i) [] M1 M2 :=
  lr_caseI (n := 1) (as := [zI (sv xs (i + (((0 : Nat) : Int) + 1)))]) hA hi h6 lwd_34 (by decide) rfl rfl kL_159 kL_162 rfl rfl (zE.f (p_fits hJ hk (sv_in _ _))) go
theorem lc_35 (hA : LA p s m meth c b L xs g g') (hi : 0 ≤ i) (h6 : i + 6 ≤ L) (hJ : Jt k C R M1 M2) (hk : k < 1000) (go : ∀ C R N1 N2, Jt (k + 1) C R N1 N2 → LR p la e s m below meth c b g g' 1471 (LL b g g' i) [] N1 N2) : LR p la e s m below meth c b g g' 1326 (LL b g g' i) [] M1 M2 :=
  lr_caseI (n := 2) (as := [zI (sv xs (i + (((0 : Nat) : Int) + 1))), zI (sv xs (i + (((1 : Nat) : Int) + 1)))]) hA hi h6 lwd_35 (by decide) rfl rfl kL_163 kL_166 rfl rfl (zE.f (p_fit hJ hk (sv_in _ _) (sv_in _ _))) go
theorem lc_36 (hA : LA p s m meth c b L xs g g') (hi : 0 ≤ i) (h6 : i + 6 ≤ L) (hJ : Jt k C R M1 M2) (hk : k < 1000) (go : ∀ C R N1 N2, Jt (k + 1) C R N1 N2 → LR p la e s m below meth c b g g' 1471 (LL b g g' i) [] N1 N2) : LR p la e s m below meth c b g g' 1359 (LL b g g' i) [] M1 M2 :=
  lr_caseI (n := 3) (as := [zI (sv xs (i + (((0 : Nat) : Int) + 1))), zI (sv xs (i + (((1 : Nat) : Int) + 1))), zI (sv xs (i + (((2 : Nat) : Int) + 1)))]) hA hi h6 lwd_36 (by decide) rfl rfl kL_167 kL_170 rfl rfl (zE.f (p_ask hJ hk (sv_in _ _) (sv_in _ _) (sv_in _ _))) go
theorem lc_37 (hA : LA p s m meth c b L xs g g') (hi : 0 ≤ i) (h6 : i + 6 ≤ L) (hJ : Jt k C R M1 M2) (hk : k < 1000) (go : ∀ C R N1 N2, Jt (k + 1) C R N1 N2 → LR p la e s m below meth c b g g' 1471 (LL b g g' i) [] N1 N2) : LR p la e s m below meth c b g g' 1402 (LL b g g' i) [] M1 M2 :=
  lr_caseI (n := 1) (as := [zI (sv xs (i + (((0 : Nat) : Int) + 1)))]) hA hi h6 lwd_37 (by decide) rfl rfl kL_171 kL_174 rfl rfl (zE.f (p_image hJ hk (sv_in _ _))) go
theorem lc_38 (hA : LA p s m meth c b L xs g g') (hi : 0 ≤ i) (h6 : i + 6 ≤ L) (hJ : Jt k C R M1 M2) (hk : k < 1000) (go : ∀ C R N1 N2, Jt (k + 1) C R N1 N2 → LR p la e s m below meth c b g g' 1471 (LL b g g' i) [] N1 N2) : LR p la e s m below meth c b g g' 1425 (LL b g g' i) [] M1 M2 :=
  lr_caseI (n := 1) (as := [zI (sv xs (i + (((0 : Nat) : Int) + 1)))]) hA hi h6 lwd_38 (by decide) rfl rfl kL_175 kL_178 rfl rfl (zE.f (p_back hJ hk (sv_in _ _))) go
theorem lc_39 (hA : LA p s m meth c b L xs g g') (hi : 0 ≤ i) (h6 : i + 6 ≤ L) (hJ : Jt k C R M1 M2) (hk : k < 1000) (go : ∀ C R N1 N2, Jt (k + 1) C R N1 N2 → LR p la e s m below meth c b g g' 1471 (LL b g g' i) [] N1 N2) : LR p la e s m below meth c b g g' 1448 (LL b g g' i) [] M1 M2 :=
  lr_caseI (n := 1) (as := [zI (sv xs (i + (((0 : Nat) : Int) + 1)))]) hA hi h6 lwd_39 (by decide) rfl rfl kL_179 kL_182 rfl rfl (zE.f (p_about hJ hk (sv_in _ _))) go
theorem law_sw (hA : LA p s m meth c b L xs g g') (hi : 0 ≤ i) (h6 : i + 6 ≤ L) (hJ : Jt k C R M1 M2) (hk : k < 1000) (go : ∀ C R N1 N2, Jt (k + 1) C R N1 N2 → LR p la e s m below meth c b g g' 1471 (LL b g g' i) [] N1 N2) : ∀ n : Nat, n < 40 → ∃ (off : Int) (tgt : Nat), lwO[n]? = some off ∧ ((33 : Nat) : Int) + off = (tgt : Int) ∧ LR p la e s m below meth c b g g' tgt (LL b g g' i) [] M1 M2
  | 0, _ => ⟨175, 208, by decide +kernel, by decide, lc_0 hA hi h6 hJ hk go⟩
  | 1, _ => ⟨238, 271, by decide +kernel, by decide, lc_1 hA hi h6 hJ hk go⟩
  | 2, _ => ⟨261, 294, by decide +kernel, by decide, lc_2 hA hi h6 hJ hk go⟩
  | 3, _ => ⟨274, 307, by decide +kernel, by decide, lc_3 hA hi h6 hJ hk go⟩
  | 4, _ => ⟨297, 330, by decide +kernel, by decide, lc_4 hA hi h6 hJ hk go⟩
  | 5, _ => ⟨330, 363, by decide +kernel, by decide, lc_5 hA hi h6 hJ hk go⟩
  | 6, _ => ⟨363, 396, by decide +kernel, by decide, lc_6 hA hi h6 hJ hk go⟩
  | 7, _ => ⟨386, 419, by decide +kernel, by decide, lc_7 hA hi h6 hJ hk go⟩
  | 8, _ => ⟨409, 442, by decide +kernel, by decide, lc_8 hA hi h6 hJ hk go⟩
  | 9, _ => ⟨442, 475, by decide +kernel, by decide, lc_9 hA hi h6 hJ hk go⟩
  | 10, _ => ⟨465, 498, by decide +kernel, by decide, lc_10 hA hi h6 hJ hk go⟩
  | 11, _ => ⟨514, 547, by decide +kernel, by decide, lc_11 hA hi h6 hJ hk go⟩
  | 12, _ => ⟨547, 580, by decide +kernel, by decide, lc_12 hA hi h6 hJ hk go⟩
  | 13, _ => ⟨560, 593, by decide +kernel, by decide, lc_13 hA hi h6 hJ hk go⟩
  | 14, _ => ⟨573, 606, by decide +kernel, by decide, lc_14 hA hi h6 hJ hk go⟩
  | 15, _ => ⟨596, 629, by decide +kernel, by decide, lc_15 hA hi h6 hJ hk go⟩
  | 16, _ => ⟨629, 662, by decide +kernel, by decide, lc_16 hA hi h6 hJ hk go⟩
  | 17, _ => ⟨683, 716, by decide +kernel, by decide, lc_17 hA hi h6 hJ hk go⟩
  | 18, _ => ⟨706, 739, by decide +kernel, by decide, lc_18 hA hi h6 hJ hk go⟩
  | 19, _ => ⟨749, 782, by decide +kernel, by decide, lc_19 hA hi h6 hJ hk go⟩
  | 20, _ => ⟨782, 815, by decide +kernel, by decide, lc_20 hA hi h6 hJ hk go⟩
  | 21, _ => ⟨805, 838, by decide +kernel, by decide, lc_21 hA hi h6 hJ hk go⟩
  | 22, _ => ⟨838, 871, by decide +kernel, by decide, lc_22 hA hi h6 hJ hk go⟩
  | 23, _ => ⟨861, 894, by decide +kernel, by decide, lc_23 hA hi h6 hJ hk go⟩
  | 24, _ => ⟨904, 937, by decide +kernel, by decide, lc_24 hA hi h6 hJ hk go⟩
  | 25, _ => ⟨947, 980, by decide +kernel, by decide, lc_25 hA hi h6 hJ hk go⟩
  | 26, _ => ⟨980, 1013, by decide +kernel, by decide, lc_26 hA hi h6 hJ hk go⟩
  | 27, _ => ⟨1013, 1046, by decide +kernel, by decide, lc_27 hA hi h6 hJ hk go⟩
  | 28, _ => ⟨1046, 1079, by decide +kernel, by decide, lc_28 hA hi h6 hJ hk go⟩
  | 29, _ => ⟨1079, 1112, by decide +kernel, by decide, lc_29 hA hi h6 hJ hk go⟩
  | 30, _ => ⟨1122, 1155, by decide +kernel, by decide, lc_30 hA hi h6 hJ hk go⟩
  | 31, _ => ⟨1155, 1188, by decide +kernel, by decide, lc_31 hA hi h6 hJ hk go⟩
  | 32, _ => ⟨1224, 1257, by decide +kernel, by decide, lc_32 hA hi h6 hJ hk go⟩
  | 33, _ => ⟨1247, 1280, by decide +kernel, by decide, lc_33 hA hi h6 hJ hk go⟩
  | 34, _ => ⟨1270, 1303, by decide +kernel, by decide, lc_34 hA hi h6 hJ hk go⟩
  | 35, _ => ⟨1293, 1326, by decide +kernel, by decide, lc_35 hA hi h6 hJ hk go⟩
  | 36, _ => ⟨1326, 1359, by decide +kernel, by decide, lc_36 hA hi h6 hJ hk go⟩
  | 37, _ => ⟨1369, 1402, by decide +kernel, by decide, lc_37 hA hi h6 hJ hk go⟩
  | 38, _ => ⟨1392, 1425, by decide +kernel, by decide, lc_38 hA hi h6 hJ hk go⟩
  | 39, _ => ⟨1415, 1448, by decide +kernel, by decide, lc_39 hA hi h6 hJ hk go⟩
  | n + 40, h => absurd h (by omega)
end LC
