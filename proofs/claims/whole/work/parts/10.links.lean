theorem zc0 {w : Cond} (i : Nat) (h : (k2_sels lw_privs)[i]? = some w) (hg : goodWord w = true) : w ∈ zt := List.mem_filter.mpr ⟨List.mem_append_left _ (List.mem_of_getElem? h), hg⟩
theorem zc1 {w : Cond} (i : Nat) (h : tables_1_1[i]? = some w) (hg : goodWord w = true) : w ∈ zt := List.mem_filter.mpr ⟨List.mem_append_right _ (List.mem_append_left _ (List.mem_of_getElem? h)), hg⟩
theorem zc2 {w : Cond} (i : Nat) (h : tables_1_2[i]? = some w) (hg : goodWord w = true) : w ∈ zt := List.mem_filter.mpr ⟨List.mem_append_right _ (List.mem_append_right _ (List.mem_append_left _ (List.mem_of_getElem? h))), hg⟩
theorem zc3 {w : Cond} (i : Nat) (h : tables_1_3[i]? = some w) (hg : goodWord w = true) : w ∈ zt := List.mem_filter.mpr ⟨List.mem_append_right _ (List.mem_append_right _ (List.mem_append_right _ (List.mem_append_left _ (List.mem_of_getElem? h)))), hg⟩
theorem zc4 {w : Cond} (i : Nat) (h : tables_1_4[i]? = some w) (hg : goodWord w = true) : w ∈ zt := List.mem_filter.mpr ⟨List.mem_append_right _ (List.mem_append_right _ (List.mem_append_right _ (List.mem_append_right _ (List.mem_append_left _ (List.mem_of_getElem? h))))), hg⟩
theorem zc5 {w : Cond} (i : Nat) (h : tables_1_5[i]? = some w) (hg : goodWord w = true) : w ∈ zt := List.mem_filter.mpr ⟨List.mem_append_right _ (List.mem_append_right _ (List.mem_append_right _ (List.mem_append_right _ (List.mem_append_right _ (List.mem_append_left _ (List.mem_of_getElem? h)))))), hg⟩
theorem zc6 {w : Cond} (i : Nat) (h : tables_1_6[i]? = some w) (hg : goodWord w = true) : w ∈ zt := List.mem_filter.mpr ⟨List.mem_append_right _ (List.mem_append_right _ (List.mem_append_right _ (List.mem_append_right _ (List.mem_append_right _ (List.mem_append_right _ (List.mem_append_left _ (List.mem_of_getElem? h))))))), hg⟩
theorem zc7 {w : Cond} (i : Nat) (h : tables_1_7[i]? = some w) (hg : goodWord w = true) : w ∈ zt := List.mem_filter.mpr ⟨List.mem_append_right _ (List.mem_append_right _ (List.mem_append_right _ (List.mem_append_right _ (List.mem_append_right _ (List.mem_append_right _ (List.mem_append_right _ (List.mem_append_left _ (List.mem_of_getElem? h)))))))), hg⟩
theorem zc8 {w : Cond} (i : Nat) (h : tables_1_8[i]? = some w) (hg : goodWord w = true) : w ∈ zt := List.mem_filter.mpr ⟨List.mem_append_right _ (List.mem_append_right _ (List.mem_append_right _ (List.mem_append_right _ (List.mem_append_right _ (List.mem_append_right _ (List.mem_append_right _ (List.mem_append_right _ (List.mem_of_getElem? h)))))))), hg⟩
set_option maxRecDepth 100000 in
theorem iX0 : ∀ w ∈ u_ws RX0 TX0 13, w ∈ zt := by
  intro w hw
  obtain ⟨k, hk, rfl⟩ := List.mem_map.mp hw
  have hk := List.mem_range.mp hk
  have h : ∀ k, k < 13 → lw_tbl[([240, 242, 244, 246, 248, 250, 252, 254, 256, 258, 260, 262, 264] : List Nat).getD k 0]? = some (u_lay RX0 TX0 k) ∧ goodWord (u_lay RX0 TX0 k) = true := by decide +kernel
  exact zm _ (h k hk).1 (h k hk).2
theorem lcX0 : zLc 0 := ⟨(RX0, TX0, 13), rfl, ⟨tyX0, tyX0_ok⟩, nmX0⟩
set_option maxRecDepth 100000 in
theorem iX1 : ∀ w ∈ u_ws RX1 TX1 3, w ∈ zt := by
  intro w hw
  obtain ⟨k, hk, rfl⟩ := List.mem_map.mp hw
  have hk := List.mem_range.mp hk
  have h : ∀ k, k < 3 → lw_tbl[([410, 412, 414] : List Nat).getD k 0]? = some (u_lay RX1 TX1 k) ∧ goodWord (u_lay RX1 TX1 k) = true := by decide +kernel
  exact zm _ (h k hk).1 (h k hk).2
theorem lcX1 : zLc 1 := ⟨(RX1, TX1, 3), rfl, ⟨tyX1, tyX1_ok⟩, nmX1⟩
set_option maxRecDepth 100000 in
theorem iX2 : ∀ w ∈ u_ws RX2 TX2 11, w ∈ zt := by
  intro w hw
  obtain ⟨k, hk, rfl⟩ := List.mem_map.mp hw
  have hk := List.mem_range.mp hk
  have h : ∀ k, k < 11 → lw_tbl[([315, 317, 319, 321, 323, 325, 327, 329, 331, 333, 335] : List Nat).getD k 0]? = some (u_lay RX2 TX2 k) ∧ goodWord (u_lay RX2 TX2 k) = true := by decide +kernel
  exact zm _ (h k hk).1 (h k hk).2
theorem lcX2 : zLc 2 := ⟨(RX2, TX2, 11), rfl, ⟨tyX2, tyX2_ok⟩, nmX2⟩
set_option maxRecDepth 100000 in
theorem iX3 : ∀ w ∈ u_ws RX3 TX3 6, w ∈ zt := by
  intro w hw
  obtain ⟨k, hk, rfl⟩ := List.mem_map.mp hw
  have hk := List.mem_range.mp hk
  have h : ∀ k, k < 6 → lw_tbl[([467, 469, 471, 473, 475, 477] : List Nat).getD k 0]? = some (u_lay RX3 TX3 k) ∧ goodWord (u_lay RX3 TX3 k) = true := by decide +kernel
  exact zm _ (h k hk).1 (h k hk).2
theorem lcX3 : zLc 3 := ⟨(RX3, TX3, 6), rfl, ⟨tyX3, tyX3_ok⟩, nmX3⟩
set_option maxRecDepth 100000 in
theorem iX4 : ∀ w ∈ u_ws RX4 TX4 5, w ∈ zt := by
  intro w hw
  obtain ⟨k, hk, rfl⟩ := List.mem_map.mp hw
  have hk := List.mem_range.mp hk
  have h : ∀ k, k < 5 → lw_tbl[([275, 277, 279, 281, 283] : List Nat).getD k 0]? = some (u_lay RX4 TX4 k) ∧ goodWord (u_lay RX4 TX4 k) = true := by decide +kernel
  exact zm _ (h k hk).1 (h k hk).2
theorem lcX4 : zLc 4 := ⟨(RX4, TX4, 5), rfl, ⟨tyX4, tyX4_ok⟩, nmX4⟩
set_option maxRecDepth 100000 in
theorem iX5 : ∀ w ∈ u_ws RX5 TX5 5, w ∈ zt := by
  intro w hw
  obtain ⟨k, hk, rfl⟩ := List.mem_map.mp hw
  have hk := List.mem_range.mp hk
  have h : ∀ k, k < 5 → lw_tbl[([360, 362, 364, 366, 368] : List Nat).getD k 0]? = some (u_lay RX5 TX5 k) ∧ goodWord (u_lay RX5 TX5 k) = true := by decide +kernel
  exact zm _ (h k hk).1 (h k hk).2
theorem lcX5 : zLc 5 := ⟨(RX5, TX5, 5), rfl, ⟨tyX5, tyX5_ok⟩, nmX5⟩
set_option maxRecDepth 100000 in
theorem iX6 : ∀ w ∈ u_ws RX6 TX6 9, w ∈ zt := by
  intro w hw
  obtain ⟨k, hk, rfl⟩ := List.mem_map.mp hw
  have hk := List.mem_range.mp hk
  have h : ∀ k, k < 9 → lw_tbl[([433, 435, 437, 439, 441, 443, 445, 447, 449] : List Nat).getD k 0]? = some (u_lay RX6 TX6 k) ∧ goodWord (u_lay RX6 TX6 k) = true := by decide +kernel
  exact zm _ (h k hk).1 (h k hk).2
theorem lcX6 : zLc 6 := ⟨(RX6, TX6, 9), rfl, ⟨tyX6, tyX6_ok⟩, nmX6⟩
set_option maxRecDepth 100000 in
theorem iX7 : ∀ w ∈ u_ws RX7 TX7 5, w ∈ zt := by
  intro w hw
  obtain ⟨k, hk, rfl⟩ := List.mem_map.mp hw
  have hk := List.mem_range.mp hk
  have h : ∀ k, k < 5 → lw_tbl[([385, 387, 389, 391, 393] : List Nat).getD k 0]? = some (u_lay RX7 TX7 k) ∧ goodWord (u_lay RX7 TX7 k) = true := by decide +kernel
  exact zm _ (h k hk).1 (h k hk).2
theorem lcX7 : zLc 7 := ⟨(RX7, TX7, 5), rfl, ⟨tyX7, tyX7_ok⟩, nmX7⟩
set_option maxRecDepth 100000 in
theorem iX8 : ∀ w ∈ u_ws RX8 TX8 6, w ∈ zt := by
  intro w hw
  obtain ⟨k, hk, rfl⟩ := List.mem_map.mp hw
  have hk := List.mem_range.mp hk
  have h : ∀ k, k < 6 → lw_tbl[([169, 171, 173, 175, 177, 179] : List Nat).getD k 0]? = some (u_lay RX8 TX8 k) ∧ goodWord (u_lay RX8 TX8 k) = true := by decide +kernel
  exact zm _ (h k hk).1 (h k hk).2
theorem lcX8 : zLc 8 := ⟨(RX8, TX8, 6), rfl, ⟨tyX8, tyX8_ok⟩, nmX8⟩
set_option maxRecDepth 100000 in
theorem iX9 : ∀ w ∈ u_ws RX9 TX9 16, w ∈ zt := by
  intro w hw
  obtain ⟨k, hk, rfl⟩ := List.mem_map.mp hw
  have hk := List.mem_range.mp hk
  have h : ∀ k, k < 16 → lw_tbl[([558, 560, 562, 564, 566, 568, 570, 572, 574, 576, 578, 580, 582, 584, 586, 588] : List Nat).getD k 0]? = some (u_lay RX9 TX9 k) ∧ goodWord (u_lay RX9 TX9 k) = true := by decide +kernel
  exact zm _ (h k hk).1 (h k hk).2
theorem lcX9 : zLc 9 := ⟨(RX9, TX9, 16), rfl, ⟨tyX9, tyX9_ok⟩, nmX9⟩
set_option maxRecDepth 100000 in
theorem iX10 : ∀ w ∈ u_ws RX10 TX10 46, w ∈ zt := by
  intro w hw
  obtain ⟨k, hk, rfl⟩ := List.mem_map.mp hw
  have hk := List.mem_range.mp hk
  have h : ∀ k, k < 46 → lw_tbl[([1275, 1277, 1279, 1281, 1283, 1285, 1287, 1289, 1291, 1293, 1295, 1297, 1299, 1301, 1303, 1305, 1307, 1309, 1311, 1313, 1315, 1317, 1319, 1321, 1323, 1325, 1327, 1329, 1331, 1333, 1335, 1337, 1339, 1341, 1343, 1345, 1347, 1349, 1351, 1353, 1355, 1357, 1359, 1361, 1363, 1365] : List Nat).getD k 0]? = some (u_lay RX10 TX10 k) ∧ goodWord (u_lay RX10 TX10 k) = true := by decide +kernel
  exact zm _ (h k hk).1 (h k hk).2
theorem lcX10 : zLc 10 := ⟨(RX10, TX10, 46), rfl, ⟨tyX10, tyX10_ok⟩, nmX10⟩
theorem fX9_10 : zLf RX9 10 9 0 := ⟨(RX9, TX9, 16), rfl, by decide, iX9, zc2 177 (by decide +kernel) rfl⟩
theorem fX9_21 : zLf RX9 21 9 1 := ⟨(RX9, TX9, 16), rfl, by decide, iX9, zc2 178 (by decide +kernel) rfl⟩
theorem fX9_28 : zLf RX9 28 9 2 := ⟨(RX9, TX9, 16), rfl, by decide, iX9, zc2 179 (by decide +kernel) rfl⟩
theorem fX9_35 : zLf RX9 35 9 3 := ⟨(RX9, TX9, 16), rfl, by decide, iX9, zc2 180 (by decide +kernel) rfl⟩
theorem fX9_39 : zLf RX9 39 9 4 := ⟨(RX9, TX9, 16), rfl, by decide, iX9, zc2 181 (by decide +kernel) rfl⟩
theorem fX9_42 : zLf RX9 42 9 5 := ⟨(RX9, TX9, 16), rfl, by decide, iX9, zc2 182 (by decide +kernel) rfl⟩
theorem fX9_50 : zLf RX9 50 9 6 := ⟨(RX9, TX9, 16), rfl, by decide, iX9, zc2 183 (by decide +kernel) rfl⟩
theorem fX9_54 : zLf RX9 54 9 7 := ⟨(RX9, TX9, 16), rfl, by decide, iX9, zc2 184 (by decide +kernel) rfl⟩
theorem fX9_60 : zLf RX9 60 9 8 := ⟨(RX9, TX9, 16), rfl, by decide, iX9, zc2 185 (by decide +kernel) rfl⟩
theorem fX9_69 : zLf RX9 69 9 9 := ⟨(RX9, TX9, 16), rfl, by decide, iX9, zc2 186 (by decide +kernel) rfl⟩
theorem fX9_78 : zLf RX9 78 9 10 := ⟨(RX9, TX9, 16), rfl, by decide, iX9, zc2 187 (by decide +kernel) rfl⟩
theorem fX9_82 : zLf RX9 82 9 11 := ⟨(RX9, TX9, 16), rfl, by decide, iX9, zc2 188 (by decide +kernel) rfl⟩
theorem fX9_85 : zLf RX9 85 9 12 := ⟨(RX9, TX9, 16), rfl, by decide, iX9, zc2 189 (by decide +kernel) rfl⟩
theorem fX9_89 : zLf RX9 89 9 13 := ⟨(RX9, TX9, 16), rfl, by decide, iX9, zc2 190 (by decide +kernel) rfl⟩
theorem fX9_93 : zLf RX9 93 9 14 := ⟨(RX9, TX9, 16), rfl, by decide, iX9, zc2 191 (by decide +kernel) rfl⟩
theorem fX9_97 : zLf RX9 97 9 15 := ⟨(RX9, TX9, 16), rfl, by decide, iX9, zc2 192 (by decide +kernel) rfl⟩
theorem fX9_101 : zLf RX9 101 4 1 := ⟨(RX4, TX4, 5), rfl, by decide, iX4, zc1 144 (by decide +kernel) rfl⟩
theorem fX9_109 : zLf RX9 109 8 1 := ⟨(RX8, TX8, 6), rfl, by decide, iX8, zc1 36 (by decide +kernel) rfl⟩
theorem fX9_120 : zLf RX9 120 2 2 := ⟨(RX2, TX2, 11), rfl, by decide, iX2, zc1 174 (by decide +kernel) rfl⟩
theorem fX9_123 : zLf RX9 123 4 2 := ⟨(RX4, TX4, 5), rfl, by decide, iX4, zc1 146 (by decide +kernel) rfl⟩
theorem fX9_126 : zLf RX9 126 4 3 := ⟨(RX4, TX4, 5), rfl, by decide, iX4, zc1 148 (by decide +kernel) rfl⟩
theorem fX9_145 : zLf RX9 145 6 8 := ⟨(RX6, TX6, 9), rfl, by decide, iX6, zc2 67 (by decide +kernel) rfl⟩
theorem fX9_152 : zLf RX9 152 5 0 := ⟨(RX5, TX5, 5), rfl, by decide, iX5, zc1 222 (by decide +kernel) rfl⟩
theorem fX9_163 : zLf RX9 163 5 1 := ⟨(RX5, TX5, 5), rfl, by decide, iX5, zc1 225 (by decide +kernel) rfl⟩
theorem fX9_177 : zLf RX9 177 5 4 := ⟨(RX5, TX5, 5), rfl, by decide, iX5, zc1 234 (by decide +kernel) rfl⟩
theorem fX9_209 : zLf RX9 209 5 2 := ⟨(RX5, TX5, 5), rfl, by decide, iX5, zc1 228 (by decide +kernel) rfl⟩
theorem fX9_246 : zLf RX9 246 2 0 := ⟨(RX2, TX2, 11), rfl, by decide, iX2, zc1 168 (by decide +kernel) rfl⟩
theorem fX9_249 : zLf RX9 249 2 1 := ⟨(RX2, TX2, 11), rfl, by decide, iX2, zc1 170 (by decide +kernel) rfl⟩
theorem fX9_252 : zLf RX9 252 2 6 := ⟨(RX2, TX2, 11), rfl, by decide, iX2, zc1 184 (by decide +kernel) rfl⟩
theorem fX9_255 : zLf RX9 255 2 7 := ⟨(RX2, TX2, 11), rfl, by decide, iX2, zc1 186 (by decide +kernel) rfl⟩
theorem fX9_278 : zLf RX9 278 3 5 := ⟨(RX3, TX3, 6), rfl, by decide, iX3, zc2 101 (by decide +kernel) rfl⟩
theorem fX9_295 : zLf RX9 295 3 4 := ⟨(RX3, TX3, 6), rfl, by decide, iX3, zc2 99 (by decide +kernel) rfl⟩
theorem fX9_338 : zLf RX9 338 5 3 := ⟨(RX5, TX5, 5), rfl, by decide, iX5, zc1 231 (by decide +kernel) rfl⟩
theorem fX9_344 : zLf RX9 344 7 3 := ⟨(RX7, TX7, 5), rfl, by decide, iX7, zc2 17 (by decide +kernel) rfl⟩
theorem fX9_347 : zLf RX9 347 7 4 := ⟨(RX7, TX7, 5), rfl, by decide, iX7, zc2 19 (by decide +kernel) rfl⟩
theorem fX9_350 : zLf RX9 350 7 2 := ⟨(RX7, TX7, 5), rfl, by decide, iX7, zc2 15 (by decide +kernel) rfl⟩
theorem fX9_391 : zLf RX9 391 2 3 := ⟨(RX2, TX2, 11), rfl, by decide, iX2, zc1 178 (by decide +kernel) rfl⟩
theorem fX9_394 : zLf RX9 394 2 5 := ⟨(RX2, TX2, 11), rfl, by decide, iX2, zc1 181 (by decide +kernel) rfl⟩
theorem fX9_397 : zLf RX9 397 1 1 := ⟨(RX1, TX1, 3), rfl, by decide, iX1, zc2 42 (by decide +kernel) rfl⟩
theorem fX9_400 : zLf RX9 400 1 2 := ⟨(RX1, TX1, 3), rfl, by decide, iX1, zc2 44 (by decide +kernel) rfl⟩
theorem fX0_9 : zLf RX0 9 0 8 := ⟨(RX0, TX0, 13), rfl, by decide, iX0, zc1 100 (by decide +kernel) rfl⟩
theorem fX0_15 : zLf RX0 15 0 9 := ⟨(RX0, TX0, 13), rfl, by decide, iX0, zc1 103 (by decide +kernel) rfl⟩
theorem fX0_18 : zLf RX0 18 0 10 := ⟨(RX0, TX0, 13), rfl, by decide, iX0, zc1 106 (by decide +kernel) rfl⟩
theorem fX0_21 : zLf RX0 21 0 11 := ⟨(RX0, TX0, 13), rfl, by decide, iX0, zc1 109 (by decide +kernel) rfl⟩
theorem fX0_24 : zLf RX0 24 0 12 := ⟨(RX0, TX0, 13), rfl, by decide, iX0, zc1 112 (by decide +kernel) rfl⟩
theorem fX0_30 : zLf RX0 30 0 0 := ⟨(RX0, TX0, 13), rfl, by decide, iX0, zc1 79 (by decide +kernel) rfl⟩
theorem fX0_34 : zLf RX0 34 0 1 := ⟨(RX0, TX0, 13), rfl, by decide, iX0, zc1 82 (by decide +kernel) rfl⟩
theorem fX0_37 : zLf RX0 37 0 2 := ⟨(RX0, TX0, 13), rfl, by decide, iX0, zc1 85 (by decide +kernel) rfl⟩
theorem fX0_40 : zLf RX0 40 0 3 := ⟨(RX0, TX0, 13), rfl, by decide, iX0, zc1 88 (by decide +kernel) rfl⟩
theorem fX0_43 : zLf RX0 43 0 4 := ⟨(RX0, TX0, 13), rfl, by decide, iX0, zc1 91 (by decide +kernel) rfl⟩
theorem fX0_46 : zLf RX0 46 0 5 := ⟨(RX0, TX0, 13), rfl, by decide, iX0, zc1 94 (by decide +kernel) rfl⟩
theorem fX0_49 : zLf RX0 49 0 7 := ⟨(RX0, TX0, 13), rfl, by decide, iX0, zc1 99 (by decide +kernel) rfl⟩
theorem fX0_58 : zLf RX0 58 0 6 := ⟨(RX0, TX0, 13), rfl, by decide, iX0, zc1 97 (by decide +kernel) rfl⟩
theorem fX1_11 : zLf RX1 11 1 0 := ⟨(RX1, TX1, 3), rfl, by decide, iX1, zc2 40 (by decide +kernel) rfl⟩
theorem fX1_17 : zLf RX1 17 1 1 := ⟨(RX1, TX1, 3), rfl, by decide, iX1, zc2 41 (by decide +kernel) rfl⟩
theorem fX1_21 : zLf RX1 21 1 2 := ⟨(RX1, TX1, 3), rfl, by decide, iX1, zc2 43 (by decide +kernel) rfl⟩
theorem fX2_9 : zLf RX2 9 2 6 := ⟨(RX2, TX2, 11), rfl, by decide, iX2, zc1 182 (by decide +kernel) rfl⟩
theorem fX2_15 : zLf RX2 15 2 7 := ⟨(RX2, TX2, 11), rfl, by decide, iX2, zc1 185 (by decide +kernel) rfl⟩
theorem fX2_18 : zLf RX2 18 2 8 := ⟨(RX2, TX2, 11), rfl, by decide, iX2, zc1 187 (by decide +kernel) rfl⟩
theorem fX2_21 : zLf RX2 21 2 9 := ⟨(RX2, TX2, 11), rfl, by decide, iX2, zc1 188 (by decide +kernel) rfl⟩
theorem fX2_24 : zLf RX2 24 2 10 := ⟨(RX2, TX2, 11), rfl, by decide, iX2, zc1 189 (by decide +kernel) rfl⟩
theorem fX2_27 : zLf RX2 27 0 0 := ⟨(RX0, TX0, 13), rfl, by decide, iX0, zc1 78 (by decide +kernel) rfl⟩
theorem fX2_33 : zLf RX2 33 2 0 := ⟨(RX2, TX2, 11), rfl, by decide, iX2, zc1 167 (by decide +kernel) rfl⟩
theorem fX2_34 : zLf RX2 34 0 1 := ⟨(RX0, TX0, 13), rfl, by decide, iX0, zc1 83 (by decide +kernel) rfl⟩
theorem fX2_37 : zLf RX2 37 2 1 := ⟨(RX2, TX2, 11), rfl, by decide, iX2, zc1 169 (by decide +kernel) rfl⟩
theorem fX2_38 : zLf RX2 38 2 2 := ⟨(RX2, TX2, 11), rfl, by decide, iX2, zc1 172 (by decide +kernel) rfl⟩
theorem fX2_41 : zLf RX2 41 0 3 := ⟨(RX0, TX0, 13), rfl, by decide, iX0, zc1 89 (by decide +kernel) rfl⟩
theorem fX2_44 : zLf RX2 44 2 3 := ⟨(RX2, TX2, 11), rfl, by decide, iX2, zc1 176 (by decide +kernel) rfl⟩
theorem fX2_45 : zLf RX2 45 0 6 := ⟨(RX0, TX0, 13), rfl, by decide, iX0, zc1 96 (by decide +kernel) rfl⟩
theorem fX2_48 : zLf RX2 48 2 4 := ⟨(RX2, TX2, 11), rfl, by decide, iX2, zc1 179 (by decide +kernel) rfl⟩
theorem fX2_49 : zLf RX2 49 2 5 := ⟨(RX2, TX2, 11), rfl, by decide, iX2, zc1 180 (by decide +kernel) rfl⟩
theorem fX2_52 : zLf RX2 52 0 11 := ⟨(RX0, TX0, 13), rfl, by decide, iX0, zc1 110 (by decide +kernel) rfl⟩
theorem fX2_53 : zLf RX2 53 0 12 := ⟨(RX0, TX0, 13), rfl, by decide, iX0, zc1 113 (by decide +kernel) rfl⟩
theorem fX3_9 : zLf RX3 9 3 1 := ⟨(RX3, TX3, 6), rfl, by decide, iX3, zc2 95 (by decide +kernel) rfl⟩
theorem fX3_15 : zLf RX3 15 3 2 := ⟨(RX3, TX3, 6), rfl, by decide, iX3, zc2 96 (by decide +kernel) rfl⟩
theorem fX3_19 : zLf RX3 19 3 3 := ⟨(RX3, TX3, 6), rfl, by decide, iX3, zc2 97 (by decide +kernel) rfl⟩
theorem fX3_23 : zLf RX3 23 3 4 := ⟨(RX3, TX3, 6), rfl, by decide, iX3, zc2 98 (by decide +kernel) rfl⟩
theorem fX3_26 : zLf RX3 26 3 5 := ⟨(RX3, TX3, 6), rfl, by decide, iX3, zc2 100 (by decide +kernel) rfl⟩
theorem fX3_29 : zLf RX3 29 3 0 := ⟨(RX3, TX3, 6), rfl, by decide, iX3, zc2 94 (by decide +kernel) rfl⟩
theorem fX3_33 : zLf RX3 33 2 2 := ⟨(RX2, TX2, 11), rfl, by decide, iX2, zc1 171 (by decide +kernel) rfl⟩
theorem fX4_12 : zLf RX4 12 4 1 := ⟨(RX4, TX4, 5), rfl, by decide, iX4, zc1 143 (by decide +kernel) rfl⟩
theorem fX4_18 : zLf RX4 18 4 2 := ⟨(RX4, TX4, 5), rfl, by decide, iX4, zc1 145 (by decide +kernel) rfl⟩
theorem fX4_22 : zLf RX4 22 4 3 := ⟨(RX4, TX4, 5), rfl, by decide, iX4, zc1 147 (by decide +kernel) rfl⟩
theorem fX4_25 : zLf RX4 25 4 4 := ⟨(RX4, TX4, 5), rfl, by decide, iX4, zc1 149 (by decide +kernel) rfl⟩
theorem fX4_28 : zLf RX4 28 4 0 := ⟨(RX4, TX4, 5), rfl, by decide, iX4, zc1 142 (by decide +kernel) rfl⟩
theorem fX4_59 : zLf RX4 59 8 2 := ⟨(RX8, TX8, 6), rfl, by decide, iX8, zc1 38 (by decide +kernel) rfl⟩
theorem fX4_63 : zLf RX4 63 8 4 := ⟨(RX8, TX8, 6), rfl, by decide, iX8, zc1 42 (by decide +kernel) rfl⟩
theorem fX4_66 : zLf RX4 66 8 3 := ⟨(RX8, TX8, 6), rfl, by decide, iX8, zc1 40 (by decide +kernel) rfl⟩
theorem fX4_79 : zLf RX4 79 0 5 := ⟨(RX0, TX0, 13), rfl, by decide, iX0, zc1 95 (by decide +kernel) rfl⟩
theorem fX4_96 : zLf RX4 96 0 2 := ⟨(RX0, TX0, 13), rfl, by decide, iX0, zc1 87 (by decide +kernel) rfl⟩
theorem fX4_111 : zLf RX4 111 0 3 := ⟨(RX0, TX0, 13), rfl, by decide, iX0, zc1 90 (by decide +kernel) rfl⟩
theorem fX4_114 : zLf RX4 114 0 4 := ⟨(RX0, TX0, 13), rfl, by decide, iX0, zc1 93 (by decide +kernel) rfl⟩
theorem fX4_117 : zLf RX4 117 0 0 := ⟨(RX0, TX0, 13), rfl, by decide, iX0, zc1 80 (by decide +kernel) rfl⟩
theorem fX4_120 : zLf RX4 120 0 1 := ⟨(RX0, TX0, 13), rfl, by decide, iX0, zc1 84 (by decide +kernel) rfl⟩
theorem fX4_123 : zLf RX4 123 0 9 := ⟨(RX0, TX0, 13), rfl, by decide, iX0, zc1 105 (by decide +kernel) rfl⟩
theorem fX4_126 : zLf RX4 126 0 10 := ⟨(RX0, TX0, 13), rfl, by decide, iX0, zc1 108 (by decide +kernel) rfl⟩
theorem fX4_129 : zLf RX4 129 0 6 := ⟨(RX0, TX0, 13), rfl, by decide, iX0, zc1 98 (by decide +kernel) rfl⟩
theorem fX4_132 : zLf RX4 132 0 11 := ⟨(RX0, TX0, 13), rfl, by decide, iX0, zc1 111 (by decide +kernel) rfl⟩
theorem fX4_135 : zLf RX4 135 0 12 := ⟨(RX0, TX0, 13), rfl, by decide, iX0, zc1 114 (by decide +kernel) rfl⟩
theorem fX4_138 : zLf RX4 138 0 8 := ⟨(RX0, TX0, 13), rfl, by decide, iX0, zc1 102 (by decide +kernel) rfl⟩
theorem fX5_9 : zLf RX5 9 5 0 := ⟨(RX5, TX5, 5), rfl, by decide, iX5, zc1 219 (by decide +kernel) rfl⟩
theorem fX5_15 : zLf RX5 15 5 1 := ⟨(RX5, TX5, 5), rfl, by decide, iX5, zc1 223 (by decide +kernel) rfl⟩
theorem fX5_18 : zLf RX5 18 5 2 := ⟨(RX5, TX5, 5), rfl, by decide, iX5, zc1 226 (by decide +kernel) rfl⟩
theorem fX5_21 : zLf RX5 21 0 0 := ⟨(RX0, TX0, 13), rfl, by decide, iX0, zc1 77 (by decide +kernel) rfl⟩
theorem fX5_27 : zLf RX5 27 0 1 := ⟨(RX0, TX0, 13), rfl, by decide, iX0, zc1 81 (by decide +kernel) rfl⟩
theorem fX5_30 : zLf RX5 30 0 2 := ⟨(RX0, TX0, 13), rfl, by decide, iX0, zc1 86 (by decide +kernel) rfl⟩
theorem fX5_33 : zLf RX5 33 0 9 := ⟨(RX0, TX0, 13), rfl, by decide, iX0, zc1 104 (by decide +kernel) rfl⟩
theorem fX5_36 : zLf RX5 36 0 10 := ⟨(RX0, TX0, 13), rfl, by decide, iX0, zc1 107 (by decide +kernel) rfl⟩
theorem fX5_43 : zLf RX5 43 0 8 := ⟨(RX0, TX0, 13), rfl, by decide, iX0, zc1 101 (by decide +kernel) rfl⟩
theorem fX5_44 : zLf RX5 44 0 4 := ⟨(RX0, TX0, 13), rfl, by decide, iX0, zc1 92 (by decide +kernel) rfl⟩
theorem fX5_47 : zLf RX5 47 5 3 := ⟨(RX5, TX5, 5), rfl, by decide, iX5, zc1 230 (by decide +kernel) rfl⟩
theorem fX5_48 : zLf RX5 48 5 4 := ⟨(RX5, TX5, 5), rfl, by decide, iX5, zc1 232 (by decide +kernel) rfl⟩
theorem fX6_9 : zLf RX6 9 6 4 := ⟨(RX6, TX6, 9), rfl, by decide, iX6, zc2 62 (by decide +kernel) rfl⟩
theorem fX6_15 : zLf RX6 15 6 5 := ⟨(RX6, TX6, 9), rfl, by decide, iX6, zc2 63 (by decide +kernel) rfl⟩
theorem fX6_18 : zLf RX6 18 6 6 := ⟨(RX6, TX6, 9), rfl, by decide, iX6, zc2 64 (by decide +kernel) rfl⟩
theorem fX6_22 : zLf RX6 22 6 7 := ⟨(RX6, TX6, 9), rfl, by decide, iX6, zc2 65 (by decide +kernel) rfl⟩
theorem fX6_25 : zLf RX6 25 6 8 := ⟨(RX6, TX6, 9), rfl, by decide, iX6, zc2 66 (by decide +kernel) rfl⟩
theorem fX6_29 : zLf RX6 29 6 0 := ⟨(RX6, TX6, 9), rfl, by decide, iX6, zc2 58 (by decide +kernel) rfl⟩
theorem fX6_33 : zLf RX6 33 6 1 := ⟨(RX6, TX6, 9), rfl, by decide, iX6, zc2 59 (by decide +kernel) rfl⟩
theorem fX6_37 : zLf RX6 37 6 2 := ⟨(RX6, TX6, 9), rfl, by decide, iX6, zc2 60 (by decide +kernel) rfl⟩
theorem fX6_40 : zLf RX6 40 6 3 := ⟨(RX6, TX6, 9), rfl, by decide, iX6, zc2 61 (by decide +kernel) rfl⟩
theorem fX6_54 : zLf RX6 54 5 0 := ⟨(RX5, TX5, 5), rfl, by decide, iX5, zc1 220 (by decide +kernel) rfl⟩
theorem fX6_65 : zLf RX6 65 2 2 := ⟨(RX2, TX2, 11), rfl, by decide, iX2, zc1 175 (by decide +kernel) rfl⟩
theorem fX7_9 : zLf RX7 9 7 2 := ⟨(RX7, TX7, 5), rfl, by decide, iX7, zc2 14 (by decide +kernel) rfl⟩
theorem fX7_15 : zLf RX7 15 7 3 := ⟨(RX7, TX7, 5), rfl, by decide, iX7, zc2 16 (by decide +kernel) rfl⟩
theorem fX7_19 : zLf RX7 19 7 4 := ⟨(RX7, TX7, 5), rfl, by decide, iX7, zc2 18 (by decide +kernel) rfl⟩
theorem fX7_22 : zLf RX7 22 7 0 := ⟨(RX7, TX7, 5), rfl, by decide, iX7, zc2 12 (by decide +kernel) rfl⟩
theorem fX7_26 : zLf RX7 26 7 1 := ⟨(RX7, TX7, 5), rfl, by decide, iX7, zc2 13 (by decide +kernel) rfl⟩
theorem fX7_36 : zLf RX7 36 5 3 := ⟨(RX5, TX5, 5), rfl, by decide, iX5, zc1 229 (by decide +kernel) rfl⟩
theorem fX7_49 : zLf RX7 49 5 4 := ⟨(RX5, TX5, 5), rfl, by decide, iX5, zc1 233 (by decide +kernel) rfl⟩
theorem fX7_58 : zLf RX7 58 2 2 := ⟨(RX2, TX2, 11), rfl, by decide, iX2, zc1 173 (by decide +kernel) rfl⟩
theorem fX7_79 : zLf RX7 79 5 0 := ⟨(RX5, TX5, 5), rfl, by decide, iX5, zc1 221 (by decide +kernel) rfl⟩
theorem fX7_82 : zLf RX7 82 5 1 := ⟨(RX5, TX5, 5), rfl, by decide, iX5, zc1 224 (by decide +kernel) rfl⟩
theorem fX7_94 : zLf RX7 94 5 2 := ⟨(RX5, TX5, 5), rfl, by decide, iX5, zc1 227 (by decide +kernel) rfl⟩
theorem fX7_122 : zLf RX7 122 2 3 := ⟨(RX2, TX2, 11), rfl, by decide, iX2, zc1 177 (by decide +kernel) rfl⟩
theorem fX7_125 : zLf RX7 125 2 6 := ⟨(RX2, TX2, 11), rfl, by decide, iX2, zc1 183 (by decide +kernel) rfl⟩
theorem fX8_9 : zLf RX8 9 8 0 := ⟨(RX8, TX8, 6), rfl, by decide, iX8, zc1 34 (by decide +kernel) rfl⟩
theorem fX8_15 : zLf RX8 15 8 1 := ⟨(RX8, TX8, 6), rfl, by decide, iX8, zc1 35 (by decide +kernel) rfl⟩
theorem fX8_19 : zLf RX8 19 8 2 := ⟨(RX8, TX8, 6), rfl, by decide, iX8, zc1 37 (by decide +kernel) rfl⟩
theorem fX8_22 : zLf RX8 22 8 3 := ⟨(RX8, TX8, 6), rfl, by decide, iX8, zc1 39 (by decide +kernel) rfl⟩
theorem fX8_25 : zLf RX8 25 8 4 := ⟨(RX8, TX8, 6), rfl, by decide, iX8, zc1 41 (by decide +kernel) rfl⟩
theorem fX8_28 : zLf RX8 28 8 5 := ⟨(RX8, TX8, 6), rfl, by decide, iX8, zc1 43 (by decide +kernel) rfl⟩
theorem fX10_7 : zLf RX10 7 10 0 := ⟨(RX10, TX10, 46), rfl, by decide, iX10, zc5 144 (by decide +kernel) rfl⟩
theorem fX10_13 : zLf RX10 13 10 8 := ⟨(RX10, TX10, 46), rfl, by decide, iX10, zc5 152 (by decide +kernel) rfl⟩
theorem fX10_17 : zLf RX10 17 10 10 := ⟨(RX10, TX10, 46), rfl, by decide, iX10, zc5 154 (by decide +kernel) rfl⟩
theorem fX10_20 : zLf RX10 20 10 12 := ⟨(RX10, TX10, 46), rfl, by decide, iX10, zc5 156 (by decide +kernel) rfl⟩
theorem fX10_23 : zLf RX10 23 10 13 := ⟨(RX10, TX10, 46), rfl, by decide, iX10, zc5 157 (by decide +kernel) rfl⟩
theorem fX10_26 : zLf RX10 26 10 14 := ⟨(RX10, TX10, 46), rfl, by decide, iX10, zc5 158 (by decide +kernel) rfl⟩
theorem fX10_29 : zLf RX10 29 10 15 := ⟨(RX10, TX10, 46), rfl, by decide, iX10, zc5 159 (by decide +kernel) rfl⟩
theorem fX10_32 : zLf RX10 32 10 16 := ⟨(RX10, TX10, 46), rfl, by decide, iX10, zc5 160 (by decide +kernel) rfl⟩
theorem fX10_35 : zLf RX10 35 10 17 := ⟨(RX10, TX10, 46), rfl, by decide, iX10, zc5 161 (by decide +kernel) rfl⟩
theorem fX10_38 : zLf RX10 38 10 18 := ⟨(RX10, TX10, 46), rfl, by decide, iX10, zc5 162 (by decide +kernel) rfl⟩
theorem fX10_42 : zLf RX10 42 10 21 := ⟨(RX10, TX10, 46), rfl, by decide, iX10, zc5 165 (by decide +kernel) rfl⟩
theorem fX10_45 : zLf RX10 45 10 22 := ⟨(RX10, TX10, 46), rfl, by decide, iX10, zc5 166 (by decide +kernel) rfl⟩
theorem fX10_48 : zLf RX10 48 10 26 := ⟨(RX10, TX10, 46), rfl, by decide, iX10, zc5 170 (by decide +kernel) rfl⟩
theorem fX10_51 : zLf RX10 51 10 27 := ⟨(RX10, TX10, 46), rfl, by decide, iX10, zc5 171 (by decide +kernel) rfl⟩
theorem fX10_54 : zLf RX10 54 10 30 := ⟨(RX10, TX10, 46), rfl, by decide, iX10, zc5 174 (by decide +kernel) rfl⟩
theorem fX10_57 : zLf RX10 57 10 31 := ⟨(RX10, TX10, 46), rfl, by decide, iX10, zc5 175 (by decide +kernel) rfl⟩
theorem fX10_60 : zLf RX10 60 10 32 := ⟨(RX10, TX10, 46), rfl, by decide, iX10, zc5 176 (by decide +kernel) rfl⟩
theorem fX10_63 : zLf RX10 63 10 34 := ⟨(RX10, TX10, 46), rfl, by decide, iX10, zc5 178 (by decide +kernel) rfl⟩
theorem fX10_66 : zLf RX10 66 10 35 := ⟨(RX10, TX10, 46), rfl, by decide, iX10, zc5 179 (by decide +kernel) rfl⟩
theorem fX10_69 : zLf RX10 69 10 36 := ⟨(RX10, TX10, 46), rfl, by decide, iX10, zc5 180 (by decide +kernel) rfl⟩
theorem fX10_72 : zLf RX10 72 10 37 := ⟨(RX10, TX10, 46), rfl, by decide, iX10, zc5 181 (by decide +kernel) rfl⟩
theorem fX10_75 : zLf RX10 75 10 38 := ⟨(RX10, TX10, 46), rfl, by decide, iX10, zc5 182 (by decide +kernel) rfl⟩
theorem fX10_78 : zLf RX10 78 10 39 := ⟨(RX10, TX10, 46), rfl, by decide, iX10, zc5 183 (by decide +kernel) rfl⟩
theorem fX10_81 : zLf RX10 81 10 40 := ⟨(RX10, TX10, 46), rfl, by decide, iX10, zc5 184 (by decide +kernel) rfl⟩
theorem fX10_84 : zLf RX10 84 10 41 := ⟨(RX10, TX10, 46), rfl, by decide, iX10, zc5 185 (by decide +kernel) rfl⟩
theorem fX10_87 : zLf RX10 87 10 44 := ⟨(RX10, TX10, 46), rfl, by decide, iX10, zc5 188 (by decide +kernel) rfl⟩
theorem fX10_90 : zLf RX10 90 10 45 := ⟨(RX10, TX10, 46), rfl, by decide, iX10, zc5 189 (by decide +kernel) rfl⟩
theorem fX10_99 : zLf RX10 99 10 1 := ⟨(RX10, TX10, 46), rfl, by decide, iX10, zc5 145 (by decide +kernel) rfl⟩
theorem fX10_110 : zLf RX10 110 10 3 := ⟨(RX10, TX10, 46), rfl, by decide, iX10, zc5 147 (by decide +kernel) rfl⟩
theorem fX10_113 : zLf RX10 113 10 2 := ⟨(RX10, TX10, 46), rfl, by decide, iX10, zc5 146 (by decide +kernel) rfl⟩
theorem fX10_120 : zLf RX10 120 10 4 := ⟨(RX10, TX10, 46), rfl, by decide, iX10, zc5 148 (by decide +kernel) rfl⟩
theorem fX10_123 : zLf RX10 123 10 11 := ⟨(RX10, TX10, 46), rfl, by decide, iX10, zc5 155 (by decide +kernel) rfl⟩
theorem fX10_127 : zLf RX10 127 10 6 := ⟨(RX10, TX10, 46), rfl, by decide, iX10, zc5 150 (by decide +kernel) rfl⟩
theorem fX10_130 : zLf RX10 130 10 5 := ⟨(RX10, TX10, 46), rfl, by decide, iX10, zc5 149 (by decide +kernel) rfl⟩
theorem fX10_140 : zLf RX10 140 10 7 := ⟨(RX10, TX10, 46), rfl, by decide, iX10, zc5 151 (by decide +kernel) rfl⟩
theorem fX10_157 : zLf RX10 157 10 19 := ⟨(RX10, TX10, 46), rfl, by decide, iX10, zc5 163 (by decide +kernel) rfl⟩
theorem fX10_161 : zLf RX10 161 10 20 := ⟨(RX10, TX10, 46), rfl, by decide, iX10, zc5 164 (by decide +kernel) rfl⟩
theorem fX10_235 : zLf RX10 235 10 28 := ⟨(RX10, TX10, 46), rfl, by decide, iX10, zc5 172 (by decide +kernel) rfl⟩
theorem fX10_238 : zLf RX10 238 10 29 := ⟨(RX10, TX10, 46), rfl, by decide, iX10, zc5 173 (by decide +kernel) rfl⟩
theorem fX10_241 : zLf RX10 241 10 42 := ⟨(RX10, TX10, 46), rfl, by decide, iX10, zc5 186 (by decide +kernel) rfl⟩
theorem fX10_252 : zLf RX10 252 10 9 := ⟨(RX10, TX10, 46), rfl, by decide, iX10, zc5 153 (by decide +kernel) rfl⟩
theorem fX10_261 : zLf RX10 261 10 23 := ⟨(RX10, TX10, 46), rfl, by decide, iX10, zc5 167 (by decide +kernel) rfl⟩
theorem fX10_264 : zLf RX10 264 10 24 := ⟨(RX10, TX10, 46), rfl, by decide, iX10, zc5 168 (by decide +kernel) rfl⟩
theorem fX10_267 : zLf RX10 267 10 25 := ⟨(RX10, TX10, 46), rfl, by decide, iX10, zc5 169 (by decide +kernel) rfl⟩
theorem fX10_387 : zLf RX10 387 10 33 := ⟨(RX10, TX10, 46), rfl, by decide, iX10, zc5 177 (by decide +kernel) rfl⟩
theorem fX10_438 : zLf RX10 438 10 43 := ⟨(RX10, TX10, 46), rfl, by decide, iX10, zc5 187 (by decide +kernel) rfl⟩
theorem ltX0_0 : zLt 0 0 false RX0 .int := ⟨(RX0, TX0, 13), rfl, rfl, rfl, by decide +kernel⟩
theorem ltX0_1 : zLt 0 1 false RX0 .int := ⟨(RX0, TX0, 13), rfl, rfl, rfl, by decide +kernel⟩
theorem ltX0_2 : zLt 0 2 false RX0 .int := ⟨(RX0, TX0, 13), rfl, rfl, rfl, by decide +kernel⟩
theorem ltX0_3 : zLt 0 3 false RX0 .int := ⟨(RX0, TX0, 13), rfl, rfl, rfl, by decide +kernel⟩
theorem ltX0_4 : zLt 0 4 false RX0 .int := ⟨(RX0, TX0, 13), rfl, rfl, rfl, by decide +kernel⟩
theorem ltX0_5 : zLt 0 5 false RX0 .int := ⟨(RX0, TX0, 13), rfl, rfl, rfl, by decide +kernel⟩
theorem ltX0_6 : zLt 0 6 false RX0 .int := ⟨(RX0, TX0, 13), rfl, rfl, rfl, by decide +kernel⟩
theorem ltX0_7 : zLt 0 7 false RX0 .int := ⟨(RX0, TX0, 13), rfl, rfl, rfl, by decide +kernel⟩
theorem ltX0_8 : zLt 0 8 true RX0 (.array .int) := ⟨(RX0, TX0, 13), rfl, rfl, rfl, by decide +kernel⟩
theorem ltX0_9 : zLt 0 9 true RX0 (.array .int) := ⟨(RX0, TX0, 13), rfl, rfl, rfl, by decide +kernel⟩
theorem ltX0_10 : zLt 0 10 true RX0 (.array .int) := ⟨(RX0, TX0, 13), rfl, rfl, rfl, by decide +kernel⟩
theorem ltX0_11 : zLt 0 11 true RX0 (.array .int) := ⟨(RX0, TX0, 13), rfl, rfl, rfl, by decide +kernel⟩
theorem ltX0_12 : zLt 0 12 true RX0 (.array .int) := ⟨(RX0, TX0, 13), rfl, rfl, rfl, by decide +kernel⟩
theorem ltX1_0 : zLt 1 0 true RX1 (.array (.object "SandMarch$Sand")) := ⟨(RX1, TX1, 3), rfl, rfl, rfl, by decide +kernel⟩
theorem ltX1_1 : zLt 1 1 false RX1 .int := ⟨(RX1, TX1, 3), rfl, rfl, rfl, by decide +kernel⟩
theorem ltX1_2 : zLt 1 2 false RX1 .int := ⟨(RX1, TX1, 3), rfl, rfl, rfl, by decide +kernel⟩
theorem ltX2_0 : zLt 2 0 false RX2 .int := ⟨(RX2, TX2, 11), rfl, rfl, rfl, by decide +kernel⟩
theorem ltX2_1 : zLt 2 1 false RX2 .int := ⟨(RX2, TX2, 11), rfl, rfl, rfl, by decide +kernel⟩
theorem ltX2_2 : zLt 2 2 false RX2 .int := ⟨(RX2, TX2, 11), rfl, rfl, rfl, by decide +kernel⟩
theorem ltX2_3 : zLt 2 3 false RX2 .int := ⟨(RX2, TX2, 11), rfl, rfl, rfl, by decide +kernel⟩
theorem ltX2_4 : zLt 2 4 false RX2 .int := ⟨(RX2, TX2, 11), rfl, rfl, rfl, by decide +kernel⟩
theorem ltX2_5 : zLt 2 5 false RX2 .int := ⟨(RX2, TX2, 11), rfl, rfl, rfl, by decide +kernel⟩
theorem ltX2_6 : zLt 2 6 true RX2 (.array .int) := ⟨(RX2, TX2, 11), rfl, rfl, rfl, by decide +kernel⟩
theorem ltX2_7 : zLt 2 7 true RX2 (.array .int) := ⟨(RX2, TX2, 11), rfl, rfl, rfl, by decide +kernel⟩
theorem ltX2_8 : zLt 2 8 true RX2 (.array .int) := ⟨(RX2, TX2, 11), rfl, rfl, rfl, by decide +kernel⟩
theorem ltX2_9 : zLt 2 9 true RX2 (.array .int) := ⟨(RX2, TX2, 11), rfl, rfl, rfl, by decide +kernel⟩
theorem ltX2_10 : zLt 2 10 true RX2 (.array .int) := ⟨(RX2, TX2, 11), rfl, rfl, rfl, by decide +kernel⟩
theorem ltX3_0 : zLt 3 0 true RX3 (.object "SandMarch$Land") := ⟨(RX3, TX3, 6), rfl, rfl, rfl, by decide +kernel⟩
theorem ltX3_1 : zLt 3 1 true RX3 (.array .boolean) := ⟨(RX3, TX3, 6), rfl, rfl, rfl, by decide +kernel⟩
theorem ltX3_2 : zLt 3 2 true RX3 (.array .int) := ⟨(RX3, TX3, 6), rfl, rfl, rfl, by decide +kernel⟩
theorem ltX3_3 : zLt 3 3 false RX3 .int := ⟨(RX3, TX3, 6), rfl, rfl, rfl, by decide +kernel⟩
theorem ltX3_4 : zLt 3 4 true RX3 (.array .int) := ⟨(RX3, TX3, 6), rfl, rfl, rfl, by decide +kernel⟩
theorem ltX3_5 : zLt 3 5 false RX3 .int := ⟨(RX3, TX3, 6), rfl, rfl, rfl, by decide +kernel⟩
theorem ltX4_0 : zLt 4 0 true RX4 (.object "SandMarch$Tape") := ⟨(RX4, TX4, 5), rfl, rfl, rfl, by decide +kernel⟩
theorem ltX4_1 : zLt 4 1 true RX4 (.object "SandMarch$Draft") := ⟨(RX4, TX4, 5), rfl, rfl, rfl, by decide +kernel⟩
theorem ltX4_2 : zLt 4 2 false RX4 .int := ⟨(RX4, TX4, 5), rfl, rfl, rfl, by decide +kernel⟩
theorem ltX4_3 : zLt 4 3 false RX4 .int := ⟨(RX4, TX4, 5), rfl, rfl, rfl, by decide +kernel⟩
theorem ltX4_4 : zLt 4 4 false RX4 .int := ⟨(RX4, TX4, 5), rfl, rfl, rfl, by decide +kernel⟩
theorem ltX5_0 : zLt 5 0 true RX5 (.array .int) := ⟨(RX5, TX5, 5), rfl, rfl, rfl, by decide +kernel⟩
theorem ltX5_1 : zLt 5 1 true RX5 (.array .int) := ⟨(RX5, TX5, 5), rfl, rfl, rfl, by decide +kernel⟩
theorem ltX5_2 : zLt 5 2 true RX5 (.array .int) := ⟨(RX5, TX5, 5), rfl, rfl, rfl, by decide +kernel⟩
theorem ltX5_3 : zLt 5 3 false RX5 .int := ⟨(RX5, TX5, 5), rfl, rfl, rfl, by decide +kernel⟩
theorem ltX5_4 : zLt 5 4 false RX5 .int := ⟨(RX5, TX5, 5), rfl, rfl, rfl, by decide +kernel⟩
theorem ltX6_0 : zLt 6 0 true RX6 (.object "SandMarch$Land") := ⟨(RX6, TX6, 9), rfl, rfl, rfl, by decide +kernel⟩
theorem ltX6_1 : zLt 6 1 true RX6 (.object "SandMarch$Sand") := ⟨(RX6, TX6, 9), rfl, rfl, rfl, by decide +kernel⟩
theorem ltX6_2 : zLt 6 2 true RX6 (.object "SandMarch$Sand") := ⟨(RX6, TX6, 9), rfl, rfl, rfl, by decide +kernel⟩
theorem ltX6_3 : zLt 6 3 true RX6 (.object "SandMarch$Storm") := ⟨(RX6, TX6, 9), rfl, rfl, rfl, by decide +kernel⟩
theorem ltX6_4 : zLt 6 4 true RX6 (.array .int) := ⟨(RX6, TX6, 9), rfl, rfl, rfl, by decide +kernel⟩
theorem ltX6_5 : zLt 6 5 true RX6 (.array .int) := ⟨(RX6, TX6, 9), rfl, rfl, rfl, by decide +kernel⟩
theorem ltX6_6 : zLt 6 6 true RX6 (.array .long) := ⟨(RX6, TX6, 9), rfl, rfl, rfl, by decide +kernel⟩
theorem ltX6_7 : zLt 6 7 true RX6 (.array .int) := ⟨(RX6, TX6, 9), rfl, rfl, rfl, by decide +kernel⟩
theorem ltX6_8 : zLt 6 8 false RX6 .int := ⟨(RX6, TX6, 9), rfl, rfl, rfl, by decide +kernel⟩
theorem ltX7_0 : zLt 7 0 true RX7 (.object "SandMarch$Land") := ⟨(RX7, TX7, 5), rfl, rfl, rfl, by decide +kernel⟩
theorem ltX7_1 : zLt 7 1 true RX7 (.object "SandMarch$Sand") := ⟨(RX7, TX7, 5), rfl, rfl, rfl, by decide +kernel⟩
theorem ltX7_2 : zLt 7 2 true RX7 (.array .int) := ⟨(RX7, TX7, 5), rfl, rfl, rfl, by decide +kernel⟩
theorem ltX7_3 : zLt 7 3 false RX7 .int := ⟨(RX7, TX7, 5), rfl, rfl, rfl, by decide +kernel⟩
theorem ltX7_4 : zLt 7 4 false RX7 .int := ⟨(RX7, TX7, 5), rfl, rfl, rfl, by decide +kernel⟩
theorem ltX8_0 : zLt 8 0 true RX8 (.array .int) := ⟨(RX8, TX8, 6), rfl, rfl, rfl, by decide +kernel⟩
theorem ltX8_1 : zLt 8 1 false RX8 .int := ⟨(RX8, TX8, 6), rfl, rfl, rfl, by decide +kernel⟩
theorem ltX8_2 : zLt 8 2 true RX8 (.array .int) := ⟨(RX8, TX8, 6), rfl, rfl, rfl, by decide +kernel⟩
theorem ltX8_3 : zLt 8 3 true RX8 (.array .int) := ⟨(RX8, TX8, 6), rfl, rfl, rfl, by decide +kernel⟩
theorem ltX8_4 : zLt 8 4 true RX8 (.array .int) := ⟨(RX8, TX8, 6), rfl, rfl, rfl, by decide +kernel⟩
theorem ltX8_5 : zLt 8 5 false RX8 .int := ⟨(RX8, TX8, 6), rfl, rfl, rfl, by decide +kernel⟩
theorem ltX9_0 : zLt 9 0 true RX9 (.object "SandMarch$Tape") := ⟨(RX9, TX9, 16), rfl, rfl, rfl, by decide +kernel⟩
theorem ltX9_1 : zLt 9 1 true RX9 (.object "SandMarch$Reader") := ⟨(RX9, TX9, 16), rfl, rfl, rfl, by decide +kernel⟩
theorem ltX9_2 : zLt 9 2 true RX9 (.object "SandMarch$Land") := ⟨(RX9, TX9, 16), rfl, rfl, rfl, by decide +kernel⟩
theorem ltX9_3 : zLt 9 3 true RX9 (.object "SandMarch$Sand") := ⟨(RX9, TX9, 16), rfl, rfl, rfl, by decide +kernel⟩
theorem ltX9_4 : zLt 9 4 true RX9 (.object "SandMarch$Sand") := ⟨(RX9, TX9, 16), rfl, rfl, rfl, by decide +kernel⟩
theorem ltX9_5 : zLt 9 5 true RX9 (.object "SandMarch$Sand") := ⟨(RX9, TX9, 16), rfl, rfl, rfl, by decide +kernel⟩
theorem ltX9_6 : zLt 9 6 true RX9 (.object "SandMarch$Storm") := ⟨(RX9, TX9, 16), rfl, rfl, rfl, by decide +kernel⟩
theorem ltX9_7 : zLt 9 7 true RX9 (.object "SandMarch$Storm") := ⟨(RX9, TX9, 16), rfl, rfl, rfl, by decide +kernel⟩
theorem ltX9_8 : zLt 9 8 true RX9 (.object "SandMarch$History") := ⟨(RX9, TX9, 16), rfl, rfl, rfl, by decide +kernel⟩
theorem ltX9_9 : zLt 9 9 true RX9 (.object "SandMarch$Sightings") := ⟨(RX9, TX9, 16), rfl, rfl, rfl, by decide +kernel⟩
theorem ltX9_10 : zLt 9 10 true RX9 (.object "SandMarch$Lumps") := ⟨(RX9, TX9, 16), rfl, rfl, rfl, by decide +kernel⟩
theorem ltX9_11 : zLt 9 11 true RX9 (.object "SandMarch$Lumps") := ⟨(RX9, TX9, 16), rfl, rfl, rfl, by decide +kernel⟩
theorem ltX9_12 : zLt 9 12 true RX9 (.array (.object "SandMarch$Sand")) := ⟨(RX9, TX9, 16), rfl, rfl, rfl, by decide +kernel⟩
theorem ltX9_13 : zLt 9 13 true RX9 (.array .boolean) := ⟨(RX9, TX9, 16), rfl, rfl, rfl, by decide +kernel⟩
theorem ltX9_14 : zLt 9 14 true RX9 (.array .int) := ⟨(RX9, TX9, 16), rfl, rfl, rfl, by decide +kernel⟩
theorem ltX9_15 : zLt 9 15 false RX9 .int := ⟨(RX9, TX9, 16), rfl, rfl, rfl, by decide +kernel⟩
theorem ltX10_0 : zLt 10 0 true RX10 (.array .int) := ⟨(RX10, TX10, 46), rfl, rfl, rfl, by decide +kernel⟩
theorem ltX10_1 : zLt 10 1 false RX10 .int := ⟨(RX10, TX10, 46), rfl, rfl, rfl, by decide +kernel⟩
theorem ltX10_2 : zLt 10 2 false RX10 .int := ⟨(RX10, TX10, 46), rfl, rfl, rfl, by decide +kernel⟩
theorem ltX10_3 : zLt 10 3 false RX10 .int := ⟨(RX10, TX10, 46), rfl, rfl, rfl, by decide +kernel⟩
theorem ltX10_4 : zLt 10 4 false RX10 .int := ⟨(RX10, TX10, 46), rfl, rfl, rfl, by decide +kernel⟩
theorem ltX10_5 : zLt 10 5 false RX10 .int := ⟨(RX10, TX10, 46), rfl, rfl, rfl, by decide +kernel⟩
theorem ltX10_6 : zLt 10 6 false RX10 .int := ⟨(RX10, TX10, 46), rfl, rfl, rfl, by decide +kernel⟩
theorem ltX10_7 : zLt 10 7 false RX10 .int := ⟨(RX10, TX10, 46), rfl, rfl, rfl, by decide +kernel⟩
theorem ltX10_8 : zLt 10 8 false RX10 .int := ⟨(RX10, TX10, 46), rfl, rfl, rfl, by decide +kernel⟩
theorem ltX10_9 : zLt 10 9 false RX10 .int := ⟨(RX10, TX10, 46), rfl, rfl, rfl, by decide +kernel⟩
theorem ltX10_10 : zLt 10 10 false RX10 .int := ⟨(RX10, TX10, 46), rfl, rfl, rfl, by decide +kernel⟩
theorem ltX10_11 : zLt 10 11 false RX10 .long := ⟨(RX10, TX10, 46), rfl, rfl, rfl, by decide +kernel⟩
theorem ltX10_12 : zLt 10 12 true RX10 (.array .int) := ⟨(RX10, TX10, 46), rfl, rfl, rfl, by decide +kernel⟩
theorem ltX10_13 : zLt 10 13 true RX10 (.array .int) := ⟨(RX10, TX10, 46), rfl, rfl, rfl, by decide +kernel⟩
theorem ltX10_14 : zLt 10 14 true RX10 (.array .int) := ⟨(RX10, TX10, 46), rfl, rfl, rfl, by decide +kernel⟩
theorem ltX10_15 : zLt 10 15 true RX10 (.array .int) := ⟨(RX10, TX10, 46), rfl, rfl, rfl, by decide +kernel⟩
theorem ltX10_16 : zLt 10 16 true RX10 (.array .int) := ⟨(RX10, TX10, 46), rfl, rfl, rfl, by decide +kernel⟩
theorem ltX10_17 : zLt 10 17 true RX10 (.array .int) := ⟨(RX10, TX10, 46), rfl, rfl, rfl, by decide +kernel⟩
theorem ltX10_18 : zLt 10 18 true RX10 (.array .boolean) := ⟨(RX10, TX10, 46), rfl, rfl, rfl, by decide +kernel⟩
theorem ltX10_19 : zLt 10 19 false RX10 .boolean := ⟨(RX10, TX10, 46), rfl, rfl, rfl, by decide +kernel⟩
theorem ltX10_20 : zLt 10 20 false RX10 .int := ⟨(RX10, TX10, 46), rfl, rfl, rfl, by decide +kernel⟩
theorem ltX10_21 : zLt 10 21 true RX10 (.array .int) := ⟨(RX10, TX10, 46), rfl, rfl, rfl, by decide +kernel⟩
theorem ltX10_22 : zLt 10 22 true RX10 (.array .int) := ⟨(RX10, TX10, 46), rfl, rfl, rfl, by decide +kernel⟩
theorem ltX10_23 : zLt 10 23 false RX10 .int := ⟨(RX10, TX10, 46), rfl, rfl, rfl, by decide +kernel⟩
theorem ltX10_24 : zLt 10 24 false RX10 .int := ⟨(RX10, TX10, 46), rfl, rfl, rfl, by decide +kernel⟩
theorem ltX10_25 : zLt 10 25 false RX10 .int := ⟨(RX10, TX10, 46), rfl, rfl, rfl, by decide +kernel⟩
theorem ltX10_26 : zLt 10 26 false RX10 .int := ⟨(RX10, TX10, 46), rfl, rfl, rfl, by decide +kernel⟩
theorem ltX10_27 : zLt 10 27 true RX10 (.array .int) := ⟨(RX10, TX10, 46), rfl, rfl, rfl, by decide +kernel⟩
theorem ltX10_28 : zLt 10 28 false RX10 .int := ⟨(RX10, TX10, 46), rfl, rfl, rfl, by decide +kernel⟩
theorem ltX10_29 : zLt 10 29 false RX10 .int := ⟨(RX10, TX10, 46), rfl, rfl, rfl, by decide +kernel⟩
theorem ltX10_30 : zLt 10 30 true RX10 (.array .int) := ⟨(RX10, TX10, 46), rfl, rfl, rfl, by decide +kernel⟩
theorem ltX10_31 : zLt 10 31 true RX10 (.array .int) := ⟨(RX10, TX10, 46), rfl, rfl, rfl, by decide +kernel⟩
theorem ltX10_32 : zLt 10 32 true RX10 (.array .int) := ⟨(RX10, TX10, 46), rfl, rfl, rfl, by decide +kernel⟩
theorem ltX10_33 : zLt 10 33 false RX10 .int := ⟨(RX10, TX10, 46), rfl, rfl, rfl, by decide +kernel⟩
theorem ltX10_34 : zLt 10 34 true RX10 (.array .int) := ⟨(RX10, TX10, 46), rfl, rfl, rfl, by decide +kernel⟩
theorem ltX10_35 : zLt 10 35 true RX10 (.array .boolean) := ⟨(RX10, TX10, 46), rfl, rfl, rfl, by decide +kernel⟩
theorem ltX10_36 : zLt 10 36 true RX10 (.array .int) := ⟨(RX10, TX10, 46), rfl, rfl, rfl, by decide +kernel⟩
theorem ltX10_37 : zLt 10 37 true RX10 (.array .int) := ⟨(RX10, TX10, 46), rfl, rfl, rfl, by decide +kernel⟩
theorem ltX10_38 : zLt 10 38 true RX10 (.array .int) := ⟨(RX10, TX10, 46), rfl, rfl, rfl, by decide +kernel⟩
theorem ltX10_39 : zLt 10 39 true RX10 (.array .int) := ⟨(RX10, TX10, 46), rfl, rfl, rfl, by decide +kernel⟩
theorem ltX10_40 : zLt 10 40 true RX10 (.array .int) := ⟨(RX10, TX10, 46), rfl, rfl, rfl, by decide +kernel⟩
theorem ltX10_41 : zLt 10 41 true RX10 (.array .int) := ⟨(RX10, TX10, 46), rfl, rfl, rfl, by decide +kernel⟩
theorem ltX10_42 : zLt 10 42 false RX10 .int := ⟨(RX10, TX10, 46), rfl, rfl, rfl, by decide +kernel⟩
theorem ltX10_43 : zLt 10 43 false RX10 .int := ⟨(RX10, TX10, 46), rfl, rfl, rfl, by decide +kernel⟩
theorem ltX10_44 : zLt 10 44 true RX10 (.array .boolean) := ⟨(RX10, TX10, 46), rfl, rfl, rfl, by decide +kernel⟩
theorem ltX10_45 : zLt 10 45 true RX10 (.array .int) := ⟨(RX10, TX10, 46), rfl, rfl, rfl, by decide +kernel⟩
