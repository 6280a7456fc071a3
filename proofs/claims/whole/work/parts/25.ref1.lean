theorem dX10_isIn_0 : decode cX10_isIn 0 = .ok (.iload_n 0, 1) := by decide +kernel
theorem dX10_isIn_1 : decode cX10_isIn 1 = .ok (.iload_n 1, 1) := by decide +kernel
theorem dX10_isIn_2 : decode cX10_isIn 2 = .ok (.if_icmp .lt 12, 3) := by decide +kernel
theorem dX10_isIn_5 : decode cX10_isIn 5 = .ok (.iload_n 0, 1) := by decide +kernel
theorem dX10_isIn_6 : decode cX10_isIn 6 = .ok (.iload_n 2, 1) := by decide +kernel
theorem dX10_isIn_7 : decode cX10_isIn 7 = .ok (.if_icmp .gt 7, 3) := by decide +kernel
theorem dX10_isIn_10 : decode cX10_isIn 10 = .ok (.iconst 1, 1) := by decide +kernel
theorem dX10_isIn_11 : decode cX10_isIn 11 = .ok (.goto 4, 3) := by decide +kernel
theorem dX10_isIn_14 : decode cX10_isIn 14 = .ok (.iconst 0, 1) := by decide +kernel
theorem dX10_isIn_15 : decode cX10_isIn 15 = .ok (.ireturn, 1) := by decide +kernel
set_option maxRecDepth 100000 in
theorem SX10_isIn_0 {g : zG} {o : Bool} {M : zM} {q : Int → zM → Prop} {x0 x1 x2 : Int} (W : (-2147483648 ≤ x0 ∧ x0 ≤ 2147483647) ∧ (-2147483648 ≤ x1 ∧ x1 ≤ 2147483647) ∧ ((x0 < x1) → q 0 M) ∧ ((¬ (x0 < x1)) → (-2147483648 ≤ x2 ∧ x2 ≤ 2147483647) ∧ ((x2 < x0) → q 0 M) ∧ ((¬ (x2 < x0)) → q 1 M))) : zT g (z2 o) mX10_isIn (zQi (z2 o) q) 0 [(0, zI x0), (1, zI x1), (2, zI x2)] [] M := by
  refine zr_iload_n 0 dX10_isIn_0 rfl ?_
  refine zr_iload_n 1 dX10_isIn_1 rfl ?_
  obtain ⟨c1, W⟩ := W
  obtain ⟨c2, W⟩ := W
  refine zr_icmp_lt (tgt := 14) dX10_isIn_2 (by decide) c1 c2 (fun h => ?_) (fun h => ?_)
  · have W := W.1 h
    refine zr_iconst dX10_isIn_14 ?_
    exact zt_zret dX10_isIn_15 rfl (by decide) W
  · have W := W.2 h
    refine zr_iload_n 0 dX10_isIn_5 rfl ?_
    refine zr_iload_n 2 dX10_isIn_6 rfl ?_
    obtain ⟨c3, W⟩ := W
    refine zr_icmp_gt (tgt := 14) dX10_isIn_7 (by decide) c1 c3 (fun h => ?_) (fun h => ?_)
    · have W := W.1 h
      refine zr_iconst dX10_isIn_14 ?_
      exact zt_zret dX10_isIn_15 rfl (by decide) W
    · have W := W.2 h
      refine zr_iconst dX10_isIn_10 ?_
      refine zr_goto (tgt := 15) dX10_isIn_11 (by decide) ?_
      exact zt_zret dX10_isIn_15 rfl (by decide) W
theorem dX10_greater_0 : decode cX10_greater 0 = .ok (.iload_n 0, 1) := by decide +kernel
theorem dX10_greater_1 : decode cX10_greater 1 = .ok (.iload_n 1, 1) := by decide +kernel
theorem dX10_greater_2 : decode cX10_greater 2 = .ok (.if_icmp .le 7, 3) := by decide +kernel
theorem dX10_greater_5 : decode cX10_greater 5 = .ok (.iload_n 0, 1) := by decide +kernel
theorem dX10_greater_6 : decode cX10_greater 6 = .ok (.goto 4, 3) := by decide +kernel
theorem dX10_greater_9 : decode cX10_greater 9 = .ok (.iload_n 1, 1) := by decide +kernel
theorem dX10_greater_10 : decode cX10_greater 10 = .ok (.ireturn, 1) := by decide +kernel
set_option maxRecDepth 100000 in
theorem SX10_greater_0 {g : zG} {o : Bool} {M : zM} {q : Int → zM → Prop} {x0 x1 : Int} (W : (-2147483648 ≤ x0 ∧ x0 ≤ 2147483647) ∧ (-2147483648 ≤ x1 ∧ x1 ≤ 2147483647) ∧ ((x0 ≤ x1) → q x1 M) ∧ ((¬ (x0 ≤ x1)) → q x0 M)) : zT g (z2 o) mX10_greater (zQi (z2 o) q) 0 [(0, zI x0), (1, zI x1)] [] M := by
  refine zr_iload_n 0 dX10_greater_0 rfl ?_
  refine zr_iload_n 1 dX10_greater_1 rfl ?_
  obtain ⟨c1, W⟩ := W
  obtain ⟨c2, W⟩ := W
  refine zr_icmp_le (tgt := 9) dX10_greater_2 (by decide) c1 c2 (fun h => ?_) (fun h => ?_)
  · have W := W.1 h
    refine zr_iload_n 1 dX10_greater_9 rfl ?_
    exact zt_iret dX10_greater_10 rfl W
  · have W := W.2 h
    refine zr_iload_n 0 dX10_greater_5 rfl ?_
    refine zr_goto (tgt := 10) dX10_greater_6 (by decide) ?_
    exact zt_iret dX10_greater_10 rfl W
theorem dX10_lesser_0 : decode cX10_lesser 0 = .ok (.iload_n 0, 1) := by decide +kernel
theorem dX10_lesser_1 : decode cX10_lesser 1 = .ok (.iload_n 1, 1) := by decide +kernel
theorem dX10_lesser_2 : decode cX10_lesser 2 = .ok (.if_icmp .ge 7, 3) := by decide +kernel
theorem dX10_lesser_5 : decode cX10_lesser 5 = .ok (.iload_n 0, 1) := by decide +kernel
theorem dX10_lesser_6 : decode cX10_lesser 6 = .ok (.goto 4, 3) := by decide +kernel
theorem dX10_lesser_9 : decode cX10_lesser 9 = .ok (.iload_n 1, 1) := by decide +kernel
theorem dX10_lesser_10 : decode cX10_lesser 10 = .ok (.ireturn, 1) := by decide +kernel
set_option maxRecDepth 100000 in
theorem SX10_lesser_0 {g : zG} {o : Bool} {M : zM} {q : Int → zM → Prop} {x0 x1 : Int} (W : (-2147483648 ≤ x0 ∧ x0 ≤ 2147483647) ∧ (-2147483648 ≤ x1 ∧ x1 ≤ 2147483647) ∧ ((x1 ≤ x0) → q x1 M) ∧ ((¬ (x1 ≤ x0)) → q x0 M)) : zT g (z2 o) mX10_lesser (zQi (z2 o) q) 0 [(0, zI x0), (1, zI x1)] [] M := by
  refine zr_iload_n 0 dX10_lesser_0 rfl ?_
  refine zr_iload_n 1 dX10_lesser_1 rfl ?_
  obtain ⟨c1, W⟩ := W
  obtain ⟨c2, W⟩ := W
  refine zr_icmp_ge (tgt := 9) dX10_lesser_2 (by decide) c1 c2 (fun h => ?_) (fun h => ?_)
  · have W := W.1 h
    refine zr_iload_n 1 dX10_lesser_9 rfl ?_
    exact zt_iret dX10_lesser_10 rfl W
  · have W := W.2 h
    refine zr_iload_n 0 dX10_lesser_5 rfl ?_
    refine zr_goto (tgt := 10) dX10_lesser_6 (by decide) ?_
    exact zt_iret dX10_lesser_10 rfl W
theorem dX10_truth_0 : decode cX10_truth 0 = .ok (.iload_n 0, 1) := by decide +kernel
theorem dX10_truth_1 : decode cX10_truth 1 = .ok (.ifCond .eq 7, 3) := by decide +kernel
theorem dX10_truth_4 : decode cX10_truth 4 = .ok (.iconst 1, 1) := by decide +kernel
theorem dX10_truth_5 : decode cX10_truth 5 = .ok (.goto 4, 3) := by decide +kernel
theorem dX10_truth_8 : decode cX10_truth 8 = .ok (.iconst 0, 1) := by decide +kernel
theorem dX10_truth_9 : decode cX10_truth 9 = .ok (.ireturn, 1) := by decide +kernel
set_option maxRecDepth 100000 in
theorem SX10_truth_0 {g : zG} {o : Bool} {M : zM} {q : Int → zM → Prop} {x0 : Int} (W : (-2147483648 ≤ x0 ∧ x0 ≤ 2147483647) ∧ ((x0 = 0) → q 0 M) ∧ ((¬ (x0 = 0)) → q 1 M)) : zT g (z2 o) mX10_truth (zQi (z2 o) q) 0 [(0, zI x0)] [] M := by
  refine zr_iload_n 0 dX10_truth_0 rfl ?_
  obtain ⟨c1, W⟩ := W
  refine zr_if_eq (tgt := 8) dX10_truth_1 (by decide) c1 (fun h => ?_) (fun h => ?_)
  · have W := W.1 h
    refine zr_iconst dX10_truth_8 ?_
    exact zt_iret dX10_truth_9 rfl W
  · have W := W.2 h
    refine zr_iconst dX10_truth_4 ?_
    refine zr_goto (tgt := 9) dX10_truth_5 (by decide) ?_
    exact zt_iret dX10_truth_9 rfl W
theorem dX10_off_0 : decode cX10_off 0 = .ok (.iload_n 0, 1) := by decide +kernel
theorem dX10_off_1 : decode cX10_off 1 = .ok (.iload_n 1, 1) := by decide +kernel
theorem dX10_off_2 : decode cX10_off 2 = .ok (.if_icmp .ge 9, 3) := by decide +kernel
theorem dX10_off_5 : decode cX10_off 5 = .ok (.iload_n 1, 1) := by decide +kernel
theorem dX10_off_6 : decode cX10_off 6 = .ok (.iload_n 0, 1) := by decide +kernel
theorem dX10_off_7 : decode cX10_off 7 = .ok (.isub, 1) := by decide +kernel
theorem dX10_off_8 : decode cX10_off 8 = .ok (.goto 6, 3) := by decide +kernel
theorem dX10_off_11 : decode cX10_off 11 = .ok (.iload_n 0, 1) := by decide +kernel
theorem dX10_off_12 : decode cX10_off 12 = .ok (.iload_n 1, 1) := by decide +kernel
theorem dX10_off_13 : decode cX10_off 13 = .ok (.isub, 1) := by decide +kernel
theorem dX10_off_14 : decode cX10_off 14 = .ok (.ireturn, 1) := by decide +kernel
set_option maxRecDepth 100000 in
theorem SX10_off_0 {g : zG} {o : Bool} {M : zM} {q : Int → zM → Prop} {x0 x1 : Int} (W : (-2147483648 ≤ x0 ∧ x0 ≤ 2147483647) ∧ (-2147483648 ≤ x1 ∧ x1 ≤ 2147483647) ∧ ((x1 ≤ x0) → q (x0 - x1) M) ∧ ((¬ (x1 ≤ x0)) → q (x1 - x0) M)) : zT g (z2 o) mX10_off (zQi (z2 o) q) 0 [(0, zI x0), (1, zI x1)] [] M := by
  refine zr_iload_n 0 dX10_off_0 rfl ?_
  refine zr_iload_n 1 dX10_off_1 rfl ?_
  obtain ⟨c1, W⟩ := W
  obtain ⟨c2, W⟩ := W
  refine zr_icmp_ge (tgt := 11) dX10_off_2 (by decide) c1 c2 (fun h => ?_) (fun h => ?_)
  · have W := W.1 h
    refine zr_iload_n 0 dX10_off_11 rfl ?_
    refine zr_iload_n 1 dX10_off_12 rfl ?_
    refine zr_isub dX10_off_13 ?_
    exact zt_iret dX10_off_14 rfl W
  · have W := W.2 h
    refine zr_iload_n 1 dX10_off_5 rfl ?_
    refine zr_iload_n 0 dX10_off_6 rfl ?_
    refine zr_isub dX10_off_7 ?_
    refine zr_goto (tgt := 14) dX10_off_8 (by decide) ?_
    exact zt_iret dX10_off_14 rfl W
theorem dX10_columns_0 : decode cX10_columns 0 = .ok (.aload_n 0, 1) := by decide +kernel
theorem dX10_columns_1 : decode cX10_columns 1 = .ok (.getfield 20, 3) := by decide +kernel
theorem dX10_columns_4 : decode cX10_columns 4 = .ok (.iconst 0, 1) := by decide +kernel
theorem dX10_columns_5 : decode cX10_columns 5 = .ok (.iaload, 1) := by decide +kernel
theorem dX10_columns_6 : decode cX10_columns 6 = .ok (.ireturn, 1) := by decide +kernel
set_option maxRecDepth 100000 in
theorem SX10_columns_0 {g : zG} {o : Bool} {M : zM} {q : Int → zM → Prop} (W : q (M 3 0) M) : zT g (z2 o) mX10_columns (zQi (z2 o) q) 0 [(0, zA g 1)] [] M := by
  refine zr_aload_n 0 dX10_columns_0 rfl ?_
  refine zr_getr (b := 3) dX10_columns_1 fX10_20 rfl rfl rfl (by decide) ?_
  refine zr_iconst dX10_columns_4 ?_
  refine zr_iald dX10_columns_5 rfl (by decide) ⟨by decide, by decide⟩ ?_
  exact zt_iret dX10_columns_6 rfl W
theorem dX10_rows_0 : decode cX10_rows 0 = .ok (.aload_n 0, 1) := by decide +kernel
theorem dX10_rows_1 : decode cX10_rows 1 = .ok (.getfield 20, 3) := by decide +kernel
theorem dX10_rows_4 : decode cX10_rows 4 = .ok (.iconst 1, 1) := by decide +kernel
theorem dX10_rows_5 : decode cX10_rows 5 = .ok (.iaload, 1) := by decide +kernel
theorem dX10_rows_6 : decode cX10_rows 6 = .ok (.ireturn, 1) := by decide +kernel
set_option maxRecDepth 100000 in
theorem SX10_rows_0 {g : zG} {o : Bool} {M : zM} {q : Int → zM → Prop} (W : q (M 3 1) M) : zT g (z2 o) mX10_rows (zQi (z2 o) q) 0 [(0, zA g 1)] [] M := by
  refine zr_aload_n 0 dX10_rows_0 rfl ?_
  refine zr_getr (b := 3) dX10_rows_1 fX10_20 rfl rfl rfl (by decide) ?_
  refine zr_iconst dX10_rows_4 ?_
  refine zr_iald dX10_rows_5 rfl (by decide) ⟨by decide, by decide⟩ ?_
  exact zt_iret dX10_rows_6 rfl W
theorem dX10_against_0 : decode cX10_against 0 = .ok (.iload_n 0, 1) := by decide +kernel
theorem dX10_against_1 : decode cX10_against 1 = .ok (.iconst 2, 1) := by decide +kernel
theorem dX10_against_2 : decode cX10_against 2 = .ok (.iadd, 1) := by decide +kernel
theorem dX10_against_3 : decode cX10_against 3 = .ok (.iconst 4, 1) := by decide +kernel
theorem dX10_against_4 : decode cX10_against 4 = .ok (.irem, 1) := by decide +kernel
theorem dX10_against_5 : decode cX10_against 5 = .ok (.ireturn, 1) := by decide +kernel
set_option maxRecDepth 100000 in
theorem SX10_against_0 {g : zG} {o : Bool} {M : zM} {q : Int → zM → Prop} {x0 : Int} (W : (0 ≤ (x0 + 2) ∧ (x0 + 2) ≤ 2147483647) ∧ q ((x0 + 2) % 4) M) : zT g (z2 o) mX10_against (zQi (z2 o) q) 0 [(0, zI x0)] [] M := by
  refine zr_iload_n 0 dX10_against_0 rfl ?_
  refine zr_iconst dX10_against_1 ?_
  refine zr_iadd dX10_against_2 ?_
  refine zr_iconst dX10_against_3 ?_
  obtain ⟨c1, W⟩ := W
  refine zr_irem dX10_against_4 c1 ⟨by decide, by decide⟩ ?_
  exact zt_iret dX10_against_5 rfl W
section RL
variable {g : zG} {o : Bool} {M : zM} {x y z w : Int}
theorem c_isIn (hx : -2147483648 ≤ x ∧ x ≤ 2147483647) (hy : -2147483648 ≤ y ∧ y ≤ 2147483647) (hz : -2147483648 ≤ z ∧ z ≤ 2147483647) : zKi g (z2 o) mX10_isIn [zI x, zI y, zI z] M (fun r M' => r = zb (y ≤ x ∧ x ≤ z) ∧ M' = M) :=
  zki_of rfl (Nat.le_of_ble_eq_true rfl) (SX10_isIn_0 ⟨hx, hy, fun h => ⟨(zb_f (by omega)).symm, rfl⟩, fun h => ⟨hz, fun h2 => ⟨(zb_f (by omega)).symm, rfl⟩, fun h2 => ⟨(zb_t (by omega)).symm, rfl⟩⟩⟩)
theorem c_greater (hx : -2147483648 ≤ x ∧ x ≤ 2147483647) (hy : -2147483648 ≤ y ∧ y ≤ 2147483647) : zKi g (z2 o) mX10_greater [zI x, zI y] M (fun r M' => r = max x y ∧ M' = M) :=
  zki_of rfl (Nat.le_of_ble_eq_true rfl) (SX10_greater_0 ⟨hx, hy, fun h => ⟨by omega, rfl⟩, fun h => ⟨by omega, rfl⟩⟩)
theorem c_lesser (hx : -2147483648 ≤ x ∧ x ≤ 2147483647) (hy : -2147483648 ≤ y ∧ y ≤ 2147483647) : zKi g (z2 o) mX10_lesser [zI x, zI y] M (fun r M' => r = min x y ∧ M' = M) :=
  zki_of rfl (Nat.le_of_ble_eq_true rfl) (SX10_lesser_0 ⟨hx, hy, fun h => ⟨by omega, rfl⟩, fun h => ⟨by omega, rfl⟩⟩)
theorem c_truth (P : Prop) : zKi g (z2 o) mX10_truth [zI (zb P)] M (fun r M' => r = zb P ∧ M' = M) := by
  have h := zb01 P
  exact zki_of rfl (Nat.le_of_ble_eq_true rfl) (SX10_truth_0 ⟨zb_in P, fun h2 => ⟨by omega, rfl⟩, fun h2 => ⟨by omega, rfl⟩⟩)
theorem c_truthi (hx : x = 0 ∨ x = 1) : zKi g (z2 o) mX10_truth [zI x] M (fun r M' => r = x ∧ M' = M) :=
  zki_of rfl (Nat.le_of_ble_eq_true rfl) (SX10_truth_0 ⟨by omega, fun h2 => ⟨by omega, rfl⟩, fun h2 => ⟨by omega, rfl⟩⟩)
theorem c_off (hx : -2147483648 ≤ x ∧ x ≤ 2147483647) (hy : -2147483648 ≤ y ∧ y ≤ 2147483647) : zKi g (z2 o) mX10_off [zI x, zI y] M (fun r M' => r = (if 0 ≤ x - y then x - y else 0 - (x - y)) ∧ M' = M) :=
  zki_of rfl (Nat.le_of_ble_eq_true rfl) (SX10_off_0 ⟨hx, hy, fun h => ⟨by rw [if_pos (by omega)], rfl⟩, fun h => ⟨by rw [if_neg (by omega)]; omega, rfl⟩⟩)
theorem c_columns : zKi g (z2 o) mX10_columns [zA g 1] M (fun r M' => r = M 3 0 ∧ M' = M) := zki_of rfl (Nat.le_of_ble_eq_true rfl) (SX10_columns_0 ⟨rfl, rfl⟩)
theorem c_rows : zKi g (z2 o) mX10_rows [zA g 1] M (fun r M' => r = M 3 1 ∧ M' = M) := zki_of rfl (Nat.le_of_ble_eq_true rfl) (SX10_rows_0 ⟨rfl, rfl⟩)
theorem c_against (hw : 0 ≤ w ∧ w ≤ 3) : zKi g (z2 o) mX10_against [zI w] M (fun r M' => r = opp w ∧ M' = M) :=
  zki_of rfl (Nat.le_of_ble_eq_true rfl) (SX10_against_0 ⟨by omega, by unfold opp; split <;> omega, rfl⟩)
/-- the reference's land -/
def zRf (M : zM) (C R : Int) : Prop := Geo C R ∧ M 3 0 = C ∧ M 3 1 = R ∧ (1 ≤ M 3 5 ∧ M 3 5 ≤ 9) ∧ (1 ≤ M 3 9 ∧ M 3 9 ≤ 8) ∧ ∀ i, 0 ≤ i → i < M 3 9 → (0 ≤ M 4 i ∧ M 4 i ≤ 3) ∧ 1 ≤ M 5 i ∧ M 5 i ≤ 99
theorem zRf.of {M' : zM} {C R : Int} (h : zRf M C R) (e3 : M' 3 = M 3) (e4 : M' 4 = M 4) (e5 : M' 5 = M 5) : zRf M' C R := by
  unfold zRf at h ⊢; rw [e3, e4, e5]; exact h
theorem c_columnsC {C R : Int} (h : zRf M C R) : zKi g (z2 o) mX10_columns [zA g 1] M (fun r M' => r = C ∧ M' = M) := by rw [← h.2.1]; exact c_columns
theorem c_rowsR {C R : Int} (h : zRf M C R) : zKi g (z2 o) mX10_rows [zA g 1] M (fun r M' => r = R ∧ M' = M) := by rw [← h.2.2.1]; exact c_rows
/-- the wind of the reference -/
def wnr (M : zM) (t : Int) : Int := M 4 (wix (M 5) (M 3 9).toNat 0 (t % smt (M 5) (M 3 9).toNat))
end RL
