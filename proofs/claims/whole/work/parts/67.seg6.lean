theorem dX8_isBlank_0 : decode cX8_isBlank 0 = .ok (.iload_n 0, 1) := by decide +kernel
theorem dX8_isBlank_1 : decode cX8_isBlank 1 = .ok (.bipush 32, 2) := by decide +kernel
theorem dX8_isBlank_3 : decode cX8_isBlank 3 = .ok (.if_icmp .eq 9, 3) := by decide +kernel
theorem dX8_isBlank_6 : decode cX8_isBlank 6 = .ok (.iload_n 0, 1) := by decide +kernel
theorem dX8_isBlank_7 : decode cX8_isBlank 7 = .ok (.bipush 10, 2) := by decide +kernel
theorem dX8_isBlank_9 : decode cX8_isBlank 9 = .ok (.if_icmp .ne 7, 3) := by decide +kernel
theorem dX8_isBlank_12 : decode cX8_isBlank 12 = .ok (.iconst 1, 1) := by decide +kernel
theorem dX8_isBlank_13 : decode cX8_isBlank 13 = .ok (.goto 4, 3) := by decide +kernel
theorem dX8_isBlank_16 : decode cX8_isBlank 16 = .ok (.iconst 0, 1) := by decide +kernel
theorem dX8_isBlank_17 : decode cX8_isBlank 17 = .ok (.ireturn, 1) := by decide +kernel
set_option maxRecDepth 100000 in
theorem SX8_isBlank_0 {g : zG} {o : Bool} {M : zM} {q : Int → zM → Prop} {x0 : Int} (W : (-2147483648 ≤ x0 ∧ x0 ≤ 2147483647) ∧ ((x0 = 32) → q 1 M) ∧ ((¬ (x0 = 32)) → ((x0 ≠ 10) → q 0 M) ∧ ((x0 = 10) → q 1 M))) : zT g (z1 o) mX8_isBlank (zQi (z1 o) q) 0 [(0, zI x0)] [] M := by
  refine zr_iload_n 0 dX8_isBlank_0 rfl ?_
  refine zr_bipush dX8_isBlank_1 (by decide) ?_
  obtain ⟨c1, W⟩ := W
  refine zr_icmp_eq (tgt := 12) dX8_isBlank_3 (by decide) c1 ⟨by decide, by decide⟩ (fun h => ?_) (fun h => ?_)
  · have W := W.1 h
    refine zr_iconst dX8_isBlank_12 ?_
    refine zr_goto (tgt := 17) dX8_isBlank_13 (by decide) ?_
    exact zt_zret dX8_isBlank_17 rfl (by decide) W
  · have W := W.2 h
    refine zr_iload_n 0 dX8_isBlank_6 rfl ?_
    refine zr_bipush dX8_isBlank_7 (by decide) ?_
    refine zr_icmp_ne (tgt := 16) dX8_isBlank_9 (by decide) c1 ⟨by decide, by decide⟩ (fun h => ?_) (fun h => ?_)
    · have W := W.1 h
      refine zr_iconst dX8_isBlank_16 ?_
      exact zt_zret dX8_isBlank_17 rfl (by decide) W
    · have W := W.2 h
      refine zr_iconst dX8_isBlank_12 ?_
      refine zr_goto (tgt := 17) dX8_isBlank_13 (by decide) ?_
      exact zt_zret dX8_isBlank_17 rfl (by decide) W
theorem dX8_isLetter_0 : decode cX8_isLetter 0 = .ok (.iload_n 0, 1) := by decide +kernel
theorem dX8_isLetter_1 : decode cX8_isLetter 1 = .ok (.bipush 97, 2) := by decide +kernel
theorem dX8_isLetter_3 : decode cX8_isLetter 3 = .ok (.if_icmp .lt 13, 3) := by decide +kernel
theorem dX8_isLetter_6 : decode cX8_isLetter 6 = .ok (.iload_n 0, 1) := by decide +kernel
theorem dX8_isLetter_7 : decode cX8_isLetter 7 = .ok (.bipush 122, 2) := by decide +kernel
theorem dX8_isLetter_9 : decode cX8_isLetter 9 = .ok (.if_icmp .gt 7, 3) := by decide +kernel
theorem dX8_isLetter_12 : decode cX8_isLetter 12 = .ok (.iconst 1, 1) := by decide +kernel
theorem dX8_isLetter_13 : decode cX8_isLetter 13 = .ok (.goto 4, 3) := by decide +kernel
theorem dX8_isLetter_16 : decode cX8_isLetter 16 = .ok (.iconst 0, 1) := by decide +kernel
theorem dX8_isLetter_17 : decode cX8_isLetter 17 = .ok (.ireturn, 1) := by decide +kernel
set_option maxRecDepth 100000 in
theorem SX8_isLetter_0 {g : zG} {o : Bool} {M : zM} {q : Int → zM → Prop} {x0 : Int} (W : (-2147483648 ≤ x0 ∧ x0 ≤ 2147483647) ∧ ((x0 < 97) → q 0 M) ∧ ((¬ (x0 < 97)) → ((122 < x0) → q 0 M) ∧ ((¬ (122 < x0)) → q 1 M))) : zT g (z1 o) mX8_isLetter (zQi (z1 o) q) 0 [(0, zI x0)] [] M := by
  refine zr_iload_n 0 dX8_isLetter_0 rfl ?_
  refine zr_bipush dX8_isLetter_1 (by decide) ?_
  obtain ⟨c1, W⟩ := W
  refine zr_icmp_lt (tgt := 16) dX8_isLetter_3 (by decide) c1 ⟨by decide, by decide⟩ (fun h => ?_) (fun h => ?_)
  · have W := W.1 h
    refine zr_iconst dX8_isLetter_16 ?_
    exact zt_zret dX8_isLetter_17 rfl (by decide) W
  · have W := W.2 h
    refine zr_iload_n 0 dX8_isLetter_6 rfl ?_
    refine zr_bipush dX8_isLetter_7 (by decide) ?_
    refine zr_icmp_gt (tgt := 16) dX8_isLetter_9 (by decide) c1 ⟨by decide, by decide⟩ (fun h => ?_) (fun h => ?_)
    · have W := W.1 h
      refine zr_iconst dX8_isLetter_16 ?_
      exact zt_zret dX8_isLetter_17 rfl (by decide) W
    · have W := W.2 h
      refine zr_iconst dX8_isLetter_12 ?_
      refine zr_goto (tgt := 17) dX8_isLetter_13 (by decide) ?_
      exact zt_zret dX8_isLetter_17 rfl (by decide) W
theorem dX8_isDigit_0 : decode cX8_isDigit 0 = .ok (.iload_n 0, 1) := by decide +kernel
theorem dX8_isDigit_1 : decode cX8_isDigit 1 = .ok (.bipush 48, 2) := by decide +kernel
theorem dX8_isDigit_3 : decode cX8_isDigit 3 = .ok (.if_icmp .lt 13, 3) := by decide +kernel
theorem dX8_isDigit_6 : decode cX8_isDigit 6 = .ok (.iload_n 0, 1) := by decide +kernel
theorem dX8_isDigit_7 : decode cX8_isDigit 7 = .ok (.bipush 57, 2) := by decide +kernel
theorem dX8_isDigit_9 : decode cX8_isDigit 9 = .ok (.if_icmp .gt 7, 3) := by decide +kernel
theorem dX8_isDigit_12 : decode cX8_isDigit 12 = .ok (.iconst 1, 1) := by decide +kernel
theorem dX8_isDigit_13 : decode cX8_isDigit 13 = .ok (.goto 4, 3) := by decide +kernel
theorem dX8_isDigit_16 : decode cX8_isDigit 16 = .ok (.iconst 0, 1) := by decide +kernel
theorem dX8_isDigit_17 : decode cX8_isDigit 17 = .ok (.ireturn, 1) := by decide +kernel
set_option maxRecDepth 100000 in
theorem SX8_isDigit_0 {g : zG} {o : Bool} {M : zM} {q : Int → zM → Prop} {x0 : Int} (W : (-2147483648 ≤ x0 ∧ x0 ≤ 2147483647) ∧ ((x0 < 48) → q 0 M) ∧ ((¬ (x0 < 48)) → ((57 < x0) → q 0 M) ∧ ((¬ (57 < x0)) → q 1 M))) : zT g (z1 o) mX8_isDigit (zQi (z1 o) q) 0 [(0, zI x0)] [] M := by
  refine zr_iload_n 0 dX8_isDigit_0 rfl ?_
  refine zr_bipush dX8_isDigit_1 (by decide) ?_
  obtain ⟨c1, W⟩ := W
  refine zr_icmp_lt (tgt := 16) dX8_isDigit_3 (by decide) c1 ⟨by decide, by decide⟩ (fun h => ?_) (fun h => ?_)
  · have W := W.1 h
    refine zr_iconst dX8_isDigit_16 ?_
    exact zt_zret dX8_isDigit_17 rfl (by decide) W
  · have W := W.2 h
    refine zr_iload_n 0 dX8_isDigit_6 rfl ?_
    refine zr_bipush dX8_isDigit_7 (by decide) ?_
    refine zr_icmp_gt (tgt := 16) dX8_isDigit_9 (by decide) c1 ⟨by decide, by decide⟩ (fun h => ?_) (fun h => ?_)
    · have W := W.1 h
      refine zr_iconst dX8_isDigit_16 ?_
      exact zt_zret dX8_isDigit_17 rfl (by decide) W
    · have W := W.2 h
      refine zr_iconst dX8_isDigit_12 ?_
      refine zr_goto (tgt := 17) dX8_isDigit_13 (by decide) ?_
      exact zt_zret dX8_isDigit_17 rfl (by decide) W
theorem dX10_isLetter_0 : decode cX10_isLetter 0 = .ok (.iload_n 0, 1) := by decide +kernel
theorem dX10_isLetter_1 : decode cX10_isLetter 1 = .ok (.bipush 97, 2) := by decide +kernel
theorem dX10_isLetter_3 : decode cX10_isLetter 3 = .ok (.if_icmp .lt 13, 3) := by decide +kernel
theorem dX10_isLetter_6 : decode cX10_isLetter 6 = .ok (.iload_n 0, 1) := by decide +kernel
theorem dX10_isLetter_7 : decode cX10_isLetter 7 = .ok (.bipush 122, 2) := by decide +kernel
theorem dX10_isLetter_9 : decode cX10_isLetter 9 = .ok (.if_icmp .gt 7, 3) := by decide +kernel
theorem dX10_isLetter_12 : decode cX10_isLetter 12 = .ok (.iconst 1, 1) := by decide +kernel
theorem dX10_isLetter_13 : decode cX10_isLetter 13 = .ok (.goto 4, 3) := by decide +kernel
theorem dX10_isLetter_16 : decode cX10_isLetter 16 = .ok (.iconst 0, 1) := by decide +kernel
theorem dX10_isLetter_17 : decode cX10_isLetter 17 = .ok (.ireturn, 1) := by decide +kernel
set_option maxRecDepth 100000 in
theorem SX10_isLetter_0 {g : zG} {o : Bool} {M : zM} {q : Int → zM → Prop} {x0 : Int} (W : (-2147483648 ≤ x0 ∧ x0 ≤ 2147483647) ∧ ((x0 < 97) → q 0 M) ∧ ((¬ (x0 < 97)) → ((122 < x0) → q 0 M) ∧ ((¬ (122 < x0)) → q 1 M))) : zT g (z2 o) mX10_isLetter (zQi (z2 o) q) 0 [(0, zI x0)] [] M := by
  refine zr_iload_n 0 dX10_isLetter_0 rfl ?_
  refine zr_bipush dX10_isLetter_1 (by decide) ?_
  obtain ⟨c1, W⟩ := W
  refine zr_icmp_lt (tgt := 16) dX10_isLetter_3 (by decide) c1 ⟨by decide, by decide⟩ (fun h => ?_) (fun h => ?_)
  · have W := W.1 h
    refine zr_iconst dX10_isLetter_16 ?_
    exact zt_zret dX10_isLetter_17 rfl (by decide) W
  · have W := W.2 h
    refine zr_iload_n 0 dX10_isLetter_6 rfl ?_
    refine zr_bipush dX10_isLetter_7 (by decide) ?_
    refine zr_icmp_gt (tgt := 16) dX10_isLetter_9 (by decide) c1 ⟨by decide, by decide⟩ (fun h => ?_) (fun h => ?_)
    · have W := W.1 h
      refine zr_iconst dX10_isLetter_16 ?_
      exact zt_zret dX10_isLetter_17 rfl (by decide) W
    · have W := W.2 h
      refine zr_iconst dX10_isLetter_12 ?_
      refine zr_goto (tgt := 17) dX10_isLetter_13 (by decide) ?_
      exact zt_zret dX10_isLetter_17 rfl (by decide) W
theorem dX10_isDigit_0 : decode cX10_isDigit 0 = .ok (.iload_n 0, 1) := by decide +kernel
theorem dX10_isDigit_1 : decode cX10_isDigit 1 = .ok (.bipush 48, 2) := by decide +kernel
theorem dX10_isDigit_3 : decode cX10_isDigit 3 = .ok (.if_icmp .lt 13, 3) := by decide +kernel
theorem dX10_isDigit_6 : decode cX10_isDigit 6 = .ok (.iload_n 0, 1) := by decide +kernel
theorem dX10_isDigit_7 : decode cX10_isDigit 7 = .ok (.bipush 57, 2) := by decide +kernel
theorem dX10_isDigit_9 : decode cX10_isDigit 9 = .ok (.if_icmp .gt 7, 3) := by decide +kernel
theorem dX10_isDigit_12 : decode cX10_isDigit 12 = .ok (.iconst 1, 1) := by decide +kernel
theorem dX10_isDigit_13 : decode cX10_isDigit 13 = .ok (.goto 4, 3) := by decide +kernel
theorem dX10_isDigit_16 : decode cX10_isDigit 16 = .ok (.iconst 0, 1) := by decide +kernel
theorem dX10_isDigit_17 : decode cX10_isDigit 17 = .ok (.ireturn, 1) := by decide +kernel
set_option maxRecDepth 100000 in
theorem SX10_isDigit_0 {g : zG} {o : Bool} {M : zM} {q : Int → zM → Prop} {x0 : Int} (W : (-2147483648 ≤ x0 ∧ x0 ≤ 2147483647) ∧ ((x0 < 48) → q 0 M) ∧ ((¬ (x0 < 48)) → ((57 < x0) → q 0 M) ∧ ((¬ (57 < x0)) → q 1 M))) : zT g (z2 o) mX10_isDigit (zQi (z2 o) q) 0 [(0, zI x0)] [] M := by
  refine zr_iload_n 0 dX10_isDigit_0 rfl ?_
  refine zr_bipush dX10_isDigit_1 (by decide) ?_
  obtain ⟨c1, W⟩ := W
  refine zr_icmp_lt (tgt := 16) dX10_isDigit_3 (by decide) c1 ⟨by decide, by decide⟩ (fun h => ?_) (fun h => ?_)
  · have W := W.1 h
    refine zr_iconst dX10_isDigit_16 ?_
    exact zt_zret dX10_isDigit_17 rfl (by decide) W
  · have W := W.2 h
    refine zr_iload_n 0 dX10_isDigit_6 rfl ?_
    refine zr_bipush dX10_isDigit_7 (by decide) ?_
    refine zr_icmp_gt (tgt := 16) dX10_isDigit_9 (by decide) c1 ⟨by decide, by decide⟩ (fun h => ?_) (fun h => ?_)
    · have W := W.1 h
      refine zr_iconst dX10_isDigit_16 ?_
      exact zt_zret dX10_isDigit_17 rfl (by decide) W
    · have W := W.2 h
      refine zr_iconst dX10_isDigit_12 ?_
      refine zr_goto (tgt := 17) dX10_isDigit_13 (by decide) ?_
      exact zt_zret dX10_isDigit_17 rfl (by decide) W
theorem dX10_here_0 : decode cX10_here 0 = .ok (.aload_n 0, 1) := by decide +kernel
theorem dX10_here_1 : decode cX10_here 1 = .ok (.getfield 110, 3) := by decide +kernel
theorem dX10_here_4 : decode cX10_here 4 = .ok (.iload_n 1, 1) := by decide +kernel
theorem dX10_here_5 : decode cX10_here 5 = .ok (.iadd, 1) := by decide +kernel
theorem dX10_here_6 : decode cX10_here 6 = .ok (.aload_n 0, 1) := by decide +kernel
theorem dX10_here_7 : decode cX10_here 7 = .ok (.getfield 113, 3) := by decide +kernel
theorem dX10_here_10 : decode cX10_here 10 = .ok (.if_icmp .ge 17, 3) := by decide +kernel
theorem dX10_here_13 : decode cX10_here 13 = .ok (.aload_n 0, 1) := by decide +kernel
theorem dX10_here_14 : decode cX10_here 14 = .ok (.getfield 7, 3) := by decide +kernel
theorem dX10_here_17 : decode cX10_here 17 = .ok (.aload_n 0, 1) := by decide +kernel
theorem dX10_here_18 : decode cX10_here 18 = .ok (.getfield 110, 3) := by decide +kernel
theorem dX10_here_21 : decode cX10_here 21 = .ok (.iload_n 1, 1) := by decide +kernel
theorem dX10_here_22 : decode cX10_here 22 = .ok (.iadd, 1) := by decide +kernel
theorem dX10_here_23 : decode cX10_here 23 = .ok (.iaload, 1) := by decide +kernel
theorem dX10_here_24 : decode cX10_here 24 = .ok (.goto 4, 3) := by decide +kernel
theorem dX10_here_27 : decode cX10_here 27 = .ok (.iconst (-1), 1) := by decide +kernel
theorem dX10_here_28 : decode cX10_here 28 = .ok (.ireturn, 1) := by decide +kernel
set_option maxRecDepth 100000 in
theorem SX10_here_0 {g : zG} {o : Bool} {M : zM} {q : Int → zM → Prop} {x1 : Int} (W : (-2147483648 ≤ ((M 1 3) + x1) ∧ ((M 1 3) + x1) ≤ 2147483647) ∧ (-2147483648 ≤ (M 1 2) ∧ (M 1 2) ≤ 2147483647) ∧ (((M 1 2) ≤ ((M 1 3) + x1)) → q (-1) M) ∧ ((¬ ((M 1 2) ≤ ((M 1 3) + x1))) → (0 ≤ ((M 1 3) + x1) ∧ ((M 1 3) + x1) < 900) ∧ q (M 2 ((M 1 3) + x1)) M)) : zT g (z2 o) mX10_here (zQi (z2 o) q) 0 [(0, zA g 1), (1, zI x1)] [] M := by
  refine zr_aload_n 0 dX10_here_0 rfl ?_
  refine zt_geti 3 rfl dX10_here_1 fX10_110 rfl (by decide) ?_
  refine zr_iload_n 1 dX10_here_4 rfl ?_
  refine zr_iadd dX10_here_5 ?_
  refine zr_aload_n 0 dX10_here_6 rfl ?_
  refine zt_geti 2 rfl dX10_here_7 fX10_113 rfl (by decide) ?_
  obtain ⟨c1, W⟩ := W
  obtain ⟨c2, W⟩ := W
  refine zr_icmp_ge (tgt := 27) dX10_here_10 (by decide) c1 c2 (fun h => ?_) (fun h => ?_)
  · have W := W.1 h
    refine zr_iconst dX10_here_27 ?_
    exact zt_iret dX10_here_28 rfl W
  · have W := W.2 h
    refine zr_aload_n 0 dX10_here_13 rfl ?_
    refine zr_getr (b := 2) dX10_here_14 fX10_7 rfl rfl rfl (by decide) ?_
    refine zr_aload_n 0 dX10_here_17 rfl ?_
    refine zt_geti 3 rfl dX10_here_18 fX10_110 rfl (by decide) ?_
    refine zr_iload_n 1 dX10_here_21 rfl ?_
    refine zr_iadd dX10_here_22 ?_
    obtain ⟨c3, W⟩ := W
    refine zr_iald dX10_here_23 rfl (by decide) c3 ?_
    refine zr_goto (tgt := 28) dX10_here_24 (by decide) ?_
    exact zt_iret dX10_here_28 rfl W
/-! signs and tokens -/
def cBl (c : Int) : Prop := c = 32 ∨ c = 10
def cLe (c : Int) : Prop := 97 ≤ c ∧ c ≤ 122
def cDi (c : Int) : Prop := 48 ≤ c ∧ c ≤ 57
def hr (M : zM) (i : Int) : Int := if i < M 1 2 then M 2 i else -1
def hOk (M : zM) (i : Int) : Prop := (0 ≤ i ∧ i ≤ 2000) ∧ 0 ≤ M 1 2 ∧ M 1 2 ≤ 900
section CI
variable {g : zG} {o : Bool} {M : zM} {x : Int}
theorem c_isBlank (h : -2147483648 ≤ x ∧ x ≤ 2147483647) : zKi g (z1 o) mX8_isBlank [zI x] M (fun r M' => r = zb (cBl x) ∧ M' = M) :=
  zki_of rfl (Nat.le_of_ble_eq_true rfl) (SX8_isBlank_0 ⟨h, fun q => ⟨(zb_t (Or.inl q)).symm, rfl⟩, fun q => ⟨fun w => ⟨(zb_f (fun z => by rcases z with z | z <;> contradiction)).symm, rfl⟩, fun w => ⟨(zb_t (Or.inr w)).symm, rfl⟩⟩⟩)
theorem c_isLetter (h : -2147483648 ≤ x ∧ x ≤ 2147483647) : zKi g (z1 o) mX8_isLetter [zI x] M (fun r M' => r = zb (cLe x) ∧ M' = M) :=
  zki_of rfl (Nat.le_of_ble_eq_true rfl) (SX8_isLetter_0 ⟨h, fun q => ⟨(zb_f (fun z => by have := z.1; omega)).symm, rfl⟩, fun q => ⟨fun w => ⟨(zb_f (fun z => by have := z.2; omega)).symm, rfl⟩, fun w => ⟨(zb_t ⟨by omega, by omega⟩).symm, rfl⟩⟩⟩)
theorem c_isDigit (h : -2147483648 ≤ x ∧ x ≤ 2147483647) : zKi g (z1 o) mX8_isDigit [zI x] M (fun r M' => r = zb (cDi x) ∧ M' = M) :=
  zki_of rfl (Nat.le_of_ble_eq_true rfl) (SX8_isDigit_0 ⟨h, fun q => ⟨(zb_f (fun z => by have := z.1; omega)).symm, rfl⟩, fun q => ⟨fun w => ⟨(zb_f (fun z => by have := z.2; omega)).symm, rfl⟩, fun w => ⟨(zb_t ⟨by omega, by omega⟩).symm, rfl⟩⟩⟩)
theorem c_isLetterR (h : -2147483648 ≤ x ∧ x ≤ 2147483647) : zKi g (z2 o) mX10_isLetter [zI x] M (fun r M' => r = zb (cLe x) ∧ M' = M) :=
  zki_of rfl (Nat.le_of_ble_eq_true rfl) (SX10_isLetter_0 ⟨h, fun q => ⟨(zb_f (fun z => by have := z.1; omega)).symm, rfl⟩, fun q => ⟨fun w => ⟨(zb_f (fun z => by have := z.2; omega)).symm, rfl⟩, fun w => ⟨(zb_t ⟨by omega, by omega⟩).symm, rfl⟩⟩⟩)
theorem c_isDigitR (h : -2147483648 ≤ x ∧ x ≤ 2147483647) : zKi g (z2 o) mX10_isDigit [zI x] M (fun r M' => r = zb (cDi x) ∧ M' = M) :=
  zki_of rfl (Nat.le_of_ble_eq_true rfl) (SX10_isDigit_0 ⟨h, fun q => ⟨(zb_f (fun z => by have := z.1; omega)).symm, rfl⟩, fun q => ⟨fun w => ⟨(zb_f (fun z => by have := z.2; omega)).symm, rfl⟩, fun w => ⟨(zb_t ⟨by omega, by omega⟩).symm, rfl⟩⟩⟩)
theorem c_here (h : hOk M (M 1 3 + x)) : zKi g (z2 o) mX10_here [zA g 1, zI x] M (fun r M' => r = hr M (M 1 3 + x) ∧ M' = M) := by
  obtain ⟨h1, h2, h3⟩ := h
  refine zki_of rfl (Nat.le_of_ble_eq_true rfl) (SX10_here_0 ⟨by omega, by omega, fun q => ⟨?_, rfl⟩, fun q => ⟨by omega, ?_, rfl⟩⟩)
  · unfold hr; rw [if_neg (by omega)]
  · unfold hr; rw [if_pos (by omega)]
end CI
theorem dX8_wordNumber_0 : decode cX8_wordNumber 0 = .ok (.iconst 0, 1) := by decide +kernel
theorem dX8_wordNumber_1 : decode cX8_wordNumber 1 = .ok (.istore_n 2, 1) := by decide +kernel
theorem dX8_wordNumber_2 : decode cX8_wordNumber 2 = .ok (.iconst 0, 1) := by decide +kernel
theorem dX8_wordNumber_3 : decode cX8_wordNumber 3 = .ok (.istore_n 3, 1) := by decide +kernel
theorem dX8_wordNumber_4 : decode cX8_wordNumber 4 = .ok (.iconst 0, 1) := by decide +kernel
theorem dX8_wordNumber_5 : decode cX8_wordNumber 5 = .ok (.istore 4, 2) := by decide +kernel
theorem dX8_wordNumber_7 : decode cX8_wordNumber 7 = .ok (.iload 4, 2) := by decide +kernel
theorem dX8_wordNumber_9 : decode cX8_wordNumber 9 = .ok (.ldc 56, 2) := by decide +kernel
theorem dX8_wordNumber_11 : decode cX8_wordNumber 11 = .ok (.invokevirtual 58, 3) := by decide +kernel
theorem dX8_wordNumber_14 : decode cX8_wordNumber 14 = .ok (.if_icmp .ge 93, 3) := by decide +kernel
theorem dX8_wordNumber_17 : decode cX8_wordNumber 17 = .ok (.ldc 56, 2) := by decide +kernel
theorem dX8_wordNumber_19 : decode cX8_wordNumber 19 = .ok (.iload 4, 2) := by decide +kernel
theorem dX8_wordNumber_21 : decode cX8_wordNumber 21 = .ok (.invokevirtual 63, 3) := by decide +kernel
theorem dX8_wordNumber_24 : decode cX8_wordNumber 24 = .ok (.istore 5, 2) := by decide +kernel
theorem dX8_wordNumber_26 : decode cX8_wordNumber 26 = .ok (.iload 5, 2) := by decide +kernel
theorem dX8_wordNumber_28 : decode cX8_wordNumber 28 = .ok (.bipush 32, 2) := by decide +kernel
theorem dX8_wordNumber_30 : decode cX8_wordNumber 30 = .ok (.if_icmp .eq 54, 3) := by decide +kernel
theorem dX8_wordNumber_33 : decode cX8_wordNumber 33 = .ok (.iload_n 3, 1) := by decide +kernel
theorem dX8_wordNumber_34 : decode cX8_wordNumber 34 = .ok (.iconst (-1), 1) := by decide +kernel
theorem dX8_wordNumber_35 : decode cX8_wordNumber 35 = .ok (.if_icmp .eq 30, 3) := by decide +kernel
theorem dX8_wordNumber_38 : decode cX8_wordNumber 38 = .ok (.iload_n 1, 1) := by decide +kernel
theorem dX8_wordNumber_39 : decode cX8_wordNumber 39 = .ok (.iload_n 3, 1) := by decide +kernel
theorem dX8_wordNumber_40 : decode cX8_wordNumber 40 = .ok (.iadd, 1) := by decide +kernel
theorem dX8_wordNumber_41 : decode cX8_wordNumber 41 = .ok (.aload_n 0, 1) := by decide +kernel
theorem dX8_wordNumber_42 : decode cX8_wordNumber 42 = .ok (.getfield 28, 3) := by decide +kernel
theorem dX8_wordNumber_45 : decode cX8_wordNumber 45 = .ok (.if_icmp .ge 20, 3) := by decide +kernel
theorem dX8_wordNumber_48 : decode cX8_wordNumber 48 = .ok (.aload_n 0, 1) := by decide +kernel
theorem dX8_wordNumber_49 : decode cX8_wordNumber 49 = .ok (.getfield 9, 3) := by decide +kernel
theorem dX8_wordNumber_52 : decode cX8_wordNumber 52 = .ok (.iload_n 1, 1) := by decide +kernel
theorem dX8_wordNumber_53 : decode cX8_wordNumber 53 = .ok (.iload_n 3, 1) := by decide +kernel
theorem dX8_wordNumber_54 : decode cX8_wordNumber 54 = .ok (.iadd, 1) := by decide +kernel
theorem dX8_wordNumber_55 : decode cX8_wordNumber 55 = .ok (.iaload, 1) := by decide +kernel
theorem dX8_wordNumber_56 : decode cX8_wordNumber 56 = .ok (.iload 5, 2) := by decide +kernel
theorem dX8_wordNumber_58 : decode cX8_wordNumber 58 = .ok (.if_icmp .ne 7, 3) := by decide +kernel
theorem dX8_wordNumber_61 : decode cX8_wordNumber 61 = .ok (.iconst 1, 1) := by decide +kernel
theorem dX8_wordNumber_62 : decode cX8_wordNumber 62 = .ok (.goto 4, 3) := by decide +kernel
theorem dX8_wordNumber_65 : decode cX8_wordNumber 65 = .ok (.iconst 0, 1) := by decide +kernel
theorem dX8_wordNumber_66 : decode cX8_wordNumber 66 = .ok (.istore 6, 2) := by decide +kernel
theorem dX8_wordNumber_68 : decode cX8_wordNumber 68 = .ok (.iload 6, 2) := by decide +kernel
theorem dX8_wordNumber_70 : decode cX8_wordNumber 70 = .ok (.ifCond .eq 9, 3) := by decide +kernel
theorem dX8_wordNumber_73 : decode cX8_wordNumber 73 = .ok (.iload_n 3, 1) := by decide +kernel
theorem dX8_wordNumber_74 : decode cX8_wordNumber 74 = .ok (.iconst 1, 1) := by decide +kernel
theorem dX8_wordNumber_75 : decode cX8_wordNumber 75 = .ok (.iadd, 1) := by decide +kernel
theorem dX8_wordNumber_76 : decode cX8_wordNumber 76 = .ok (.goto 4, 3) := by decide +kernel
theorem dX8_wordNumber_79 : decode cX8_wordNumber 79 = .ok (.iconst (-1), 1) := by decide +kernel
theorem dX8_wordNumber_80 : decode cX8_wordNumber 80 = .ok (.istore_n 3, 1) := by decide +kernel
theorem dX8_wordNumber_81 : decode cX8_wordNumber 81 = .ok (.goto 20, 3) := by decide +kernel
theorem dX8_wordNumber_84 : decode cX8_wordNumber 84 = .ok (.iload_n 3, 1) := by decide +kernel
theorem dX8_wordNumber_85 : decode cX8_wordNumber 85 = .ok (.aload_n 0, 1) := by decide +kernel
theorem dX8_wordNumber_86 : decode cX8_wordNumber 86 = .ok (.getfield 28, 3) := by decide +kernel
theorem dX8_wordNumber_89 : decode cX8_wordNumber 89 = .ok (.iload_n 1, 1) := by decide +kernel
theorem dX8_wordNumber_90 : decode cX8_wordNumber 90 = .ok (.isub, 1) := by decide +kernel
theorem dX8_wordNumber_91 : decode cX8_wordNumber 91 = .ok (.if_icmp .ne 5, 3) := by decide +kernel
theorem dX8_wordNumber_94 : decode cX8_wordNumber 94 = .ok (.iload_n 2, 1) := by decide +kernel
theorem dX8_wordNumber_95 : decode cX8_wordNumber 95 = .ok (.ireturn, 1) := by decide +kernel
theorem dX8_wordNumber_96 : decode cX8_wordNumber 96 = .ok (.iinc 2 1, 3) := by decide +kernel
theorem dX8_wordNumber_99 : decode cX8_wordNumber 99 = .ok (.iconst 0, 1) := by decide +kernel
theorem dX8_wordNumber_100 : decode cX8_wordNumber 100 = .ok (.istore_n 3, 1) := by decide +kernel
theorem dX8_wordNumber_101 : decode cX8_wordNumber 101 = .ok (.iinc 4 1, 3) := by decide +kernel
theorem dX8_wordNumber_104 : decode cX8_wordNumber 104 = .ok (.goto (-97), 3) := by decide +kernel
theorem dX8_wordNumber_107 : decode cX8_wordNumber 107 = .ok (.iconst (-1), 1) := by decide +kernel
theorem dX8_wordNumber_108 : decode cX8_wordNumber 108 = .ok (.ireturn, 1) := by decide +kernel
set_option maxRecDepth 100000 in
theorem SX8_wordNumber_0 {g : zG} {o : Bool} {M : zM} {q : Int → zM → Prop} {x1 : Int} (W : zT g (z1 o) mX8_wordNumber (zQi (z1 o) q) 7 [(0, zA g 2), (1, zI x1), (2, zI 0), (3, zI 0), (4, zI 0)] [] M) : zT g (z1 o) mX8_wordNumber (zQi (z1 o) q) 0 [(0, zA g 2), (1, zI x1)] [] M := by
  refine zr_iconst dX8_wordNumber_0 ?_
  refine zr_istore_n (l' := [(0, zA g 2), (1, zI x1), (2, zI 0)]) dX8_wordNumber_1 (by decide) [1, 2, 0] rfl ?_
  refine zr_iconst dX8_wordNumber_2 ?_
  refine zr_istore_n (l' := [(0, zA g 2), (1, zI x1), (2, zI 0), (3, zI 0)]) dX8_wordNumber_3 (by decide) [1, 2, 3, 0] rfl ?_
  refine zr_iconst dX8_wordNumber_4 ?_
  refine zr_istore (l' := [(0, zA g 2), (1, zI x1), (2, zI 0), (3, zI 0), (4, zI 0)]) dX8_wordNumber_5 (by decide) [1, 2, 3, 4, 0] rfl ?_
  exact W
set_option maxRecDepth 100000 in
theorem SX8_wordNumber_7 {g : zG} {o : Bool} {M : zM} {q : Int → zM → Prop} {x1 x2 x3 x4 : Int} (W : (-2147483648 ≤ x4 ∧ x4 ≤ 2147483647) ∧ ((79 ≤ x4) → q (-1) M) ∧ ((¬ (79 ≤ x4)) → (0 ≤ x4 ∧ x4 < 79) ∧ (-2147483648 ≤ (ztI.getD (Int.toNat x4) 0) ∧ (ztI.getD (Int.toNat x4) 0) ≤ 2147483647) ∧ (((ztI.getD (Int.toNat x4) 0) = 32) → (-2147483648 ≤ x3 ∧ x3 ≤ 2147483647) ∧ (-2147483648 ≤ ((M 2 5) - x1) ∧ ((M 2 5) - x1) ≤ 2147483647) ∧ ((x3 ≠ ((M 2 5) - x1)) → zT g (z1 o) mX8_wordNumber (zQi (z1 o) q) 7 [(0, zA g 2), (1, zI x1), (2, zI (x2 + 1)), (3, zI 0), (4, zI (x4 + 1))] [] M) ∧ ((x3 = ((M 2 5) - x1)) → q x2 M)) ∧ ((¬ ((ztI.getD (Int.toNat x4) 0) = 32)) → (-2147483648 ≤ x3 ∧ x3 ≤ 2147483647) ∧ ((x3 = (-1)) → zT g (z1 o) mX8_wordNumber (zQi (z1 o) q) 7 [(0, zA g 2), (1, zI x1), (2, zI x2), (3, zI (-1)), (4, zI (x4 + 1))] [] M) ∧ ((¬ (x3 = (-1))) → (-2147483648 ≤ (x1 + x3) ∧ (x1 + x3) ≤ 2147483647) ∧ (-2147483648 ≤ (M 2 5) ∧ (M 2 5) ≤ 2147483647) ∧ (((M 2 5) ≤ (x1 + x3)) → zT g (z1 o) mX8_wordNumber (zQi (z1 o) q) 7 [(0, zA g 2), (1, zI x1), (2, zI x2), (3, zI (-1)), (4, zI (x4 + 1))] [] M) ∧ ((¬ ((M 2 5) ≤ (x1 + x3))) → (0 ≤ (x1 + x3) ∧ (x1 + x3) < 900) ∧ (-2147483648 ≤ (M 3 (x1 + x3)) ∧ (M 3 (x1 + x3)) ≤ 2147483647) ∧ (((M 3 (x1 + x3)) ≠ (ztI.getD (Int.toNat x4) 0)) → zT g (z1 o) mX8_wordNumber (zQi (z1 o) q) 7 [(0, zA g 2), (1, zI x1), (2, zI x2), (3, zI (-1)), (4, zI (x4 + 1))] [] M) ∧ (((M 3 (x1 + x3)) = (ztI.getD (Int.toNat x4) 0)) → zT g (z1 o) mX8_wordNumber (zQi (z1 o) q) 7 [(0, zA g 2), (1, zI x1), (2, zI x2), (3, zI (x3 + 1)), (4, zI (x4 + 1))] [] M)))))) : zT g (z1 o) mX8_wordNumber (zQi (z1 o) q) 7 [(0, zA g 2), (1, zI x1), (2, zI x2), (3, zI x3), (4, zI x4)] [] M := by
  refine zr_iload 4 dX8_wordNumber_7 rfl ?_
  refine zr_lds rfl dX8_wordNumber_9 ?_
  refine zt_callVsi (As := []) (rest := [zI x4]) dX8_wordNumber_11 kX8_wordNumber_58 rfl rfl rfl (Nat.le_of_ble_eq_true rfl) c_strLen (fun r14 N16 h15 => ?_)
  rw [h15.1, h15.2]
  obtain ⟨c1, W⟩ := W
  refine zr_icmp_ge (tgt := 107) dX8_wordNumber_14 (by decide) c1 ⟨by decide, by decide⟩ (fun h => ?_) (fun h => ?_)
  · have W := W.1 h
    refine zr_iconst dX8_wordNumber_107 ?_
    exact zt_iret dX8_wordNumber_108 rfl W
  · have W := W.2 h
    refine zr_lds rfl dX8_wordNumber_17 ?_
    refine zr_iload 4 dX8_wordNumber_19 rfl ?_
    obtain ⟨c2, W⟩ := W
    refine zt_callVsi (As := [zI x4]) (rest := []) dX8_wordNumber_21 kX8_wordNumber_63 rfl rfl rfl (Nat.le_of_ble_eq_true rfl) (c_charAt c2) (fun r11 N13 h12 => ?_)
    rw [h12.1, h12.2]
    refine zr_istore (l' := [(0, zA g 2), (1, zI x1), (2, zI x2), (3, zI x3), (4, zI x4), (5, zI (ztI.getD (Int.toNat x4) 0))]) dX8_wordNumber_24 (by decide) [1, 2, 3, 4, 5, 0] rfl ?_
    refine zr_iload 5 dX8_wordNumber_26 rfl ?_
    refine zr_bipush dX8_wordNumber_28 (by decide) ?_
    obtain ⟨c3, W⟩ := W
    refine zr_icmp_eq (tgt := 84) dX8_wordNumber_30 (by decide) c3 ⟨by decide, by decide⟩ (fun h => ?_) (fun h => ?_)
    · have W := W.1 h
      refine zr_iload_n 3 dX8_wordNumber_84 rfl ?_
      refine zr_aload_n 0 dX8_wordNumber_85 rfl ?_
      refine zt_geti 5 rfl dX8_wordNumber_86 fX8_28 rfl (by decide) ?_
      refine zr_iload_n 1 dX8_wordNumber_89 rfl ?_
      refine zr_isub dX8_wordNumber_90 ?_
      obtain ⟨c4, W⟩ := W
      obtain ⟨c5, W⟩ := W
      refine zr_icmp_ne (tgt := 96) dX8_wordNumber_91 (by decide) c4 c5 (fun h => ?_) (fun h => ?_)
      · have W := W.1 h
        refine zr_iinc (q := 2) (l' := [(0, zA g 2), (1, zI x1), (2, zI (x2 + 1)), (4, zI x4)]) dX8_wordNumber_96 rfl (by decide) [1, 2, 0, 4] rfl ?_
        refine zr_iconst dX8_wordNumber_99 ?_
        refine zr_istore_n (l' := [(0, zA g 2), (1, zI x1), (2, zI (x2 + 1)), (3, zI 0), (4, zI x4)]) dX8_wordNumber_100 (by decide) [1, 2, 3, 0, 4] rfl ?_
        refine zr_iinc (q := 4) (l' := [(0, zA g 2), (1, zI x1), (2, zI (x2 + 1)), (3, zI 0), (4, zI (x4 + 1))]) dX8_wordNumber_101 rfl (by decide) [1, 2, 3, 4, 0] rfl ?_
        refine zr_goto (tgt := 7) dX8_wordNumber_104 (by decide) ?_
        exact W
      · have W := W.2 h
        refine zr_iload_n 2 dX8_wordNumber_94 rfl ?_
        exact zt_iret dX8_wordNumber_95 rfl W
    · have W := W.2 h
      refine zr_iload_n 3 dX8_wordNumber_33 rfl ?_
      refine zr_iconst dX8_wordNumber_34 ?_
      obtain ⟨c6, W⟩ := W
      refine zr_icmp_eq (tgt := 65) dX8_wordNumber_35 (by decide) c6 ⟨by decide, by decide⟩ (fun h => ?_) (fun h => ?_)
      · have W := W.1 h
        refine zr_iconst dX8_wordNumber_65 ?_
        refine zr_istore (l' := [(0, zA g 2), (1, zI x1), (2, zI x2), (3, zI x3), (4, zI x4), (6, zI 0)]) dX8_wordNumber_66 (by decide) [1, 2, 3, 4, 5, 0] rfl ?_
        refine zr_iload 5 dX8_wordNumber_68 rfl ?_
        refine zr_if_eq (tgt := 79) dX8_wordNumber_70 (by decide) ⟨by decide, by decide⟩ (fun h => ?_) (fun h => ?_)
        · skip
          refine zr_iconst dX8_wordNumber_79 ?_
          refine zr_istore_n (l' := [(0, zA g 2), (1, zI x1), (2, zI x2), (3, zI (-1)), (4, zI x4)]) dX8_wordNumber_80 (by decide) [1, 2, 3, 0, 4] rfl ?_
          refine zr_goto (tgt := 101) dX8_wordNumber_81 (by decide) ?_
          refine zr_iinc (q := 4) (l' := [(0, zA g 2), (1, zI x1), (2, zI x2), (3, zI (-1)), (4, zI (x4 + 1))]) dX8_wordNumber_101 rfl (by decide) [1, 2, 3, 4, 0] rfl ?_
          refine zr_goto (tgt := 7) dX8_wordNumber_104 (by decide) ?_
          exact W
        · exact absurd h (by decide)
      · have W := W.2 h
        refine zr_iload_n 1 dX8_wordNumber_38 rfl ?_
        refine zr_iload_n 3 dX8_wordNumber_39 rfl ?_
        refine zr_iadd dX8_wordNumber_40 ?_
        refine zr_aload_n 0 dX8_wordNumber_41 rfl ?_
        refine zt_geti 5 rfl dX8_wordNumber_42 fX8_28 rfl (by decide) ?_
        obtain ⟨c7, W⟩ := W
        obtain ⟨c8, W⟩ := W
        refine zr_icmp_ge (tgt := 65) dX8_wordNumber_45 (by decide) c7 c8 (fun h => ?_) (fun h => ?_)
        · have W := W.1 h
          refine zr_iconst dX8_wordNumber_65 ?_
          refine zr_istore (l' := [(0, zA g 2), (1, zI x1), (2, zI x2), (3, zI x3), (4, zI x4), (6, zI 0)]) dX8_wordNumber_66 (by decide) [1, 2, 3, 4, 5, 0] rfl ?_
          refine zr_iload 5 dX8_wordNumber_68 rfl ?_
          refine zr_if_eq (tgt := 79) dX8_wordNumber_70 (by decide) ⟨by decide, by decide⟩ (fun h => ?_) (fun h => ?_)
          · skip
            refine zr_iconst dX8_wordNumber_79 ?_
            refine zr_istore_n (l' := [(0, zA g 2), (1, zI x1), (2, zI x2), (3, zI (-1)), (4, zI x4)]) dX8_wordNumber_80 (by decide) [1, 2, 3, 0, 4] rfl ?_
            refine zr_goto (tgt := 101) dX8_wordNumber_81 (by decide) ?_
            refine zr_iinc (q := 4) (l' := [(0, zA g 2), (1, zI x1), (2, zI x2), (3, zI (-1)), (4, zI (x4 + 1))]) dX8_wordNumber_101 rfl (by decide) [1, 2, 3, 4, 0] rfl ?_
            refine zr_goto (tgt := 7) dX8_wordNumber_104 (by decide) ?_
            exact W
          · exact absurd h (by decide)
        · have W := W.2 h
          refine zr_aload_n 0 dX8_wordNumber_48 rfl ?_
          refine zr_getr (b := 3) dX8_wordNumber_49 fX8_9 rfl rfl rfl (by decide) ?_
          refine zr_iload_n 1 dX8_wordNumber_52 rfl ?_
          refine zr_iload_n 3 dX8_wordNumber_53 rfl ?_
          refine zr_iadd dX8_wordNumber_54 ?_
          obtain ⟨c9, W⟩ := W
          refine zr_iald dX8_wordNumber_55 rfl (by decide) c9 ?_
          refine zr_iload 5 dX8_wordNumber_56 rfl ?_
          obtain ⟨c10, W⟩ := W
          refine zr_icmp_ne (tgt := 65) dX8_wordNumber_58 (by decide) c10 c3 (fun h => ?_) (fun h => ?_)
          · have W := W.1 h
            refine zr_iconst dX8_wordNumber_65 ?_
            refine zr_istore (l' := [(0, zA g 2), (1, zI x1), (2, zI x2), (3, zI x3), (4, zI x4), (6, zI 0)]) dX8_wordNumber_66 (by decide) [1, 2, 3, 4, 5, 0] rfl ?_
            refine zr_iload 5 dX8_wordNumber_68 rfl ?_
            refine zr_if_eq (tgt := 79) dX8_wordNumber_70 (by decide) ⟨by decide, by decide⟩ (fun h => ?_) (fun h => ?_)
            · skip
              refine zr_iconst dX8_wordNumber_79 ?_
              refine zr_istore_n (l' := [(0, zA g 2), (1, zI x1), (2, zI x2), (3, zI (-1)), (4, zI x4)]) dX8_wordNumber_80 (by decide) [1, 2, 3, 0, 4] rfl ?_
              refine zr_goto (tgt := 101) dX8_wordNumber_81 (by decide) ?_
              refine zr_iinc (q := 4) (l' := [(0, zA g 2), (1, zI x1), (2, zI x2), (3, zI (-1)), (4, zI (x4 + 1))]) dX8_wordNumber_101 rfl (by decide) [1, 2, 3, 4, 0] rfl ?_
              refine zr_goto (tgt := 7) dX8_wordNumber_104 (by decide) ?_
              exact W
            · exact absurd h (by decide)
          · have W := W.2 h
            refine zr_iconst dX8_wordNumber_61 ?_
            refine zr_goto (tgt := 66) dX8_wordNumber_62 (by decide) ?_
            refine zr_istore (l' := [(0, zA g 2), (1, zI x1), (2, zI x2), (3, zI x3), (4, zI x4), (6, zI 1)]) dX8_wordNumber_66 (by decide) [1, 2, 3, 4, 5, 0] rfl ?_
            refine zr_iload 5 dX8_wordNumber_68 rfl ?_
            refine zr_if_eq (tgt := 79) dX8_wordNumber_70 (by decide) ⟨by decide, by decide⟩ (fun h => ?_) (fun h => ?_)
            · exact absurd h (by decide)
            · skip
              refine zr_iload_n 3 dX8_wordNumber_73 rfl ?_
              refine zr_iconst dX8_wordNumber_74 ?_
              refine zr_iadd dX8_wordNumber_75 ?_
              refine zr_goto (tgt := 80) dX8_wordNumber_76 (by decide) ?_
              refine zr_istore_n (l' := [(0, zA g 2), (1, zI x1), (2, zI x2), (3, zI (x3 + 1)), (4, zI x4)]) dX8_wordNumber_80 (by decide) [1, 2, 3, 0, 4] rfl ?_
              refine zr_goto (tgt := 101) dX8_wordNumber_81 (by decide) ?_
              refine zr_iinc (q := 4) (l' := [(0, zA g 2), (1, zI x1), (2, zI x2), (3, zI (x3 + 1)), (4, zI (x4 + 1))]) dX8_wordNumber_101 rfl (by decide) [1, 2, 3, 4, 0] rfl ?_
              refine zr_goto (tgt := 7) dX8_wordNumber_104 (by decide) ?_
              exact W
theorem dX8_scanNumber_0 : decode cX8_scanNumber 0 = .ok (.aload_n 0, 1) := by decide +kernel
theorem dX8_scanNumber_1 : decode cX8_scanNumber 1 = .ok (.getfield 28, 3) := by decide +kernel
theorem dX8_scanNumber_4 : decode cX8_scanNumber 4 = .ok (.istore_n 2, 1) := by decide +kernel
theorem dX8_scanNumber_5 : decode cX8_scanNumber 5 = .ok (.iconst 0, 1) := by decide +kernel
theorem dX8_scanNumber_6 : decode cX8_scanNumber 6 = .ok (.istore_n 3, 1) := by decide +kernel
theorem dX8_scanNumber_7 : decode cX8_scanNumber 7 = .ok (.aload_n 0, 1) := by decide +kernel
theorem dX8_scanNumber_8 : decode cX8_scanNumber 8 = .ok (.getfield 28, 3) := by decide +kernel
theorem dX8_scanNumber_11 : decode cX8_scanNumber 11 = .ok (.aload_n 0, 1) := by decide +kernel
theorem dX8_scanNumber_12 : decode cX8_scanNumber 12 = .ok (.getfield 15, 3) := by decide +kernel
theorem dX8_scanNumber_15 : decode cX8_scanNumber 15 = .ok (.if_icmp .ge 59, 3) := by decide +kernel
theorem dX8_scanNumber_18 : decode cX8_scanNumber 18 = .ok (.aload_n 0, 1) := by decide +kernel
theorem dX8_scanNumber_19 : decode cX8_scanNumber 19 = .ok (.getfield 9, 3) := by decide +kernel
theorem dX8_scanNumber_22 : decode cX8_scanNumber 22 = .ok (.aload_n 0, 1) := by decide +kernel
theorem dX8_scanNumber_23 : decode cX8_scanNumber 23 = .ok (.getfield 28, 3) := by decide +kernel
theorem dX8_scanNumber_26 : decode cX8_scanNumber 26 = .ok (.iaload, 1) := by decide +kernel
theorem dX8_scanNumber_27 : decode cX8_scanNumber 27 = .ok (.invokestatic 46, 3) := by decide +kernel
theorem dX8_scanNumber_30 : decode cX8_scanNumber 30 = .ok (.ifCond .eq 44, 3) := by decide +kernel
theorem dX8_scanNumber_33 : decode cX8_scanNumber 33 = .ok (.aload_n 0, 1) := by decide +kernel
theorem dX8_scanNumber_34 : decode cX8_scanNumber 34 = .ok (.getfield 28, 3) := by decide +kernel
theorem dX8_scanNumber_37 : decode cX8_scanNumber 37 = .ok (.iload_n 2, 1) := by decide +kernel
theorem dX8_scanNumber_38 : decode cX8_scanNumber 38 = .ok (.isub, 1) := by decide +kernel
theorem dX8_scanNumber_39 : decode cX8_scanNumber 39 = .ok (.iconst 4, 1) := by decide +kernel
theorem dX8_scanNumber_40 : decode cX8_scanNumber 40 = .ok (.if_icmp .ge 21, 3) := by decide +kernel
theorem dX8_scanNumber_43 : decode cX8_scanNumber 43 = .ok (.iload_n 3, 1) := by decide +kernel
theorem dX8_scanNumber_44 : decode cX8_scanNumber 44 = .ok (.bipush 10, 2) := by decide +kernel
theorem dX8_scanNumber_46 : decode cX8_scanNumber 46 = .ok (.imul, 1) := by decide +kernel
theorem dX8_scanNumber_47 : decode cX8_scanNumber 47 = .ok (.aload_n 0, 1) := by decide +kernel
theorem dX8_scanNumber_48 : decode cX8_scanNumber 48 = .ok (.getfield 9, 3) := by decide +kernel
theorem dX8_scanNumber_51 : decode cX8_scanNumber 51 = .ok (.aload_n 0, 1) := by decide +kernel
theorem dX8_scanNumber_52 : decode cX8_scanNumber 52 = .ok (.getfield 28, 3) := by decide +kernel
theorem dX8_scanNumber_55 : decode cX8_scanNumber 55 = .ok (.iaload, 1) := by decide +kernel
theorem dX8_scanNumber_56 : decode cX8_scanNumber 56 = .ok (.iadd, 1) := by decide +kernel
theorem dX8_scanNumber_57 : decode cX8_scanNumber 57 = .ok (.bipush 48, 2) := by decide +kernel
theorem dX8_scanNumber_59 : decode cX8_scanNumber 59 = .ok (.isub, 1) := by decide +kernel
theorem dX8_scanNumber_60 : decode cX8_scanNumber 60 = .ok (.istore_n 3, 1) := by decide +kernel
theorem dX8_scanNumber_61 : decode cX8_scanNumber 61 = .ok (.aload_n 0, 1) := by decide +kernel
theorem dX8_scanNumber_62 : decode cX8_scanNumber 62 = .ok (.dup, 1) := by decide +kernel
theorem dX8_scanNumber_63 : decode cX8_scanNumber 63 = .ok (.getfield 28, 3) := by decide +kernel
theorem dX8_scanNumber_66 : decode cX8_scanNumber 66 = .ok (.iconst 1, 1) := by decide +kernel
theorem dX8_scanNumber_67 : decode cX8_scanNumber 67 = .ok (.iadd, 1) := by decide +kernel
theorem dX8_scanNumber_68 : decode cX8_scanNumber 68 = .ok (.putfield 28, 3) := by decide +kernel
theorem dX8_scanNumber_71 : decode cX8_scanNumber 71 = .ok (.goto (-64), 3) := by decide +kernel
theorem dX8_scanNumber_74 : decode cX8_scanNumber 74 = .ok (.aload_n 0, 1) := by decide +kernel
theorem dX8_scanNumber_75 : decode cX8_scanNumber 75 = .ok (.getfield 28, 3) := by decide +kernel
theorem dX8_scanNumber_78 : decode cX8_scanNumber 78 = .ok (.iload_n 2, 1) := by decide +kernel
theorem dX8_scanNumber_79 : decode cX8_scanNumber 79 = .ok (.isub, 1) := by decide +kernel
theorem dX8_scanNumber_80 : decode cX8_scanNumber 80 = .ok (.iconst 4, 1) := by decide +kernel
theorem dX8_scanNumber_81 : decode cX8_scanNumber 81 = .ok (.if_icmp .le 7, 3) := by decide +kernel
theorem dX8_scanNumber_84 : decode cX8_scanNumber 84 = .ok (.iconst 1, 1) := by decide +kernel
theorem dX8_scanNumber_85 : decode cX8_scanNumber 85 = .ok (.goto 4, 3) := by decide +kernel
theorem dX8_scanNumber_88 : decode cX8_scanNumber 88 = .ok (.iconst 0, 1) := by decide +kernel
theorem dX8_scanNumber_89 : decode cX8_scanNumber 89 = .ok (.istore 4, 2) := by decide +kernel
theorem dX8_scanNumber_91 : decode cX8_scanNumber 91 = .ok (.aload_n 0, 1) := by decide +kernel
theorem dX8_scanNumber_92 : decode cX8_scanNumber 92 = .ok (.getfield 28, 3) := by decide +kernel
theorem dX8_scanNumber_95 : decode cX8_scanNumber 95 = .ok (.aload_n 0, 1) := by decide +kernel
theorem dX8_scanNumber_96 : decode cX8_scanNumber 96 = .ok (.getfield 15, 3) := by decide +kernel
theorem dX8_scanNumber_99 : decode cX8_scanNumber 99 = .ok (.if_icmp .ge 22, 3) := by decide +kernel
theorem dX8_scanNumber_102 : decode cX8_scanNumber 102 = .ok (.aload_n 0, 1) := by decide +kernel
theorem dX8_scanNumber_103 : decode cX8_scanNumber 103 = .ok (.getfield 9, 3) := by decide +kernel
theorem dX8_scanNumber_106 : decode cX8_scanNumber 106 = .ok (.aload_n 0, 1) := by decide +kernel
theorem dX8_scanNumber_107 : decode cX8_scanNumber 107 = .ok (.getfield 28, 3) := by decide +kernel
theorem dX8_scanNumber_110 : decode cX8_scanNumber 110 = .ok (.iaload, 1) := by decide +kernel
theorem dX8_scanNumber_111 : decode cX8_scanNumber 111 = .ok (.invokestatic 39, 3) := by decide +kernel
theorem dX8_scanNumber_114 : decode cX8_scanNumber 114 = .ok (.ifCond .eq 7, 3) := by decide +kernel
theorem dX8_scanNumber_117 : decode cX8_scanNumber 117 = .ok (.iconst 1, 1) := by decide +kernel
theorem dX8_scanNumber_118 : decode cX8_scanNumber 118 = .ok (.goto 4, 3) := by decide +kernel
theorem dX8_scanNumber_121 : decode cX8_scanNumber 121 = .ok (.iconst 0, 1) := by decide +kernel
theorem dX8_scanNumber_122 : decode cX8_scanNumber 122 = .ok (.istore 5, 2) := by decide +kernel
theorem dX8_scanNumber_124 : decode cX8_scanNumber 124 = .ok (.aload_n 0, 1) := by decide +kernel
theorem dX8_scanNumber_125 : decode cX8_scanNumber 125 = .ok (.getfield 19, 3) := by decide +kernel
theorem dX8_scanNumber_128 : decode cX8_scanNumber 128 = .ok (.iload_n 1, 1) := by decide +kernel
theorem dX8_scanNumber_129 : decode cX8_scanNumber 129 = .ok (.iload 4, 2) := by decide +kernel
theorem dX8_scanNumber_131 : decode cX8_scanNumber 131 = .ok (.ifCond .ne 8, 3) := by decide +kernel
theorem dX8_scanNumber_134 : decode cX8_scanNumber 134 = .ok (.iload 5, 2) := by decide +kernel
theorem dX8_scanNumber_136 : decode cX8_scanNumber 136 = .ok (.ifCond .eq 7, 3) := by decide +kernel
theorem dX8_scanNumber_139 : decode cX8_scanNumber 139 = .ok (.iconst 4, 1) := by decide +kernel
theorem dX8_scanNumber_140 : decode cX8_scanNumber 140 = .ok (.goto 4, 3) := by decide +kernel
theorem dX8_scanNumber_143 : decode cX8_scanNumber 143 = .ok (.iconst 2, 1) := by decide +kernel
theorem dX8_scanNumber_144 : decode cX8_scanNumber 144 = .ok (.iastore, 1) := by decide +kernel
theorem dX8_scanNumber_145 : decode cX8_scanNumber 145 = .ok (.aload_n 0, 1) := by decide +kernel
theorem dX8_scanNumber_146 : decode cX8_scanNumber 146 = .ok (.getfield 25, 3) := by decide +kernel
theorem dX8_scanNumber_149 : decode cX8_scanNumber 149 = .ok (.iload_n 1, 1) := by decide +kernel
theorem dX8_scanNumber_150 : decode cX8_scanNumber 150 = .ok (.iload_n 3, 1) := by decide +kernel
theorem dX8_scanNumber_151 : decode cX8_scanNumber 151 = .ok (.iastore, 1) := by decide +kernel
theorem dX8_scanNumber_152 : decode cX8_scanNumber 152 = .ok (.return_, 1) := by decide +kernel
set_option maxRecDepth 100000 in
theorem SX8_scanNumber_0 {g : zG} {o : Bool} {M : zM} {q : zM → Prop} {x1 : Int} (W : zT g (z1 o) mX8_scanNumber (zQv (z1 o) q) 7 [(0, zA g 2), (1, zI x1), (2, zI (M 2 5)), (3, zI 0)] [] M) : zT g (z1 o) mX8_scanNumber (zQv (z1 o) q) 0 [(0, zA g 2), (1, zI x1)] [] M := by
  refine zr_aload_n 0 dX8_scanNumber_0 rfl ?_
  refine zt_geti 5 rfl dX8_scanNumber_1 fX8_28 rfl (by decide) ?_
  refine zr_istore_n (l' := [(0, zA g 2), (1, zI x1), (2, zI (M 2 5))]) dX8_scanNumber_4 (by decide) [1, 2, 0] rfl ?_
  refine zr_iconst dX8_scanNumber_5 ?_
  refine zr_istore_n (l' := [(0, zA g 2), (1, zI x1), (2, zI (M 2 5)), (3, zI 0)]) dX8_scanNumber_6 (by decide) [1, 2, 3, 0] rfl ?_
  exact W
set_option maxRecDepth 100000 in
theorem SX8_scanNumber_7 {g : zG} {o : Bool} {M : zM} {q : zM → Prop} {x1 x2 x3 : Int} (W : (-2147483648 ≤ (M 2 5) ∧ (M 2 5) ≤ 2147483647) ∧ (-2147483648 ≤ (M 2 1) ∧ (M 2 1) ≤ 2147483647) ∧ (((M 2 1) ≤ (M 2 5)) → zT g (z1 o) mX8_scanNumber (zQv (z1 o) q) 74 [(0, zA g 2), (1, zI x1), (2, zI x2), (3, zI x3)] [] M) ∧ ((¬ ((M 2 1) ≤ (M 2 5))) → (0 ≤ (M 2 5) ∧ (M 2 5) < 900) ∧ (-2147483648 ≤ (M 3 (M 2 5)) ∧ (M 3 (M 2 5)) ≤ 2147483647) ∧ ((¬ (cDi (M 3 (M 2 5)))) → zT g (z1 o) mX8_scanNumber (zQv (z1 o) q) 74 [(0, zA g 2), (1, zI x1), (2, zI x2), (3, zI x3)] [] M) ∧ ((cDi (M 3 (M 2 5))) → (-2147483648 ≤ ((M 2 5) - x2) ∧ ((M 2 5) - x2) ≤ 2147483647) ∧ ((4 ≤ ((M 2 5) - x2)) → zT g (z1 o) mX8_scanNumber (zQv (z1 o) q) 7 [(0, zA g 2), (1, zI x1), (2, zI x2), (3, zI x3)] [] (zu M 2 5 ((M 2 5) + 1))) ∧ ((¬ (4 ≤ ((M 2 5) - x2))) → zT g (z1 o) mX8_scanNumber (zQv (z1 o) q) 7 [(0, zA g 2), (1, zI x1), (2, zI x2), (3, zI (((x3 * 10) + (M 3 (M 2 5))) - 48))] [] (zu M 2 5 ((M 2 5) + 1)))))) : zT g (z1 o) mX8_scanNumber (zQv (z1 o) q) 7 [(0, zA g 2), (1, zI x1), (2, zI x2), (3, zI x3)] [] M := by
  refine zr_aload_n 0 dX8_scanNumber_7 rfl ?_
  refine zt_geti 5 rfl dX8_scanNumber_8 fX8_28 rfl (by decide) ?_
  refine zr_aload_n 0 dX8_scanNumber_11 rfl ?_
  refine zt_geti 1 rfl dX8_scanNumber_12 fX8_15 rfl (by decide) ?_
  obtain ⟨c1, W⟩ := W
  obtain ⟨c2, W⟩ := W
  refine zr_icmp_ge (tgt := 74) dX8_scanNumber_15 (by decide) c1 c2 (fun h => ?_) (fun h => ?_)
  · have W := W.1 h
    exact W
  · have W := W.2 h
    refine zr_aload_n 0 dX8_scanNumber_18 rfl ?_
    refine zr_getr (b := 3) dX8_scanNumber_19 fX8_9 rfl rfl rfl (by decide) ?_
    refine zr_aload_n 0 dX8_scanNumber_22 rfl ?_
    refine zt_geti 5 rfl dX8_scanNumber_23 fX8_28 rfl (by decide) ?_
    obtain ⟨c3, W⟩ := W
    refine zr_iald dX8_scanNumber_26 rfl (by decide) c3 ?_
    obtain ⟨c4, W⟩ := W
    refine zt_callSi (As := [zI (M 3 (M 2 5))]) (rest := []) dX8_scanNumber_27 kX8_scanNumber_46 rfl rfl (Nat.le_of_ble_eq_true rfl) (c_isDigit c4) (fun r5 N7 h6 => ?_)
    rw [h6.1, h6.2]
    refine zt_ifeq_b (tgt := 74) dX8_scanNumber_30 (by decide) (fun h => ?_) (fun h => ?_)
    · have W := W.1 h
      exact W
    · have W := W.2 h
      refine zr_aload_n 0 dX8_scanNumber_33 rfl ?_
      refine zt_geti 5 rfl dX8_scanNumber_34 fX8_28 rfl (by decide) ?_
      refine zr_iload_n 2 dX8_scanNumber_37 rfl ?_
      refine zr_isub dX8_scanNumber_38 ?_
      refine zr_iconst dX8_scanNumber_39 ?_
      obtain ⟨c8, W⟩ := W
      refine zr_icmp_ge (tgt := 61) dX8_scanNumber_40 (by decide) c8 ⟨by decide, by decide⟩ (fun h => ?_) (fun h => ?_)
      · have W := W.1 h
        refine zr_aload_n 0 dX8_scanNumber_61 rfl ?_
        refine zr_dup dX8_scanNumber_62 rfl ?_
        refine zt_geti 5 rfl dX8_scanNumber_63 fX8_28 rfl (by decide) ?_
        refine zr_iconst dX8_scanNumber_66 ?_
        refine zr_iadd dX8_scanNumber_67 ?_
        refine zt_puti 5 rfl dX8_scanNumber_68 fX8_28 lcX8 ltX8_5 rfl rfl ?_
        refine zr_goto (tgt := 7) dX8_scanNumber_71 (by decide) ?_
        exact W
      · have W := W.2 h
        refine zr_iload_n 3 dX8_scanNumber_43 rfl ?_
        refine zr_bipush dX8_scanNumber_44 (by decide) ?_
        refine zr_imul dX8_scanNumber_46 ?_
        refine zr_aload_n 0 dX8_scanNumber_47 rfl ?_
        refine zr_getr (b := 3) dX8_scanNumber_48 fX8_9 rfl rfl rfl (by decide) ?_
        refine zr_aload_n 0 dX8_scanNumber_51 rfl ?_
        refine zt_geti 5 rfl dX8_scanNumber_52 fX8_28 rfl (by decide) ?_
        refine zr_iald dX8_scanNumber_55 rfl (by decide) c3 ?_
        refine zr_iadd dX8_scanNumber_56 ?_
        refine zr_bipush dX8_scanNumber_57 (by decide) ?_
        refine zr_isub dX8_scanNumber_59 ?_
        refine zr_istore_n (l' := [(0, zA g 2), (1, zI x1), (2, zI x2), (3, zI (((x3 * 10) + (M 3 (M 2 5))) - 48))]) dX8_scanNumber_60 (by decide) [1, 2, 3, 0] rfl ?_
        refine zr_aload_n 0 dX8_scanNumber_61 rfl ?_
        refine zr_dup dX8_scanNumber_62 rfl ?_
        refine zt_geti 5 rfl dX8_scanNumber_63 fX8_28 rfl (by decide) ?_
        refine zr_iconst dX8_scanNumber_66 ?_
        refine zr_iadd dX8_scanNumber_67 ?_
        refine zt_puti 5 rfl dX8_scanNumber_68 fX8_28 lcX8 ltX8_5 rfl rfl ?_
        refine zr_goto (tgt := 7) dX8_scanNumber_71 (by decide) ?_
        exact W
set_option maxRecDepth 100000 in
theorem SX8_scanNumber_74 {g : zG} {o : Bool} {M : zM} {q : zM → Prop} {x1 x2 x3 : Int} (W : (-2147483648 ≤ ((M 2 5) - x2) ∧ ((M 2 5) - x2) ≤ 2147483647) ∧ ((((M 2 5) - x2) ≤ 4) → (-2147483648 ≤ (M 2 5) ∧ (M 2 5) ≤ 2147483647) ∧ (-2147483648 ≤ (M 2 1) ∧ (M 2 1) ≤ 2147483647) ∧ (((M 2 1) ≤ (M 2 5)) → zT g (z1 o) mX8_scanNumber (zQv (z1 o) q) 121 [(0, zA g 2), (1, zI x1), (3, zI x3), (4, zI 0)] [] M) ∧ ((¬ ((M 2 1) ≤ (M 2 5))) → (0 ≤ (M 2 5) ∧ (M 2 5) < 900) ∧ (-2147483648 ≤ (M 3 (M 2 5)) ∧ (M 3 (M 2 5)) ≤ 2147483647) ∧ ((¬ (cLe (M 3 (M 2 5)))) → zT g (z1 o) mX8_scanNumber (zQv (z1 o) q) 121 [(0, zA g 2), (1, zI x1), (3, zI x3), (4, zI 0)] [] M) ∧ ((cLe (M 3 (M 2 5))) → (0 ≤ x1 ∧ x1 < 901) ∧ ∀ N10 : zM, N10 = zu M 4 x1 4 → q (zu N10 6 x1 x3)))) ∧ ((¬ (((M 2 5) - x2) ≤ 4)) → (-2147483648 ≤ (M 2 5) ∧ (M 2 5) ≤ 2147483647) ∧ (-2147483648 ≤ (M 2 1) ∧ (M 2 1) ≤ 2147483647) ∧ (((M 2 1) ≤ (M 2 5)) → zT g (z1 o) mX8_scanNumber (zQv (z1 o) q) 121 [(0, zA g 2), (1, zI x1), (3, zI x3), (4, zI 1)] [] M) ∧ ((¬ ((M 2 1) ≤ (M 2 5))) → (0 ≤ (M 2 5) ∧ (M 2 5) < 900) ∧ (-2147483648 ≤ (M 3 (M 2 5)) ∧ (M 3 (M 2 5)) ≤ 2147483647) ∧ ((¬ (cLe (M 3 (M 2 5)))) → zT g (z1 o) mX8_scanNumber (zQv (z1 o) q) 121 [(0, zA g 2), (1, zI x1), (3, zI x3), (4, zI 1)] [] M) ∧ ((cLe (M 3 (M 2 5))) → (0 ≤ x1 ∧ x1 < 901) ∧ ∀ N20 : zM, N20 = zu M 4 x1 4 → q (zu N20 6 x1 x3))))) : zT g (z1 o) mX8_scanNumber (zQv (z1 o) q) 74 [(0, zA g 2), (1, zI x1), (2, zI x2), (3, zI x3)] [] M := by
  refine zr_aload_n 0 dX8_scanNumber_74 rfl ?_
  refine zt_geti 5 rfl dX8_scanNumber_75 fX8_28 rfl (by decide) ?_
  refine zr_iload_n 2 dX8_scanNumber_78 rfl ?_
  refine zr_isub dX8_scanNumber_79 ?_
  refine zr_iconst dX8_scanNumber_80 ?_
  obtain ⟨c1, W⟩ := W
  refine zr_icmp_le (tgt := 88) dX8_scanNumber_81 (by decide) c1 ⟨by decide, by decide⟩ (fun h => ?_) (fun h => ?_)
  · have W := W.1 h
    refine zr_iconst dX8_scanNumber_88 ?_
    refine zr_istore (l' := [(0, zA g 2), (1, zI x1), (3, zI x3), (4, zI 0)]) dX8_scanNumber_89 (by decide) [1, 2, 4, 0] rfl ?_
    refine zr_aload_n 0 dX8_scanNumber_91 rfl ?_
    refine zt_geti 5 rfl dX8_scanNumber_92 fX8_28 rfl (by decide) ?_
    refine zr_aload_n 0 dX8_scanNumber_95 rfl ?_
    refine zt_geti 1 rfl dX8_scanNumber_96 fX8_15 rfl (by decide) ?_
    obtain ⟨c2, W⟩ := W
    obtain ⟨c3, W⟩ := W
    refine zr_icmp_ge (tgt := 121) dX8_scanNumber_99 (by decide) c2 c3 (fun h => ?_) (fun h => ?_)
    · have W := W.1 h
      exact W
    · have W := W.2 h
      refine zr_aload_n 0 dX8_scanNumber_102 rfl ?_
      refine zr_getr (b := 3) dX8_scanNumber_103 fX8_9 rfl rfl rfl (by decide) ?_
      refine zr_aload_n 0 dX8_scanNumber_106 rfl ?_
      refine zt_geti 5 rfl dX8_scanNumber_107 fX8_28 rfl (by decide) ?_
      obtain ⟨c4, W⟩ := W
      refine zr_iald dX8_scanNumber_110 rfl (by decide) c4 ?_
      obtain ⟨c5, W⟩ := W
      refine zt_callSi (As := [zI (M 3 (M 2 5))]) (rest := []) dX8_scanNumber_111 kX8_scanNumber_39 rfl rfl (Nat.le_of_ble_eq_true rfl) (c_isLetter c5) (fun r6 N8 h7 => ?_)
      rw [h7.1, h7.2]
      refine zt_ifeq_b (tgt := 121) dX8_scanNumber_114 (by decide) (fun h => ?_) (fun h => ?_)
      · have W := W.1 h
        exact W
      · have W := W.2 h
        refine zr_iconst dX8_scanNumber_117 ?_
        refine zr_goto (tgt := 122) dX8_scanNumber_118 (by decide) ?_
        refine zr_istore (l' := [(0, zA g 2), (1, zI x1), (3, zI x3), (4, zI 0), (5, zI 1)]) dX8_scanNumber_122 (by decide) [1, 2, 3, 4, 0] rfl ?_
        refine zr_aload_n 0 dX8_scanNumber_124 rfl ?_
        refine zr_getr (b := 4) dX8_scanNumber_125 fX8_19 rfl rfl rfl (by decide) ?_
        refine zr_iload_n 1 dX8_scanNumber_128 rfl ?_
        refine zr_iload 3 dX8_scanNumber_129 rfl ?_
        refine zr_if_ne (tgt := 139) dX8_scanNumber_131 (by decide) ⟨by decide, by decide⟩ (fun h => ?_) (fun h => ?_)
        · exact absurd h (by decide)
        · skip
          refine zr_iload 4 dX8_scanNumber_134 rfl ?_
          refine zr_if_eq (tgt := 143) dX8_scanNumber_136 (by decide) ⟨by decide, by decide⟩ (fun h => ?_) (fun h => ?_)
          · exact absurd h (by decide)
          · skip
            refine zr_iconst dX8_scanNumber_139 ?_
            refine zr_goto (tgt := 144) dX8_scanNumber_140 (by decide) ?_
            obtain ⟨c9, W⟩ := W
            refine zr_iast dX8_scanNumber_144 rfl (by decide) c9 ?_
            refine zr_aload_n 0 dX8_scanNumber_145 rfl ?_
            refine zr_getr (b := 6) dX8_scanNumber_146 fX8_25 rfl rfl rfl (by decide) ?_
            refine zr_iload_n 1 dX8_scanNumber_149 rfl ?_
            refine zr_iload_n 2 dX8_scanNumber_150 rfl ?_
            obtain ⟨N10, e11⟩ : ∃ N : zM, N = zu M 4 x1 4 := ⟨_, rfl⟩
            rw [← e11]
            have W := W N10 e11
            refine zr_iast dX8_scanNumber_151 rfl (by decide) c9 ?_
            exact zt_ret dX8_scanNumber_152 rfl W
  · have W := W.2 h
    refine zr_iconst dX8_scanNumber_84 ?_
    refine zr_goto (tgt := 89) dX8_scanNumber_85 (by decide) ?_
    refine zr_istore (l' := [(0, zA g 2), (1, zI x1), (3, zI x3), (4, zI 1)]) dX8_scanNumber_89 (by decide) [1, 2, 4, 0] rfl ?_
    refine zr_aload_n 0 dX8_scanNumber_91 rfl ?_
    refine zt_geti 5 rfl dX8_scanNumber_92 fX8_28 rfl (by decide) ?_
    refine zr_aload_n 0 dX8_scanNumber_95 rfl ?_
    refine zt_geti 1 rfl dX8_scanNumber_96 fX8_15 rfl (by decide) ?_
    obtain ⟨c12, W⟩ := W
    obtain ⟨c13, W⟩ := W
    refine zr_icmp_ge (tgt := 121) dX8_scanNumber_99 (by decide) c12 c13 (fun h => ?_) (fun h => ?_)
    · have W := W.1 h
      exact W
    · have W := W.2 h
      refine zr_aload_n 0 dX8_scanNumber_102 rfl ?_
      refine zr_getr (b := 3) dX8_scanNumber_103 fX8_9 rfl rfl rfl (by decide) ?_
      refine zr_aload_n 0 dX8_scanNumber_106 rfl ?_
      refine zt_geti 5 rfl dX8_scanNumber_107 fX8_28 rfl (by decide) ?_
      obtain ⟨c14, W⟩ := W
      refine zr_iald dX8_scanNumber_110 rfl (by decide) c14 ?_
      obtain ⟨c15, W⟩ := W
      refine zt_callSi (As := [zI (M 3 (M 2 5))]) (rest := []) dX8_scanNumber_111 kX8_scanNumber_39 rfl rfl (Nat.le_of_ble_eq_true rfl) (c_isLetter c15) (fun r16 N18 h17 => ?_)
      rw [h17.1, h17.2]
      refine zt_ifeq_b (tgt := 121) dX8_scanNumber_114 (by decide) (fun h => ?_) (fun h => ?_)
      · have W := W.1 h
        exact W
      · have W := W.2 h
        refine zr_iconst dX8_scanNumber_117 ?_
        refine zr_goto (tgt := 122) dX8_scanNumber_118 (by decide) ?_
        refine zr_istore (l' := [(0, zA g 2), (1, zI x1), (3, zI x3), (4, zI 1), (5, zI 1)]) dX8_scanNumber_122 (by decide) [1, 2, 3, 4, 0] rfl ?_
        refine zr_aload_n 0 dX8_scanNumber_124 rfl ?_
        refine zr_getr (b := 4) dX8_scanNumber_125 fX8_19 rfl rfl rfl (by decide) ?_
        refine zr_iload_n 1 dX8_scanNumber_128 rfl ?_
        refine zr_iload 3 dX8_scanNumber_129 rfl ?_
        refine zr_if_ne (tgt := 139) dX8_scanNumber_131 (by decide) ⟨by decide, by decide⟩ (fun h => ?_) (fun h => ?_)
        · skip
          refine zr_iconst dX8_scanNumber_139 ?_
          refine zr_goto (tgt := 144) dX8_scanNumber_140 (by decide) ?_
          obtain ⟨c19, W⟩ := W
          refine zr_iast dX8_scanNumber_144 rfl (by decide) c19 ?_
          refine zr_aload_n 0 dX8_scanNumber_145 rfl ?_
          refine zr_getr (b := 6) dX8_scanNumber_146 fX8_25 rfl rfl rfl (by decide) ?_
          refine zr_iload_n 1 dX8_scanNumber_149 rfl ?_
          refine zr_iload_n 2 dX8_scanNumber_150 rfl ?_
          obtain ⟨N20, e21⟩ : ∃ N : zM, N = zu M 4 x1 4 := ⟨_, rfl⟩
          rw [← e21]
          have W := W N20 e21
          refine zr_iast dX8_scanNumber_151 rfl (by decide) c19 ?_
          exact zt_ret dX8_scanNumber_152 rfl W
        · exact absurd h (by decide)
set_option maxRecDepth 100000 in
theorem SX8_scanNumber_121 {g : zG} {o : Bool} {M : zM} {q : zM → Prop} {x1 x3 x4 : Int} (W : (-2147483648 ≤ x4 ∧ x4 ≤ 2147483647) ∧ ((x4 ≠ 0) → (0 ≤ x1 ∧ x1 < 901) ∧ ∀ N3 : zM, N3 = zu M 4 x1 4 → q (zu N3 6 x1 x3)) ∧ ((x4 = 0) → (0 ≤ x1 ∧ x1 < 901) ∧ ∀ N6 : zM, N6 = zu M 4 x1 2 → q (zu N6 6 x1 x3))) : zT g (z1 o) mX8_scanNumber (zQv (z1 o) q) 121 [(0, zA g 2), (1, zI x1), (3, zI x3), (4, zI x4)] [] M := by
  refine zr_iconst dX8_scanNumber_121 ?_
  refine zr_istore (l' := [(0, zA g 2), (1, zI x1), (3, zI x3), (4, zI x4), (5, zI 0)]) dX8_scanNumber_122 (by decide) [1, 2, 3, 4, 0] rfl ?_
  refine zr_aload_n 0 dX8_scanNumber_124 rfl ?_
  refine zr_getr (b := 4) dX8_scanNumber_125 fX8_19 rfl rfl rfl (by decide) ?_
  refine zr_iload_n 1 dX8_scanNumber_128 rfl ?_
  refine zr_iload 3 dX8_scanNumber_129 rfl ?_
  obtain ⟨c1, W⟩ := W
  refine zr_if_ne (tgt := 139) dX8_scanNumber_131 (by decide) c1 (fun h => ?_) (fun h => ?_)
  · have W := W.1 h
    refine zr_iconst dX8_scanNumber_139 ?_
    refine zr_goto (tgt := 144) dX8_scanNumber_140 (by decide) ?_
    obtain ⟨c2, W⟩ := W
    refine zr_iast dX8_scanNumber_144 rfl (by decide) c2 ?_
    refine zr_aload_n 0 dX8_scanNumber_145 rfl ?_
    refine zr_getr (b := 6) dX8_scanNumber_146 fX8_25 rfl rfl rfl (by decide) ?_
    refine zr_iload_n 1 dX8_scanNumber_149 rfl ?_
    refine zr_iload_n 2 dX8_scanNumber_150 rfl ?_
    obtain ⟨N3, e4⟩ : ∃ N : zM, N = zu M 4 x1 4 := ⟨_, rfl⟩
    rw [← e4]
    have W := W N3 e4
    refine zr_iast dX8_scanNumber_151 rfl (by decide) c2 ?_
    exact zt_ret dX8_scanNumber_152 rfl W
  · have W := W.2 h
    refine zr_iload 4 dX8_scanNumber_134 rfl ?_
    refine zr_if_eq (tgt := 143) dX8_scanNumber_136 (by decide) ⟨by decide, by decide⟩ (fun h => ?_) (fun h => ?_)
    · skip
      refine zr_iconst dX8_scanNumber_143 ?_
      obtain ⟨c5, W⟩ := W
      refine zr_iast dX8_scanNumber_144 rfl (by decide) c5 ?_
      refine zr_aload_n 0 dX8_scanNumber_145 rfl ?_
      refine zr_getr (b := 6) dX8_scanNumber_146 fX8_25 rfl rfl rfl (by decide) ?_
      refine zr_iload_n 1 dX8_scanNumber_149 rfl ?_
      refine zr_iload_n 2 dX8_scanNumber_150 rfl ?_
      obtain ⟨N6, e7⟩ : ∃ N : zM, N = zu M 4 x1 2 := ⟨_, rfl⟩
      rw [← e7]
      have W := W N6 e7
      refine zr_iast dX8_scanNumber_151 rfl (by decide) c5 ?_
      exact zt_ret dX8_scanNumber_152 rfl W
    · exact absurd h (by decide)
theorem dX8_scanWord_0 : decode cX8_scanWord 0 = .ok (.aload_n 0, 1) := by decide +kernel
theorem dX8_scanWord_1 : decode cX8_scanWord 1 = .ok (.getfield 28, 3) := by decide +kernel
theorem dX8_scanWord_4 : decode cX8_scanWord 4 = .ok (.istore_n 2, 1) := by decide +kernel
theorem dX8_scanWord_5 : decode cX8_scanWord 5 = .ok (.aload_n 0, 1) := by decide +kernel
theorem dX8_scanWord_6 : decode cX8_scanWord 6 = .ok (.getfield 28, 3) := by decide +kernel
theorem dX8_scanWord_9 : decode cX8_scanWord 9 = .ok (.aload_n 0, 1) := by decide +kernel
theorem dX8_scanWord_10 : decode cX8_scanWord 10 = .ok (.getfield 15, 3) := by decide +kernel
theorem dX8_scanWord_13 : decode cX8_scanWord 13 = .ok (.if_icmp .ge 31, 3) := by decide +kernel
theorem dX8_scanWord_16 : decode cX8_scanWord 16 = .ok (.aload_n 0, 1) := by decide +kernel
theorem dX8_scanWord_17 : decode cX8_scanWord 17 = .ok (.getfield 9, 3) := by decide +kernel
theorem dX8_scanWord_20 : decode cX8_scanWord 20 = .ok (.aload_n 0, 1) := by decide +kernel
theorem dX8_scanWord_21 : decode cX8_scanWord 21 = .ok (.getfield 28, 3) := by decide +kernel
theorem dX8_scanWord_24 : decode cX8_scanWord 24 = .ok (.iaload, 1) := by decide +kernel
theorem dX8_scanWord_25 : decode cX8_scanWord 25 = .ok (.invokestatic 39, 3) := by decide +kernel
theorem dX8_scanWord_28 : decode cX8_scanWord 28 = .ok (.ifCond .eq 16, 3) := by decide +kernel
theorem dX8_scanWord_31 : decode cX8_scanWord 31 = .ok (.aload_n 0, 1) := by decide +kernel
theorem dX8_scanWord_32 : decode cX8_scanWord 32 = .ok (.dup, 1) := by decide +kernel
theorem dX8_scanWord_33 : decode cX8_scanWord 33 = .ok (.getfield 28, 3) := by decide +kernel
theorem dX8_scanWord_36 : decode cX8_scanWord 36 = .ok (.iconst 1, 1) := by decide +kernel
theorem dX8_scanWord_37 : decode cX8_scanWord 37 = .ok (.iadd, 1) := by decide +kernel
theorem dX8_scanWord_38 : decode cX8_scanWord 38 = .ok (.putfield 28, 3) := by decide +kernel
theorem dX8_scanWord_41 : decode cX8_scanWord 41 = .ok (.goto (-36), 3) := by decide +kernel
theorem dX8_scanWord_44 : decode cX8_scanWord 44 = .ok (.aload_n 0, 1) := by decide +kernel
theorem dX8_scanWord_45 : decode cX8_scanWord 45 = .ok (.getfield 19, 3) := by decide +kernel
theorem dX8_scanWord_48 : decode cX8_scanWord 48 = .ok (.iload_n 1, 1) := by decide +kernel
theorem dX8_scanWord_49 : decode cX8_scanWord 49 = .ok (.aload_n 0, 1) := by decide +kernel
theorem dX8_scanWord_50 : decode cX8_scanWord 50 = .ok (.getfield 28, 3) := by decide +kernel
theorem dX8_scanWord_53 : decode cX8_scanWord 53 = .ok (.iload_n 2, 1) := by decide +kernel
theorem dX8_scanWord_54 : decode cX8_scanWord 54 = .ok (.isub, 1) := by decide +kernel
theorem dX8_scanWord_55 : decode cX8_scanWord 55 = .ok (.bipush 8, 2) := by decide +kernel
theorem dX8_scanWord_57 : decode cX8_scanWord 57 = .ok (.if_icmp .le 7, 3) := by decide +kernel
theorem dX8_scanWord_60 : decode cX8_scanWord 60 = .ok (.iconst 4, 1) := by decide +kernel
theorem dX8_scanWord_61 : decode cX8_scanWord 61 = .ok (.goto 4, 3) := by decide +kernel
theorem dX8_scanWord_64 : decode cX8_scanWord 64 = .ok (.iconst 1, 1) := by decide +kernel
theorem dX8_scanWord_65 : decode cX8_scanWord 65 = .ok (.iastore, 1) := by decide +kernel
theorem dX8_scanWord_66 : decode cX8_scanWord 66 = .ok (.aload_n 0, 1) := by decide +kernel
theorem dX8_scanWord_67 : decode cX8_scanWord 67 = .ok (.getfield 25, 3) := by decide +kernel
theorem dX8_scanWord_70 : decode cX8_scanWord 70 = .ok (.iload_n 1, 1) := by decide +kernel
theorem dX8_scanWord_71 : decode cX8_scanWord 71 = .ok (.aload_n 0, 1) := by decide +kernel
theorem dX8_scanWord_72 : decode cX8_scanWord 72 = .ok (.iload_n 2, 1) := by decide +kernel
theorem dX8_scanWord_73 : decode cX8_scanWord 73 = .ok (.invokevirtual 52, 3) := by decide +kernel
theorem dX8_scanWord_76 : decode cX8_scanWord 76 = .ok (.iastore, 1) := by decide +kernel
theorem dX8_scanWord_77 : decode cX8_scanWord 77 = .ok (.return_, 1) := by decide +kernel
set_option maxRecDepth 100000 in
theorem SX8_scanWord_0 {g : zG} {o : Bool} {M : zM} {q : zM → Prop} {x1 : Int} (W : zT g (z1 o) mX8_scanWord (zQv (z1 o) q) 5 [(0, zA g 2), (1, zI x1), (2, zI (M 2 5))] [] M) : zT g (z1 o) mX8_scanWord (zQv (z1 o) q) 0 [(0, zA g 2), (1, zI x1)] [] M := by
  refine zr_aload_n 0 dX8_scanWord_0 rfl ?_
  refine zt_geti 5 rfl dX8_scanWord_1 fX8_28 rfl (by decide) ?_
  refine zr_istore_n (l' := [(0, zA g 2), (1, zI x1), (2, zI (M 2 5))]) dX8_scanWord_4 (by decide) [1, 2, 0] rfl ?_
  exact W
set_option maxRecDepth 100000 in
theorem SX8_scanWord_5 {g : zG} {o : Bool} {M : zM} {q : zM → Prop} {x1 x2 : Int} (W : (-2147483648 ≤ (M 2 5) ∧ (M 2 5) ≤ 2147483647) ∧ (-2147483648 ≤ (M 2 1) ∧ (M 2 1) ≤ 2147483647) ∧ (((M 2 1) ≤ (M 2 5)) → zT g (z1 o) mX8_scanWord (zQv (z1 o) q) 44 [(0, zA g 2), (1, zI x1), (2, zI x2)] [] M) ∧ ((¬ ((M 2 1) ≤ (M 2 5))) → (0 ≤ (M 2 5) ∧ (M 2 5) < 900) ∧ (-2147483648 ≤ (M 3 (M 2 5)) ∧ (M 3 (M 2 5)) ≤ 2147483647) ∧ ((¬ (cLe (M 3 (M 2 5)))) → zT g (z1 o) mX8_scanWord (zQv (z1 o) q) 44 [(0, zA g 2), (1, zI x1), (2, zI x2)] [] M) ∧ ((cLe (M 3 (M 2 5))) → zT g (z1 o) mX8_scanWord (zQv (z1 o) q) 5 [(0, zA g 2), (1, zI x1), (2, zI x2)] [] (zu M 2 5 ((M 2 5) + 1))))) : zT g (z1 o) mX8_scanWord (zQv (z1 o) q) 5 [(0, zA g 2), (1, zI x1), (2, zI x2)] [] M := by
  refine zr_aload_n 0 dX8_scanWord_5 rfl ?_
  refine zt_geti 5 rfl dX8_scanWord_6 fX8_28 rfl (by decide) ?_
  refine zr_aload_n 0 dX8_scanWord_9 rfl ?_
  refine zt_geti 1 rfl dX8_scanWord_10 fX8_15 rfl (by decide) ?_
  obtain ⟨c1, W⟩ := W
  obtain ⟨c2, W⟩ := W
  refine zr_icmp_ge (tgt := 44) dX8_scanWord_13 (by decide) c1 c2 (fun h => ?_) (fun h => ?_)
  · have W := W.1 h
    exact W
  · have W := W.2 h
    refine zr_aload_n 0 dX8_scanWord_16 rfl ?_
    refine zr_getr (b := 3) dX8_scanWord_17 fX8_9 rfl rfl rfl (by decide) ?_
    refine zr_aload_n 0 dX8_scanWord_20 rfl ?_
    refine zt_geti 5 rfl dX8_scanWord_21 fX8_28 rfl (by decide) ?_
    obtain ⟨c3, W⟩ := W
    refine zr_iald dX8_scanWord_24 rfl (by decide) c3 ?_
    obtain ⟨c4, W⟩ := W
    refine zt_callSi (As := [zI (M 3 (M 2 5))]) (rest := []) dX8_scanWord_25 kX8_scanWord_39 rfl rfl (Nat.le_of_ble_eq_true rfl) (c_isLetter c4) (fun r5 N7 h6 => ?_)
    rw [h6.1, h6.2]
    refine zt_ifeq_b (tgt := 44) dX8_scanWord_28 (by decide) (fun h => ?_) (fun h => ?_)
    · have W := W.1 h
      exact W
    · have W := W.2 h
      refine zr_aload_n 0 dX8_scanWord_31 rfl ?_
      refine zr_dup dX8_scanWord_32 rfl ?_
      refine zt_geti 5 rfl dX8_scanWord_33 fX8_28 rfl (by decide) ?_
      refine zr_iconst dX8_scanWord_36 ?_
      refine zr_iadd dX8_scanWord_37 ?_
      refine zt_puti 5 rfl dX8_scanWord_38 fX8_28 lcX8 ltX8_5 rfl rfl ?_
      refine zr_goto (tgt := 5) dX8_scanWord_41 (by decide) ?_
      exact W
set_option maxRecDepth 100000 in
theorem SX8_scanWord_44 {g : zG} {o : Bool} {M : zM} {q : zM → Prop} {x1 x2 : Int} (W : (-2147483648 ≤ ((M 2 5) - x2) ∧ ((M 2 5) - x2) ≤ 2147483647) ∧ ((((M 2 5) - x2) ≤ 8) → (0 ≤ x1 ∧ x1 < 901) ∧ ∃ q3 : Int → zM → Prop, zKi g (z1 o) mX8_wordNumber [zA g 2, zI x2] (zu M 4 x1 1) q3 ∧ ∀ (r4 : Int) (M5 : zM), q3 r4 M5 → q (zu M5 6 x1 r4)) ∧ ((¬ (((M 2 5) - x2) ≤ 8)) → (0 ≤ x1 ∧ x1 < 901) ∧ ∃ q9 : Int → zM → Prop, zKi g (z1 o) mX8_wordNumber [zA g 2, zI x2] (zu M 4 x1 4) q9 ∧ ∀ (r10 : Int) (M11 : zM), q9 r10 M11 → q (zu M11 6 x1 r10))) : zT g (z1 o) mX8_scanWord (zQv (z1 o) q) 44 [(0, zA g 2), (1, zI x1), (2, zI x2)] [] M := by
  refine zr_aload_n 0 dX8_scanWord_44 rfl ?_
  refine zr_getr (b := 4) dX8_scanWord_45 fX8_19 rfl rfl rfl (by decide) ?_
  refine zr_iload_n 1 dX8_scanWord_48 rfl ?_
  refine zr_aload_n 0 dX8_scanWord_49 rfl ?_
  refine zt_geti 5 rfl dX8_scanWord_50 fX8_28 rfl (by decide) ?_
  refine zr_iload_n 2 dX8_scanWord_53 rfl ?_
  refine zr_isub dX8_scanWord_54 ?_
  refine zr_bipush dX8_scanWord_55 (by decide) ?_
  obtain ⟨c1, W⟩ := W
  refine zr_icmp_le (tgt := 64) dX8_scanWord_57 (by decide) c1 ⟨by decide, by decide⟩ (fun h => ?_) (fun h => ?_)
  · have W := W.1 h
    refine zr_iconst dX8_scanWord_64 ?_
    obtain ⟨c2, W⟩ := W
    refine zr_iast dX8_scanWord_65 rfl (by decide) c2 ?_
    refine zr_aload_n 0 dX8_scanWord_66 rfl ?_
    refine zr_getr (b := 6) dX8_scanWord_67 fX8_25 rfl rfl rfl (by decide) ?_
    refine zr_iload_n 1 dX8_scanWord_70 rfl ?_
    refine zr_aload_n 0 dX8_scanWord_71 rfl ?_
    refine zr_iload_n 2 dX8_scanWord_72 rfl ?_
    obtain ⟨q3, k7, W⟩ := W
    refine zt_callVi (As := [zI x2]) (rest := [zI x1, zA g 6]) dX8_scanWord_73 kX8_scanWord_52 rfl rfl rfl rfl (Nat.le_of_ble_eq_true rfl) k7 (fun r4 M5 h6 => ?_)
    have W := W r4 M5 h6
    refine zr_iast dX8_scanWord_76 rfl (by decide) c2 ?_
    exact zt_ret dX8_scanWord_77 rfl W
  · have W := W.2 h
    refine zr_iconst dX8_scanWord_60 ?_
    refine zr_goto (tgt := 65) dX8_scanWord_61 (by decide) ?_
    obtain ⟨c8, W⟩ := W
    refine zr_iast dX8_scanWord_65 rfl (by decide) c8 ?_
    refine zr_aload_n 0 dX8_scanWord_66 rfl ?_
    refine zr_getr (b := 6) dX8_scanWord_67 fX8_25 rfl rfl rfl (by decide) ?_
    refine zr_iload_n 1 dX8_scanWord_70 rfl ?_
    refine zr_aload_n 0 dX8_scanWord_71 rfl ?_
    refine zr_iload_n 2 dX8_scanWord_72 rfl ?_
    obtain ⟨q9, k13, W⟩ := W
    refine zt_callVi (As := [zI x2]) (rest := [zI x1, zA g 6]) dX8_scanWord_73 kX8_scanWord_52 rfl rfl rfl rfl (Nat.le_of_ble_eq_true rfl) k13 (fun r10 M11 h12 => ?_)
    have W := W r10 M11 h12
    refine zr_iast dX8_scanWord_76 rfl (by decide) c8 ?_
    exact zt_ret dX8_scanWord_77 rfl W
theorem dX8_scanToken_0 : decode cX8_scanToken 0 = .ok (.iload_n 2, 1) := by decide +kernel
theorem dX8_scanToken_1 : decode cX8_scanToken 1 = .ok (.invokestatic 39, 3) := by decide +kernel
theorem dX8_scanToken_4 : decode cX8_scanToken 4 = .ok (.ifCond .eq 11, 3) := by decide +kernel
theorem dX8_scanToken_7 : decode cX8_scanToken 7 = .ok (.aload_n 0, 1) := by decide +kernel
theorem dX8_scanToken_8 : decode cX8_scanToken 8 = .ok (.iload_n 1, 1) := by decide +kernel
theorem dX8_scanToken_9 : decode cX8_scanToken 9 = .ok (.invokevirtual 42, 3) := by decide +kernel
theorem dX8_scanToken_12 : decode cX8_scanToken 12 = .ok (.goto 45, 3) := by decide +kernel
theorem dX8_scanToken_15 : decode cX8_scanToken 15 = .ok (.iload_n 2, 1) := by decide +kernel
theorem dX8_scanToken_16 : decode cX8_scanToken 16 = .ok (.invokestatic 46, 3) := by decide +kernel
theorem dX8_scanToken_19 : decode cX8_scanToken 19 = .ok (.ifCond .eq 11, 3) := by decide +kernel
theorem dX8_scanToken_22 : decode cX8_scanToken 22 = .ok (.aload_n 0, 1) := by decide +kernel
theorem dX8_scanToken_23 : decode cX8_scanToken 23 = .ok (.iload_n 1, 1) := by decide +kernel
theorem dX8_scanToken_24 : decode cX8_scanToken 24 = .ok (.invokevirtual 49, 3) := by decide +kernel
theorem dX8_scanToken_27 : decode cX8_scanToken 27 = .ok (.goto 30, 3) := by decide +kernel
theorem dX8_scanToken_30 : decode cX8_scanToken 30 = .ok (.aload_n 0, 1) := by decide +kernel
theorem dX8_scanToken_31 : decode cX8_scanToken 31 = .ok (.getfield 19, 3) := by decide +kernel
theorem dX8_scanToken_34 : decode cX8_scanToken 34 = .ok (.iload_n 1, 1) := by decide +kernel
theorem dX8_scanToken_35 : decode cX8_scanToken 35 = .ok (.iload_n 2, 1) := by decide +kernel
theorem dX8_scanToken_36 : decode cX8_scanToken 36 = .ok (.bipush 59, 2) := by decide +kernel
theorem dX8_scanToken_38 : decode cX8_scanToken 38 = .ok (.if_icmp .ne 7, 3) := by decide +kernel
theorem dX8_scanToken_41 : decode cX8_scanToken 41 = .ok (.iconst 3, 1) := by decide +kernel
theorem dX8_scanToken_42 : decode cX8_scanToken 42 = .ok (.goto 4, 3) := by decide +kernel
theorem dX8_scanToken_45 : decode cX8_scanToken 45 = .ok (.iconst 4, 1) := by decide +kernel
theorem dX8_scanToken_46 : decode cX8_scanToken 46 = .ok (.iastore, 1) := by decide +kernel
theorem dX8_scanToken_47 : decode cX8_scanToken 47 = .ok (.aload_n 0, 1) := by decide +kernel
theorem dX8_scanToken_48 : decode cX8_scanToken 48 = .ok (.dup, 1) := by decide +kernel
theorem dX8_scanToken_49 : decode cX8_scanToken 49 = .ok (.getfield 28, 3) := by decide +kernel
theorem dX8_scanToken_52 : decode cX8_scanToken 52 = .ok (.iconst 1, 1) := by decide +kernel
theorem dX8_scanToken_53 : decode cX8_scanToken 53 = .ok (.iadd, 1) := by decide +kernel
theorem dX8_scanToken_54 : decode cX8_scanToken 54 = .ok (.putfield 28, 3) := by decide +kernel
theorem dX8_scanToken_57 : decode cX8_scanToken 57 = .ok (.return_, 1) := by decide +kernel
set_option maxRecDepth 100000 in
theorem SX8_scanToken_0 {g : zG} {o : Bool} {M : zM} {q : zM → Prop} {x1 x2 : Int} (W : (-2147483648 ≤ x2 ∧ x2 ≤ 2147483647) ∧ ((¬ (cLe x2)) → ((¬ (cDi x2)) → (-2147483648 ≤ x2 ∧ x2 ≤ 2147483647) ∧ ((x2 ≠ 59) → (0 ≤ x1 ∧ x1 < 901) ∧ ∀ N10 : zM, N10 = zu M 4 x1 4 → q (zu N10 2 5 ((N10 2 5) + 1))) ∧ ((x2 = 59) → (0 ≤ x1 ∧ x1 < 901) ∧ ∀ N13 : zM, N13 = zu M 4 x1 3 → q (zu N13 2 5 ((N13 2 5) + 1)))) ∧ ((cDi x2) → ∃ q15 : zM → Prop, zKv g (z1 o) mX8_scanNumber [zA g 2, zI x1] M q15 ∧ ∀ M17 : zM, q15 M17 → q M17)) ∧ ((cLe x2) → ∃ q20 : zM → Prop, zKv g (z1 o) mX8_scanWord [zA g 2, zI x1] M q20 ∧ ∀ M22 : zM, q20 M22 → q M22)) : zT g (z1 o) mX8_scanToken (zQv (z1 o) q) 0 [(0, zA g 2), (1, zI x1), (2, zI x2)] [] M := by
  refine zr_iload_n 2 dX8_scanToken_0 rfl ?_
  obtain ⟨c1, W⟩ := W
  refine zt_callSi (As := [zI x2]) (rest := []) dX8_scanToken_1 kX8_scanToken_39 rfl rfl (Nat.le_of_ble_eq_true rfl) (c_isLetter c1) (fun r2 N4 h3 => ?_)
  rw [h3.1, h3.2]
  refine zt_ifeq_b (tgt := 15) dX8_scanToken_4 (by decide) (fun h => ?_) (fun h => ?_)
  · have W := W.1 h
    refine zr_iload_n 2 dX8_scanToken_15 rfl ?_
    refine zt_callSi (As := [zI x2]) (rest := []) dX8_scanToken_16 kX8_scanToken_46 rfl rfl (Nat.le_of_ble_eq_true rfl) (c_isDigit c1) (fun r5 N7 h6 => ?_)
    rw [h6.1, h6.2]
    refine zt_ifeq_b (tgt := 30) dX8_scanToken_19 (by decide) (fun h => ?_) (fun h => ?_)
    · have W := W.1 h
      refine zr_aload_n 0 dX8_scanToken_30 rfl ?_
      refine zr_getr (b := 4) dX8_scanToken_31 fX8_19 rfl rfl rfl (by decide) ?_
      refine zr_iload_n 1 dX8_scanToken_34 rfl ?_
      refine zr_iload_n 2 dX8_scanToken_35 rfl ?_
      refine zr_bipush dX8_scanToken_36 (by decide) ?_
      obtain ⟨c8, W⟩ := W
      refine zr_icmp_ne (tgt := 45) dX8_scanToken_38 (by decide) c8 ⟨by decide, by decide⟩ (fun h => ?_) (fun h => ?_)
      · have W := W.1 h
        refine zr_iconst dX8_scanToken_45 ?_
        obtain ⟨c9, W⟩ := W
        refine zr_iast dX8_scanToken_46 rfl (by decide) c9 ?_
        refine zr_aload_n 0 dX8_scanToken_47 rfl ?_
        refine zr_dup dX8_scanToken_48 rfl ?_
        refine zt_geti 5 rfl dX8_scanToken_49 fX8_28 rfl (by decide) ?_
        refine zr_iconst dX8_scanToken_52 ?_
        refine zr_iadd dX8_scanToken_53 ?_
        obtain ⟨N10, e11⟩ : ∃ N : zM, N = zu M 4 x1 4 := ⟨_, rfl⟩
        rw [← e11]
        have W := W N10 e11
        refine zt_puti 5 rfl dX8_scanToken_54 fX8_28 lcX8 ltX8_5 rfl rfl ?_
        exact zt_ret dX8_scanToken_57 rfl W
      · have W := W.2 h
        refine zr_iconst dX8_scanToken_41 ?_
        refine zr_goto (tgt := 46) dX8_scanToken_42 (by decide) ?_
        obtain ⟨c12, W⟩ := W
        refine zr_iast dX8_scanToken_46 rfl (by decide) c12 ?_
        refine zr_aload_n 0 dX8_scanToken_47 rfl ?_
        refine zr_dup dX8_scanToken_48 rfl ?_
        refine zt_geti 5 rfl dX8_scanToken_49 fX8_28 rfl (by decide) ?_
        refine zr_iconst dX8_scanToken_52 ?_
        refine zr_iadd dX8_scanToken_53 ?_
        obtain ⟨N13, e14⟩ : ∃ N : zM, N = zu M 4 x1 3 := ⟨_, rfl⟩
        rw [← e14]
        have W := W N13 e14
        refine zt_puti 5 rfl dX8_scanToken_54 fX8_28 lcX8 ltX8_5 rfl rfl ?_
        exact zt_ret dX8_scanToken_57 rfl W
    · have W := W.2 h
      refine zr_aload_n 0 dX8_scanToken_22 rfl ?_
      refine zr_iload_n 1 dX8_scanToken_23 rfl ?_
      obtain ⟨q15, k19, W⟩ := W
      refine zt_callVv (As := [zI x1]) (rest := []) dX8_scanToken_24 kX8_scanToken_49 rfl rfl rfl rfl (Nat.le_of_ble_eq_true rfl) k19 (fun M17 h18 => ?_)
      have W := W M17 h18
      refine zr_goto (tgt := 57) dX8_scanToken_27 (by decide) ?_
      exact zt_ret dX8_scanToken_57 rfl W
  · have W := W.2 h
    refine zr_aload_n 0 dX8_scanToken_7 rfl ?_
    refine zr_iload_n 1 dX8_scanToken_8 rfl ?_
    obtain ⟨q20, k24, W⟩ := W
    refine zt_callVv (As := [zI x1]) (rest := []) dX8_scanToken_9 kX8_scanToken_42 rfl rfl rfl rfl (Nat.le_of_ble_eq_true rfl) k24 (fun M22 h23 => ?_)
    have W := W M22 h23
    refine zr_goto (tgt := 57) dX8_scanToken_12 (by decide) ?_
    exact zt_ret dX8_scanToken_57 rfl W
theorem dX8_scan_0 : decode cX8_scan 0 = .ok (.aload_n 0, 1) := by decide +kernel
theorem dX8_scan_1 : decode cX8_scan 1 = .ok (.iconst 0, 1) := by decide +kernel
theorem dX8_scan_2 : decode cX8_scan 2 = .ok (.putfield 28, 3) := by decide +kernel
theorem dX8_scan_5 : decode cX8_scan 5 = .ok (.iconst 0, 1) := by decide +kernel
theorem dX8_scan_6 : decode cX8_scan 6 = .ok (.istore_n 1, 1) := by decide +kernel
theorem dX8_scan_7 : decode cX8_scan 7 = .ok (.iload_n 1, 1) := by decide +kernel
theorem dX8_scan_8 : decode cX8_scan 8 = .ok (.sipush 900, 3) := by decide +kernel
theorem dX8_scan_11 : decode cX8_scan 11 = .ok (.if_icmp .gt 91, 3) := by decide +kernel
theorem dX8_scan_14 : decode cX8_scan 14 = .ok (.aload_n 0, 1) := by decide +kernel
theorem dX8_scan_15 : decode cX8_scan 15 = .ok (.getfield 28, 3) := by decide +kernel
theorem dX8_scan_18 : decode cX8_scan 18 = .ok (.aload_n 0, 1) := by decide +kernel
theorem dX8_scan_19 : decode cX8_scan 19 = .ok (.getfield 15, 3) := by decide +kernel
theorem dX8_scan_22 : decode cX8_scan 22 = .ok (.if_icmp .ge 31, 3) := by decide +kernel
theorem dX8_scan_25 : decode cX8_scan 25 = .ok (.aload_n 0, 1) := by decide +kernel
theorem dX8_scan_26 : decode cX8_scan 26 = .ok (.getfield 9, 3) := by decide +kernel
theorem dX8_scan_29 : decode cX8_scan 29 = .ok (.aload_n 0, 1) := by decide +kernel
theorem dX8_scan_30 : decode cX8_scan 30 = .ok (.getfield 28, 3) := by decide +kernel
theorem dX8_scan_33 : decode cX8_scan 33 = .ok (.iaload, 1) := by decide +kernel
theorem dX8_scan_34 : decode cX8_scan 34 = .ok (.invokestatic 31, 3) := by decide +kernel
theorem dX8_scan_37 : decode cX8_scan 37 = .ok (.ifCond .eq 16, 3) := by decide +kernel
theorem dX8_scan_40 : decode cX8_scan 40 = .ok (.aload_n 0, 1) := by decide +kernel
theorem dX8_scan_41 : decode cX8_scan 41 = .ok (.dup, 1) := by decide +kernel
theorem dX8_scan_42 : decode cX8_scan 42 = .ok (.getfield 28, 3) := by decide +kernel
theorem dX8_scan_45 : decode cX8_scan 45 = .ok (.iconst 1, 1) := by decide +kernel
theorem dX8_scan_46 : decode cX8_scan 46 = .ok (.iadd, 1) := by decide +kernel
theorem dX8_scan_47 : decode cX8_scan 47 = .ok (.putfield 28, 3) := by decide +kernel
theorem dX8_scan_50 : decode cX8_scan 50 = .ok (.goto (-36), 3) := by decide +kernel
theorem dX8_scan_53 : decode cX8_scan 53 = .ok (.aload_n 0, 1) := by decide +kernel
theorem dX8_scan_54 : decode cX8_scan 54 = .ok (.getfield 22, 3) := by decide +kernel
theorem dX8_scan_57 : decode cX8_scan 57 = .ok (.iload_n 1, 1) := by decide +kernel
theorem dX8_scan_58 : decode cX8_scan 58 = .ok (.aload_n 0, 1) := by decide +kernel
theorem dX8_scan_59 : decode cX8_scan 59 = .ok (.getfield 28, 3) := by decide +kernel
theorem dX8_scan_62 : decode cX8_scan 62 = .ok (.iastore, 1) := by decide +kernel
theorem dX8_scan_63 : decode cX8_scan 63 = .ok (.aload_n 0, 1) := by decide +kernel
theorem dX8_scan_64 : decode cX8_scan 64 = .ok (.getfield 28, 3) := by decide +kernel
theorem dX8_scan_67 : decode cX8_scan 67 = .ok (.aload_n 0, 1) := by decide +kernel
theorem dX8_scan_68 : decode cX8_scan 68 = .ok (.getfield 15, 3) := by decide +kernel
theorem dX8_scan_71 : decode cX8_scan 71 = .ok (.if_icmp .lt 11, 3) := by decide +kernel
theorem dX8_scan_74 : decode cX8_scan 74 = .ok (.aload_n 0, 1) := by decide +kernel
theorem dX8_scan_75 : decode cX8_scan 75 = .ok (.getfield 19, 3) := by decide +kernel
theorem dX8_scan_78 : decode cX8_scan 78 = .ok (.iload_n 1, 1) := by decide +kernel
theorem dX8_scan_79 : decode cX8_scan 79 = .ok (.iconst 0, 1) := by decide +kernel
theorem dX8_scan_80 : decode cX8_scan 80 = .ok (.iastore, 1) := by decide +kernel
theorem dX8_scan_81 : decode cX8_scan 81 = .ok (.return_, 1) := by decide +kernel
theorem dX8_scan_82 : decode cX8_scan 82 = .ok (.aload_n 0, 1) := by decide +kernel
theorem dX8_scan_83 : decode cX8_scan 83 = .ok (.iload_n 1, 1) := by decide +kernel
theorem dX8_scan_84 : decode cX8_scan 84 = .ok (.aload_n 0, 1) := by decide +kernel
theorem dX8_scan_85 : decode cX8_scan 85 = .ok (.getfield 9, 3) := by decide +kernel
theorem dX8_scan_88 : decode cX8_scan 88 = .ok (.aload_n 0, 1) := by decide +kernel
theorem dX8_scan_89 : decode cX8_scan 89 = .ok (.getfield 28, 3) := by decide +kernel
theorem dX8_scan_92 : decode cX8_scan 92 = .ok (.iaload, 1) := by decide +kernel
theorem dX8_scan_93 : decode cX8_scan 93 = .ok (.invokevirtual 35, 3) := by decide +kernel
theorem dX8_scan_96 : decode cX8_scan 96 = .ok (.iinc 1 1, 3) := by decide +kernel
theorem dX8_scan_99 : decode cX8_scan 99 = .ok (.goto (-92), 3) := by decide +kernel
theorem dX8_scan_102 : decode cX8_scan 102 = .ok (.return_, 1) := by decide +kernel
set_option maxRecDepth 100000 in
theorem SX8_scan_0 {g : zG} {o : Bool} {M : zM} {q : zM → Prop} (W : zT g (z1 o) mX8_scan (zQv (z1 o) q) 7 [(0, zA g 2), (1, zI 0)] [] (zu M 2 5 0)) : zT g (z1 o) mX8_scan (zQv (z1 o) q) 0 [(0, zA g 2)] [] M := by
  refine zr_aload_n 0 dX8_scan_0 rfl ?_
  refine zr_iconst dX8_scan_1 ?_
  refine zt_puti 5 rfl dX8_scan_2 fX8_28 lcX8 ltX8_5 rfl rfl ?_
  refine zr_iconst dX8_scan_5 ?_
  refine zr_istore_n (l' := [(0, zA g 2), (1, zI 0)]) dX8_scan_6 (by decide) [1, 0] rfl ?_
  exact W
set_option maxRecDepth 100000 in
theorem SX8_scan_7 {g : zG} {o : Bool} {M : zM} {q : zM → Prop} {x1 : Int} (W : (-2147483648 ≤ x1 ∧ x1 ≤ 2147483647) ∧ ((900 < x1) → q M) ∧ ((¬ (900 < x1)) → zT g (z1 o) mX8_scan (zQv (z1 o) q) 14 [(0, zA g 2), (1, zI x1)] [] M)) : zT g (z1 o) mX8_scan (zQv (z1 o) q) 7 [(0, zA g 2), (1, zI x1)] [] M := by
  refine zr_iload_n 1 dX8_scan_7 rfl ?_
  refine zr_sipush dX8_scan_8 (by decide) ?_
  obtain ⟨c1, W⟩ := W
  refine zr_icmp_gt (tgt := 102) dX8_scan_11 (by decide) c1 ⟨by decide, by decide⟩ (fun h => ?_) (fun h => ?_)
  · have W := W.1 h
    exact zt_ret dX8_scan_102 rfl W
  · have W := W.2 h
    exact W
set_option maxRecDepth 100000 in
theorem SX8_scan_14 {g : zG} {o : Bool} {M : zM} {q : zM → Prop} {x1 : Int} (W : (-2147483648 ≤ (M 2 5) ∧ (M 2 5) ≤ 2147483647) ∧ (-2147483648 ≤ (M 2 1) ∧ (M 2 1) ≤ 2147483647) ∧ (((M 2 1) ≤ (M 2 5)) → zT g (z1 o) mX8_scan (zQv (z1 o) q) 53 [(0, zA g 2), (1, zI x1)] [] M) ∧ ((¬ ((M 2 1) ≤ (M 2 5))) → (0 ≤ (M 2 5) ∧ (M 2 5) < 900) ∧ (-2147483648 ≤ (M 3 (M 2 5)) ∧ (M 3 (M 2 5)) ≤ 2147483647) ∧ ((¬ (cBl (M 3 (M 2 5)))) → zT g (z1 o) mX8_scan (zQv (z1 o) q) 53 [(0, zA g 2), (1, zI x1)] [] M) ∧ ((cBl (M 3 (M 2 5))) → zT g (z1 o) mX8_scan (zQv (z1 o) q) 14 [(0, zA g 2), (1, zI x1)] [] (zu M 2 5 ((M 2 5) + 1))))) : zT g (z1 o) mX8_scan (zQv (z1 o) q) 14 [(0, zA g 2), (1, zI x1)] [] M := by
  refine zr_aload_n 0 dX8_scan_14 rfl ?_
  refine zt_geti 5 rfl dX8_scan_15 fX8_28 rfl (by decide) ?_
  refine zr_aload_n 0 dX8_scan_18 rfl ?_
  refine zt_geti 1 rfl dX8_scan_19 fX8_15 rfl (by decide) ?_
  obtain ⟨c1, W⟩ := W
  obtain ⟨c2, W⟩ := W
  refine zr_icmp_ge (tgt := 53) dX8_scan_22 (by decide) c1 c2 (fun h => ?_) (fun h => ?_)
  · have W := W.1 h
    exact W
  · have W := W.2 h
    refine zr_aload_n 0 dX8_scan_25 rfl ?_
    refine zr_getr (b := 3) dX8_scan_26 fX8_9 rfl rfl rfl (by decide) ?_
    refine zr_aload_n 0 dX8_scan_29 rfl ?_
    refine zt_geti 5 rfl dX8_scan_30 fX8_28 rfl (by decide) ?_
    obtain ⟨c3, W⟩ := W
    refine zr_iald dX8_scan_33 rfl (by decide) c3 ?_
    obtain ⟨c4, W⟩ := W
    refine zt_callSi (As := [zI (M 3 (M 2 5))]) (rest := []) dX8_scan_34 kX8_scan_31 rfl rfl (Nat.le_of_ble_eq_true rfl) (c_isBlank c4) (fun r5 N7 h6 => ?_)
    rw [h6.1, h6.2]
    refine zt_ifeq_b (tgt := 53) dX8_scan_37 (by decide) (fun h => ?_) (fun h => ?_)
    · have W := W.1 h
      exact W
    · have W := W.2 h
      refine zr_aload_n 0 dX8_scan_40 rfl ?_
      refine zr_dup dX8_scan_41 rfl ?_
      refine zt_geti 5 rfl dX8_scan_42 fX8_28 rfl (by decide) ?_
      refine zr_iconst dX8_scan_45 ?_
      refine zr_iadd dX8_scan_46 ?_
      refine zt_puti 5 rfl dX8_scan_47 fX8_28 lcX8 ltX8_5 rfl rfl ?_
      refine zr_goto (tgt := 14) dX8_scan_50 (by decide) ?_
      exact W
set_option maxRecDepth 100000 in
theorem SX8_scan_53 {g : zG} {o : Bool} {M : zM} {q : zM → Prop} {x1 : Int} (W : (0 ≤ x1 ∧ x1 < 901) ∧ (-2147483648 ≤ ((zu M 5 x1 (M 2 5)) 2 5) ∧ ((zu M 5 x1 (M 2 5)) 2 5) ≤ 2147483647) ∧ (-2147483648 ≤ ((zu M 5 x1 (M 2 5)) 2 1) ∧ ((zu M 5 x1 (M 2 5)) 2 1) ≤ 2147483647) ∧ ((((zu M 5 x1 (M 2 5)) 2 5) < ((zu M 5 x1 (M 2 5)) 2 1)) → (0 ≤ ((zu M 5 x1 (M 2 5)) 2 5) ∧ ((zu M 5 x1 (M 2 5)) 2 5) < 900) ∧ ∃ q5 : zM → Prop, zKv g (z1 o) mX8_scanToken [zA g 2, zI x1, zI ((zu M 5 x1 (M 2 5)) 3 ((zu M 5 x1 (M 2 5)) 2 5))] (zu M 5 x1 (M 2 5)) q5 ∧ ∀ M7 : zM, q5 M7 → zT g (z1 o) mX8_scan (zQv (z1 o) q) 7 [(0, zA g 2), (1, zI (x1 + 1))] [] M7) ∧ ((¬ (((zu M 5 x1 (M 2 5)) 2 5) < ((zu M 5 x1 (M 2 5)) 2 1))) → ∀ N10 : zM, N10 = zu M 5 x1 (M 2 5) → q (zu N10 4 x1 0))) : zT g (z1 o) mX8_scan (zQv (z1 o) q) 53 [(0, zA g 2), (1, zI x1)] [] M := by
  refine zr_aload_n 0 dX8_scan_53 rfl ?_
  refine zr_getr (b := 5) dX8_scan_54 fX8_22 rfl rfl rfl (by decide) ?_
  refine zr_iload_n 1 dX8_scan_57 rfl ?_
  refine zr_aload_n 0 dX8_scan_58 rfl ?_
  refine zt_geti 5 rfl dX8_scan_59 fX8_28 rfl (by decide) ?_
  obtain ⟨c1, W⟩ := W
  refine zr_iast dX8_scan_62 rfl (by decide) c1 ?_
  refine zr_aload_n 0 dX8_scan_63 rfl ?_
  refine zt_geti 5 rfl dX8_scan_64 fX8_28 rfl (by decide) ?_
  refine zr_aload_n 0 dX8_scan_67 rfl ?_
  refine zt_geti 1 rfl dX8_scan_68 fX8_15 rfl (by decide) ?_
  obtain ⟨c2, W⟩ := W
  obtain ⟨c3, W⟩ := W
  refine zr_icmp_lt (tgt := 82) dX8_scan_71 (by decide) c2 c3 (fun h => ?_) (fun h => ?_)
  · have W := W.1 h
    refine zr_aload_n 0 dX8_scan_82 rfl ?_
    refine zr_iload_n 1 dX8_scan_83 rfl ?_
    refine zr_aload_n 0 dX8_scan_84 rfl ?_
    refine zr_getr (b := 3) dX8_scan_85 fX8_9 rfl rfl rfl (by decide) ?_
    refine zr_aload_n 0 dX8_scan_88 rfl ?_
    refine zt_geti 5 rfl dX8_scan_89 fX8_28 rfl (by decide) ?_
    obtain ⟨c4, W⟩ := W
    refine zr_iald dX8_scan_92 rfl (by decide) c4 ?_
    obtain ⟨q5, k9, W⟩ := W
    refine zt_callVv (As := [zI x1, zI ((zu M 5 x1 (M 2 5)) 3 ((zu M 5 x1 (M 2 5)) 2 5))]) (rest := []) dX8_scan_93 kX8_scan_35 rfl rfl rfl rfl (Nat.le_of_ble_eq_true rfl) k9 (fun M7 h8 => ?_)
    have W := W M7 h8
    refine zr_iinc (q := 1) (l' := [(0, zA g 2), (1, zI (x1 + 1))]) dX8_scan_96 rfl (by decide) [1, 0] rfl ?_
    refine zr_goto (tgt := 7) dX8_scan_99 (by decide) ?_
    exact W
  · have W := W.2 h
    refine zr_aload_n 0 dX8_scan_74 rfl ?_
    refine zr_getr (b := 4) dX8_scan_75 fX8_19 rfl rfl rfl (by decide) ?_
    refine zr_iload_n 1 dX8_scan_78 rfl ?_
    refine zr_iconst dX8_scan_79 ?_
    obtain ⟨N10, e11⟩ : ∃ N : zM, N = zu M 5 x1 (M 2 5) := ⟨_, rfl⟩
    rw [← e11]
    have W := W N10 e11
    refine zr_iast dX8_scan_80 rfl (by decide) c1 ?_
    exact zt_ret dX8_scan_81 rfl W
theorem dX10_goOn_0 : decode cX10_goOn 0 = .ok (.aload_n 0, 1) := by decide +kernel
theorem dX10_goOn_1 : decode cX10_goOn 1 = .ok (.iconst 0, 1) := by decide +kernel
theorem dX10_goOn_2 : decode cX10_goOn 2 = .ok (.invokevirtual 116, 3) := by decide +kernel
theorem dX10_goOn_5 : decode cX10_goOn 5 = .ok (.bipush 32, 2) := by decide +kernel
theorem dX10_goOn_7 : decode cX10_goOn 7 = .ok (.if_icmp .eq 13, 3) := by decide +kernel
theorem dX10_goOn_10 : decode cX10_goOn 10 = .ok (.aload_n 0, 1) := by decide +kernel
theorem dX10_goOn_11 : decode cX10_goOn 11 = .ok (.iconst 0, 1) := by decide +kernel
theorem dX10_goOn_12 : decode cX10_goOn 12 = .ok (.invokevirtual 116, 3) := by decide +kernel
theorem dX10_goOn_15 : decode cX10_goOn 15 = .ok (.bipush 10, 2) := by decide +kernel
theorem dX10_goOn_17 : decode cX10_goOn 17 = .ok (.if_icmp .ne 16, 3) := by decide +kernel
theorem dX10_goOn_20 : decode cX10_goOn 20 = .ok (.aload_n 0, 1) := by decide +kernel
theorem dX10_goOn_21 : decode cX10_goOn 21 = .ok (.dup, 1) := by decide +kernel
theorem dX10_goOn_22 : decode cX10_goOn 22 = .ok (.getfield 110, 3) := by decide +kernel
theorem dX10_goOn_25 : decode cX10_goOn 25 = .ok (.iconst 1, 1) := by decide +kernel
theorem dX10_goOn_26 : decode cX10_goOn 26 = .ok (.iadd, 1) := by decide +kernel
theorem dX10_goOn_27 : decode cX10_goOn 27 = .ok (.putfield 110, 3) := by decide +kernel
theorem dX10_goOn_30 : decode cX10_goOn 30 = .ok (.goto (-30), 3) := by decide +kernel
theorem dX10_goOn_33 : decode cX10_goOn 33 = .ok (.aload_n 0, 1) := by decide +kernel
theorem dX10_goOn_34 : decode cX10_goOn 34 = .ok (.aload_n 0, 1) := by decide +kernel
theorem dX10_goOn_35 : decode cX10_goOn 35 = .ok (.getfield 110, 3) := by decide +kernel
theorem dX10_goOn_38 : decode cX10_goOn 38 = .ok (.putfield 120, 3) := by decide +kernel
theorem dX10_goOn_41 : decode cX10_goOn 41 = .ok (.iconst 0, 1) := by decide +kernel
theorem dX10_goOn_42 : decode cX10_goOn 42 = .ok (.istore_n 1, 1) := by decide +kernel
theorem dX10_goOn_43 : decode cX10_goOn 43 = .ok (.aload_n 0, 1) := by decide +kernel
theorem dX10_goOn_44 : decode cX10_goOn 44 = .ok (.lconst 0, 1) := by decide +kernel
theorem dX10_goOn_45 : decode cX10_goOn 45 = .ok (.putfield 123, 3) := by decide +kernel
theorem dX10_goOn_48 : decode cX10_goOn 48 = .ok (.aload_n 0, 1) := by decide +kernel
theorem dX10_goOn_49 : decode cX10_goOn 49 = .ok (.iconst 0, 1) := by decide +kernel
theorem dX10_goOn_50 : decode cX10_goOn 50 = .ok (.putfield 127, 3) := by decide +kernel
theorem dX10_goOn_53 : decode cX10_goOn 53 = .ok (.aload_n 0, 1) := by decide +kernel
theorem dX10_goOn_54 : decode cX10_goOn 54 = .ok (.iconst 0, 1) := by decide +kernel
theorem dX10_goOn_55 : decode cX10_goOn 55 = .ok (.invokevirtual 116, 3) := by decide +kernel
theorem dX10_goOn_58 : decode cX10_goOn 58 = .ok (.ifCond .ge 9, 3) := by decide +kernel
theorem dX10_goOn_61 : decode cX10_goOn 61 = .ok (.aload_n 0, 1) := by decide +kernel
theorem dX10_goOn_62 : decode cX10_goOn 62 = .ok (.iconst 0, 1) := by decide +kernel
theorem dX10_goOn_63 : decode cX10_goOn 63 = .ok (.putfield 130, 3) := by decide +kernel
theorem dX10_goOn_66 : decode cX10_goOn 66 = .ok (.return_, 1) := by decide +kernel
theorem dX10_goOn_67 : decode cX10_goOn 67 = .ok (.aload_n 0, 1) := by decide +kernel
theorem dX10_goOn_68 : decode cX10_goOn 68 = .ok (.iconst 0, 1) := by decide +kernel
theorem dX10_goOn_69 : decode cX10_goOn 69 = .ok (.invokevirtual 116, 3) := by decide +kernel
theorem dX10_goOn_72 : decode cX10_goOn 72 = .ok (.invokestatic 133, 3) := by decide +kernel
theorem dX10_goOn_75 : decode cX10_goOn 75 = .ok (.ifCond .eq 62, 3) := by decide +kernel
theorem dX10_goOn_78 : decode cX10_goOn 78 = .ok (.aload_n 0, 1) := by decide +kernel
theorem dX10_goOn_79 : decode cX10_goOn 79 = .ok (.iload_n 1, 1) := by decide +kernel
theorem dX10_goOn_80 : decode cX10_goOn 80 = .ok (.invokevirtual 116, 3) := by decide +kernel
theorem dX10_goOn_83 : decode cX10_goOn 83 = .ok (.invokestatic 133, 3) := by decide +kernel
theorem dX10_goOn_86 : decode cX10_goOn 86 = .ok (.ifCond .eq 33, 3) := by decide +kernel
theorem dX10_goOn_89 : decode cX10_goOn 89 = .ok (.iload_n 1, 1) := by decide +kernel
theorem dX10_goOn_90 : decode cX10_goOn 90 = .ok (.bipush 8, 2) := by decide +kernel
theorem dX10_goOn_92 : decode cX10_goOn 92 = .ok (.if_icmp .ge 21, 3) := by decide +kernel
theorem dX10_goOn_95 : decode cX10_goOn 95 = .ok (.aload_n 0, 1) := by decide +kernel
theorem dX10_goOn_96 : decode cX10_goOn 96 = .ok (.aload_n 0, 1) := by decide +kernel
theorem dX10_goOn_97 : decode cX10_goOn 97 = .ok (.getfield 123, 3) := by decide +kernel
theorem dX10_goOn_100 : decode cX10_goOn 100 = .ok (.bipush 8, 2) := by decide +kernel
theorem dX10_goOn_102 : decode cX10_goOn 102 = .ok (.lshl, 1) := by decide +kernel
theorem dX10_goOn_103 : decode cX10_goOn 103 = .ok (.aload_n 0, 1) := by decide +kernel
theorem dX10_goOn_104 : decode cX10_goOn 104 = .ok (.iload_n 1, 1) := by decide +kernel
theorem dX10_goOn_105 : decode cX10_goOn 105 = .ok (.invokevirtual 116, 3) := by decide +kernel
theorem dX10_goOn_108 : decode cX10_goOn 108 = .ok (.i2l, 1) := by decide +kernel
theorem dX10_goOn_109 : decode cX10_goOn 109 = .ok (.lor, 1) := by decide +kernel
theorem dX10_goOn_110 : decode cX10_goOn 110 = .ok (.putfield 123, 3) := by decide +kernel
theorem dX10_goOn_113 : decode cX10_goOn 113 = .ok (.iinc 1 1, 3) := by decide +kernel
theorem dX10_goOn_116 : decode cX10_goOn 116 = .ok (.goto (-38), 3) := by decide +kernel
theorem dX10_goOn_119 : decode cX10_goOn 119 = .ok (.aload_n 0, 1) := by decide +kernel
theorem dX10_goOn_120 : decode cX10_goOn 120 = .ok (.iload_n 1, 1) := by decide +kernel
theorem dX10_goOn_121 : decode cX10_goOn 121 = .ok (.bipush 8, 2) := by decide +kernel
theorem dX10_goOn_123 : decode cX10_goOn 123 = .ok (.if_icmp .le 7, 3) := by decide +kernel
theorem dX10_goOn_126 : decode cX10_goOn 126 = .ok (.iconst 4, 1) := by decide +kernel
theorem dX10_goOn_127 : decode cX10_goOn 127 = .ok (.goto 4, 3) := by decide +kernel
theorem dX10_goOn_130 : decode cX10_goOn 130 = .ok (.iconst 1, 1) := by decide +kernel
theorem dX10_goOn_131 : decode cX10_goOn 131 = .ok (.putfield 130, 3) := by decide +kernel
theorem dX10_goOn_134 : decode cX10_goOn 134 = .ok (.goto 105, 3) := by decide +kernel
theorem dX10_goOn_137 : decode cX10_goOn 137 = .ok (.aload_n 0, 1) := by decide +kernel
theorem dX10_goOn_138 : decode cX10_goOn 138 = .ok (.iconst 0, 1) := by decide +kernel
theorem dX10_goOn_139 : decode cX10_goOn 139 = .ok (.invokevirtual 116, 3) := by decide +kernel
theorem dX10_goOn_142 : decode cX10_goOn 142 = .ok (.invokestatic 137, 3) := by decide +kernel
theorem dX10_goOn_145 : decode cX10_goOn 145 = .ok (.ifCond .eq 73, 3) := by decide +kernel
theorem dX10_goOn_148 : decode cX10_goOn 148 = .ok (.aload_n 0, 1) := by decide +kernel
theorem dX10_goOn_149 : decode cX10_goOn 149 = .ok (.iload_n 1, 1) := by decide +kernel
theorem dX10_goOn_150 : decode cX10_goOn 150 = .ok (.invokevirtual 116, 3) := by decide +kernel
theorem dX10_goOn_153 : decode cX10_goOn 153 = .ok (.invokestatic 137, 3) := by decide +kernel
theorem dX10_goOn_156 : decode cX10_goOn 156 = .ok (.ifCond .eq 34, 3) := by decide +kernel
theorem dX10_goOn_159 : decode cX10_goOn 159 = .ok (.iload_n 1, 1) := by decide +kernel
theorem dX10_goOn_160 : decode cX10_goOn 160 = .ok (.iconst 4, 1) := by decide +kernel
theorem dX10_goOn_161 : decode cX10_goOn 161 = .ok (.if_icmp .ge 23, 3) := by decide +kernel
theorem dX10_goOn_164 : decode cX10_goOn 164 = .ok (.aload_n 0, 1) := by decide +kernel
theorem dX10_goOn_165 : decode cX10_goOn 165 = .ok (.bipush 10, 2) := by decide +kernel
theorem dX10_goOn_167 : decode cX10_goOn 167 = .ok (.aload_n 0, 1) := by decide +kernel
theorem dX10_goOn_168 : decode cX10_goOn 168 = .ok (.getfield 127, 3) := by decide +kernel
theorem dX10_goOn_171 : decode cX10_goOn 171 = .ok (.imul, 1) := by decide +kernel
theorem dX10_goOn_172 : decode cX10_goOn 172 = .ok (.aload_n 0, 1) := by decide +kernel
theorem dX10_goOn_173 : decode cX10_goOn 173 = .ok (.iload_n 1, 1) := by decide +kernel
theorem dX10_goOn_174 : decode cX10_goOn 174 = .ok (.invokevirtual 116, 3) := by decide +kernel
theorem dX10_goOn_177 : decode cX10_goOn 177 = .ok (.iadd, 1) := by decide +kernel
theorem dX10_goOn_178 : decode cX10_goOn 178 = .ok (.bipush 48, 2) := by decide +kernel
theorem dX10_goOn_180 : decode cX10_goOn 180 = .ok (.isub, 1) := by decide +kernel
theorem dX10_goOn_181 : decode cX10_goOn 181 = .ok (.putfield 127, 3) := by decide +kernel
theorem dX10_goOn_184 : decode cX10_goOn 184 = .ok (.iinc 1 1, 3) := by decide +kernel
theorem dX10_goOn_187 : decode cX10_goOn 187 = .ok (.goto (-39), 3) := by decide +kernel
theorem dX10_goOn_190 : decode cX10_goOn 190 = .ok (.aload_n 0, 1) := by decide +kernel
theorem dX10_goOn_191 : decode cX10_goOn 191 = .ok (.iload_n 1, 1) := by decide +kernel
theorem dX10_goOn_192 : decode cX10_goOn 192 = .ok (.iconst 4, 1) := by decide +kernel
theorem dX10_goOn_193 : decode cX10_goOn 193 = .ok (.if_icmp .gt 14, 3) := by decide +kernel
theorem dX10_goOn_196 : decode cX10_goOn 196 = .ok (.aload_n 0, 1) := by decide +kernel
theorem dX10_goOn_197 : decode cX10_goOn 197 = .ok (.iload_n 1, 1) := by decide +kernel
theorem dX10_goOn_198 : decode cX10_goOn 198 = .ok (.invokevirtual 116, 3) := by decide +kernel
theorem dX10_goOn_201 : decode cX10_goOn 201 = .ok (.invokestatic 133, 3) := by decide +kernel
theorem dX10_goOn_204 : decode cX10_goOn 204 = .ok (.ifCond .eq 7, 3) := by decide +kernel
theorem dX10_goOn_207 : decode cX10_goOn 207 = .ok (.iconst 4, 1) := by decide +kernel
theorem dX10_goOn_208 : decode cX10_goOn 208 = .ok (.goto 4, 3) := by decide +kernel
theorem dX10_goOn_211 : decode cX10_goOn 211 = .ok (.iconst 2, 1) := by decide +kernel
theorem dX10_goOn_212 : decode cX10_goOn 212 = .ok (.putfield 130, 3) := by decide +kernel
theorem dX10_goOn_215 : decode cX10_goOn 215 = .ok (.goto 24, 3) := by decide +kernel
theorem dX10_goOn_218 : decode cX10_goOn 218 = .ok (.aload_n 0, 1) := by decide +kernel
theorem dX10_goOn_219 : decode cX10_goOn 219 = .ok (.aload_n 0, 1) := by decide +kernel
theorem dX10_goOn_220 : decode cX10_goOn 220 = .ok (.iconst 0, 1) := by decide +kernel
theorem dX10_goOn_221 : decode cX10_goOn 221 = .ok (.invokevirtual 116, 3) := by decide +kernel
theorem dX10_goOn_224 : decode cX10_goOn 224 = .ok (.bipush 59, 2) := by decide +kernel
theorem dX10_goOn_226 : decode cX10_goOn 226 = .ok (.if_icmp .ne 7, 3) := by decide +kernel
theorem dX10_goOn_229 : decode cX10_goOn 229 = .ok (.iconst 3, 1) := by decide +kernel
theorem dX10_goOn_230 : decode cX10_goOn 230 = .ok (.goto 4, 3) := by decide +kernel
theorem dX10_goOn_233 : decode cX10_goOn 233 = .ok (.iconst 4, 1) := by decide +kernel
theorem dX10_goOn_234 : decode cX10_goOn 234 = .ok (.putfield 130, 3) := by decide +kernel
theorem dX10_goOn_237 : decode cX10_goOn 237 = .ok (.iconst 1, 1) := by decide +kernel
theorem dX10_goOn_238 : decode cX10_goOn 238 = .ok (.istore_n 1, 1) := by decide +kernel
theorem dX10_goOn_239 : decode cX10_goOn 239 = .ok (.aload_n 0, 1) := by decide +kernel
theorem dX10_goOn_240 : decode cX10_goOn 240 = .ok (.dup, 1) := by decide +kernel
theorem dX10_goOn_241 : decode cX10_goOn 241 = .ok (.getfield 110, 3) := by decide +kernel
theorem dX10_goOn_244 : decode cX10_goOn 244 = .ok (.iload_n 1, 1) := by decide +kernel
theorem dX10_goOn_245 : decode cX10_goOn 245 = .ok (.iadd, 1) := by decide +kernel
theorem dX10_goOn_246 : decode cX10_goOn 246 = .ok (.putfield 110, 3) := by decide +kernel
theorem dX10_goOn_249 : decode cX10_goOn 249 = .ok (.return_, 1) := by decide +kernel
set_option maxRecDepth 100000 in
theorem SX10_goOn_0 {g : zG} {o : Bool} {M : zM} {q : zM → Prop} (W : (hOk M ((M 1 3) + 0)) ∧ (-2147483648 ≤ (hr M ((M 1 3) + 0)) ∧ (hr M ((M 1 3) + 0)) ≤ 2147483647) ∧ (((hr M ((M 1 3) + 0)) = 32) → zT g (z2 o) mX10_goOn (zQv (z2 o) q) 0 [(0, zA g 1)] [] (zu M 1 3 ((M 1 3) + 1))) ∧ ((¬ ((hr M ((M 1 3) + 0)) = 32)) → (((hr M ((M 1 3) + 0)) ≠ 10) → ∀ N9 : zM, N9 = zu M 1 4 (M 1 3) → ∀ N11 : zM, N11 = zu N9 1 11 0 → (hOk (zu N11 1 6 0) (((zu N11 1 6 0) 1 3) + 0)) ∧ (-2147483648 ≤ (hr (zu N11 1 6 0) (((zu N11 1 6 0) 1 3) + 0)) ∧ (hr (zu N11 1 6 0) (((zu N11 1 6 0) 1 3) + 0)) ≤ 2147483647) ∧ ((0 ≤ (hr (zu N11 1 6 0) (((zu N11 1 6 0) 1 3) + 0))) → (-2147483648 ≤ (hr (zu N11 1 6 0) (((zu N11 1 6 0) 1 3) + 0)) ∧ (hr (zu N11 1 6 0) (((zu N11 1 6 0) 1 3) + 0)) ≤ 2147483647) ∧ ((¬ (cLe (hr (zu N11 1 6 0) (((zu N11 1 6 0) 1 3) + 0)))) → ((¬ (cDi (hr (zu N11 1 6 0) (((zu N11 1 6 0) 1 3) + 0)))) → (((hr (zu N11 1 6 0) (((zu N11 1 6 0) 1 3) + 0)) ≠ 59) → ∀ N34 : zM, N34 = zu N11 1 6 0 → ∀ N36 : zM, N36 = zu N34 1 5 4 → q (zu N36 1 3 ((N36 1 3) + 1))) ∧ (((hr (zu N11 1 6 0) (((zu N11 1 6 0) 1 3) + 0)) = 59) → ∀ N38 : zM, N38 = zu N11 1 6 0 → ∀ N40 : zM, N40 = zu N38 1 5 3 → q (zu N40 1 3 ((N40 1 3) + 1)))) ∧ ((cDi (hr (zu N11 1 6 0) (((zu N11 1 6 0) 1 3) + 0))) → zT g (z2 o) mX10_goOn (zQv (z2 o) q) 148 [(0, zA g 1), (1, zI 0)] [] (zu N11 1 6 0))) ∧ ((cLe (hr (zu N11 1 6 0) (((zu N11 1 6 0) 1 3) + 0))) → zT g (z2 o) mX10_goOn (zQv (z2 o) q) 78 [(0, zA g 1), (1, zI 0)] [] (zu N11 1 6 0))) ∧ ((¬ (0 ≤ (hr (zu N11 1 6 0) (((zu N11 1 6 0) 1 3) + 0)))) → ∀ N42 : zM, N42 = zu N11 1 6 0 → q (zu N42 1 5 0))) ∧ (((hr M ((M 1 3) + 0)) = 10) → zT g (z2 o) mX10_goOn (zQv (z2 o) q) 0 [(0, zA g 1)] [] (zu M 1 3 ((M 1 3) + 1))))) : zT g (z2 o) mX10_goOn (zQv (z2 o) q) 0 [(0, zA g 1)] [] M := by
  refine zr_aload_n 0 dX10_goOn_0 rfl ?_
  refine zr_iconst dX10_goOn_1 ?_
  obtain ⟨c1, W⟩ := W
  refine zt_callVi (As := [zI 0]) (rest := []) dX10_goOn_2 kX10_goOn_116 rfl rfl rfl rfl (Nat.le_of_ble_eq_true rfl) (c_here c1) (fun r2 N4 h3 => ?_)
  rw [h3.1, h3.2]
  refine zr_bipush dX10_goOn_5 (by decide) ?_
  obtain ⟨c5, W⟩ := W
  refine zr_icmp_eq (tgt := 20) dX10_goOn_7 (by decide) c5 ⟨by decide, by decide⟩ (fun h => ?_) (fun h => ?_)
  · have W := W.1 h
    refine zr_aload_n 0 dX10_goOn_20 rfl ?_
    refine zr_dup dX10_goOn_21 rfl ?_
    refine zt_geti 3 rfl dX10_goOn_22 fX10_110 rfl (by decide) ?_
    refine zr_iconst dX10_goOn_25 ?_
    refine zr_iadd dX10_goOn_26 ?_
    refine zt_puti 3 rfl dX10_goOn_27 fX10_110 lcX10 ltX10_3 rfl rfl ?_
    refine zr_goto (tgt := 0) dX10_goOn_30 (by decide) ?_
    exact W
  · have W := W.2 h
    refine zr_aload_n 0 dX10_goOn_10 rfl ?_
    refine zr_iconst dX10_goOn_11 ?_
    refine zt_callVi (As := [zI 0]) (rest := []) dX10_goOn_12 kX10_goOn_116 rfl rfl rfl rfl (Nat.le_of_ble_eq_true rfl) (c_here c1) (fun r6 N8 h7 => ?_)
    rw [h7.1, h7.2]
    refine zr_bipush dX10_goOn_15 (by decide) ?_
    refine zr_icmp_ne (tgt := 33) dX10_goOn_17 (by decide) c5 ⟨by decide, by decide⟩ (fun h => ?_) (fun h => ?_)
    · have W := W.1 h
      refine zr_aload_n 0 dX10_goOn_33 rfl ?_
      refine zr_aload_n 0 dX10_goOn_34 rfl ?_
      refine zt_geti 3 rfl dX10_goOn_35 fX10_110 rfl (by decide) ?_
      refine zt_puti 4 rfl dX10_goOn_38 fX10_120 lcX10 ltX10_4 rfl rfl ?_
      refine zr_iconst dX10_goOn_41 ?_
      refine zr_istore_n (l' := [(0, zA g 1), (1, zI 0)]) dX10_goOn_42 (by decide) [1, 0] rfl ?_
      refine zr_aload_n 0 dX10_goOn_43 rfl ?_
      refine zr_lconst (x := 0) dX10_goOn_44 rfl ?_
      obtain ⟨N9, e10⟩ : ∃ N : zM, N = zu M 1 4 (M 1 3) := ⟨_, rfl⟩
      rw [← e10]
      have W := W N9 e10
      refine zt_putl 11 rfl dX10_goOn_45 fX10_123 lcX10 ltX10_11 rfl rfl ?_
      refine zr_aload_n 0 dX10_goOn_48 rfl ?_
      refine zr_iconst dX10_goOn_49 ?_
      obtain ⟨N11, e12⟩ : ∃ N : zM, N = zu N9 1 11 0 := ⟨_, rfl⟩
      rw [← e12]
      have W := W N11 e12
      refine zt_puti 6 rfl dX10_goOn_50 fX10_127 lcX10 ltX10_6 rfl rfl ?_
      refine zr_aload_n 0 dX10_goOn_53 rfl ?_
      refine zr_iconst dX10_goOn_54 ?_
      obtain ⟨c13, W⟩ := W
      refine zt_callVi (As := [zI 0]) (rest := []) dX10_goOn_55 kX10_goOn_116 rfl rfl rfl rfl (Nat.le_of_ble_eq_true rfl) (c_here c13) (fun r14 N16 h15 => ?_)
      rw [h15.1, h15.2]
      obtain ⟨c17, W⟩ := W
      refine zr_if_ge (tgt := 67) dX10_goOn_58 (by decide) c17 (fun h => ?_) (fun h => ?_)
      · have W := W.1 h
        refine zr_aload_n 0 dX10_goOn_67 rfl ?_
        refine zr_iconst dX10_goOn_68 ?_
        refine zt_callVi (As := [zI 0]) (rest := []) dX10_goOn_69 kX10_goOn_116 rfl rfl rfl rfl (Nat.le_of_ble_eq_true rfl) (c_here c13) (fun r18 N20 h19 => ?_)
        rw [h19.1, h19.2]
        obtain ⟨c21, W⟩ := W
        refine zt_callSi (As := [zI (hr (zu N11 1 6 0) (((zu N11 1 6 0) 1 3) + 0))]) (rest := []) dX10_goOn_72 kX10_goOn_133 rfl rfl (Nat.le_of_ble_eq_true rfl) (c_isLetterR c21) (fun r22 N24 h23 => ?_)
        rw [h23.1, h23.2]
        refine zt_ifeq_b (tgt := 137) dX10_goOn_75 (by decide) (fun h => ?_) (fun h => ?_)
        · have W := W.1 h
          refine zr_aload_n 0 dX10_goOn_137 rfl ?_
          refine zr_iconst dX10_goOn_138 ?_
          refine zt_callVi (As := [zI 0]) (rest := []) dX10_goOn_139 kX10_goOn_116 rfl rfl rfl rfl (Nat.le_of_ble_eq_true rfl) (c_here c13) (fun r25 N27 h26 => ?_)
          rw [h26.1, h26.2]
          refine zt_callSi (As := [zI (hr (zu N11 1 6 0) (((zu N11 1 6 0) 1 3) + 0))]) (rest := []) dX10_goOn_142 kX10_goOn_137 rfl rfl (Nat.le_of_ble_eq_true rfl) (c_isDigitR c21) (fun r28 N30 h29 => ?_)
          rw [h29.1, h29.2]
          refine zt_ifeq_b (tgt := 218) dX10_goOn_145 (by decide) (fun h => ?_) (fun h => ?_)
          · have W := W.1 h
            refine zr_aload_n 0 dX10_goOn_218 rfl ?_
            refine zr_aload_n 0 dX10_goOn_219 rfl ?_
            refine zr_iconst dX10_goOn_220 ?_
            refine zt_callVi (As := [zI 0]) (rest := [zA g 1]) dX10_goOn_221 kX10_goOn_116 rfl rfl rfl rfl (Nat.le_of_ble_eq_true rfl) (c_here c13) (fun r31 N33 h32 => ?_)
            rw [h32.1, h32.2]
            refine zr_bipush dX10_goOn_224 (by decide) ?_
            refine zr_icmp_ne (tgt := 233) dX10_goOn_226 (by decide) c17 ⟨by decide, by decide⟩ (fun h => ?_) (fun h => ?_)
            · have W := W.1 h
              refine zr_iconst dX10_goOn_233 ?_
              obtain ⟨N34, e35⟩ : ∃ N : zM, N = zu N11 1 6 0 := ⟨_, rfl⟩
              rw [← e35]
              have W := W N34 e35
              refine zt_puti 5 rfl dX10_goOn_234 fX10_130 lcX10 ltX10_5 rfl rfl ?_
              refine zr_iconst dX10_goOn_237 ?_
              refine zr_istore_n (l' := [(0, zA g 1), (1, zI 1)]) dX10_goOn_238 (by decide) [1, 0] rfl ?_
              refine zr_aload_n 0 dX10_goOn_239 rfl ?_
              refine zr_dup dX10_goOn_240 rfl ?_
              refine zt_geti 3 rfl dX10_goOn_241 fX10_110 rfl (by decide) ?_
              refine zr_iload_n 1 dX10_goOn_244 rfl ?_
              refine zr_iadd dX10_goOn_245 ?_
              obtain ⟨N36, e37⟩ : ∃ N : zM, N = zu N34 1 5 4 := ⟨_, rfl⟩
              rw [← e37]
              have W := W N36 e37
              refine zt_puti 3 rfl dX10_goOn_246 fX10_110 lcX10 ltX10_3 rfl rfl ?_
              exact zt_ret dX10_goOn_249 rfl W
            · have W := W.2 h
              refine zr_iconst dX10_goOn_229 ?_
              refine zr_goto (tgt := 234) dX10_goOn_230 (by decide) ?_
              obtain ⟨N38, e39⟩ : ∃ N : zM, N = zu N11 1 6 0 := ⟨_, rfl⟩
              rw [← e39]
              have W := W N38 e39
              refine zt_puti 5 rfl dX10_goOn_234 fX10_130 lcX10 ltX10_5 rfl rfl ?_
              refine zr_iconst dX10_goOn_237 ?_
              refine zr_istore_n (l' := [(0, zA g 1), (1, zI 1)]) dX10_goOn_238 (by decide) [1, 0] rfl ?_
              refine zr_aload_n 0 dX10_goOn_239 rfl ?_
              refine zr_dup dX10_goOn_240 rfl ?_
              refine zt_geti 3 rfl dX10_goOn_241 fX10_110 rfl (by decide) ?_
              refine zr_iload_n 1 dX10_goOn_244 rfl ?_
              refine zr_iadd dX10_goOn_245 ?_
              obtain ⟨N40, e41⟩ : ∃ N : zM, N = zu N38 1 5 3 := ⟨_, rfl⟩
              rw [← e41]
              have W := W N40 e41
              refine zt_puti 3 rfl dX10_goOn_246 fX10_110 lcX10 ltX10_3 rfl rfl ?_
              exact zt_ret dX10_goOn_249 rfl W
          · have W := W.2 h
            exact W
        · have W := W.2 h
          exact W
      · have W := W.2 h
        refine zr_aload_n 0 dX10_goOn_61 rfl ?_
        refine zr_iconst dX10_goOn_62 ?_
        obtain ⟨N42, e43⟩ : ∃ N : zM, N = zu N11 1 6 0 := ⟨_, rfl⟩
        rw [← e43]
        have W := W N42 e43
        refine zt_puti 5 rfl dX10_goOn_63 fX10_130 lcX10 ltX10_5 rfl rfl ?_
        exact zt_ret dX10_goOn_66 rfl W
    · have W := W.2 h
      refine zr_aload_n 0 dX10_goOn_20 rfl ?_
      refine zr_dup dX10_goOn_21 rfl ?_
      refine zt_geti 3 rfl dX10_goOn_22 fX10_110 rfl (by decide) ?_
      refine zr_iconst dX10_goOn_25 ?_
      refine zr_iadd dX10_goOn_26 ?_
      refine zt_puti 3 rfl dX10_goOn_27 fX10_110 lcX10 ltX10_3 rfl rfl ?_
      refine zr_goto (tgt := 0) dX10_goOn_30 (by decide) ?_
      exact W
set_option maxRecDepth 100000 in
theorem SX10_goOn_148 {g : zG} {o : Bool} {M : zM} {q : zM → Prop} {x1 : Int} (W : (hOk M ((M 1 3) + x1)) ∧ (-2147483648 ≤ (hr M ((M 1 3) + x1)) ∧ (hr M ((M 1 3) + x1)) ≤ 2147483647) ∧ ((¬ (cDi (hr M ((M 1 3) + x1)))) → (-2147483648 ≤ x1 ∧ x1 ≤ 2147483647) ∧ ((4 < x1) → ∀ N10 : zM, N10 = zu M 1 5 4 → q (zu N10 1 3 ((N10 1 3) + x1))) ∧ ((¬ (4 < x1)) → ((¬ (cLe (hr M ((M 1 3) + x1)))) → ∀ N18 : zM, N18 = zu M 1 5 2 → q (zu N18 1 3 ((N18 1 3) + x1))) ∧ ((cLe (hr M ((M 1 3) + x1))) → ∀ N20 : zM, N20 = zu M 1 5 4 → q (zu N20 1 3 ((N20 1 3) + x1))))) ∧ ((cDi (hr M ((M 1 3) + x1))) → (-2147483648 ≤ x1 ∧ x1 ≤ 2147483647) ∧ ((4 ≤ x1) → zT g (z2 o) mX10_goOn (zQv (z2 o) q) 148 [(0, zA g 1), (1, zI (x1 + 1))] [] M) ∧ ((¬ (4 ≤ x1)) → zT g (z2 o) mX10_goOn (zQv (z2 o) q) 148 [(0, zA g 1), (1, zI (x1 + 1))] [] (zu M 1 6 (((10 * (M 1 6)) + (hr M ((M 1 3) + x1))) - 48))))) : zT g (z2 o) mX10_goOn (zQv (z2 o) q) 148 [(0, zA g 1), (1, zI x1)] [] M := by
  refine zr_aload_n 0 dX10_goOn_148 rfl ?_
  refine zr_iload_n 1 dX10_goOn_149 rfl ?_
  obtain ⟨c1, W⟩ := W
  refine zt_callVi (As := [zI x1]) (rest := []) dX10_goOn_150 kX10_goOn_116 rfl rfl rfl rfl (Nat.le_of_ble_eq_true rfl) (c_here c1) (fun r2 N4 h3 => ?_)
  rw [h3.1, h3.2]
  obtain ⟨c5, W⟩ := W
  refine zt_callSi (As := [zI (hr M ((M 1 3) + x1))]) (rest := []) dX10_goOn_153 kX10_goOn_137 rfl rfl (Nat.le_of_ble_eq_true rfl) (c_isDigitR c5) (fun r6 N8 h7 => ?_)
  rw [h7.1, h7.2]
  refine zt_ifeq_b (tgt := 190) dX10_goOn_156 (by decide) (fun h => ?_) (fun h => ?_)
  · have W := W.1 h
    refine zr_aload_n 0 dX10_goOn_190 rfl ?_
    refine zr_iload_n 1 dX10_goOn_191 rfl ?_
    refine zr_iconst dX10_goOn_192 ?_
    obtain ⟨c9, W⟩ := W
    refine zr_icmp_gt (tgt := 207) dX10_goOn_193 (by decide) c9 ⟨by decide, by decide⟩ (fun h => ?_) (fun h => ?_)
    · have W := W.1 h
      refine zr_iconst dX10_goOn_207 ?_
      refine zr_goto (tgt := 212) dX10_goOn_208 (by decide) ?_
      refine zt_puti 5 rfl dX10_goOn_212 fX10_130 lcX10 ltX10_5 rfl rfl ?_
      refine zr_goto (tgt := 239) dX10_goOn_215 (by decide) ?_
      refine zr_aload_n 0 dX10_goOn_239 rfl ?_
      refine zr_dup dX10_goOn_240 rfl ?_
      refine zt_geti 3 rfl dX10_goOn_241 fX10_110 rfl (by decide) ?_
      refine zr_iload_n 1 dX10_goOn_244 rfl ?_
      refine zr_iadd dX10_goOn_245 ?_
      obtain ⟨N10, e11⟩ : ∃ N : zM, N = zu M 1 5 4 := ⟨_, rfl⟩
      rw [← e11]
      have W := W N10 e11
      refine zt_puti 3 rfl dX10_goOn_246 fX10_110 lcX10 ltX10_3 rfl rfl ?_
      exact zt_ret dX10_goOn_249 rfl W
    · have W := W.2 h
      refine zr_aload_n 0 dX10_goOn_196 rfl ?_
      refine zr_iload_n 1 dX10_goOn_197 rfl ?_
      refine zt_callVi (As := [zI x1]) (rest := [zA g 1]) dX10_goOn_198 kX10_goOn_116 rfl rfl rfl rfl (Nat.le_of_ble_eq_true rfl) (c_here c1) (fun r12 N14 h13 => ?_)
      rw [h13.1, h13.2]
      refine zt_callSi (As := [zI (hr M ((M 1 3) + x1))]) (rest := [zA g 1]) dX10_goOn_201 kX10_goOn_133 rfl rfl (Nat.le_of_ble_eq_true rfl) (c_isLetterR c5) (fun r15 N17 h16 => ?_)
      rw [h16.1, h16.2]
      refine zt_ifeq_b (tgt := 211) dX10_goOn_204 (by decide) (fun h => ?_) (fun h => ?_)
      · have W := W.1 h
        refine zr_iconst dX10_goOn_211 ?_
        refine zt_puti 5 rfl dX10_goOn_212 fX10_130 lcX10 ltX10_5 rfl rfl ?_
        refine zr_goto (tgt := 239) dX10_goOn_215 (by decide) ?_
        refine zr_aload_n 0 dX10_goOn_239 rfl ?_
        refine zr_dup dX10_goOn_240 rfl ?_
        refine zt_geti 3 rfl dX10_goOn_241 fX10_110 rfl (by decide) ?_
        refine zr_iload_n 1 dX10_goOn_244 rfl ?_
        refine zr_iadd dX10_goOn_245 ?_
        obtain ⟨N18, e19⟩ : ∃ N : zM, N = zu M 1 5 2 := ⟨_, rfl⟩
        rw [← e19]
        have W := W N18 e19
        refine zt_puti 3 rfl dX10_goOn_246 fX10_110 lcX10 ltX10_3 rfl rfl ?_
        exact zt_ret dX10_goOn_249 rfl W
      · have W := W.2 h
        refine zr_iconst dX10_goOn_207 ?_
        refine zr_goto (tgt := 212) dX10_goOn_208 (by decide) ?_
        refine zt_puti 5 rfl dX10_goOn_212 fX10_130 lcX10 ltX10_5 rfl rfl ?_
        refine zr_goto (tgt := 239) dX10_goOn_215 (by decide) ?_
        refine zr_aload_n 0 dX10_goOn_239 rfl ?_
        refine zr_dup dX10_goOn_240 rfl ?_
        refine zt_geti 3 rfl dX10_goOn_241 fX10_110 rfl (by decide) ?_
        refine zr_iload_n 1 dX10_goOn_244 rfl ?_
        refine zr_iadd dX10_goOn_245 ?_
        obtain ⟨N20, e21⟩ : ∃ N : zM, N = zu M 1 5 4 := ⟨_, rfl⟩
        rw [← e21]
        have W := W N20 e21
        refine zt_puti 3 rfl dX10_goOn_246 fX10_110 lcX10 ltX10_3 rfl rfl ?_
        exact zt_ret dX10_goOn_249 rfl W
  · have W := W.2 h
    refine zr_iload_n 1 dX10_goOn_159 rfl ?_
    refine zr_iconst dX10_goOn_160 ?_
    obtain ⟨c22, W⟩ := W
    refine zr_icmp_ge (tgt := 184) dX10_goOn_161 (by decide) c22 ⟨by decide, by decide⟩ (fun h => ?_) (fun h => ?_)
    · have W := W.1 h
      refine zr_iinc (q := 1) (l' := [(0, zA g 1), (1, zI (x1 + 1))]) dX10_goOn_184 rfl (by decide) [1, 0] rfl ?_
      refine zr_goto (tgt := 148) dX10_goOn_187 (by decide) ?_
      exact W
    · have W := W.2 h
      refine zr_aload_n 0 dX10_goOn_164 rfl ?_
      refine zr_bipush dX10_goOn_165 (by decide) ?_
      refine zr_aload_n 0 dX10_goOn_167 rfl ?_
      refine zt_geti 6 rfl dX10_goOn_168 fX10_127 rfl (by decide) ?_
      refine zr_imul dX10_goOn_171 ?_
      refine zr_aload_n 0 dX10_goOn_172 rfl ?_
      refine zr_iload_n 1 dX10_goOn_173 rfl ?_
      refine zt_callVi (As := [zI x1]) (rest := [zI (10 * (M 1 6)), zA g 1]) dX10_goOn_174 kX10_goOn_116 rfl rfl rfl rfl (Nat.le_of_ble_eq_true rfl) (c_here c1) (fun r23 N25 h24 => ?_)
      rw [h24.1, h24.2]
      refine zr_iadd dX10_goOn_177 ?_
      refine zr_bipush dX10_goOn_178 (by decide) ?_
      refine zr_isub dX10_goOn_180 ?_
      refine zt_puti 6 rfl dX10_goOn_181 fX10_127 lcX10 ltX10_6 rfl rfl ?_
      refine zr_iinc (q := 1) (l' := [(0, zA g 1), (1, zI (x1 + 1))]) dX10_goOn_184 rfl (by decide) [1, 0] rfl ?_
      refine zr_goto (tgt := 148) dX10_goOn_187 (by decide) ?_
      exact W
set_option maxRecDepth 100000 in
theorem SX10_goOn_78 {g : zG} {o : Bool} {M : zM} {q : zM → Prop} {x1 : Int} (W : (hOk M ((M 1 3) + x1)) ∧ (-2147483648 ≤ (hr M ((M 1 3) + x1)) ∧ (hr M ((M 1 3) + x1)) ≤ 2147483647) ∧ ((¬ (cLe (hr M ((M 1 3) + x1)))) → (-2147483648 ≤ x1 ∧ x1 ≤ 2147483647) ∧ ((x1 ≤ 8) → ∀ N10 : zM, N10 = zu M 1 5 1 → q (zu N10 1 3 ((N10 1 3) + x1))) ∧ ((¬ (x1 ≤ 8)) → ∀ N12 : zM, N12 = zu M 1 5 4 → q (zu N12 1 3 ((N12 1 3) + x1)))) ∧ ((cLe (hr M ((M 1 3) + x1))) → (-2147483648 ≤ x1 ∧ x1 ≤ 2147483647) ∧ ((8 ≤ x1) → zT g (z2 o) mX10_goOn (zQv (z2 o) q) 78 [(0, zA g 1), (1, zI (x1 + 1))] [] M) ∧ ((¬ (8 ≤ x1)) → (0 ≤ (M 1 11)) ∧ (-2147483648 ≤ (hr M ((M 1 3) + x1)) ∧ (hr M ((M 1 3) + x1)) ≤ 2147483647) ∧ ((0 : Int) ≤ ((M 1 11) * (2 ^ Int.toNat 8 : Nat)) ∧ ((M 1 11) * (2 ^ Int.toNat 8 : Nat)) ≤ (9223372036854775807 : Int)) ∧ ((0 : Int) ≤ (hr M ((M 1 3) + x1)) ∧ (hr M ((M 1 3) + x1)) ≤ (9223372036854775807 : Int)) ∧ zT g (z2 o) mX10_goOn (zQv (z2 o) q) 78 [(0, zA g 1), (1, zI (x1 + 1))] [] (zu M 1 11 ((Int.toNat ((M 1 11) * (2 ^ Int.toNat 8 : Nat)) ||| Int.toNat (hr M ((M 1 3) + x1)) : Nat) : Int))))) : zT g (z2 o) mX10_goOn (zQv (z2 o) q) 78 [(0, zA g 1), (1, zI x1)] [] M := by
  refine zr_aload_n 0 dX10_goOn_78 rfl ?_
  refine zr_iload_n 1 dX10_goOn_79 rfl ?_
  obtain ⟨c1, W⟩ := W
  refine zt_callVi (As := [zI x1]) (rest := []) dX10_goOn_80 kX10_goOn_116 rfl rfl rfl rfl (Nat.le_of_ble_eq_true rfl) (c_here c1) (fun r2 N4 h3 => ?_)
  rw [h3.1, h3.2]
  obtain ⟨c5, W⟩ := W
  refine zt_callSi (As := [zI (hr M ((M 1 3) + x1))]) (rest := []) dX10_goOn_83 kX10_goOn_133 rfl rfl (Nat.le_of_ble_eq_true rfl) (c_isLetterR c5) (fun r6 N8 h7 => ?_)
  rw [h7.1, h7.2]
  refine zt_ifeq_b (tgt := 119) dX10_goOn_86 (by decide) (fun h => ?_) (fun h => ?_)
  · have W := W.1 h
    refine zr_aload_n 0 dX10_goOn_119 rfl ?_
    refine zr_iload_n 1 dX10_goOn_120 rfl ?_
    refine zr_bipush dX10_goOn_121 (by decide) ?_
    obtain ⟨c9, W⟩ := W
    refine zr_icmp_le (tgt := 130) dX10_goOn_123 (by decide) c9 ⟨by decide, by decide⟩ (fun h => ?_) (fun h => ?_)
    · have W := W.1 h
      refine zr_iconst dX10_goOn_130 ?_
      refine zt_puti 5 rfl dX10_goOn_131 fX10_130 lcX10 ltX10_5 rfl rfl ?_
      refine zr_goto (tgt := 239) dX10_goOn_134 (by decide) ?_
      refine zr_aload_n 0 dX10_goOn_239 rfl ?_
      refine zr_dup dX10_goOn_240 rfl ?_
      refine zt_geti 3 rfl dX10_goOn_241 fX10_110 rfl (by decide) ?_
      refine zr_iload_n 1 dX10_goOn_244 rfl ?_
      refine zr_iadd dX10_goOn_245 ?_
      obtain ⟨N10, e11⟩ : ∃ N : zM, N = zu M 1 5 1 := ⟨_, rfl⟩
      rw [← e11]
      have W := W N10 e11
      refine zt_puti 3 rfl dX10_goOn_246 fX10_110 lcX10 ltX10_3 rfl rfl ?_
      exact zt_ret dX10_goOn_249 rfl W
    · have W := W.2 h
      refine zr_iconst dX10_goOn_126 ?_
      refine zr_goto (tgt := 131) dX10_goOn_127 (by decide) ?_
      refine zt_puti 5 rfl dX10_goOn_131 fX10_130 lcX10 ltX10_5 rfl rfl ?_
      refine zr_goto (tgt := 239) dX10_goOn_134 (by decide) ?_
      refine zr_aload_n 0 dX10_goOn_239 rfl ?_
      refine zr_dup dX10_goOn_240 rfl ?_
      refine zt_geti 3 rfl dX10_goOn_241 fX10_110 rfl (by decide) ?_
      refine zr_iload_n 1 dX10_goOn_244 rfl ?_
      refine zr_iadd dX10_goOn_245 ?_
      obtain ⟨N12, e13⟩ : ∃ N : zM, N = zu M 1 5 4 := ⟨_, rfl⟩
      rw [← e13]
      have W := W N12 e13
      refine zt_puti 3 rfl dX10_goOn_246 fX10_110 lcX10 ltX10_3 rfl rfl ?_
      exact zt_ret dX10_goOn_249 rfl W
  · have W := W.2 h
    refine zr_iload_n 1 dX10_goOn_89 rfl ?_
    refine zr_bipush dX10_goOn_90 (by decide) ?_
    obtain ⟨c14, W⟩ := W
    refine zr_icmp_ge (tgt := 113) dX10_goOn_92 (by decide) c14 ⟨by decide, by decide⟩ (fun h => ?_) (fun h => ?_)
    · have W := W.1 h
      refine zr_iinc (q := 1) (l' := [(0, zA g 1), (1, zI (x1 + 1))]) dX10_goOn_113 rfl (by decide) [1, 0] rfl ?_
      refine zr_goto (tgt := 78) dX10_goOn_116 (by decide) ?_
      exact W
    · have W := W.2 h
      refine zr_aload_n 0 dX10_goOn_95 rfl ?_
      refine zr_aload_n 0 dX10_goOn_96 rfl ?_
      refine zt_getl 11 rfl dX10_goOn_97 fX10_123 rfl rfl ?_
      refine zr_bipush dX10_goOn_100 (by decide) ?_
      obtain ⟨c15, W⟩ := W
      refine zr_lshl dX10_goOn_102 c15 ⟨by decide, by decide⟩ ?_
      refine zr_aload_n 0 dX10_goOn_103 rfl ?_
      refine zr_iload_n 1 dX10_goOn_104 rfl ?_
      refine zt_callVi (As := [zI x1]) (rest := [zL ((M 1 11) * (2 ^ Int.toNat 8 : Nat)), zA g 1]) dX10_goOn_105 kX10_goOn_116 rfl rfl rfl rfl (Nat.le_of_ble_eq_true rfl) (c_here c1) (fun r16 N18 h17 => ?_)
      rw [h17.1, h17.2]
      obtain ⟨c19, W⟩ := W
      refine zr_i2l dX10_goOn_108 c19 ?_
      obtain ⟨c20, W⟩ := W
      obtain ⟨c21, W⟩ := W
      refine zr_lor dX10_goOn_109 c20 c21 ?_
      refine zt_putl 11 rfl dX10_goOn_110 fX10_123 lcX10 ltX10_11 rfl rfl ?_
      refine zr_iinc (q := 1) (l' := [(0, zA g 1), (1, zI (x1 + 1))]) dX10_goOn_113 rfl (by decide) [1, 0] rfl ?_
      refine zr_goto (tgt := 78) dX10_goOn_116 (by decide) ?_
      exact W
