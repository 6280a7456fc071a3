/-! the reference's parser -/
def fOk (M : zM) : Prop := (0 ≤ M 1 7 ∧ M 1 7 ≤ 4) ∧ (0 ≤ M 1 5 ∧ M 1 5 ≤ 4) ∧ (M 1 5 = 1 → 0 ≤ M 1 11 ∧ M 1 11 ≤ 9223372036854775807) ∧ (M 1 5 = 2 → 0 ≤ M 1 6 ∧ M 1 6 ≤ 9999)
def wrM (k : Int) (M : zM) : zM := if M 1 7 = 0 then zu (zu M 1 7 (if M 1 5 = 4 then 1 else k)) 1 8 (M 1 4) else M
def isW (w : Int) (M : zM) : Prop := (M 1 7 = 0 ∧ M 1 5 = 1) ∧ M 1 11 = w
def nhV (M : zM) : Int := if M 1 7 = 0 then M 1 6 else 0
def nhM (lo hi : Int) (M : zM) : zM := if M 1 7 = 0 then (if M 1 5 = 2 then (if lo ≤ M 1 6 ∧ M 1 6 ≤ hi then M else wrM 4 M) else wrM 2 M) else M
noncomputable def wyR (M : zM) : Int := if zb (isW 1700885364 M) = 1 then 0 else if zb (isW 495791207528 M) = 1 then 1 else if zb (isW 2003137396 M) = 1 then 2 else if zb (isW 474316174440 M) = 1 then 3 else -1
theorem dX10_wrong_0 : decode cX10_wrong 0 = .ok (.aload_n 0, 1) := by decide +kernel
theorem dX10_wrong_1 : decode cX10_wrong 1 = .ok (.getfield 140, 3) := by decide +kernel
theorem dX10_wrong_4 : decode cX10_wrong 4 = .ok (.ifCond .le 4, 3) := by decide +kernel
theorem dX10_wrong_7 : decode cX10_wrong 7 = .ok (.return_, 1) := by decide +kernel
theorem dX10_wrong_8 : decode cX10_wrong 8 = .ok (.aload_n 0, 1) := by decide +kernel
theorem dX10_wrong_9 : decode cX10_wrong 9 = .ok (.aload_n 0, 1) := by decide +kernel
theorem dX10_wrong_10 : decode cX10_wrong 10 = .ok (.getfield 130, 3) := by decide +kernel
theorem dX10_wrong_13 : decode cX10_wrong 13 = .ok (.iconst 4, 1) := by decide +kernel
theorem dX10_wrong_14 : decode cX10_wrong 14 = .ok (.if_icmp .ne 7, 3) := by decide +kernel
theorem dX10_wrong_17 : decode cX10_wrong 17 = .ok (.iconst 1, 1) := by decide +kernel
theorem dX10_wrong_18 : decode cX10_wrong 18 = .ok (.goto 4, 3) := by decide +kernel
theorem dX10_wrong_21 : decode cX10_wrong 21 = .ok (.iload_n 1, 1) := by decide +kernel
theorem dX10_wrong_22 : decode cX10_wrong 22 = .ok (.putfield 140, 3) := by decide +kernel
theorem dX10_wrong_25 : decode cX10_wrong 25 = .ok (.aload_n 0, 1) := by decide +kernel
theorem dX10_wrong_26 : decode cX10_wrong 26 = .ok (.aload_n 0, 1) := by decide +kernel
theorem dX10_wrong_27 : decode cX10_wrong 27 = .ok (.getfield 120, 3) := by decide +kernel
theorem dX10_wrong_30 : decode cX10_wrong 30 = .ok (.putfield 13, 3) := by decide +kernel
theorem dX10_wrong_33 : decode cX10_wrong 33 = .ok (.return_, 1) := by decide +kernel
set_option maxRecDepth 100000 in
theorem SX10_wrong_0 {g : zG} {o : Bool} {M : zM} {q : zM → Prop} {x1 : Int} (W : (-2147483648 ≤ (M 1 7) ∧ (M 1 7) ≤ 2147483647) ∧ (((M 1 7) ≤ 0) → (-2147483648 ≤ (M 1 5) ∧ (M 1 5) ≤ 2147483647) ∧ (((M 1 5) ≠ 4) → ∀ N3 : zM, N3 = zu M 1 7 x1 → q (zu N3 1 8 (N3 1 4))) ∧ (((M 1 5) = 4) → ∀ N5 : zM, N5 = zu M 1 7 1 → q (zu N5 1 8 (N5 1 4)))) ∧ ((¬ ((M 1 7) ≤ 0)) → q M)) : zT g (z2 o) mX10_wrong (zQv (z2 o) q) 0 [(0, zA g 1), (1, zI x1)] [] M := by
  refine zr_aload_n 0 dX10_wrong_0 rfl ?_
  refine zt_geti 7 rfl dX10_wrong_1 fX10_140 rfl (by decide) ?_
  obtain ⟨c1, W⟩ := W
  refine zr_if_le (tgt := 8) dX10_wrong_4 (by decide) c1 (fun h => ?_) (fun h => ?_)
  · have W := W.1 h
    refine zr_aload_n 0 dX10_wrong_8 rfl ?_
    refine zr_aload_n 0 dX10_wrong_9 rfl ?_
    refine zt_geti 5 rfl dX10_wrong_10 fX10_130 rfl (by decide) ?_
    refine zr_iconst dX10_wrong_13 ?_
    obtain ⟨c2, W⟩ := W
    refine zr_icmp_ne (tgt := 21) dX10_wrong_14 (by decide) c2 ⟨by decide, by decide⟩ (fun h => ?_) (fun h => ?_)
    · have W := W.1 h
      refine zr_iload_n 1 dX10_wrong_21 rfl ?_
      refine zt_puti 7 rfl dX10_wrong_22 fX10_140 lcX10 ltX10_7 rfl rfl ?_
      refine zr_aload_n 0 dX10_wrong_25 rfl ?_
      refine zr_aload_n 0 dX10_wrong_26 rfl ?_
      refine zt_geti 4 rfl dX10_wrong_27 fX10_120 rfl (by decide) ?_
      obtain ⟨N3, e4⟩ : ∃ N : zM, N = zu M 1 7 x1 := ⟨_, rfl⟩
      rw [← e4]
      have W := W N3 e4
      refine zt_puti 8 rfl dX10_wrong_30 fX10_13 lcX10 ltX10_8 rfl rfl ?_
      exact zt_ret dX10_wrong_33 rfl W
    · have W := W.2 h
      refine zr_iconst dX10_wrong_17 ?_
      refine zr_goto (tgt := 22) dX10_wrong_18 (by decide) ?_
      refine zt_puti 7 rfl dX10_wrong_22 fX10_140 lcX10 ltX10_7 rfl rfl ?_
      refine zr_aload_n 0 dX10_wrong_25 rfl ?_
      refine zr_aload_n 0 dX10_wrong_26 rfl ?_
      refine zt_geti 4 rfl dX10_wrong_27 fX10_120 rfl (by decide) ?_
      obtain ⟨N5, e6⟩ : ∃ N : zM, N = zu M 1 7 1 := ⟨_, rfl⟩
      rw [← e6]
      have W := W N5 e6
      refine zt_puti 8 rfl dX10_wrong_30 fX10_13 lcX10 ltX10_8 rfl rfl ?_
      exact zt_ret dX10_wrong_33 rfl W
  · have W := W.2 h
    exact zt_ret dX10_wrong_7 rfl W
theorem dX10_isGood_0 : decode cX10_isGood 0 = .ok (.aload_n 0, 1) := by decide +kernel
theorem dX10_isGood_1 : decode cX10_isGood 1 = .ok (.getfield 140, 3) := by decide +kernel
theorem dX10_isGood_4 : decode cX10_isGood 4 = .ok (.ifCond .ne 7, 3) := by decide +kernel
theorem dX10_isGood_7 : decode cX10_isGood 7 = .ok (.iconst 1, 1) := by decide +kernel
theorem dX10_isGood_8 : decode cX10_isGood 8 = .ok (.goto 4, 3) := by decide +kernel
theorem dX10_isGood_11 : decode cX10_isGood 11 = .ok (.iconst 0, 1) := by decide +kernel
theorem dX10_isGood_12 : decode cX10_isGood 12 = .ok (.ireturn, 1) := by decide +kernel
set_option maxRecDepth 100000 in
theorem SX10_isGood_0 {g : zG} {o : Bool} {M : zM} {q : Int → zM → Prop} (W : (-2147483648 ≤ (M 1 7) ∧ (M 1 7) ≤ 2147483647) ∧ (((M 1 7) ≠ 0) → q 0 M) ∧ (((M 1 7) = 0) → q 1 M)) : zT g (z2 o) mX10_isGood (zQi (z2 o) q) 0 [(0, zA g 1)] [] M := by
  refine zr_aload_n 0 dX10_isGood_0 rfl ?_
  refine zt_geti 7 rfl dX10_isGood_1 fX10_140 rfl (by decide) ?_
  obtain ⟨c1, W⟩ := W
  refine zr_if_ne (tgt := 11) dX10_isGood_4 (by decide) c1 (fun h => ?_) (fun h => ?_)
  · have W := W.1 h
    refine zr_iconst dX10_isGood_11 ?_
    exact zt_zret dX10_isGood_12 rfl (by decide) W
  · have W := W.2 h
    refine zr_iconst dX10_isGood_7 ?_
    refine zr_goto (tgt := 12) dX10_isGood_8 (by decide) ?_
    exact zt_zret dX10_isGood_12 rfl (by decide) W
section PR
variable {g : zG} {o : Bool} {M N : zM} {lo hi k w : Int}
theorem c_wrong (h : fOk M) : zKv g (z2 o) mX10_wrong [zA g 1, zI k] M (fun N => N = wrM k M) := by
  obtain ⟨h1, h2, -⟩ := h
  refine zkv_of rfl (Nat.le_of_ble_eq_true rfl) (SX10_wrong_0 ⟨by omega, fun z => ⟨by omega, fun y N e => ?_, fun y N e => ?_⟩, fun z => ?_⟩)
  · unfold wrM; rw [if_pos (by omega), if_neg y, e, zu_row, if_neg (by decide)]
  · unfold wrM; rw [if_pos (by omega), if_pos y, e, zu_row, if_neg (by decide)]
  · unfold wrM; rw [if_neg (by omega)]
theorem c_isGood (h : fOk M) : zKi g (z2 o) mX10_isGood [zA g 1] M (fun r N => r = zb (M 1 7 = 0) ∧ N = M) := by
  obtain ⟨h1, -⟩ := h
  exact zki_of rfl (Nat.le_of_ble_eq_true rfl) (SX10_isGood_0 ⟨by omega, fun z => ⟨(zb_f z).symm, rfl⟩, fun z => ⟨(zb_t z).symm, rfl⟩⟩)
end PR
theorem dX10_isWord_0 : decode cX10_isWord 0 = .ok (.aload_n 0, 1) := by decide +kernel
theorem dX10_isWord_1 : decode cX10_isWord 1 = .ok (.getfield 140, 3) := by decide +kernel
theorem dX10_isWord_4 : decode cX10_isWord 4 = .ok (.ifCond .ne 24, 3) := by decide +kernel
theorem dX10_isWord_7 : decode cX10_isWord 7 = .ok (.aload_n 0, 1) := by decide +kernel
theorem dX10_isWord_8 : decode cX10_isWord 8 = .ok (.getfield 130, 3) := by decide +kernel
theorem dX10_isWord_11 : decode cX10_isWord 11 = .ok (.iconst 1, 1) := by decide +kernel
theorem dX10_isWord_12 : decode cX10_isWord 12 = .ok (.if_icmp .ne 16, 3) := by decide +kernel
theorem dX10_isWord_15 : decode cX10_isWord 15 = .ok (.aload_n 0, 1) := by decide +kernel
theorem dX10_isWord_16 : decode cX10_isWord 16 = .ok (.getfield 123, 3) := by decide +kernel
theorem dX10_isWord_19 : decode cX10_isWord 19 = .ok (.lload_n 1, 1) := by decide +kernel
theorem dX10_isWord_20 : decode cX10_isWord 20 = .ok (.lcmp, 1) := by decide +kernel
theorem dX10_isWord_21 : decode cX10_isWord 21 = .ok (.ifCond .ne 7, 3) := by decide +kernel
theorem dX10_isWord_24 : decode cX10_isWord 24 = .ok (.iconst 1, 1) := by decide +kernel
theorem dX10_isWord_25 : decode cX10_isWord 25 = .ok (.goto 4, 3) := by decide +kernel
theorem dX10_isWord_28 : decode cX10_isWord 28 = .ok (.iconst 0, 1) := by decide +kernel
theorem dX10_isWord_29 : decode cX10_isWord 29 = .ok (.ireturn, 1) := by decide +kernel
set_option maxRecDepth 100000 in
theorem SX10_isWord_0 {g : zG} {o : Bool} {M : zM} {q : Int → zM → Prop} {x1 : Int} (W : (-2147483648 ≤ (M 1 7) ∧ (M 1 7) ≤ 2147483647) ∧ (((M 1 7) ≠ 0) → q 0 M) ∧ (((M 1 7) = 0) → (-2147483648 ≤ (M 1 5) ∧ (M 1 5) ≤ 2147483647) ∧ (((M 1 5) ≠ 1) → q 0 M) ∧ (((M 1 5) = 1) → (-9223372036854775808 ≤ (M 1 11) ∧ (M 1 11) ≤ 9223372036854775807) ∧ (-9223372036854775808 ≤ x1 ∧ x1 ≤ 9223372036854775807) ∧ (((M 1 11) ≠ x1) → q 0 M) ∧ (((M 1 11) = x1) → q 1 M)))) : zT g (z2 o) mX10_isWord (zQi (z2 o) q) 0 [(0, zA g 1), (1, zL x1)] [] M := by
  refine zr_aload_n 0 dX10_isWord_0 rfl ?_
  refine zt_geti 7 rfl dX10_isWord_1 fX10_140 rfl (by decide) ?_
  obtain ⟨c1, W⟩ := W
  refine zr_if_ne (tgt := 28) dX10_isWord_4 (by decide) c1 (fun h => ?_) (fun h => ?_)
  · have W := W.1 h
    refine zr_iconst dX10_isWord_28 ?_
    exact zt_zret dX10_isWord_29 rfl (by decide) W
  · have W := W.2 h
    refine zr_aload_n 0 dX10_isWord_7 rfl ?_
    refine zt_geti 5 rfl dX10_isWord_8 fX10_130 rfl (by decide) ?_
    refine zr_iconst dX10_isWord_11 ?_
    obtain ⟨c2, W⟩ := W
    refine zr_icmp_ne (tgt := 28) dX10_isWord_12 (by decide) c2 ⟨by decide, by decide⟩ (fun h => ?_) (fun h => ?_)
    · have W := W.1 h
      refine zr_iconst dX10_isWord_28 ?_
      exact zt_zret dX10_isWord_29 rfl (by decide) W
    · have W := W.2 h
      refine zr_aload_n 0 dX10_isWord_15 rfl ?_
      refine zt_getl 11 rfl dX10_isWord_16 fX10_123 rfl rfl ?_
      refine zr_lload_n 1 dX10_isWord_19 rfl ?_
      obtain ⟨c3, W⟩ := W
      obtain ⟨c4, W⟩ := W
      refine zr_lcmp dX10_isWord_20 c3 c4 ?_
      refine zr_if_ne (tgt := 28) dX10_isWord_21 (by decide) (zc_in _ _) (fun h => ?_) (fun h => ?_)
      · have W := W.1 (zc_ne.mp h)
        refine zr_iconst dX10_isWord_28 ?_
        exact zt_zret dX10_isWord_29 rfl (by decide) W
      · have W := W.2 (zc_eq.mp h)
        refine zr_iconst dX10_isWord_24 ?_
        refine zr_goto (tgt := 29) dX10_isWord_25 (by decide) ?_
        exact zt_zret dX10_isWord_29 rfl (by decide) W
theorem dX10_numberHere_0 : decode cX10_numberHere 0 = .ok (.aload_n 0, 1) := by decide +kernel
theorem dX10_numberHere_1 : decode cX10_numberHere 1 = .ok (.getfield 140, 3) := by decide +kernel
theorem dX10_numberHere_4 : decode cX10_numberHere 4 = .ok (.ifCond .le 5, 3) := by decide +kernel
theorem dX10_numberHere_7 : decode cX10_numberHere 7 = .ok (.iconst 0, 1) := by decide +kernel
theorem dX10_numberHere_8 : decode cX10_numberHere 8 = .ok (.ireturn, 1) := by decide +kernel
theorem dX10_numberHere_9 : decode cX10_numberHere 9 = .ok (.aload_n 0, 1) := by decide +kernel
theorem dX10_numberHere_10 : decode cX10_numberHere 10 = .ok (.getfield 130, 3) := by decide +kernel
theorem dX10_numberHere_13 : decode cX10_numberHere 13 = .ok (.iconst 2, 1) := by decide +kernel
theorem dX10_numberHere_14 : decode cX10_numberHere 14 = .ok (.if_icmp .eq 11, 3) := by decide +kernel
theorem dX10_numberHere_17 : decode cX10_numberHere 17 = .ok (.aload_n 0, 1) := by decide +kernel
theorem dX10_numberHere_18 : decode cX10_numberHere 18 = .ok (.iconst 2, 1) := by decide +kernel
theorem dX10_numberHere_19 : decode cX10_numberHere 19 = .ok (.invokevirtual 143, 3) := by decide +kernel
theorem dX10_numberHere_22 : decode cX10_numberHere 22 = .ok (.goto 20, 3) := by decide +kernel
theorem dX10_numberHere_25 : decode cX10_numberHere 25 = .ok (.aload_n 0, 1) := by decide +kernel
theorem dX10_numberHere_26 : decode cX10_numberHere 26 = .ok (.getfield 127, 3) := by decide +kernel
theorem dX10_numberHere_29 : decode cX10_numberHere 29 = .ok (.iload_n 1, 1) := by decide +kernel
theorem dX10_numberHere_30 : decode cX10_numberHere 30 = .ok (.iload_n 2, 1) := by decide +kernel
theorem dX10_numberHere_31 : decode cX10_numberHere 31 = .ok (.invokestatic 106, 3) := by decide +kernel
theorem dX10_numberHere_34 : decode cX10_numberHere 34 = .ok (.ifCond .ne 8, 3) := by decide +kernel
theorem dX10_numberHere_37 : decode cX10_numberHere 37 = .ok (.aload_n 0, 1) := by decide +kernel
theorem dX10_numberHere_38 : decode cX10_numberHere 38 = .ok (.iconst 4, 1) := by decide +kernel
theorem dX10_numberHere_39 : decode cX10_numberHere 39 = .ok (.invokevirtual 143, 3) := by decide +kernel
theorem dX10_numberHere_42 : decode cX10_numberHere 42 = .ok (.aload_n 0, 1) := by decide +kernel
theorem dX10_numberHere_43 : decode cX10_numberHere 43 = .ok (.getfield 127, 3) := by decide +kernel
theorem dX10_numberHere_46 : decode cX10_numberHere 46 = .ok (.ireturn, 1) := by decide +kernel
set_option maxRecDepth 100000 in
theorem SX10_numberHere_0 {g : zG} {o : Bool} {M : zM} {q : Int → zM → Prop} {x1 x2 : Int} (W : (-2147483648 ≤ (M 1 7) ∧ (M 1 7) ≤ 2147483647) ∧ (((M 1 7) ≤ 0) → (-2147483648 ≤ (M 1 5) ∧ (M 1 5) ≤ 2147483647) ∧ (((M 1 5) = 2) → (-2147483648 ≤ (M 1 6) ∧ (M 1 6) ≤ 2147483647) ∧ (-2147483648 ≤ x1 ∧ x1 ≤ 2147483647) ∧ (-2147483648 ≤ x2 ∧ x2 ≤ 2147483647) ∧ ((x1 ≤ (M 1 6) ∧ (M 1 6) ≤ x2) → q (M 1 6) M) ∧ ((¬ (x1 ≤ (M 1 6) ∧ (M 1 6) ≤ x2)) → (fOk M) ∧ ∀ N12 : zM, N12 = wrM 4 M → q (N12 1 6) N12)) ∧ ((¬ ((M 1 5) = 2)) → (fOk M) ∧ ∀ N16 : zM, N16 = wrM 2 M → q (N16 1 6) N16)) ∧ ((¬ ((M 1 7) ≤ 0)) → q 0 M)) : zT g (z2 o) mX10_numberHere (zQi (z2 o) q) 0 [(0, zA g 1), (1, zI x1), (2, zI x2)] [] M := by
  refine zr_aload_n 0 dX10_numberHere_0 rfl ?_
  refine zt_geti 7 rfl dX10_numberHere_1 fX10_140 rfl (by decide) ?_
  obtain ⟨c1, W⟩ := W
  refine zr_if_le (tgt := 9) dX10_numberHere_4 (by decide) c1 (fun h => ?_) (fun h => ?_)
  · have W := W.1 h
    refine zr_aload_n 0 dX10_numberHere_9 rfl ?_
    refine zt_geti 5 rfl dX10_numberHere_10 fX10_130 rfl (by decide) ?_
    refine zr_iconst dX10_numberHere_13 ?_
    obtain ⟨c2, W⟩ := W
    refine zr_icmp_eq (tgt := 25) dX10_numberHere_14 (by decide) c2 ⟨by decide, by decide⟩ (fun h => ?_) (fun h => ?_)
    · have W := W.1 h
      refine zr_aload_n 0 dX10_numberHere_25 rfl ?_
      refine zt_geti 6 rfl dX10_numberHere_26 fX10_127 rfl (by decide) ?_
      refine zr_iload_n 1 dX10_numberHere_29 rfl ?_
      refine zr_iload_n 2 dX10_numberHere_30 rfl ?_
      obtain ⟨c3, W⟩ := W
      obtain ⟨c4, W⟩ := W
      obtain ⟨c5, W⟩ := W
      refine zt_callSi (As := [zI (M 1 6), zI x1, zI x2]) (rest := []) dX10_numberHere_31 kX10_numberHere_106 rfl rfl (Nat.le_of_ble_eq_true rfl) (c_isIn c3 c4 c5) (fun r6 N8 h7 => ?_)
      rw [h7.1, h7.2]
      refine zt_ifne_b (tgt := 42) dX10_numberHere_34 (by decide) (fun h => ?_) (fun h => ?_)
      · have W := W.1 h
        refine zr_aload_n 0 dX10_numberHere_42 rfl ?_
        refine zt_geti 6 rfl dX10_numberHere_43 fX10_127 rfl (by decide) ?_
        exact zt_iret dX10_numberHere_46 rfl W
      · have W := W.2 h
        refine zr_aload_n 0 dX10_numberHere_37 rfl ?_
        refine zr_iconst dX10_numberHere_38 ?_
        obtain ⟨c9, W⟩ := W
        refine zt_callVv (As := [zI 4]) (rest := []) dX10_numberHere_39 kX10_numberHere_143 rfl rfl rfl rfl (Nat.le_of_ble_eq_true rfl) (c_wrong c9) (fun N12 h11 => ?_)
        have W := W N12 h11
        refine zr_aload_n 0 dX10_numberHere_42 rfl ?_
        refine zt_geti 6 rfl dX10_numberHere_43 fX10_127 rfl (by decide) ?_
        exact zt_iret dX10_numberHere_46 rfl W
    · have W := W.2 h
      refine zr_aload_n 0 dX10_numberHere_17 rfl ?_
      refine zr_iconst dX10_numberHere_18 ?_
      obtain ⟨c13, W⟩ := W
      refine zt_callVv (As := [zI 2]) (rest := []) dX10_numberHere_19 kX10_numberHere_143 rfl rfl rfl rfl (Nat.le_of_ble_eq_true rfl) (c_wrong c13) (fun N16 h15 => ?_)
      have W := W N16 h15
      refine zr_goto (tgt := 42) dX10_numberHere_22 (by decide) ?_
      refine zr_aload_n 0 dX10_numberHere_42 rfl ?_
      refine zt_geti 6 rfl dX10_numberHere_43 fX10_127 rfl (by decide) ?_
      exact zt_iret dX10_numberHere_46 rfl W
  · have W := W.2 h
    refine zr_iconst dX10_numberHere_7 ?_
    exact zt_iret dX10_numberHere_8 rfl W
section PR
variable {g : zG} {o : Bool} {M N : zM} {lo hi k w : Int}
theorem c_isWord (h : fOk M) (hw : 0 ≤ w ∧ w ≤ 9223372036854775807) : zKi g (z2 o) mX10_isWord [zA g 1, zL w] M (fun r N => r = zb (isW w M) ∧ N = M) := by
  obtain ⟨h1, h2, h3, -⟩ := h
  exact zki_of rfl (Nat.le_of_ble_eq_true rfl) (SX10_isWord_0 ⟨by omega, fun z => ⟨(zb_f (fun q => z q.1.1)).symm, rfl⟩, fun z => ⟨by omega, fun y => ⟨(zb_f (fun q => y q.1.2)).symm, rfl⟩, fun y => ⟨by have := h3 y; omega, by omega, fun u => ⟨(zb_f (fun q => u q.2)).symm, rfl⟩, fun u => ⟨(zb_t ⟨⟨z, y⟩, u⟩).symm, rfl⟩⟩⟩⟩)
theorem wr6 : wrM k M 1 6 = M 1 6 := by
  unfold wrM; split
  · rw [zu_row, if_neg (by decide), zu_row, if_neg (by decide)]
  · rfl
theorem c_numberHere (h : fOk M) (hl : -2147483648 ≤ lo ∧ lo ≤ 2147483647) (hh : -2147483648 ≤ hi ∧ hi ≤ 2147483647) : zKi g (z2 o) mX10_numberHere [zA g 1, zI lo, zI hi] M (fun r N => r = nhV M ∧ N = nhM lo hi M) := by
  have h' := h
  obtain ⟨h1, h2, h3, h4⟩ := h
  refine zki_of rfl (Nat.le_of_ble_eq_true rfl) (SX10_numberHere_0 ⟨by omega, fun z => ⟨by omega, fun y => ⟨by have := h4 y; omega, hl, hh, fun u => ⟨?_, ?_⟩, fun u => ⟨h', fun N e => ⟨?_, ?_⟩⟩⟩, fun y => ⟨h', fun N e => ⟨?_, ?_⟩⟩⟩, fun z => ⟨?_, ?_⟩⟩)
  · unfold nhV; rw [if_pos (by omega)]
  · unfold nhM; rw [if_pos (by omega), if_pos y, if_pos u]
  · unfold nhV; rw [if_pos (by omega), e, wr6]
  · unfold nhM; rw [if_pos (by omega), if_pos y, if_neg u, e]
  · unfold nhV; rw [if_pos (by omega), e, wr6]
  · unfold nhM; rw [if_pos (by omega), if_neg y, e]
  · unfold nhV; rw [if_neg (by omega)]
  · unfold nhM; rw [if_neg (by omega)]
end PR
theorem dX10_wayHere_0 : decode cX10_wayHere 0 = .ok (.aload_n 0, 1) := by decide +kernel
theorem dX10_wayHere_1 : decode cX10_wayHere 1 = .ok (.ldc2_w 176, 3) := by decide +kernel
theorem dX10_wayHere_4 : decode cX10_wayHere 4 = .ok (.invokevirtual 172, 3) := by decide +kernel
theorem dX10_wayHere_7 : decode cX10_wayHere 7 = .ok (.ifCond .eq 7, 3) := by decide +kernel
theorem dX10_wayHere_10 : decode cX10_wayHere 10 = .ok (.iconst 0, 1) := by decide +kernel
theorem dX10_wayHere_11 : decode cX10_wayHere 11 = .ok (.goto 46, 3) := by decide +kernel
theorem dX10_wayHere_14 : decode cX10_wayHere 14 = .ok (.aload_n 0, 1) := by decide +kernel
theorem dX10_wayHere_15 : decode cX10_wayHere 15 = .ok (.ldc2_w 178, 3) := by decide +kernel
theorem dX10_wayHere_18 : decode cX10_wayHere 18 = .ok (.invokevirtual 172, 3) := by decide +kernel
theorem dX10_wayHere_21 : decode cX10_wayHere 21 = .ok (.ifCond .eq 7, 3) := by decide +kernel
theorem dX10_wayHere_24 : decode cX10_wayHere 24 = .ok (.iconst 1, 1) := by decide +kernel
theorem dX10_wayHere_25 : decode cX10_wayHere 25 = .ok (.goto 32, 3) := by decide +kernel
theorem dX10_wayHere_28 : decode cX10_wayHere 28 = .ok (.aload_n 0, 1) := by decide +kernel
theorem dX10_wayHere_29 : decode cX10_wayHere 29 = .ok (.ldc2_w 180, 3) := by decide +kernel
theorem dX10_wayHere_32 : decode cX10_wayHere 32 = .ok (.invokevirtual 172, 3) := by decide +kernel
theorem dX10_wayHere_35 : decode cX10_wayHere 35 = .ok (.ifCond .eq 7, 3) := by decide +kernel
theorem dX10_wayHere_38 : decode cX10_wayHere 38 = .ok (.iconst 2, 1) := by decide +kernel
theorem dX10_wayHere_39 : decode cX10_wayHere 39 = .ok (.goto 18, 3) := by decide +kernel
theorem dX10_wayHere_42 : decode cX10_wayHere 42 = .ok (.aload_n 0, 1) := by decide +kernel
theorem dX10_wayHere_43 : decode cX10_wayHere 43 = .ok (.ldc2_w 182, 3) := by decide +kernel
theorem dX10_wayHere_46 : decode cX10_wayHere 46 = .ok (.invokevirtual 172, 3) := by decide +kernel
theorem dX10_wayHere_49 : decode cX10_wayHere 49 = .ok (.ifCond .eq 7, 3) := by decide +kernel
theorem dX10_wayHere_52 : decode cX10_wayHere 52 = .ok (.iconst 3, 1) := by decide +kernel
theorem dX10_wayHere_53 : decode cX10_wayHere 53 = .ok (.goto 4, 3) := by decide +kernel
theorem dX10_wayHere_56 : decode cX10_wayHere 56 = .ok (.iconst (-1), 1) := by decide +kernel
theorem dX10_wayHere_57 : decode cX10_wayHere 57 = .ok (.ireturn, 1) := by decide +kernel
set_option maxRecDepth 100000 in
theorem SX10_wayHere_0 {g : zG} {o : Bool} {M : zM} {q : Int → zM → Prop} (W : (fOk M) ∧ ((¬ (isW 1700885364 M)) → ((¬ (isW 495791207528 M)) → ((¬ (isW 2003137396 M)) → ((¬ (isW 474316174440 M)) → q (-1) M) ∧ ((isW 474316174440 M) → q 3 M)) ∧ ((isW 2003137396 M) → q 2 M)) ∧ ((isW 495791207528 M) → q 1 M)) ∧ ((isW 1700885364 M) → q 0 M)) : zT g (z2 o) mX10_wayHere (zQi (z2 o) q) 0 [(0, zA g 1)] [] M := by
  refine zr_aload_n 0 dX10_wayHere_0 rfl ?_
  refine zr_ldc2 (x := 1700885364) dX10_wayHere_1 (zc6 134 (by decide +kernel) rfl) ?_
  obtain ⟨c1, W⟩ := W
  refine zt_callVi (As := [zL 1700885364]) (rest := []) dX10_wayHere_4 kX10_wayHere_172 rfl rfl rfl rfl (Nat.le_of_ble_eq_true rfl) (c_isWord c1 (by decide)) (fun r2 N4 h3 => ?_)
  rw [h3.1, h3.2]
  refine zt_ifeq_b (tgt := 14) dX10_wayHere_7 (by decide) (fun h => ?_) (fun h => ?_)
  · have W := W.1 h
    refine zr_aload_n 0 dX10_wayHere_14 rfl ?_
    refine zr_ldc2 (x := 495791207528) dX10_wayHere_15 (zc6 135 (by decide +kernel) rfl) ?_
    refine zt_callVi (As := [zL 495791207528]) (rest := []) dX10_wayHere_18 kX10_wayHere_172 rfl rfl rfl rfl (Nat.le_of_ble_eq_true rfl) (c_isWord c1 (by decide)) (fun r5 N7 h6 => ?_)
    rw [h6.1, h6.2]
    refine zt_ifeq_b (tgt := 28) dX10_wayHere_21 (by decide) (fun h => ?_) (fun h => ?_)
    · have W := W.1 h
      refine zr_aload_n 0 dX10_wayHere_28 rfl ?_
      refine zr_ldc2 (x := 2003137396) dX10_wayHere_29 (zc6 136 (by decide +kernel) rfl) ?_
      refine zt_callVi (As := [zL 2003137396]) (rest := []) dX10_wayHere_32 kX10_wayHere_172 rfl rfl rfl rfl (Nat.le_of_ble_eq_true rfl) (c_isWord c1 (by decide)) (fun r8 N10 h9 => ?_)
      rw [h9.1, h9.2]
      refine zt_ifeq_b (tgt := 42) dX10_wayHere_35 (by decide) (fun h => ?_) (fun h => ?_)
      · have W := W.1 h
        refine zr_aload_n 0 dX10_wayHere_42 rfl ?_
        refine zr_ldc2 (x := 474316174440) dX10_wayHere_43 (zc6 137 (by decide +kernel) rfl) ?_
        refine zt_callVi (As := [zL 474316174440]) (rest := []) dX10_wayHere_46 kX10_wayHere_172 rfl rfl rfl rfl (Nat.le_of_ble_eq_true rfl) (c_isWord c1 (by decide)) (fun r11 N13 h12 => ?_)
        rw [h12.1, h12.2]
        refine zt_ifeq_b (tgt := 56) dX10_wayHere_49 (by decide) (fun h => ?_) (fun h => ?_)
        · have W := W.1 h
          refine zr_iconst dX10_wayHere_56 ?_
          exact zt_iret dX10_wayHere_57 rfl W
        · have W := W.2 h
          refine zr_iconst dX10_wayHere_52 ?_
          refine zr_goto (tgt := 57) dX10_wayHere_53 (by decide) ?_
          exact zt_iret dX10_wayHere_57 rfl W
      · have W := W.2 h
        refine zr_iconst dX10_wayHere_38 ?_
        refine zr_goto (tgt := 57) dX10_wayHere_39 (by decide) ?_
        exact zt_iret dX10_wayHere_57 rfl W
    · have W := W.2 h
      refine zr_iconst dX10_wayHere_24 ?_
      refine zr_goto (tgt := 57) dX10_wayHere_25 (by decide) ?_
      exact zt_iret dX10_wayHere_57 rfl W
  · have W := W.2 h
    refine zr_iconst dX10_wayHere_10 ?_
    refine zr_goto (tgt := 57) dX10_wayHere_11 (by decide) ?_
    exact zt_iret dX10_wayHere_57 rfl W
theorem dX10_number_0 : decode cX10_number 0 = .ok (.aload_n 0, 1) := by decide +kernel
theorem dX10_number_1 : decode cX10_number 1 = .ok (.iload_n 1, 1) := by decide +kernel
theorem dX10_number_2 : decode cX10_number 2 = .ok (.iload_n 2, 1) := by decide +kernel
theorem dX10_number_3 : decode cX10_number 3 = .ok (.invokevirtual 146, 3) := by decide +kernel
theorem dX10_number_6 : decode cX10_number 6 = .ok (.istore_n 3, 1) := by decide +kernel
theorem dX10_number_7 : decode cX10_number 7 = .ok (.aload_n 0, 1) := by decide +kernel
theorem dX10_number_8 : decode cX10_number 8 = .ok (.invokevirtual 150, 3) := by decide +kernel
theorem dX10_number_11 : decode cX10_number 11 = .ok (.ifCond .eq 7, 3) := by decide +kernel
theorem dX10_number_14 : decode cX10_number 14 = .ok (.aload_n 0, 1) := by decide +kernel
theorem dX10_number_15 : decode cX10_number 15 = .ok (.invokevirtual 154, 3) := by decide +kernel
theorem dX10_number_18 : decode cX10_number 18 = .ok (.iload_n 3, 1) := by decide +kernel
theorem dX10_number_19 : decode cX10_number 19 = .ok (.ireturn, 1) := by decide +kernel
set_option maxRecDepth 100000 in
theorem SX10_number_0 {g : zG} {o : Bool} {M : zM} {q : Int → zM → Prop} {x1 x2 : Int} (W : (fOk M) ∧ (-2147483648 ≤ x1 ∧ x1 ≤ 2147483647) ∧ (-2147483648 ≤ x2 ∧ x2 ≤ 2147483647) ∧ ∀ (r4 : Int) (N6 : zM), r4 = nhV M → N6 = nhM x1 x2 M → (fOk N6) ∧ ((¬ (N6 1 7 = 0)) → q r4 N6) ∧ ((N6 1 7 = 0) → ∃ q11 : zM → Prop, zKv g (z2 o) mX10_goOn [zA g 1] N6 q11 ∧ ∀ M13 : zM, q11 M13 → q r4 M13)) : zT g (z2 o) mX10_number (zQi (z2 o) q) 0 [(0, zA g 1), (1, zI x1), (2, zI x2)] [] M := by
  refine zr_aload_n 0 dX10_number_0 rfl ?_
  refine zr_iload_n 1 dX10_number_1 rfl ?_
  refine zr_iload_n 2 dX10_number_2 rfl ?_
  obtain ⟨c1, W⟩ := W
  obtain ⟨c2, W⟩ := W
  obtain ⟨c3, W⟩ := W
  refine zt_callVi (As := [zI x1, zI x2]) (rest := []) dX10_number_3 kX10_number_146 rfl rfl rfl rfl (Nat.le_of_ble_eq_true rfl) (c_numberHere c1 c2 c3) (fun r4 N6 h5 => ?_)
  have W := W r4 N6 h5.1 h5.2
  refine zr_istore_n (l' := [(0, zA g 1), (3, zI r4)]) dX10_number_6 (by decide) [1, 0] rfl ?_
  refine zr_aload_n 0 dX10_number_7 rfl ?_
  obtain ⟨c7, W⟩ := W
  refine zt_callVi (As := []) (rest := []) dX10_number_8 kX10_number_150 rfl rfl rfl rfl (Nat.le_of_ble_eq_true rfl) (c_isGood c7) (fun r8 N10 h9 => ?_)
  rw [h9.1, h9.2]
  refine zt_ifeq_b (tgt := 18) dX10_number_11 (by decide) (fun h => ?_) (fun h => ?_)
  · have W := W.1 h
    refine zr_iload_n 1 dX10_number_18 rfl ?_
    exact zt_iret dX10_number_19 rfl W
  · have W := W.2 h
    refine zr_aload_n 0 dX10_number_14 rfl ?_
    obtain ⟨q11, k15, W⟩ := W
    refine zt_callVv (As := []) (rest := []) dX10_number_15 kX10_number_154 rfl rfl rfl rfl (Nat.le_of_ble_eq_true rfl) k15 (fun M13 h14 => ?_)
    have W := W M13 h14
    refine zr_iload_n 1 dX10_number_18 rfl ?_
    exact zt_iret dX10_number_19 rfl W
theorem dX10_begins_0 : decode cX10_begins 0 = .ok (.aload_n 0, 1) := by decide +kernel
theorem dX10_begins_1 : decode cX10_begins 1 = .ok (.getfield 20, 3) := by decide +kernel
theorem dX10_begins_4 : decode cX10_begins 4 = .ok (.bipush 10, 2) := by decide +kernel
theorem dX10_begins_6 : decode cX10_begins 6 = .ok (.bipush 8, 2) := by decide +kernel
theorem dX10_begins_8 : decode cX10_begins 8 = .ok (.iastore, 1) := by decide +kernel
theorem dX10_begins_9 : decode cX10_begins 9 = .ok (.aload_n 0, 1) := by decide +kernel
theorem dX10_begins_10 : decode cX10_begins 10 = .ok (.getfield 20, 3) := by decide +kernel
theorem dX10_begins_13 : decode cX10_begins 13 = .ok (.bipush 11, 2) := by decide +kernel
theorem dX10_begins_15 : decode cX10_begins 15 = .ok (.iconst 4, 1) := by decide +kernel
theorem dX10_begins_16 : decode cX10_begins 16 = .ok (.iastore, 1) := by decide +kernel
theorem dX10_begins_17 : decode cX10_begins 17 = .ok (.aload_n 0, 1) := by decide +kernel
theorem dX10_begins_18 : decode cX10_begins 18 = .ok (.getfield 20, 3) := by decide +kernel
theorem dX10_begins_21 : decode cX10_begins 21 = .ok (.bipush 12, 2) := by decide +kernel
theorem dX10_begins_23 : decode cX10_begins 23 = .ok (.iconst 3, 1) := by decide +kernel
theorem dX10_begins_24 : decode cX10_begins 24 = .ok (.iastore, 1) := by decide +kernel
theorem dX10_begins_25 : decode cX10_begins 25 = .ok (.aload_n 0, 1) := by decide +kernel
theorem dX10_begins_26 : decode cX10_begins 26 = .ok (.getfield 20, 3) := by decide +kernel
theorem dX10_begins_29 : decode cX10_begins 29 = .ok (.bipush 13, 2) := by decide +kernel
theorem dX10_begins_31 : decode cX10_begins 31 = .ok (.iconst 2, 1) := by decide +kernel
theorem dX10_begins_32 : decode cX10_begins 32 = .ok (.iastore, 1) := by decide +kernel
theorem dX10_begins_33 : decode cX10_begins 33 = .ok (.aload_n 0, 1) := by decide +kernel
theorem dX10_begins_34 : decode cX10_begins 34 = .ok (.getfield 20, 3) := by decide +kernel
theorem dX10_begins_37 : decode cX10_begins 37 = .ok (.bipush 14, 2) := by decide +kernel
theorem dX10_begins_39 : decode cX10_begins 39 = .ok (.iconst 2, 1) := by decide +kernel
theorem dX10_begins_40 : decode cX10_begins 40 = .ok (.iastore, 1) := by decide +kernel
theorem dX10_begins_41 : decode cX10_begins 41 = .ok (.aload_n 0, 1) := by decide +kernel
theorem dX10_begins_42 : decode cX10_begins 42 = .ok (.getfield 20, 3) := by decide +kernel
theorem dX10_begins_45 : decode cX10_begins 45 = .ok (.bipush 15, 2) := by decide +kernel
theorem dX10_begins_47 : decode cX10_begins 47 = .ok (.iconst 2, 1) := by decide +kernel
theorem dX10_begins_48 : decode cX10_begins 48 = .ok (.iastore, 1) := by decide +kernel
theorem dX10_begins_49 : decode cX10_begins 49 = .ok (.aload_n 0, 1) := by decide +kernel
theorem dX10_begins_50 : decode cX10_begins 50 = .ok (.getfield 20, 3) := by decide +kernel
theorem dX10_begins_53 : decode cX10_begins 53 = .ok (.bipush 16, 2) := by decide +kernel
theorem dX10_begins_55 : decode cX10_begins 55 = .ok (.bipush 10, 2) := by decide +kernel
theorem dX10_begins_57 : decode cX10_begins 57 = .ok (.iastore, 1) := by decide +kernel
theorem dX10_begins_58 : decode cX10_begins 58 = .ok (.aload_n 0, 1) := by decide +kernel
theorem dX10_begins_59 : decode cX10_begins 59 = .ok (.getfield 20, 3) := by decide +kernel
theorem dX10_begins_62 : decode cX10_begins 62 = .ok (.bipush 17, 2) := by decide +kernel
theorem dX10_begins_64 : decode cX10_begins 64 = .ok (.bipush 6, 2) := by decide +kernel
theorem dX10_begins_66 : decode cX10_begins 66 = .ok (.iastore, 1) := by decide +kernel
theorem dX10_begins_67 : decode cX10_begins 67 = .ok (.aload_n 0, 1) := by decide +kernel
theorem dX10_begins_68 : decode cX10_begins 68 = .ok (.getfield 20, 3) := by decide +kernel
theorem dX10_begins_71 : decode cX10_begins 71 = .ok (.bipush 18, 2) := by decide +kernel
theorem dX10_begins_73 : decode cX10_begins 73 = .ok (.iconst 0, 1) := by decide +kernel
theorem dX10_begins_74 : decode cX10_begins 74 = .ok (.iastore, 1) := by decide +kernel
theorem dX10_begins_75 : decode cX10_begins 75 = .ok (.aload_n 0, 1) := by decide +kernel
theorem dX10_begins_76 : decode cX10_begins 76 = .ok (.getfield 20, 3) := by decide +kernel
theorem dX10_begins_79 : decode cX10_begins 79 = .ok (.bipush 19, 2) := by decide +kernel
theorem dX10_begins_81 : decode cX10_begins 81 = .ok (.iconst 1, 1) := by decide +kernel
theorem dX10_begins_82 : decode cX10_begins 82 = .ok (.iastore, 1) := by decide +kernel
theorem dX10_begins_83 : decode cX10_begins 83 = .ok (.aload_n 0, 1) := by decide +kernel
theorem dX10_begins_84 : decode cX10_begins 84 = .ok (.getfield 23, 3) := by decide +kernel
theorem dX10_begins_87 : decode cX10_begins 87 = .ok (.bipush 8, 2) := by decide +kernel
theorem dX10_begins_89 : decode cX10_begins 89 = .ok (.iconst 0, 1) := by decide +kernel
theorem dX10_begins_90 : decode cX10_begins 90 = .ok (.iastore, 1) := by decide +kernel
theorem dX10_begins_91 : decode cX10_begins 91 = .ok (.aload_n 0, 1) := by decide +kernel
theorem dX10_begins_92 : decode cX10_begins 92 = .ok (.getfield 26, 3) := by decide +kernel
theorem dX10_begins_95 : decode cX10_begins 95 = .ok (.bipush 8, 2) := by decide +kernel
theorem dX10_begins_97 : decode cX10_begins 97 = .ok (.iconst 1, 1) := by decide +kernel
theorem dX10_begins_98 : decode cX10_begins 98 = .ok (.iastore, 1) := by decide +kernel
theorem dX10_begins_99 : decode cX10_begins 99 = .ok (.iconst 0, 1) := by decide +kernel
theorem dX10_begins_100 : decode cX10_begins 100 = .ok (.istore_n 1, 1) := by decide +kernel
theorem dX10_begins_101 : decode cX10_begins 101 = .ok (.iload_n 1, 1) := by decide +kernel
theorem dX10_begins_102 : decode cX10_begins 102 = .ok (.bipush 96, 2) := by decide +kernel
theorem dX10_begins_104 : decode cX10_begins 104 = .ok (.if_icmp .ge 29, 3) := by decide +kernel
theorem dX10_begins_107 : decode cX10_begins 107 = .ok (.aload_n 0, 1) := by decide +kernel
theorem dX10_begins_108 : decode cX10_begins 108 = .ok (.getfield 29, 3) := by decide +kernel
theorem dX10_begins_111 : decode cX10_begins 111 = .ok (.bipush 96, 2) := by decide +kernel
theorem dX10_begins_113 : decode cX10_begins 113 = .ok (.iload_n 1, 1) := by decide +kernel
theorem dX10_begins_114 : decode cX10_begins 114 = .ok (.iadd, 1) := by decide +kernel
theorem dX10_begins_115 : decode cX10_begins 115 = .ok (.iconst 0, 1) := by decide +kernel
theorem dX10_begins_116 : decode cX10_begins 116 = .ok (.iastore, 1) := by decide +kernel
theorem dX10_begins_117 : decode cX10_begins 117 = .ok (.aload_n 0, 1) := by decide +kernel
theorem dX10_begins_118 : decode cX10_begins 118 = .ok (.getfield 32, 3) := by decide +kernel
theorem dX10_begins_121 : decode cX10_begins 121 = .ok (.bipush 96, 2) := by decide +kernel
theorem dX10_begins_123 : decode cX10_begins 123 = .ok (.iload_n 1, 1) := by decide +kernel
theorem dX10_begins_124 : decode cX10_begins 124 = .ok (.iadd, 1) := by decide +kernel
theorem dX10_begins_125 : decode cX10_begins 125 = .ok (.iconst 0, 1) := by decide +kernel
theorem dX10_begins_126 : decode cX10_begins 126 = .ok (.iastore, 1) := by decide +kernel
theorem dX10_begins_127 : decode cX10_begins 127 = .ok (.iinc 1 1, 3) := by decide +kernel
theorem dX10_begins_130 : decode cX10_begins 130 = .ok (.goto (-29), 3) := by decide +kernel
theorem dX10_begins_133 : decode cX10_begins 133 = .ok (.iconst 0, 1) := by decide +kernel
theorem dX10_begins_134 : decode cX10_begins 134 = .ok (.istore_n 1, 1) := by decide +kernel
theorem dX10_begins_135 : decode cX10_begins 135 = .ok (.iload_n 1, 1) := by decide +kernel
theorem dX10_begins_136 : decode cX10_begins 136 = .ok (.bipush 8, 2) := by decide +kernel
theorem dX10_begins_138 : decode cX10_begins 138 = .ok (.if_icmp .ge 16, 3) := by decide +kernel
theorem dX10_begins_141 : decode cX10_begins 141 = .ok (.aload_n 0, 1) := by decide +kernel
theorem dX10_begins_142 : decode cX10_begins 142 = .ok (.getfield 38, 3) := by decide +kernel
theorem dX10_begins_145 : decode cX10_begins 145 = .ok (.iload_n 1, 1) := by decide +kernel
theorem dX10_begins_146 : decode cX10_begins 146 = .ok (.iconst 0, 1) := by decide +kernel
theorem dX10_begins_147 : decode cX10_begins 147 = .ok (.bastore, 1) := by decide +kernel
theorem dX10_begins_148 : decode cX10_begins 148 = .ok (.iinc 1 1, 3) := by decide +kernel
theorem dX10_begins_151 : decode cX10_begins 151 = .ok (.goto (-16), 3) := by decide +kernel
theorem dX10_begins_154 : decode cX10_begins 154 = .ok (.aload_n 0, 1) := by decide +kernel
theorem dX10_begins_155 : decode cX10_begins 155 = .ok (.iconst 0, 1) := by decide +kernel
theorem dX10_begins_156 : decode cX10_begins 156 = .ok (.putfield 157, 3) := by decide +kernel
theorem dX10_begins_159 : decode cX10_begins 159 = .ok (.aload_n 0, 1) := by decide +kernel
theorem dX10_begins_160 : decode cX10_begins 160 = .ok (.iconst 0, 1) := by decide +kernel
theorem dX10_begins_161 : decode cX10_begins 161 = .ok (.putfield 161, 3) := by decide +kernel
theorem dX10_begins_164 : decode cX10_begins 164 = .ok (.return_, 1) := by decide +kernel
set_option maxRecDepth 100000 in
theorem SX10_begins_0 {g : zG} {o : Bool} {M : zM} {q : zM → Prop} (W : ∀ N1 : zM, N1 = zu M 3 10 8 → ∀ N3 : zM, N3 = zu N1 3 11 4 → ∀ N5 : zM, N5 = zu N3 3 12 3 → ∀ N7 : zM, N7 = zu N5 3 13 2 → ∀ N9 : zM, N9 = zu N7 3 14 2 → ∀ N11 : zM, N11 = zu N9 3 15 2 → ∀ N13 : zM, N13 = zu N11 3 16 10 → ∀ N15 : zM, N15 = zu N13 3 17 6 → ∀ N17 : zM, N17 = zu N15 3 18 0 → ∀ N19 : zM, N19 = zu N17 3 19 1 → ∀ N21 : zM, N21 = zu N19 4 8 0 → zT g (z2 o) mX10_begins (zQv (z2 o) q) 101 [(0, zA g 1), (1, zI 0)] [] (zu N21 5 8 1)) : zT g (z2 o) mX10_begins (zQv (z2 o) q) 0 [(0, zA g 1)] [] M := by
  refine zr_aload_n 0 dX10_begins_0 rfl ?_
  refine zr_getr (b := 3) dX10_begins_1 fX10_20 rfl rfl rfl (by decide) ?_
  refine zr_bipush dX10_begins_4 (by decide) ?_
  refine zr_bipush dX10_begins_6 (by decide) ?_
  refine zr_iast dX10_begins_8 rfl (by decide) ⟨by decide, by decide⟩ ?_
  refine zr_aload_n 0 dX10_begins_9 rfl ?_
  refine zr_getr (b := 3) dX10_begins_10 fX10_20 rfl rfl rfl (by decide) ?_
  refine zr_bipush dX10_begins_13 (by decide) ?_
  refine zr_iconst dX10_begins_15 ?_
  obtain ⟨N1, e2⟩ : ∃ N : zM, N = zu M 3 10 8 := ⟨_, rfl⟩
  rw [← e2]
  have W := W N1 e2
  refine zr_iast dX10_begins_16 rfl (by decide) ⟨by decide, by decide⟩ ?_
  refine zr_aload_n 0 dX10_begins_17 rfl ?_
  refine zr_getr (b := 3) dX10_begins_18 fX10_20 rfl rfl rfl (by decide) ?_
  refine zr_bipush dX10_begins_21 (by decide) ?_
  refine zr_iconst dX10_begins_23 ?_
  obtain ⟨N3, e4⟩ : ∃ N : zM, N = zu N1 3 11 4 := ⟨_, rfl⟩
  rw [← e4]
  have W := W N3 e4
  refine zr_iast dX10_begins_24 rfl (by decide) ⟨by decide, by decide⟩ ?_
  refine zr_aload_n 0 dX10_begins_25 rfl ?_
  refine zr_getr (b := 3) dX10_begins_26 fX10_20 rfl rfl rfl (by decide) ?_
  refine zr_bipush dX10_begins_29 (by decide) ?_
  refine zr_iconst dX10_begins_31 ?_
  obtain ⟨N5, e6⟩ : ∃ N : zM, N = zu N3 3 12 3 := ⟨_, rfl⟩
  rw [← e6]
  have W := W N5 e6
  refine zr_iast dX10_begins_32 rfl (by decide) ⟨by decide, by decide⟩ ?_
  refine zr_aload_n 0 dX10_begins_33 rfl ?_
  refine zr_getr (b := 3) dX10_begins_34 fX10_20 rfl rfl rfl (by decide) ?_
  refine zr_bipush dX10_begins_37 (by decide) ?_
  refine zr_iconst dX10_begins_39 ?_
  obtain ⟨N7, e8⟩ : ∃ N : zM, N = zu N5 3 13 2 := ⟨_, rfl⟩
  rw [← e8]
  have W := W N7 e8
  refine zr_iast dX10_begins_40 rfl (by decide) ⟨by decide, by decide⟩ ?_
  refine zr_aload_n 0 dX10_begins_41 rfl ?_
  refine zr_getr (b := 3) dX10_begins_42 fX10_20 rfl rfl rfl (by decide) ?_
  refine zr_bipush dX10_begins_45 (by decide) ?_
  refine zr_iconst dX10_begins_47 ?_
  obtain ⟨N9, e10⟩ : ∃ N : zM, N = zu N7 3 14 2 := ⟨_, rfl⟩
  rw [← e10]
  have W := W N9 e10
  refine zr_iast dX10_begins_48 rfl (by decide) ⟨by decide, by decide⟩ ?_
  refine zr_aload_n 0 dX10_begins_49 rfl ?_
  refine zr_getr (b := 3) dX10_begins_50 fX10_20 rfl rfl rfl (by decide) ?_
  refine zr_bipush dX10_begins_53 (by decide) ?_
  refine zr_bipush dX10_begins_55 (by decide) ?_
  obtain ⟨N11, e12⟩ : ∃ N : zM, N = zu N9 3 15 2 := ⟨_, rfl⟩
  rw [← e12]
  have W := W N11 e12
  refine zr_iast dX10_begins_57 rfl (by decide) ⟨by decide, by decide⟩ ?_
  refine zr_aload_n 0 dX10_begins_58 rfl ?_
  refine zr_getr (b := 3) dX10_begins_59 fX10_20 rfl rfl rfl (by decide) ?_
  refine zr_bipush dX10_begins_62 (by decide) ?_
  refine zr_bipush dX10_begins_64 (by decide) ?_
  obtain ⟨N13, e14⟩ : ∃ N : zM, N = zu N11 3 16 10 := ⟨_, rfl⟩
  rw [← e14]
  have W := W N13 e14
  refine zr_iast dX10_begins_66 rfl (by decide) ⟨by decide, by decide⟩ ?_
  refine zr_aload_n 0 dX10_begins_67 rfl ?_
  refine zr_getr (b := 3) dX10_begins_68 fX10_20 rfl rfl rfl (by decide) ?_
  refine zr_bipush dX10_begins_71 (by decide) ?_
  refine zr_iconst dX10_begins_73 ?_
  obtain ⟨N15, e16⟩ : ∃ N : zM, N = zu N13 3 17 6 := ⟨_, rfl⟩
  rw [← e16]
  have W := W N15 e16
  refine zr_iast dX10_begins_74 rfl (by decide) ⟨by decide, by decide⟩ ?_
  refine zr_aload_n 0 dX10_begins_75 rfl ?_
  refine zr_getr (b := 3) dX10_begins_76 fX10_20 rfl rfl rfl (by decide) ?_
  refine zr_bipush dX10_begins_79 (by decide) ?_
  refine zr_iconst dX10_begins_81 ?_
  obtain ⟨N17, e18⟩ : ∃ N : zM, N = zu N15 3 18 0 := ⟨_, rfl⟩
  rw [← e18]
  have W := W N17 e18
  refine zr_iast dX10_begins_82 rfl (by decide) ⟨by decide, by decide⟩ ?_
  refine zr_aload_n 0 dX10_begins_83 rfl ?_
  refine zr_getr (b := 4) dX10_begins_84 fX10_23 rfl rfl rfl (by decide) ?_
  refine zr_bipush dX10_begins_87 (by decide) ?_
  refine zr_iconst dX10_begins_89 ?_
  obtain ⟨N19, e20⟩ : ∃ N : zM, N = zu N17 3 19 1 := ⟨_, rfl⟩
  rw [← e20]
  have W := W N19 e20
  refine zr_iast dX10_begins_90 rfl (by decide) ⟨by decide, by decide⟩ ?_
  refine zr_aload_n 0 dX10_begins_91 rfl ?_
  refine zr_getr (b := 5) dX10_begins_92 fX10_26 rfl rfl rfl (by decide) ?_
  refine zr_bipush dX10_begins_95 (by decide) ?_
  refine zr_iconst dX10_begins_97 ?_
  obtain ⟨N21, e22⟩ : ∃ N : zM, N = zu N19 4 8 0 := ⟨_, rfl⟩
  rw [← e22]
  have W := W N21 e22
  refine zr_iast dX10_begins_98 rfl (by decide) ⟨by decide, by decide⟩ ?_
  refine zr_iconst dX10_begins_99 ?_
  refine zr_istore_n (l' := [(0, zA g 1), (1, zI 0)]) dX10_begins_100 (by decide) [1, 0] rfl ?_
  exact W
set_option maxRecDepth 100000 in
theorem SX10_begins_101 {g : zG} {o : Bool} {M : zM} {q : zM → Prop} {x1 : Int} (W : (-2147483648 ≤ x1 ∧ x1 ≤ 2147483647) ∧ ((96 ≤ x1) → zT g (z2 o) mX10_begins (zQv (z2 o) q) 135 [(0, zA g 1), (1, zI 0)] [] M) ∧ ((¬ (96 ≤ x1)) → (0 ≤ (96 + x1) ∧ (96 + x1) < 192) ∧ ∀ N3 : zM, N3 = zu M 6 (96 + x1) 0 → zT g (z2 o) mX10_begins (zQv (z2 o) q) 101 [(0, zA g 1), (1, zI (x1 + 1))] [] (zu N3 7 (96 + x1) 0))) : zT g (z2 o) mX10_begins (zQv (z2 o) q) 101 [(0, zA g 1), (1, zI x1)] [] M := by
  refine zr_iload_n 1 dX10_begins_101 rfl ?_
  refine zr_bipush dX10_begins_102 (by decide) ?_
  obtain ⟨c1, W⟩ := W
  refine zr_icmp_ge (tgt := 133) dX10_begins_104 (by decide) c1 ⟨by decide, by decide⟩ (fun h => ?_) (fun h => ?_)
  · have W := W.1 h
    refine zr_iconst dX10_begins_133 ?_
    refine zr_istore_n (l' := [(0, zA g 1), (1, zI 0)]) dX10_begins_134 (by decide) [1, 0] rfl ?_
    exact W
  · have W := W.2 h
    refine zr_aload_n 0 dX10_begins_107 rfl ?_
    refine zr_getr (b := 6) dX10_begins_108 fX10_29 rfl rfl rfl (by decide) ?_
    refine zr_bipush dX10_begins_111 (by decide) ?_
    refine zr_iload_n 1 dX10_begins_113 rfl ?_
    refine zr_iadd dX10_begins_114 ?_
    refine zr_iconst dX10_begins_115 ?_
    obtain ⟨c2, W⟩ := W
    refine zr_iast dX10_begins_116 rfl (by decide) c2 ?_
    refine zr_aload_n 0 dX10_begins_117 rfl ?_
    refine zr_getr (b := 7) dX10_begins_118 fX10_32 rfl rfl rfl (by decide) ?_
    refine zr_bipush dX10_begins_121 (by decide) ?_
    refine zr_iload_n 1 dX10_begins_123 rfl ?_
    refine zr_iadd dX10_begins_124 ?_
    refine zr_iconst dX10_begins_125 ?_
    obtain ⟨N3, e4⟩ : ∃ N : zM, N = zu M 6 (96 + x1) 0 := ⟨_, rfl⟩
    rw [← e4]
    have W := W N3 e4
    refine zr_iast dX10_begins_126 rfl (by decide) c2 ?_
    refine zr_iinc (q := 1) (l' := [(0, zA g 1), (1, zI (x1 + 1))]) dX10_begins_127 rfl (by decide) [1, 0] rfl ?_
    refine zr_goto (tgt := 101) dX10_begins_130 (by decide) ?_
    exact W
set_option maxRecDepth 100000 in
theorem SX10_begins_135 {g : zG} {o : Bool} {M : zM} {q : zM → Prop} {x1 : Int} (W : (-2147483648 ≤ x1 ∧ x1 ≤ 2147483647) ∧ ((8 ≤ x1) → ∀ N2 : zM, N2 = zu M 1 19 0 → q (zu N2 1 20 0)) ∧ ((¬ (8 ≤ x1)) → (0 ≤ x1 ∧ x1 < 8) ∧ zT g (z2 o) mX10_begins (zQv (z2 o) q) 135 [(0, zA g 1), (1, zI (x1 + 1))] [] (zu M 9 x1 0))) : zT g (z2 o) mX10_begins (zQv (z2 o) q) 135 [(0, zA g 1), (1, zI x1)] [] M := by
  refine zr_iload_n 1 dX10_begins_135 rfl ?_
  refine zr_bipush dX10_begins_136 (by decide) ?_
  obtain ⟨c1, W⟩ := W
  refine zr_icmp_ge (tgt := 154) dX10_begins_138 (by decide) c1 ⟨by decide, by decide⟩ (fun h => ?_) (fun h => ?_)
  · have W := W.1 h
    refine zr_aload_n 0 dX10_begins_154 rfl ?_
    refine zr_iconst dX10_begins_155 ?_
    refine zt_putz 19 rfl dX10_begins_156 fX10_157 lcX10 ltX10_19 rfl (by decide) rfl ?_
    refine zr_aload_n 0 dX10_begins_159 rfl ?_
    refine zr_iconst dX10_begins_160 ?_
    obtain ⟨N2, e3⟩ : ∃ N : zM, N = zu M 1 19 0 := ⟨_, rfl⟩
    rw [← e3]
    have W := W N2 e3
    refine zt_puti 20 rfl dX10_begins_161 fX10_161 lcX10 ltX10_20 rfl rfl ?_
    exact zt_ret dX10_begins_164 rfl W
  · have W := W.2 h
    refine zr_aload_n 0 dX10_begins_141 rfl ?_
    refine zr_getr (b := 9) dX10_begins_142 fX10_38 rfl rfl rfl (by decide) ?_
    refine zr_iload_n 1 dX10_begins_145 rfl ?_
    refine zr_iconst dX10_begins_146 ?_
    obtain ⟨c4, W⟩ := W
    refine zr_zast dX10_begins_147 rfl (by decide) c4 (by decide) ?_
    refine zr_iinc (q := 1) (l' := [(0, zA g 1), (1, zI (x1 + 1))]) dX10_begins_148 rfl (by decide) [1, 0] rfl ?_
    refine zr_goto (tgt := 135) dX10_begins_151 (by decide) ?_
    exact W
theorem dX10_once_0 : decode cX10_once 0 = .ok (.aload_n 0, 1) := by decide +kernel
theorem dX10_once_1 : decode cX10_once 1 = .ok (.getfield 38, 3) := by decide +kernel
theorem dX10_once_4 : decode cX10_once 4 = .ok (.iload_n 1, 1) := by decide +kernel
theorem dX10_once_5 : decode cX10_once 5 = .ok (.baload, 1) := by decide +kernel
theorem dX10_once_6 : decode cX10_once 6 = .ok (.ifCond .eq 8, 3) := by decide +kernel
theorem dX10_once_9 : decode cX10_once 9 = .ok (.aload_n 0, 1) := by decide +kernel
theorem dX10_once_10 : decode cX10_once 10 = .ok (.iconst 3, 1) := by decide +kernel
theorem dX10_once_11 : decode cX10_once 11 = .ok (.invokevirtual 143, 3) := by decide +kernel
theorem dX10_once_14 : decode cX10_once 14 = .ok (.aload_n 0, 1) := by decide +kernel
theorem dX10_once_15 : decode cX10_once 15 = .ok (.getfield 140, 3) := by decide +kernel
theorem dX10_once_18 : decode cX10_once 18 = .ok (.ifCond .le 5, 3) := by decide +kernel
theorem dX10_once_21 : decode cX10_once 21 = .ok (.iconst 0, 1) := by decide +kernel
theorem dX10_once_22 : decode cX10_once 22 = .ok (.ireturn, 1) := by decide +kernel
theorem dX10_once_23 : decode cX10_once 23 = .ok (.aload_n 0, 1) := by decide +kernel
theorem dX10_once_24 : decode cX10_once 24 = .ok (.getfield 38, 3) := by decide +kernel
theorem dX10_once_27 : decode cX10_once 27 = .ok (.iload_n 1, 1) := by decide +kernel
theorem dX10_once_28 : decode cX10_once 28 = .ok (.iconst 1, 1) := by decide +kernel
theorem dX10_once_29 : decode cX10_once 29 = .ok (.bastore, 1) := by decide +kernel
theorem dX10_once_30 : decode cX10_once 30 = .ok (.aload_n 0, 1) := by decide +kernel
theorem dX10_once_31 : decode cX10_once 31 = .ok (.invokevirtual 154, 3) := by decide +kernel
theorem dX10_once_34 : decode cX10_once 34 = .ok (.iconst 1, 1) := by decide +kernel
theorem dX10_once_35 : decode cX10_once 35 = .ok (.ireturn, 1) := by decide +kernel
set_option maxRecDepth 100000 in
theorem SX10_once_0 {g : zG} {o : Bool} {M : zM} {q : Int → zM → Prop} {x1 : Int} (W : (0 ≤ x1 ∧ x1 < 8) ∧ (-2147483648 ≤ (M 9 x1) ∧ (M 9 x1) ≤ 2147483647) ∧ (((M 9 x1) = 0) → (-2147483648 ≤ (M 1 7) ∧ (M 1 7) ≤ 2147483647) ∧ (((M 1 7) ≤ 0) → ∃ q4 : zM → Prop, zKv g (z2 o) mX10_goOn [zA g 1] (zu M 9 x1 1) q4 ∧ ∀ M6 : zM, q4 M6 → q 1 M6) ∧ ((¬ ((M 1 7) ≤ 0)) → q 0 M)) ∧ ((¬ ((M 9 x1) = 0)) → (fOk M) ∧ ∀ N12 : zM, N12 = wrM 3 M → (-2147483648 ≤ (N12 1 7) ∧ (N12 1 7) ≤ 2147483647) ∧ (((N12 1 7) ≤ 0) → ∃ q14 : zM → Prop, zKv g (z2 o) mX10_goOn [zA g 1] (zu N12 9 x1 1) q14 ∧ ∀ M16 : zM, q14 M16 → q 1 M16) ∧ ((¬ ((N12 1 7) ≤ 0)) → q 0 N12))) : zT g (z2 o) mX10_once (zQi (z2 o) q) 0 [(0, zA g 1), (1, zI x1)] [] M := by
  refine zr_aload_n 0 dX10_once_0 rfl ?_
  refine zr_getr (b := 9) dX10_once_1 fX10_38 rfl rfl rfl (by decide) ?_
  refine zr_iload_n 1 dX10_once_4 rfl ?_
  obtain ⟨c1, W⟩ := W
  refine zr_zald dX10_once_5 rfl (by decide) c1 ?_
  obtain ⟨c2, W⟩ := W
  refine zr_if_eq (tgt := 14) dX10_once_6 (by decide) c2 (fun h => ?_) (fun h => ?_)
  · have W := W.1 h
    refine zr_aload_n 0 dX10_once_14 rfl ?_
    refine zt_geti 7 rfl dX10_once_15 fX10_140 rfl (by decide) ?_
    obtain ⟨c3, W⟩ := W
    refine zr_if_le (tgt := 23) dX10_once_18 (by decide) c3 (fun h => ?_) (fun h => ?_)
    · have W := W.1 h
      refine zr_aload_n 0 dX10_once_23 rfl ?_
      refine zr_getr (b := 9) dX10_once_24 fX10_38 rfl rfl rfl (by decide) ?_
      refine zr_iload_n 1 dX10_once_27 rfl ?_
      refine zr_iconst dX10_once_28 ?_
      refine zr_zast dX10_once_29 rfl (by decide) c1 (by decide) ?_
      refine zr_aload_n 0 dX10_once_30 rfl ?_
      obtain ⟨q4, k8, W⟩ := W
      refine zt_callVv (As := []) (rest := []) dX10_once_31 kX10_once_154 rfl rfl rfl rfl (Nat.le_of_ble_eq_true rfl) k8 (fun M6 h7 => ?_)
      have W := W M6 h7
      refine zr_iconst dX10_once_34 ?_
      exact zt_zret dX10_once_35 rfl (by decide) W
    · have W := W.2 h
      refine zr_iconst dX10_once_21 ?_
      exact zt_zret dX10_once_22 rfl (by decide) W
  · have W := W.2 h
    refine zr_aload_n 0 dX10_once_9 rfl ?_
    refine zr_iconst dX10_once_10 ?_
    obtain ⟨c9, W⟩ := W
    refine zt_callVv (As := [zI 3]) (rest := []) dX10_once_11 kX10_once_143 rfl rfl rfl rfl (Nat.le_of_ble_eq_true rfl) (c_wrong c9) (fun N12 h11 => ?_)
    have W := W N12 h11
    refine zr_aload_n 0 dX10_once_14 rfl ?_
    refine zt_geti 7 rfl dX10_once_15 fX10_140 rfl (by decide) ?_
    obtain ⟨c13, W⟩ := W
    refine zr_if_le (tgt := 23) dX10_once_18 (by decide) c13 (fun h => ?_) (fun h => ?_)
    · have W := W.1 h
      refine zr_aload_n 0 dX10_once_23 rfl ?_
      refine zr_getr (b := 9) dX10_once_24 fX10_38 rfl rfl rfl (by decide) ?_
      refine zr_iload_n 1 dX10_once_27 rfl ?_
      refine zr_iconst dX10_once_28 ?_
      refine zr_zast dX10_once_29 rfl (by decide) c1 (by decide) ?_
      refine zr_aload_n 0 dX10_once_30 rfl ?_
      obtain ⟨q14, k18, W⟩ := W
      refine zt_callVv (As := []) (rest := []) dX10_once_31 kX10_once_154 rfl rfl rfl rfl (Nat.le_of_ble_eq_true rfl) k18 (fun M16 h17 => ?_)
      have W := W M16 h17
      refine zr_iconst dX10_once_34 ?_
      exact zt_zret dX10_once_35 rfl (by decide) W
    · have W := W.2 h
      refine zr_iconst dX10_once_21 ?_
      exact zt_zret dX10_once_22 rfl (by decide) W
section PR
variable {g : zG} {o : Bool} {M N : zM} {lo hi k w : Int}
theorem c_wayHere (h : fOk M) : zKi g (z2 o) mX10_wayHere [zA g 1] M (fun r N => r = wyR M ∧ N = M) := by
  have nz : ∀ {Q : Prop}, ¬ Q → zb Q ≠ 1 := fun z => by rw [zb_f z]; decide
  refine zki_of rfl (Nat.le_of_ble_eq_true rfl) (SX10_wayHere_0 ⟨h, fun a => ⟨fun b => ⟨fun c => ⟨fun d => ⟨?_, rfl⟩, fun d => ⟨?_, rfl⟩⟩, fun c => ⟨?_, rfl⟩⟩, fun b => ⟨?_, rfl⟩⟩, fun a => ⟨?_, rfl⟩⟩)
  · unfold wyR; rw [if_neg (nz a), if_neg (nz b), if_neg (nz c), if_neg (nz d)]
  · unfold wyR; rw [if_neg (nz a), if_neg (nz b), if_neg (nz c), if_pos (zb_t d)]
  · unfold wyR; rw [if_neg (nz a), if_neg (nz b), if_pos (zb_t c)]
  · unfold wyR; rw [if_neg (nz a), if_pos (zb_t b)]
  · unfold wyR; rw [if_pos (zb_t a)]
end PR
theorem dX10_sizeLine_0 : decode cX10_sizeLine 0 = .ok (.aload_n 0, 1) := by decide +kernel
theorem dX10_sizeLine_1 : decode cX10_sizeLine 1 = .ok (.getfield 157, 3) := by decide +kernel
theorem dX10_sizeLine_4 : decode cX10_sizeLine 4 = .ok (.ifCond .ne 12, 3) := by decide +kernel
theorem dX10_sizeLine_7 : decode cX10_sizeLine 7 = .ok (.aload_n 0, 1) := by decide +kernel
theorem dX10_sizeLine_8 : decode cX10_sizeLine 8 = .ok (.getfield 38, 3) := by decide +kernel
theorem dX10_sizeLine_11 : decode cX10_sizeLine 11 = .ok (.iconst 0, 1) := by decide +kernel
theorem dX10_sizeLine_12 : decode cX10_sizeLine 12 = .ok (.baload, 1) := by decide +kernel
theorem dX10_sizeLine_13 : decode cX10_sizeLine 13 = .ok (.ifCond .eq 8, 3) := by decide +kernel
theorem dX10_sizeLine_16 : decode cX10_sizeLine 16 = .ok (.aload_n 0, 1) := by decide +kernel
theorem dX10_sizeLine_17 : decode cX10_sizeLine 17 = .ok (.iconst 2, 1) := by decide +kernel
theorem dX10_sizeLine_18 : decode cX10_sizeLine 18 = .ok (.invokevirtual 143, 3) := by decide +kernel
theorem dX10_sizeLine_21 : decode cX10_sizeLine 21 = .ok (.aload_n 0, 1) := by decide +kernel
theorem dX10_sizeLine_22 : decode cX10_sizeLine 22 = .ok (.invokevirtual 150, 3) := by decide +kernel
theorem dX10_sizeLine_25 : decode cX10_sizeLine 25 = .ok (.ifCond .eq 11, 3) := by decide +kernel
theorem dX10_sizeLine_28 : decode cX10_sizeLine 28 = .ok (.aload_n 0, 1) := by decide +kernel
theorem dX10_sizeLine_29 : decode cX10_sizeLine 29 = .ok (.iconst 0, 1) := by decide +kernel
theorem dX10_sizeLine_30 : decode cX10_sizeLine 30 = .ok (.invokevirtual 164, 3) := by decide +kernel
theorem dX10_sizeLine_33 : decode cX10_sizeLine 33 = .ok (.ifCond .eq 10, 3) := by decide +kernel
theorem dX10_sizeLine_36 : decode cX10_sizeLine 36 = .ok (.aload_n 0, 1) := by decide +kernel
theorem dX10_sizeLine_37 : decode cX10_sizeLine 37 = .ok (.getfield 140, 3) := by decide +kernel
theorem dX10_sizeLine_40 : decode cX10_sizeLine 40 = .ok (.ifCond .le 4, 3) := by decide +kernel
theorem dX10_sizeLine_43 : decode cX10_sizeLine 43 = .ok (.return_, 1) := by decide +kernel
theorem dX10_sizeLine_44 : decode cX10_sizeLine 44 = .ok (.aload_n 0, 1) := by decide +kernel
theorem dX10_sizeLine_45 : decode cX10_sizeLine 45 = .ok (.iconst 3, 1) := by decide +kernel
theorem dX10_sizeLine_46 : decode cX10_sizeLine 46 = .ok (.bipush 12, 2) := by decide +kernel
theorem dX10_sizeLine_48 : decode cX10_sizeLine 48 = .ok (.invokevirtual 167, 3) := by decide +kernel
theorem dX10_sizeLine_51 : decode cX10_sizeLine 51 = .ok (.istore_n 1, 1) := by decide +kernel
theorem dX10_sizeLine_52 : decode cX10_sizeLine 52 = .ok (.aload_n 0, 1) := by decide +kernel
theorem dX10_sizeLine_53 : decode cX10_sizeLine 53 = .ok (.ldc2_w 170, 3) := by decide +kernel
theorem dX10_sizeLine_56 : decode cX10_sizeLine 56 = .ok (.invokevirtual 172, 3) := by decide +kernel
theorem dX10_sizeLine_59 : decode cX10_sizeLine 59 = .ok (.ifCond .ne 8, 3) := by decide +kernel
theorem dX10_sizeLine_62 : decode cX10_sizeLine 62 = .ok (.aload_n 0, 1) := by decide +kernel
theorem dX10_sizeLine_63 : decode cX10_sizeLine 63 = .ok (.iconst 2, 1) := by decide +kernel
theorem dX10_sizeLine_64 : decode cX10_sizeLine 64 = .ok (.invokevirtual 143, 3) := by decide +kernel
theorem dX10_sizeLine_67 : decode cX10_sizeLine 67 = .ok (.aload_n 0, 1) := by decide +kernel
theorem dX10_sizeLine_68 : decode cX10_sizeLine 68 = .ok (.invokevirtual 150, 3) := by decide +kernel
theorem dX10_sizeLine_71 : decode cX10_sizeLine 71 = .ok (.ifCond .eq 7, 3) := by decide +kernel
theorem dX10_sizeLine_74 : decode cX10_sizeLine 74 = .ok (.aload_n 0, 1) := by decide +kernel
theorem dX10_sizeLine_75 : decode cX10_sizeLine 75 = .ok (.invokevirtual 154, 3) := by decide +kernel
theorem dX10_sizeLine_78 : decode cX10_sizeLine 78 = .ok (.aload_n 0, 1) := by decide +kernel
theorem dX10_sizeLine_79 : decode cX10_sizeLine 79 = .ok (.iconst 1, 1) := by decide +kernel
theorem dX10_sizeLine_80 : decode cX10_sizeLine 80 = .ok (.bipush 8, 2) := by decide +kernel
theorem dX10_sizeLine_82 : decode cX10_sizeLine 82 = .ok (.invokevirtual 167, 3) := by decide +kernel
theorem dX10_sizeLine_85 : decode cX10_sizeLine 85 = .ok (.istore_n 2, 1) := by decide +kernel
theorem dX10_sizeLine_86 : decode cX10_sizeLine 86 = .ok (.aload_n 0, 1) := by decide +kernel
theorem dX10_sizeLine_87 : decode cX10_sizeLine 87 = .ok (.getfield 140, 3) := by decide +kernel
theorem dX10_sizeLine_90 : decode cX10_sizeLine 90 = .ok (.ifCond .le 4, 3) := by decide +kernel
theorem dX10_sizeLine_93 : decode cX10_sizeLine 93 = .ok (.return_, 1) := by decide +kernel
theorem dX10_sizeLine_94 : decode cX10_sizeLine 94 = .ok (.aload_n 0, 1) := by decide +kernel
theorem dX10_sizeLine_95 : decode cX10_sizeLine 95 = .ok (.getfield 20, 3) := by decide +kernel
theorem dX10_sizeLine_98 : decode cX10_sizeLine 98 = .ok (.bipush 10, 2) := by decide +kernel
theorem dX10_sizeLine_100 : decode cX10_sizeLine 100 = .ok (.iload_n 1, 1) := by decide +kernel
theorem dX10_sizeLine_101 : decode cX10_sizeLine 101 = .ok (.iastore, 1) := by decide +kernel
theorem dX10_sizeLine_102 : decode cX10_sizeLine 102 = .ok (.aload_n 0, 1) := by decide +kernel
theorem dX10_sizeLine_103 : decode cX10_sizeLine 103 = .ok (.getfield 20, 3) := by decide +kernel
theorem dX10_sizeLine_106 : decode cX10_sizeLine 106 = .ok (.bipush 11, 2) := by decide +kernel
theorem dX10_sizeLine_108 : decode cX10_sizeLine 108 = .ok (.iload_n 2, 1) := by decide +kernel
theorem dX10_sizeLine_109 : decode cX10_sizeLine 109 = .ok (.iastore, 1) := by decide +kernel
theorem dX10_sizeLine_110 : decode cX10_sizeLine 110 = .ok (.return_, 1) := by decide +kernel
set_option maxRecDepth 100000 in
theorem SX10_sizeLine_0 {g : zG} {o : Bool} {M : zM} {q : zM → Prop} (W : (-2147483648 ≤ (M 1 19) ∧ (M 1 19) ≤ 2147483647) ∧ (((M 1 19) ≠ 0) → (fOk M) ∧ ∀ N5 : zM, N5 = wrM 2 M → zT g (z2 o) mX10_sizeLine (zQv (z2 o) q) 21 [(0, zA g 1)] [] N5) ∧ (((M 1 19) = 0) → (-2147483648 ≤ (M 9 0) ∧ (M 9 0) ≤ 2147483647) ∧ (((M 9 0) = 0) → zT g (z2 o) mX10_sizeLine (zQv (z2 o) q) 21 [(0, zA g 1)] [] M) ∧ ((¬ ((M 9 0) = 0)) → (fOk M) ∧ ∀ N10 : zM, N10 = wrM 2 M → zT g (z2 o) mX10_sizeLine (zQv (z2 o) q) 21 [(0, zA g 1)] [] N10))) : zT g (z2 o) mX10_sizeLine (zQv (z2 o) q) 0 [(0, zA g 1)] [] M := by
  refine zr_aload_n 0 dX10_sizeLine_0 rfl ?_
  refine zt_geti 19 rfl dX10_sizeLine_1 fX10_157 rfl (by decide) ?_
  obtain ⟨c1, W⟩ := W
  refine zr_if_ne (tgt := 16) dX10_sizeLine_4 (by decide) c1 (fun h => ?_) (fun h => ?_)
  · have W := W.1 h
    refine zr_aload_n 0 dX10_sizeLine_16 rfl ?_
    refine zr_iconst dX10_sizeLine_17 ?_
    obtain ⟨c2, W⟩ := W
    refine zt_callVv (As := [zI 2]) (rest := []) dX10_sizeLine_18 kX10_sizeLine_143 rfl rfl rfl rfl (Nat.le_of_ble_eq_true rfl) (c_wrong c2) (fun N5 h4 => ?_)
    have W := W N5 h4
    exact W
  · have W := W.2 h
    refine zr_aload_n 0 dX10_sizeLine_7 rfl ?_
    refine zr_getr (b := 9) dX10_sizeLine_8 fX10_38 rfl rfl rfl (by decide) ?_
    refine zr_iconst dX10_sizeLine_11 ?_
    refine zr_zald dX10_sizeLine_12 rfl (by decide) ⟨by decide, by decide⟩ ?_
    obtain ⟨c6, W⟩ := W
    refine zr_if_eq (tgt := 21) dX10_sizeLine_13 (by decide) c6 (fun h => ?_) (fun h => ?_)
    · have W := W.1 h
      exact W
    · have W := W.2 h
      refine zr_aload_n 0 dX10_sizeLine_16 rfl ?_
      refine zr_iconst dX10_sizeLine_17 ?_
      obtain ⟨c7, W⟩ := W
      refine zt_callVv (As := [zI 2]) (rest := []) dX10_sizeLine_18 kX10_sizeLine_143 rfl rfl rfl rfl (Nat.le_of_ble_eq_true rfl) (c_wrong c7) (fun N10 h9 => ?_)
      have W := W N10 h9
      exact W
set_option maxRecDepth 100000 in
theorem SX10_sizeLine_21 {g : zG} {o : Bool} {M : zM} {q : zM → Prop} (W : (fOk M) ∧ ((¬ (M 1 7 = 0)) → (-2147483648 ≤ (M 1 7) ∧ (M 1 7) ≤ 2147483647) ∧ (((M 1 7) ≤ 0) → ∃ q6 : Int → zM → Prop, zKi g (z2 o) mX10_number [zA g 1, zI 3, zI 12] M q6 ∧ ∀ (r7 : Int) (M8 : zM), q6 r7 M8 → (fOk M8) ∧ ((isW 25209 M8) → zT g (z2 o) mX10_sizeLine (zQv (z2 o) q) 67 [(0, zA g 1), (1, zI r7)] [] M8) ∧ ((¬ (isW 25209 M8)) → ∀ N17 : zM, N17 = wrM 2 M8 → zT g (z2 o) mX10_sizeLine (zQv (z2 o) q) 67 [(0, zA g 1), (1, zI r7)] [] N17)) ∧ ((¬ ((M 1 7) ≤ 0)) → q M)) ∧ ((M 1 7 = 0) → ∃ q18 : Int → zM → Prop, zKi g (z2 o) mX10_once [zA g 1, zI 0] M q18 ∧ ∀ (r19 : Int) (M20 : zM), q18 r19 M20 → (-2147483648 ≤ r19 ∧ r19 ≤ 2147483647) ∧ ((r19 = 0) → q M20) ∧ ((¬ (r19 = 0)) → (-2147483648 ≤ (M20 1 7) ∧ (M20 1 7) ≤ 2147483647) ∧ (((M20 1 7) ≤ 0) → ∃ q25 : Int → zM → Prop, zKi g (z2 o) mX10_number [zA g 1, zI 3, zI 12] M20 q25 ∧ ∀ (r26 : Int) (M27 : zM), q25 r26 M27 → (fOk M27) ∧ ((isW 25209 M27) → zT g (z2 o) mX10_sizeLine (zQv (z2 o) q) 67 [(0, zA g 1), (1, zI r26)] [] M27) ∧ ((¬ (isW 25209 M27)) → ∀ N36 : zM, N36 = wrM 2 M27 → zT g (z2 o) mX10_sizeLine (zQv (z2 o) q) 67 [(0, zA g 1), (1, zI r26)] [] N36)) ∧ ((¬ ((M20 1 7) ≤ 0)) → q M20)))) : zT g (z2 o) mX10_sizeLine (zQv (z2 o) q) 21 [(0, zA g 1)] [] M := by
  refine zr_aload_n 0 dX10_sizeLine_21 rfl ?_
  obtain ⟨c1, W⟩ := W
  refine zt_callVi (As := []) (rest := []) dX10_sizeLine_22 kX10_sizeLine_150 rfl rfl rfl rfl (Nat.le_of_ble_eq_true rfl) (c_isGood c1) (fun r2 N4 h3 => ?_)
  rw [h3.1, h3.2]
  refine zt_ifeq_b (tgt := 36) dX10_sizeLine_25 (by decide) (fun h => ?_) (fun h => ?_)
  · have W := W.1 h
    refine zr_aload_n 0 dX10_sizeLine_36 rfl ?_
    refine zt_geti 7 rfl dX10_sizeLine_37 fX10_140 rfl (by decide) ?_
    obtain ⟨c5, W⟩ := W
    refine zr_if_le (tgt := 44) dX10_sizeLine_40 (by decide) c5 (fun h => ?_) (fun h => ?_)
    · have W := W.1 h
      refine zr_aload_n 0 dX10_sizeLine_44 rfl ?_
      refine zr_iconst dX10_sizeLine_45 ?_
      refine zr_bipush dX10_sizeLine_46 (by decide) ?_
      obtain ⟨q6, k10, W⟩ := W
      refine zt_callVi (As := [zI 3, zI 12]) (rest := []) dX10_sizeLine_48 kX10_sizeLine_167 rfl rfl rfl rfl (Nat.le_of_ble_eq_true rfl) k10 (fun r7 M8 h9 => ?_)
      have W := W r7 M8 h9
      refine zr_istore_n (l' := [(0, zA g 1), (1, zI r7)]) dX10_sizeLine_51 (by decide) [1, 0] rfl ?_
      refine zr_aload_n 0 dX10_sizeLine_52 rfl ?_
      refine zr_ldc2 (x := 25209) dX10_sizeLine_53 (zc6 105 (by decide +kernel) rfl) ?_
      obtain ⟨c11, W⟩ := W
      refine zt_callVi (As := [zL 25209]) (rest := []) dX10_sizeLine_56 kX10_sizeLine_172 rfl rfl rfl rfl (Nat.le_of_ble_eq_true rfl) (c_isWord c11 (by decide)) (fun r12 N14 h13 => ?_)
      rw [h13.1, h13.2]
      refine zt_ifne_b (tgt := 67) dX10_sizeLine_59 (by decide) (fun h => ?_) (fun h => ?_)
      · have W := W.1 h
        exact W
      · have W := W.2 h
        refine zr_aload_n 0 dX10_sizeLine_62 rfl ?_
        refine zr_iconst dX10_sizeLine_63 ?_
        refine zt_callVv (As := [zI 2]) (rest := []) dX10_sizeLine_64 kX10_sizeLine_143 rfl rfl rfl rfl (Nat.le_of_ble_eq_true rfl) (c_wrong c11) (fun N17 h16 => ?_)
        have W := W N17 h16
        exact W
    · have W := W.2 h
      exact zt_ret dX10_sizeLine_43 rfl W
  · have W := W.2 h
    refine zr_aload_n 0 dX10_sizeLine_28 rfl ?_
    refine zr_iconst dX10_sizeLine_29 ?_
    obtain ⟨q18, k22, W⟩ := W
    refine zt_callVi (As := [zI 0]) (rest := []) dX10_sizeLine_30 kX10_sizeLine_164 rfl rfl rfl rfl (Nat.le_of_ble_eq_true rfl) k22 (fun r19 M20 h21 => ?_)
    have W := W r19 M20 h21
    obtain ⟨c23, W⟩ := W
    refine zr_if_eq (tgt := 43) dX10_sizeLine_33 (by decide) c23 (fun h => ?_) (fun h => ?_)
    · have W := W.1 h
      exact zt_ret dX10_sizeLine_43 rfl W
    · have W := W.2 h
      refine zr_aload_n 0 dX10_sizeLine_36 rfl ?_
      refine zt_geti 7 rfl dX10_sizeLine_37 fX10_140 rfl (by decide) ?_
      obtain ⟨c24, W⟩ := W
      refine zr_if_le (tgt := 44) dX10_sizeLine_40 (by decide) c24 (fun h => ?_) (fun h => ?_)
      · have W := W.1 h
        refine zr_aload_n 0 dX10_sizeLine_44 rfl ?_
        refine zr_iconst dX10_sizeLine_45 ?_
        refine zr_bipush dX10_sizeLine_46 (by decide) ?_
        obtain ⟨q25, k29, W⟩ := W
        refine zt_callVi (As := [zI 3, zI 12]) (rest := []) dX10_sizeLine_48 kX10_sizeLine_167 rfl rfl rfl rfl (Nat.le_of_ble_eq_true rfl) k29 (fun r26 M27 h28 => ?_)
        have W := W r26 M27 h28
        refine zr_istore_n (l' := [(0, zA g 1), (1, zI r26)]) dX10_sizeLine_51 (by decide) [1, 0] rfl ?_
        refine zr_aload_n 0 dX10_sizeLine_52 rfl ?_
        refine zr_ldc2 (x := 25209) dX10_sizeLine_53 (zc6 105 (by decide +kernel) rfl) ?_
        obtain ⟨c30, W⟩ := W
        refine zt_callVi (As := [zL 25209]) (rest := []) dX10_sizeLine_56 kX10_sizeLine_172 rfl rfl rfl rfl (Nat.le_of_ble_eq_true rfl) (c_isWord c30 (by decide)) (fun r31 N33 h32 => ?_)
        rw [h32.1, h32.2]
        refine zt_ifne_b (tgt := 67) dX10_sizeLine_59 (by decide) (fun h => ?_) (fun h => ?_)
        · have W := W.1 h
          exact W
        · have W := W.2 h
          refine zr_aload_n 0 dX10_sizeLine_62 rfl ?_
          refine zr_iconst dX10_sizeLine_63 ?_
          refine zt_callVv (As := [zI 2]) (rest := []) dX10_sizeLine_64 kX10_sizeLine_143 rfl rfl rfl rfl (Nat.le_of_ble_eq_true rfl) (c_wrong c30) (fun N36 h35 => ?_)
          have W := W N36 h35
          exact W
      · have W := W.2 h
        exact zt_ret dX10_sizeLine_43 rfl W
set_option maxRecDepth 100000 in
theorem SX10_sizeLine_67 {g : zG} {o : Bool} {M : zM} {q : zM → Prop} {x1 : Int} (W : (fOk M) ∧ ((¬ (M 1 7 = 0)) → ∃ q5 : Int → zM → Prop, zKi g (z2 o) mX10_number [zA g 1, zI 1, zI 8] M q5 ∧ ∀ (r6 : Int) (M7 : zM), q5 r6 M7 → (-2147483648 ≤ (M7 1 7) ∧ (M7 1 7) ≤ 2147483647) ∧ (((M7 1 7) ≤ 0) → ∀ N11 : zM, N11 = zu M7 3 10 x1 → q (zu N11 3 11 r6)) ∧ ((¬ ((M7 1 7) ≤ 0)) → q M7)) ∧ ((M 1 7 = 0) → ∃ q13 : zM → Prop, zKv g (z2 o) mX10_goOn [zA g 1] M q13 ∧ ∀ M15 : zM, q13 M15 → ∃ q18 : Int → zM → Prop, zKi g (z2 o) mX10_number [zA g 1, zI 1, zI 8] M15 q18 ∧ ∀ (r19 : Int) (M20 : zM), q18 r19 M20 → (-2147483648 ≤ (M20 1 7) ∧ (M20 1 7) ≤ 2147483647) ∧ (((M20 1 7) ≤ 0) → ∀ N24 : zM, N24 = zu M20 3 10 x1 → q (zu N24 3 11 r19)) ∧ ((¬ ((M20 1 7) ≤ 0)) → q M20))) : zT g (z2 o) mX10_sizeLine (zQv (z2 o) q) 67 [(0, zA g 1), (1, zI x1)] [] M := by
  refine zr_aload_n 0 dX10_sizeLine_67 rfl ?_
  obtain ⟨c1, W⟩ := W
  refine zt_callVi (As := []) (rest := []) dX10_sizeLine_68 kX10_sizeLine_150 rfl rfl rfl rfl (Nat.le_of_ble_eq_true rfl) (c_isGood c1) (fun r2 N4 h3 => ?_)
  rw [h3.1, h3.2]
  refine zt_ifeq_b (tgt := 78) dX10_sizeLine_71 (by decide) (fun h => ?_) (fun h => ?_)
  · have W := W.1 h
    refine zr_aload_n 0 dX10_sizeLine_78 rfl ?_
    refine zr_iconst dX10_sizeLine_79 ?_
    refine zr_bipush dX10_sizeLine_80 (by decide) ?_
    obtain ⟨q5, k9, W⟩ := W
    refine zt_callVi (As := [zI 1, zI 8]) (rest := []) dX10_sizeLine_82 kX10_sizeLine_167 rfl rfl rfl rfl (Nat.le_of_ble_eq_true rfl) k9 (fun r6 M7 h8 => ?_)
    have W := W r6 M7 h8
    refine zr_istore_n (l' := [(0, zA g 1), (1, zI x1), (2, zI r6)]) dX10_sizeLine_85 (by decide) [1, 2, 0] rfl ?_
    refine zr_aload_n 0 dX10_sizeLine_86 rfl ?_
    refine zt_geti 7 rfl dX10_sizeLine_87 fX10_140 rfl (by decide) ?_
    obtain ⟨c10, W⟩ := W
    refine zr_if_le (tgt := 94) dX10_sizeLine_90 (by decide) c10 (fun h => ?_) (fun h => ?_)
    · have W := W.1 h
      refine zr_aload_n 0 dX10_sizeLine_94 rfl ?_
      refine zr_getr (b := 3) dX10_sizeLine_95 fX10_20 rfl rfl rfl (by decide) ?_
      refine zr_bipush dX10_sizeLine_98 (by decide) ?_
      refine zr_iload_n 1 dX10_sizeLine_100 rfl ?_
      refine zr_iast dX10_sizeLine_101 rfl (by decide) ⟨by decide, by decide⟩ ?_
      refine zr_aload_n 0 dX10_sizeLine_102 rfl ?_
      refine zr_getr (b := 3) dX10_sizeLine_103 fX10_20 rfl rfl rfl (by decide) ?_
      refine zr_bipush dX10_sizeLine_106 (by decide) ?_
      refine zr_iload_n 2 dX10_sizeLine_108 rfl ?_
      obtain ⟨N11, e12⟩ : ∃ N : zM, N = zu M7 3 10 x1 := ⟨_, rfl⟩
      rw [← e12]
      have W := W N11 e12
      refine zr_iast dX10_sizeLine_109 rfl (by decide) ⟨by decide, by decide⟩ ?_
      exact zt_ret dX10_sizeLine_110 rfl W
    · have W := W.2 h
      exact zt_ret dX10_sizeLine_93 rfl W
  · have W := W.2 h
    refine zr_aload_n 0 dX10_sizeLine_74 rfl ?_
    obtain ⟨q13, k17, W⟩ := W
    refine zt_callVv (As := []) (rest := []) dX10_sizeLine_75 kX10_sizeLine_154 rfl rfl rfl rfl (Nat.le_of_ble_eq_true rfl) k17 (fun M15 h16 => ?_)
    have W := W M15 h16
    refine zr_aload_n 0 dX10_sizeLine_78 rfl ?_
    refine zr_iconst dX10_sizeLine_79 ?_
    refine zr_bipush dX10_sizeLine_80 (by decide) ?_
    obtain ⟨q18, k22, W⟩ := W
    refine zt_callVi (As := [zI 1, zI 8]) (rest := []) dX10_sizeLine_82 kX10_sizeLine_167 rfl rfl rfl rfl (Nat.le_of_ble_eq_true rfl) k22 (fun r19 M20 h21 => ?_)
    have W := W r19 M20 h21
    refine zr_istore_n (l' := [(0, zA g 1), (1, zI x1), (2, zI r19)]) dX10_sizeLine_85 (by decide) [1, 2, 0] rfl ?_
    refine zr_aload_n 0 dX10_sizeLine_86 rfl ?_
    refine zt_geti 7 rfl dX10_sizeLine_87 fX10_140 rfl (by decide) ?_
    obtain ⟨c23, W⟩ := W
    refine zr_if_le (tgt := 94) dX10_sizeLine_90 (by decide) c23 (fun h => ?_) (fun h => ?_)
    · have W := W.1 h
      refine zr_aload_n 0 dX10_sizeLine_94 rfl ?_
      refine zr_getr (b := 3) dX10_sizeLine_95 fX10_20 rfl rfl rfl (by decide) ?_
      refine zr_bipush dX10_sizeLine_98 (by decide) ?_
      refine zr_iload_n 1 dX10_sizeLine_100 rfl ?_
      refine zr_iast dX10_sizeLine_101 rfl (by decide) ⟨by decide, by decide⟩ ?_
      refine zr_aload_n 0 dX10_sizeLine_102 rfl ?_
      refine zr_getr (b := 3) dX10_sizeLine_103 fX10_20 rfl rfl rfl (by decide) ?_
      refine zr_bipush dX10_sizeLine_106 (by decide) ?_
      refine zr_iload_n 2 dX10_sizeLine_108 rfl ?_
      obtain ⟨N24, e25⟩ : ∃ N : zM, N = zu M20 3 10 x1 := ⟨_, rfl⟩
      rw [← e25]
      have W := W N24 e25
      refine zr_iast dX10_sizeLine_109 rfl (by decide) ⟨by decide, by decide⟩ ?_
      exact zt_ret dX10_sizeLine_110 rfl W
    · have W := W.2 h
      exact zt_ret dX10_sizeLine_93 rfl W
theorem dX10_simple_0 : decode cX10_simple 0 = .ok (.aload_n 0, 1) := by decide +kernel
theorem dX10_simple_1 : decode cX10_simple 1 = .ok (.iload_n 1, 1) := by decide +kernel
theorem dX10_simple_2 : decode cX10_simple 2 = .ok (.invokevirtual 164, 3) := by decide +kernel
theorem dX10_simple_5 : decode cX10_simple 5 = .ok (.ifCond .ne 4, 3) := by decide +kernel
theorem dX10_simple_8 : decode cX10_simple 8 = .ok (.return_, 1) := by decide +kernel
theorem dX10_simple_9 : decode cX10_simple 9 = .ok (.aload_n 0, 1) := by decide +kernel
theorem dX10_simple_10 : decode cX10_simple 10 = .ok (.iload_n 3, 1) := by decide +kernel
theorem dX10_simple_11 : decode cX10_simple 11 = .ok (.iload 4, 2) := by decide +kernel
theorem dX10_simple_13 : decode cX10_simple 13 = .ok (.invokevirtual 167, 3) := by decide +kernel
theorem dX10_simple_16 : decode cX10_simple 16 = .ok (.istore 5, 2) := by decide +kernel
theorem dX10_simple_18 : decode cX10_simple 18 = .ok (.aload_n 0, 1) := by decide +kernel
theorem dX10_simple_19 : decode cX10_simple 19 = .ok (.invokevirtual 150, 3) := by decide +kernel
theorem dX10_simple_22 : decode cX10_simple 22 = .ok (.ifCond .eq 14, 3) := by decide +kernel
theorem dX10_simple_25 : decode cX10_simple 25 = .ok (.aload_n 0, 1) := by decide +kernel
theorem dX10_simple_26 : decode cX10_simple 26 = .ok (.getfield 20, 3) := by decide +kernel
theorem dX10_simple_29 : decode cX10_simple 29 = .ok (.bipush 10, 2) := by decide +kernel
theorem dX10_simple_31 : decode cX10_simple 31 = .ok (.iload_n 2, 1) := by decide +kernel
theorem dX10_simple_32 : decode cX10_simple 32 = .ok (.iadd, 1) := by decide +kernel
theorem dX10_simple_33 : decode cX10_simple 33 = .ok (.iload 5, 2) := by decide +kernel
theorem dX10_simple_35 : decode cX10_simple 35 = .ok (.iastore, 1) := by decide +kernel
theorem dX10_simple_36 : decode cX10_simple 36 = .ok (.return_, 1) := by decide +kernel
set_option maxRecDepth 100000 in
theorem SX10_simple_0 {g : zG} {o : Bool} {M : zM} {q : zM → Prop} {x1 x2 x3 x4 : Int} (W : ∃ q1 : Int → zM → Prop, zKi g (z2 o) mX10_once [zA g 1, zI x1] M q1 ∧ ∀ (r2 : Int) (M3 : zM), q1 r2 M3 → (-2147483648 ≤ r2 ∧ r2 ≤ 2147483647) ∧ ((r2 ≠ 0) → ∃ q7 : Int → zM → Prop, zKi g (z2 o) mX10_number [zA g 1, zI x3, zI x4] M3 q7 ∧ ∀ (r8 : Int) (M9 : zM), q7 r8 M9 → (fOk M9) ∧ ((¬ (M9 1 7 = 0)) → q M9) ∧ ((M9 1 7 = 0) → (0 ≤ (10 + x2) ∧ (10 + x2) < 20) ∧ q (zu M9 3 (10 + x2) r8))) ∧ ((r2 = 0) → q M3)) : zT g (z2 o) mX10_simple (zQv (z2 o) q) 0 [(0, zA g 1), (1, zI x1), (2, zI x2), (3, zI x3), (4, zI x4)] [] M := by
  refine zr_aload_n 0 dX10_simple_0 rfl ?_
  refine zr_iload_n 1 dX10_simple_1 rfl ?_
  obtain ⟨q1, k5, W⟩ := W
  refine zt_callVi (As := [zI x1]) (rest := []) dX10_simple_2 kX10_simple_164 rfl rfl rfl rfl (Nat.le_of_ble_eq_true rfl) k5 (fun r2 M3 h4 => ?_)
  have W := W r2 M3 h4
  obtain ⟨c6, W⟩ := W
  refine zr_if_ne (tgt := 9) dX10_simple_5 (by decide) c6 (fun h => ?_) (fun h => ?_)
  · have W := W.1 h
    refine zr_aload_n 0 dX10_simple_9 rfl ?_
    refine zr_iload_n 3 dX10_simple_10 rfl ?_
    refine zr_iload 4 dX10_simple_11 rfl ?_
    obtain ⟨q7, k11, W⟩ := W
    refine zt_callVi (As := [zI x3, zI x4]) (rest := []) dX10_simple_13 kX10_simple_167 rfl rfl rfl rfl (Nat.le_of_ble_eq_true rfl) k11 (fun r8 M9 h10 => ?_)
    have W := W r8 M9 h10
    refine zr_istore (l' := [(0, zA g 1), (2, zI x2), (5, zI r8)]) dX10_simple_16 (by decide) [1, 3, 0] rfl ?_
    refine zr_aload_n 0 dX10_simple_18 rfl ?_
    obtain ⟨c12, W⟩ := W
    refine zt_callVi (As := []) (rest := []) dX10_simple_19 kX10_simple_150 rfl rfl rfl rfl (Nat.le_of_ble_eq_true rfl) (c_isGood c12) (fun r13 N15 h14 => ?_)
    rw [h14.1, h14.2]
    refine zt_ifeq_b (tgt := 36) dX10_simple_22 (by decide) (fun h => ?_) (fun h => ?_)
    · have W := W.1 h
      exact zt_ret dX10_simple_36 rfl W
    · have W := W.2 h
      refine zr_aload_n 0 dX10_simple_25 rfl ?_
      refine zr_getr (b := 3) dX10_simple_26 fX10_20 rfl rfl rfl (by decide) ?_
      refine zr_bipush dX10_simple_29 (by decide) ?_
      refine zr_iload_n 1 dX10_simple_31 rfl ?_
      refine zr_iadd dX10_simple_32 ?_
      refine zr_iload 2 dX10_simple_33 rfl ?_
      obtain ⟨c16, W⟩ := W
      refine zr_iast dX10_simple_35 rfl (by decide) c16 ?_
      exact zt_ret dX10_simple_36 rfl W
  · have W := W.2 h
    exact zt_ret dX10_simple_8 rfl W
theorem dX10_heapLine_0 : decode cX10_heapLine 0 = .ok (.aload_n 0, 1) := by decide +kernel
theorem dX10_heapLine_1 : decode cX10_heapLine 1 = .ok (.getfield 161, 3) := by decide +kernel
theorem dX10_heapLine_4 : decode cX10_heapLine 4 = .ok (.bipush 20, 2) := by decide +kernel
theorem dX10_heapLine_6 : decode cX10_heapLine 6 = .ok (.if_icmp .ne 8, 3) := by decide +kernel
theorem dX10_heapLine_9 : decode cX10_heapLine 9 = .ok (.aload_n 0, 1) := by decide +kernel
theorem dX10_heapLine_10 : decode cX10_heapLine 10 = .ok (.iconst 2, 1) := by decide +kernel
theorem dX10_heapLine_11 : decode cX10_heapLine 11 = .ok (.invokevirtual 143, 3) := by decide +kernel
theorem dX10_heapLine_14 : decode cX10_heapLine 14 = .ok (.aload_n 0, 1) := by decide +kernel
theorem dX10_heapLine_15 : decode cX10_heapLine 15 = .ok (.invokevirtual 150, 3) := by decide +kernel
theorem dX10_heapLine_18 : decode cX10_heapLine 18 = .ok (.ifCond .eq 7, 3) := by decide +kernel
theorem dX10_heapLine_21 : decode cX10_heapLine 21 = .ok (.aload_n 0, 1) := by decide +kernel
theorem dX10_heapLine_22 : decode cX10_heapLine 22 = .ok (.invokevirtual 154, 3) := by decide +kernel
theorem dX10_heapLine_25 : decode cX10_heapLine 25 = .ok (.aload_n 0, 1) := by decide +kernel
theorem dX10_heapLine_26 : decode cX10_heapLine 26 = .ok (.dup, 1) := by decide +kernel
theorem dX10_heapLine_27 : decode cX10_heapLine 27 = .ok (.getfield 161, 3) := by decide +kernel
theorem dX10_heapLine_30 : decode cX10_heapLine 30 = .ok (.iconst 1, 1) := by decide +kernel
theorem dX10_heapLine_31 : decode cX10_heapLine 31 = .ok (.iadd, 1) := by decide +kernel
theorem dX10_heapLine_32 : decode cX10_heapLine 32 = .ok (.putfield 161, 3) := by decide +kernel
theorem dX10_heapLine_35 : decode cX10_heapLine 35 = .ok (.aload_n 0, 1) := by decide +kernel
theorem dX10_heapLine_36 : decode cX10_heapLine 36 = .ok (.iconst 0, 1) := by decide +kernel
theorem dX10_heapLine_37 : decode cX10_heapLine 37 = .ok (.aload_n 0, 1) := by decide +kernel
theorem dX10_heapLine_38 : decode cX10_heapLine 38 = .ok (.getfield 20, 3) := by decide +kernel
theorem dX10_heapLine_41 : decode cX10_heapLine 41 = .ok (.bipush 10, 2) := by decide +kernel
theorem dX10_heapLine_43 : decode cX10_heapLine 43 = .ok (.iaload, 1) := by decide +kernel
theorem dX10_heapLine_44 : decode cX10_heapLine 44 = .ok (.iconst 1, 1) := by decide +kernel
theorem dX10_heapLine_45 : decode cX10_heapLine 45 = .ok (.isub, 1) := by decide +kernel
theorem dX10_heapLine_46 : decode cX10_heapLine 46 = .ok (.invokevirtual 167, 3) := by decide +kernel
theorem dX10_heapLine_49 : decode cX10_heapLine 49 = .ok (.istore_n 1, 1) := by decide +kernel
theorem dX10_heapLine_50 : decode cX10_heapLine 50 = .ok (.aload_n 0, 1) := by decide +kernel
theorem dX10_heapLine_51 : decode cX10_heapLine 51 = .ok (.iconst 0, 1) := by decide +kernel
theorem dX10_heapLine_52 : decode cX10_heapLine 52 = .ok (.aload_n 0, 1) := by decide +kernel
theorem dX10_heapLine_53 : decode cX10_heapLine 53 = .ok (.getfield 20, 3) := by decide +kernel
theorem dX10_heapLine_56 : decode cX10_heapLine 56 = .ok (.bipush 11, 2) := by decide +kernel
theorem dX10_heapLine_58 : decode cX10_heapLine 58 = .ok (.iaload, 1) := by decide +kernel
theorem dX10_heapLine_59 : decode cX10_heapLine 59 = .ok (.iconst 1, 1) := by decide +kernel
theorem dX10_heapLine_60 : decode cX10_heapLine 60 = .ok (.isub, 1) := by decide +kernel
theorem dX10_heapLine_61 : decode cX10_heapLine 61 = .ok (.invokevirtual 167, 3) := by decide +kernel
theorem dX10_heapLine_64 : decode cX10_heapLine 64 = .ok (.istore_n 2, 1) := by decide +kernel
theorem dX10_heapLine_65 : decode cX10_heapLine 65 = .ok (.aload_n 0, 1) := by decide +kernel
theorem dX10_heapLine_66 : decode cX10_heapLine 66 = .ok (.iconst 1, 1) := by decide +kernel
theorem dX10_heapLine_67 : decode cX10_heapLine 67 = .ok (.bipush 50, 2) := by decide +kernel
theorem dX10_heapLine_69 : decode cX10_heapLine 69 = .ok (.invokevirtual 167, 3) := by decide +kernel
theorem dX10_heapLine_72 : decode cX10_heapLine 72 = .ok (.istore_n 3, 1) := by decide +kernel
theorem dX10_heapLine_73 : decode cX10_heapLine 73 = .ok (.aload_n 0, 1) := by decide +kernel
theorem dX10_heapLine_74 : decode cX10_heapLine 74 = .ok (.invokevirtual 150, 3) := by decide +kernel
theorem dX10_heapLine_77 : decode cX10_heapLine 77 = .ok (.ifCond .eq 26, 3) := by decide +kernel
theorem dX10_heapLine_80 : decode cX10_heapLine 80 = .ok (.aload_n 0, 1) := by decide +kernel
theorem dX10_heapLine_81 : decode cX10_heapLine 81 = .ok (.getfield 29, 3) := by decide +kernel
theorem dX10_heapLine_84 : decode cX10_heapLine 84 = .ok (.bipush 96, 2) := by decide +kernel
theorem dX10_heapLine_86 : decode cX10_heapLine 86 = .ok (.aload_n 0, 1) := by decide +kernel
theorem dX10_heapLine_87 : decode cX10_heapLine 87 = .ok (.getfield 20, 3) := by decide +kernel
theorem dX10_heapLine_90 : decode cX10_heapLine 90 = .ok (.bipush 10, 2) := by decide +kernel
theorem dX10_heapLine_92 : decode cX10_heapLine 92 = .ok (.iaload, 1) := by decide +kernel
theorem dX10_heapLine_93 : decode cX10_heapLine 93 = .ok (.iload_n 2, 1) := by decide +kernel
theorem dX10_heapLine_94 : decode cX10_heapLine 94 = .ok (.imul, 1) := by decide +kernel
theorem dX10_heapLine_95 : decode cX10_heapLine 95 = .ok (.iadd, 1) := by decide +kernel
theorem dX10_heapLine_96 : decode cX10_heapLine 96 = .ok (.iload_n 1, 1) := by decide +kernel
theorem dX10_heapLine_97 : decode cX10_heapLine 97 = .ok (.iadd, 1) := by decide +kernel
theorem dX10_heapLine_98 : decode cX10_heapLine 98 = .ok (.dup2, 1) := by decide +kernel
theorem dX10_heapLine_99 : decode cX10_heapLine 99 = .ok (.iaload, 1) := by decide +kernel
theorem dX10_heapLine_100 : decode cX10_heapLine 100 = .ok (.iload_n 3, 1) := by decide +kernel
theorem dX10_heapLine_101 : decode cX10_heapLine 101 = .ok (.iadd, 1) := by decide +kernel
theorem dX10_heapLine_102 : decode cX10_heapLine 102 = .ok (.iastore, 1) := by decide +kernel
theorem dX10_heapLine_103 : decode cX10_heapLine 103 = .ok (.return_, 1) := by decide +kernel
set_option maxRecDepth 100000 in
theorem SX10_heapLine_0 {g : zG} {o : Bool} {M : zM} {q : zM → Prop} (W : (-2147483648 ≤ (M 1 20) ∧ (M 1 20) ≤ 2147483647) ∧ (((M 1 20) ≠ 20) → (fOk M) ∧ ((¬ (M 1 7 = 0)) → zT g (z2 o) mX10_heapLine (zQv (z2 o) q) 25 [(0, zA g 1)] [] M) ∧ ((M 1 7 = 0) → ∃ q6 : zM → Prop, zKv g (z2 o) mX10_goOn [zA g 1] M q6 ∧ ∀ M8 : zM, q6 M8 → zT g (z2 o) mX10_heapLine (zQv (z2 o) q) 25 [(0, zA g 1)] [] M8)) ∧ (((M 1 20) = 20) → (fOk M) ∧ ∀ N14 : zM, N14 = wrM 2 M → (fOk N14) ∧ ((¬ (N14 1 7 = 0)) → zT g (z2 o) mX10_heapLine (zQv (z2 o) q) 25 [(0, zA g 1)] [] N14) ∧ ((N14 1 7 = 0) → ∃ q19 : zM → Prop, zKv g (z2 o) mX10_goOn [zA g 1] N14 q19 ∧ ∀ M21 : zM, q19 M21 → zT g (z2 o) mX10_heapLine (zQv (z2 o) q) 25 [(0, zA g 1)] [] M21))) : zT g (z2 o) mX10_heapLine (zQv (z2 o) q) 0 [(0, zA g 1)] [] M := by
  refine zr_aload_n 0 dX10_heapLine_0 rfl ?_
  refine zt_geti 20 rfl dX10_heapLine_1 fX10_161 rfl (by decide) ?_
  refine zr_bipush dX10_heapLine_4 (by decide) ?_
  obtain ⟨c1, W⟩ := W
  refine zr_icmp_ne (tgt := 14) dX10_heapLine_6 (by decide) c1 ⟨by decide, by decide⟩ (fun h => ?_) (fun h => ?_)
  · have W := W.1 h
    refine zr_aload_n 0 dX10_heapLine_14 rfl ?_
    obtain ⟨c2, W⟩ := W
    refine zt_callVi (As := []) (rest := []) dX10_heapLine_15 kX10_heapLine_150 rfl rfl rfl rfl (Nat.le_of_ble_eq_true rfl) (c_isGood c2) (fun r3 N5 h4 => ?_)
    rw [h4.1, h4.2]
    refine zt_ifeq_b (tgt := 25) dX10_heapLine_18 (by decide) (fun h => ?_) (fun h => ?_)
    · have W := W.1 h
      exact W
    · have W := W.2 h
      refine zr_aload_n 0 dX10_heapLine_21 rfl ?_
      obtain ⟨q6, k10, W⟩ := W
      refine zt_callVv (As := []) (rest := []) dX10_heapLine_22 kX10_heapLine_154 rfl rfl rfl rfl (Nat.le_of_ble_eq_true rfl) k10 (fun M8 h9 => ?_)
      have W := W M8 h9
      exact W
  · have W := W.2 h
    refine zr_aload_n 0 dX10_heapLine_9 rfl ?_
    refine zr_iconst dX10_heapLine_10 ?_
    obtain ⟨c11, W⟩ := W
    refine zt_callVv (As := [zI 2]) (rest := []) dX10_heapLine_11 kX10_heapLine_143 rfl rfl rfl rfl (Nat.le_of_ble_eq_true rfl) (c_wrong c11) (fun N14 h13 => ?_)
    have W := W N14 h13
    refine zr_aload_n 0 dX10_heapLine_14 rfl ?_
    obtain ⟨c15, W⟩ := W
    refine zt_callVi (As := []) (rest := []) dX10_heapLine_15 kX10_heapLine_150 rfl rfl rfl rfl (Nat.le_of_ble_eq_true rfl) (c_isGood c15) (fun r16 N18 h17 => ?_)
    rw [h17.1, h17.2]
    refine zt_ifeq_b (tgt := 25) dX10_heapLine_18 (by decide) (fun h => ?_) (fun h => ?_)
    · have W := W.1 h
      exact W
    · have W := W.2 h
      refine zr_aload_n 0 dX10_heapLine_21 rfl ?_
      obtain ⟨q19, k23, W⟩ := W
      refine zt_callVv (As := []) (rest := []) dX10_heapLine_22 kX10_heapLine_154 rfl rfl rfl rfl (Nat.le_of_ble_eq_true rfl) k23 (fun M21 h22 => ?_)
      have W := W M21 h22
      exact W
set_option maxRecDepth 100000 in
theorem SX10_heapLine_25 {g : zG} {o : Bool} {M : zM} {q : zM → Prop} (W : ∃ q1 : Int → zM → Prop, zKi g (z2 o) mX10_number [zA g 1, zI 0, zI (((zu M 1 20 ((M 1 20) + 1)) 3 10) - 1)] (zu M 1 20 ((M 1 20) + 1)) q1 ∧ ∀ (r2 : Int) (M3 : zM), q1 r2 M3 → ∃ q6 : Int → zM → Prop, zKi g (z2 o) mX10_number [zA g 1, zI 0, zI ((M3 3 11) - 1)] M3 q6 ∧ ∀ (r7 : Int) (M8 : zM), q6 r7 M8 → ∃ q11 : Int → zM → Prop, zKi g (z2 o) mX10_number [zA g 1, zI 1, zI 50] M8 q11 ∧ ∀ (r12 : Int) (M13 : zM), q11 r12 M13 → (fOk M13) ∧ ((¬ (M13 1 7 = 0)) → q M13) ∧ ((M13 1 7 = 0) → (0 ≤ ((96 + ((M13 3 10) * r7)) + r2) ∧ ((96 + ((M13 3 10) * r7)) + r2) < 192) ∧ q (zu M13 6 ((96 + ((M13 3 10) * r7)) + r2) ((M13 6 ((96 + ((M13 3 10) * r7)) + r2)) + r12)))) : zT g (z2 o) mX10_heapLine (zQv (z2 o) q) 25 [(0, zA g 1)] [] M := by
  refine zr_aload_n 0 dX10_heapLine_25 rfl ?_
  refine zr_dup dX10_heapLine_26 rfl ?_
  refine zt_geti 20 rfl dX10_heapLine_27 fX10_161 rfl (by decide) ?_
  refine zr_iconst dX10_heapLine_30 ?_
  refine zr_iadd dX10_heapLine_31 ?_
  refine zt_puti 20 rfl dX10_heapLine_32 fX10_161 lcX10 ltX10_20 rfl rfl ?_
  refine zr_aload_n 0 dX10_heapLine_35 rfl ?_
  refine zr_iconst dX10_heapLine_36 ?_
  refine zr_aload_n 0 dX10_heapLine_37 rfl ?_
  refine zr_getr (b := 3) dX10_heapLine_38 fX10_20 rfl rfl rfl (by decide) ?_
  refine zr_bipush dX10_heapLine_41 (by decide) ?_
  refine zr_iald dX10_heapLine_43 rfl (by decide) ⟨by decide, by decide⟩ ?_
  refine zr_iconst dX10_heapLine_44 ?_
  refine zr_isub dX10_heapLine_45 ?_
  obtain ⟨q1, k5, W⟩ := W
  refine zt_callVi (As := [zI 0, zI (((zu M 1 20 ((M 1 20) + 1)) 3 10) - 1)]) (rest := []) dX10_heapLine_46 kX10_heapLine_167 rfl rfl rfl rfl (Nat.le_of_ble_eq_true rfl) k5 (fun r2 M3 h4 => ?_)
  have W := W r2 M3 h4
  refine zr_istore_n (l' := [(0, zA g 1), (1, zI r2)]) dX10_heapLine_49 (by decide) [1, 0] rfl ?_
  refine zr_aload_n 0 dX10_heapLine_50 rfl ?_
  refine zr_iconst dX10_heapLine_51 ?_
  refine zr_aload_n 0 dX10_heapLine_52 rfl ?_
  refine zr_getr (b := 3) dX10_heapLine_53 fX10_20 rfl rfl rfl (by decide) ?_
  refine zr_bipush dX10_heapLine_56 (by decide) ?_
  refine zr_iald dX10_heapLine_58 rfl (by decide) ⟨by decide, by decide⟩ ?_
  refine zr_iconst dX10_heapLine_59 ?_
  refine zr_isub dX10_heapLine_60 ?_
  obtain ⟨q6, k10, W⟩ := W
  refine zt_callVi (As := [zI 0, zI ((M3 3 11) - 1)]) (rest := []) dX10_heapLine_61 kX10_heapLine_167 rfl rfl rfl rfl (Nat.le_of_ble_eq_true rfl) k10 (fun r7 M8 h9 => ?_)
  have W := W r7 M8 h9
  refine zr_istore_n (l' := [(0, zA g 1), (1, zI r2), (2, zI r7)]) dX10_heapLine_64 (by decide) [1, 2, 0] rfl ?_
  refine zr_aload_n 0 dX10_heapLine_65 rfl ?_
  refine zr_iconst dX10_heapLine_66 ?_
  refine zr_bipush dX10_heapLine_67 (by decide) ?_
  obtain ⟨q11, k15, W⟩ := W
  refine zt_callVi (As := [zI 1, zI 50]) (rest := []) dX10_heapLine_69 kX10_heapLine_167 rfl rfl rfl rfl (Nat.le_of_ble_eq_true rfl) k15 (fun r12 M13 h14 => ?_)
  have W := W r12 M13 h14
  refine zr_istore_n (l' := [(0, zA g 1), (1, zI r2), (2, zI r7), (3, zI r12)]) dX10_heapLine_72 (by decide) [1, 2, 3, 0] rfl ?_
  refine zr_aload_n 0 dX10_heapLine_73 rfl ?_
  obtain ⟨c16, W⟩ := W
  refine zt_callVi (As := []) (rest := []) dX10_heapLine_74 kX10_heapLine_150 rfl rfl rfl rfl (Nat.le_of_ble_eq_true rfl) (c_isGood c16) (fun r17 N19 h18 => ?_)
  rw [h18.1, h18.2]
  refine zt_ifeq_b (tgt := 103) dX10_heapLine_77 (by decide) (fun h => ?_) (fun h => ?_)
  · have W := W.1 h
    exact zt_ret dX10_heapLine_103 rfl W
  · have W := W.2 h
    refine zr_aload_n 0 dX10_heapLine_80 rfl ?_
    refine zr_getr (b := 6) dX10_heapLine_81 fX10_29 rfl rfl rfl (by decide) ?_
    refine zr_bipush dX10_heapLine_84 (by decide) ?_
    refine zr_aload_n 0 dX10_heapLine_86 rfl ?_
    refine zr_getr (b := 3) dX10_heapLine_87 fX10_20 rfl rfl rfl (by decide) ?_
    refine zr_bipush dX10_heapLine_90 (by decide) ?_
    refine zr_iald dX10_heapLine_92 rfl (by decide) ⟨by decide, by decide⟩ ?_
    refine zr_iload_n 2 dX10_heapLine_93 rfl ?_
    refine zr_imul dX10_heapLine_94 ?_
    refine zr_iadd dX10_heapLine_95 ?_
    refine zr_iload_n 1 dX10_heapLine_96 rfl ?_
    refine zr_iadd dX10_heapLine_97 ?_
    refine zr_dup2 dX10_heapLine_98 rfl rfl ?_
    obtain ⟨c20, W⟩ := W
    refine zr_iald dX10_heapLine_99 rfl (by decide) c20 ?_
    refine zr_iload_n 3 dX10_heapLine_100 rfl ?_
    refine zr_iadd dX10_heapLine_101 ?_
    refine zr_iast dX10_heapLine_102 rfl (by decide) c20 ?_
    exact zt_ret dX10_heapLine_103 rfl W
theorem dX10_grassLine_0 : decode cX10_grassLine 0 = .ok (.aload_n 0, 1) := by decide +kernel
theorem dX10_grassLine_1 : decode cX10_grassLine 1 = .ok (.invokevirtual 154, 3) := by decide +kernel
theorem dX10_grassLine_4 : decode cX10_grassLine 4 = .ok (.aload_n 0, 1) := by decide +kernel
theorem dX10_grassLine_5 : decode cX10_grassLine 5 = .ok (.iconst 0, 1) := by decide +kernel
theorem dX10_grassLine_6 : decode cX10_grassLine 6 = .ok (.aload_n 0, 1) := by decide +kernel
theorem dX10_grassLine_7 : decode cX10_grassLine 7 = .ok (.getfield 20, 3) := by decide +kernel
theorem dX10_grassLine_10 : decode cX10_grassLine 10 = .ok (.bipush 10, 2) := by decide +kernel
theorem dX10_grassLine_12 : decode cX10_grassLine 12 = .ok (.iaload, 1) := by decide +kernel
theorem dX10_grassLine_13 : decode cX10_grassLine 13 = .ok (.iconst 1, 1) := by decide +kernel
theorem dX10_grassLine_14 : decode cX10_grassLine 14 = .ok (.isub, 1) := by decide +kernel
theorem dX10_grassLine_15 : decode cX10_grassLine 15 = .ok (.invokevirtual 167, 3) := by decide +kernel
theorem dX10_grassLine_18 : decode cX10_grassLine 18 = .ok (.istore_n 1, 1) := by decide +kernel
theorem dX10_grassLine_19 : decode cX10_grassLine 19 = .ok (.aload_n 0, 1) := by decide +kernel
theorem dX10_grassLine_20 : decode cX10_grassLine 20 = .ok (.iconst 0, 1) := by decide +kernel
theorem dX10_grassLine_21 : decode cX10_grassLine 21 = .ok (.aload_n 0, 1) := by decide +kernel
theorem dX10_grassLine_22 : decode cX10_grassLine 22 = .ok (.getfield 20, 3) := by decide +kernel
theorem dX10_grassLine_25 : decode cX10_grassLine 25 = .ok (.bipush 11, 2) := by decide +kernel
theorem dX10_grassLine_27 : decode cX10_grassLine 27 = .ok (.iaload, 1) := by decide +kernel
theorem dX10_grassLine_28 : decode cX10_grassLine 28 = .ok (.iconst 1, 1) := by decide +kernel
theorem dX10_grassLine_29 : decode cX10_grassLine 29 = .ok (.isub, 1) := by decide +kernel
theorem dX10_grassLine_30 : decode cX10_grassLine 30 = .ok (.invokevirtual 146, 3) := by decide +kernel
theorem dX10_grassLine_33 : decode cX10_grassLine 33 = .ok (.istore_n 2, 1) := by decide +kernel
theorem dX10_grassLine_34 : decode cX10_grassLine 34 = .ok (.aload_n 0, 1) := by decide +kernel
theorem dX10_grassLine_35 : decode cX10_grassLine 35 = .ok (.invokevirtual 150, 3) := by decide +kernel
theorem dX10_grassLine_38 : decode cX10_grassLine 38 = .ok (.ifCond .eq 31, 3) := by decide +kernel
theorem dX10_grassLine_41 : decode cX10_grassLine 41 = .ok (.aload_n 0, 1) := by decide +kernel
theorem dX10_grassLine_42 : decode cX10_grassLine 42 = .ok (.getfield 32, 3) := by decide +kernel
theorem dX10_grassLine_45 : decode cX10_grassLine 45 = .ok (.bipush 96, 2) := by decide +kernel
theorem dX10_grassLine_47 : decode cX10_grassLine 47 = .ok (.aload_n 0, 1) := by decide +kernel
theorem dX10_grassLine_48 : decode cX10_grassLine 48 = .ok (.getfield 20, 3) := by decide +kernel
theorem dX10_grassLine_51 : decode cX10_grassLine 51 = .ok (.bipush 10, 2) := by decide +kernel
theorem dX10_grassLine_53 : decode cX10_grassLine 53 = .ok (.iaload, 1) := by decide +kernel
theorem dX10_grassLine_54 : decode cX10_grassLine 54 = .ok (.iload_n 2, 1) := by decide +kernel
theorem dX10_grassLine_55 : decode cX10_grassLine 55 = .ok (.imul, 1) := by decide +kernel
theorem dX10_grassLine_56 : decode cX10_grassLine 56 = .ok (.iadd, 1) := by decide +kernel
theorem dX10_grassLine_57 : decode cX10_grassLine 57 = .ok (.iload_n 1, 1) := by decide +kernel
theorem dX10_grassLine_58 : decode cX10_grassLine 58 = .ok (.iadd, 1) := by decide +kernel
theorem dX10_grassLine_59 : decode cX10_grassLine 59 = .ok (.iaload, 1) := by decide +kernel
theorem dX10_grassLine_60 : decode cX10_grassLine 60 = .ok (.iconst 1, 1) := by decide +kernel
theorem dX10_grassLine_61 : decode cX10_grassLine 61 = .ok (.if_icmp .ne 8, 3) := by decide +kernel
theorem dX10_grassLine_64 : decode cX10_grassLine 64 = .ok (.aload_n 0, 1) := by decide +kernel
theorem dX10_grassLine_65 : decode cX10_grassLine 65 = .ok (.iconst 3, 1) := by decide +kernel
theorem dX10_grassLine_66 : decode cX10_grassLine 66 = .ok (.invokevirtual 143, 3) := by decide +kernel
theorem dX10_grassLine_69 : decode cX10_grassLine 69 = .ok (.aload_n 0, 1) := by decide +kernel
theorem dX10_grassLine_70 : decode cX10_grassLine 70 = .ok (.getfield 140, 3) := by decide +kernel
theorem dX10_grassLine_73 : decode cX10_grassLine 73 = .ok (.ifCond .le 4, 3) := by decide +kernel
theorem dX10_grassLine_76 : decode cX10_grassLine 76 = .ok (.return_, 1) := by decide +kernel
theorem dX10_grassLine_77 : decode cX10_grassLine 77 = .ok (.aload_n 0, 1) := by decide +kernel
theorem dX10_grassLine_78 : decode cX10_grassLine 78 = .ok (.getfield 32, 3) := by decide +kernel
theorem dX10_grassLine_81 : decode cX10_grassLine 81 = .ok (.bipush 96, 2) := by decide +kernel
theorem dX10_grassLine_83 : decode cX10_grassLine 83 = .ok (.aload_n 0, 1) := by decide +kernel
theorem dX10_grassLine_84 : decode cX10_grassLine 84 = .ok (.getfield 20, 3) := by decide +kernel
theorem dX10_grassLine_87 : decode cX10_grassLine 87 = .ok (.bipush 10, 2) := by decide +kernel
theorem dX10_grassLine_89 : decode cX10_grassLine 89 = .ok (.iaload, 1) := by decide +kernel
theorem dX10_grassLine_90 : decode cX10_grassLine 90 = .ok (.iload_n 2, 1) := by decide +kernel
theorem dX10_grassLine_91 : decode cX10_grassLine 91 = .ok (.imul, 1) := by decide +kernel
theorem dX10_grassLine_92 : decode cX10_grassLine 92 = .ok (.iadd, 1) := by decide +kernel
theorem dX10_grassLine_93 : decode cX10_grassLine 93 = .ok (.iload_n 1, 1) := by decide +kernel
theorem dX10_grassLine_94 : decode cX10_grassLine 94 = .ok (.iadd, 1) := by decide +kernel
theorem dX10_grassLine_95 : decode cX10_grassLine 95 = .ok (.iconst 1, 1) := by decide +kernel
theorem dX10_grassLine_96 : decode cX10_grassLine 96 = .ok (.iastore, 1) := by decide +kernel
theorem dX10_grassLine_97 : decode cX10_grassLine 97 = .ok (.aload_n 0, 1) := by decide +kernel
theorem dX10_grassLine_98 : decode cX10_grassLine 98 = .ok (.invokevirtual 154, 3) := by decide +kernel
theorem dX10_grassLine_101 : decode cX10_grassLine 101 = .ok (.return_, 1) := by decide +kernel
set_option maxRecDepth 100000 in
theorem SX10_grassLine_0 {g : zG} {o : Bool} {M : zM} {q : zM → Prop} (W : ∃ q1 : zM → Prop, zKv g (z2 o) mX10_goOn [zA g 1] M q1 ∧ ∀ M3 : zM, q1 M3 → ∃ q6 : Int → zM → Prop, zKi g (z2 o) mX10_number [zA g 1, zI 0, zI ((M3 3 10) - 1)] M3 q6 ∧ ∀ (r7 : Int) (M8 : zM), q6 r7 M8 → (fOk M8) ∧ (-2147483648 ≤ ((M8 3 11) - 1) ∧ ((M8 3 11) - 1) ≤ 2147483647) ∧ ∀ (r13 : Int) (N15 : zM), r13 = nhV M8 → N15 = nhM 0 ((M8 3 11) - 1) M8 → (fOk N15) ∧ ((¬ (N15 1 7 = 0)) → (-2147483648 ≤ (N15 1 7) ∧ (N15 1 7) ≤ 2147483647) ∧ (((N15 1 7) ≤ 0) → (0 ≤ ((96 + ((N15 3 10) * r13)) + r7) ∧ ((96 + ((N15 3 10) * r13)) + r7) < 192) ∧ ∃ q22 : zM → Prop, zKv g (z2 o) mX10_goOn [zA g 1] (zu N15 7 ((96 + ((N15 3 10) * r13)) + r7) 1) q22 ∧ ∀ M24 : zM, q22 M24 → q M24) ∧ ((¬ ((N15 1 7) ≤ 0)) → q N15)) ∧ ((N15 1 7 = 0) → (0 ≤ ((96 + ((N15 3 10) * r13)) + r7) ∧ ((96 + ((N15 3 10) * r13)) + r7) < 192) ∧ (-2147483648 ≤ (N15 7 ((96 + ((N15 3 10) * r13)) + r7)) ∧ (N15 7 ((96 + ((N15 3 10) * r13)) + r7)) ≤ 2147483647) ∧ (((N15 7 ((96 + ((N15 3 10) * r13)) + r7)) ≠ 1) → (-2147483648 ≤ (N15 1 7) ∧ (N15 1 7) ≤ 2147483647) ∧ (((N15 1 7) ≤ 0) → ∃ q30 : zM → Prop, zKv g (z2 o) mX10_goOn [zA g 1] (zu N15 7 ((96 + ((N15 3 10) * r13)) + r7) 1) q30 ∧ ∀ M32 : zM, q30 M32 → q M32) ∧ ((¬ ((N15 1 7) ≤ 0)) → q N15)) ∧ (((N15 7 ((96 + ((N15 3 10) * r13)) + r7)) = 1) → ∀ N37 : zM, N37 = wrM 3 N15 → (-2147483648 ≤ (N37 1 7) ∧ (N37 1 7) ≤ 2147483647) ∧ (((N37 1 7) ≤ 0) → (0 ≤ ((96 + ((N37 3 10) * r13)) + r7) ∧ ((96 + ((N37 3 10) * r13)) + r7) < 192) ∧ ∃ q40 : zM → Prop, zKv g (z2 o) mX10_goOn [zA g 1] (zu N37 7 ((96 + ((N37 3 10) * r13)) + r7) 1) q40 ∧ ∀ M42 : zM, q40 M42 → q M42) ∧ ((¬ ((N37 1 7) ≤ 0)) → q N37)))) : zT g (z2 o) mX10_grassLine (zQv (z2 o) q) 0 [(0, zA g 1)] [] M := by
  refine zr_aload_n 0 dX10_grassLine_0 rfl ?_
  obtain ⟨q1, k5, W⟩ := W
  refine zt_callVv (As := []) (rest := []) dX10_grassLine_1 kX10_grassLine_154 rfl rfl rfl rfl (Nat.le_of_ble_eq_true rfl) k5 (fun M3 h4 => ?_)
  have W := W M3 h4
  refine zr_aload_n 0 dX10_grassLine_4 rfl ?_
  refine zr_iconst dX10_grassLine_5 ?_
  refine zr_aload_n 0 dX10_grassLine_6 rfl ?_
  refine zr_getr (b := 3) dX10_grassLine_7 fX10_20 rfl rfl rfl (by decide) ?_
  refine zr_bipush dX10_grassLine_10 (by decide) ?_
  refine zr_iald dX10_grassLine_12 rfl (by decide) ⟨by decide, by decide⟩ ?_
  refine zr_iconst dX10_grassLine_13 ?_
  refine zr_isub dX10_grassLine_14 ?_
  obtain ⟨q6, k10, W⟩ := W
  refine zt_callVi (As := [zI 0, zI ((M3 3 10) - 1)]) (rest := []) dX10_grassLine_15 kX10_grassLine_167 rfl rfl rfl rfl (Nat.le_of_ble_eq_true rfl) k10 (fun r7 M8 h9 => ?_)
  have W := W r7 M8 h9
  refine zr_istore_n (l' := [(0, zA g 1), (1, zI r7)]) dX10_grassLine_18 (by decide) [1, 0] rfl ?_
  refine zr_aload_n 0 dX10_grassLine_19 rfl ?_
  refine zr_iconst dX10_grassLine_20 ?_
  refine zr_aload_n 0 dX10_grassLine_21 rfl ?_
  refine zr_getr (b := 3) dX10_grassLine_22 fX10_20 rfl rfl rfl (by decide) ?_
  refine zr_bipush dX10_grassLine_25 (by decide) ?_
  refine zr_iald dX10_grassLine_27 rfl (by decide) ⟨by decide, by decide⟩ ?_
  refine zr_iconst dX10_grassLine_28 ?_
  refine zr_isub dX10_grassLine_29 ?_
  obtain ⟨c11, W⟩ := W
  obtain ⟨c12, W⟩ := W
  refine zt_callVi (As := [zI 0, zI ((M8 3 11) - 1)]) (rest := []) dX10_grassLine_30 kX10_grassLine_146 rfl rfl rfl rfl (Nat.le_of_ble_eq_true rfl) (c_numberHere c11 ⟨by decide, by decide⟩ c12) (fun r13 N15 h14 => ?_)
  have W := W r13 N15 h14.1 h14.2
  refine zr_istore_n (l' := [(0, zA g 1), (1, zI r7), (2, zI r13)]) dX10_grassLine_33 (by decide) [1, 2, 0] rfl ?_
  refine zr_aload_n 0 dX10_grassLine_34 rfl ?_
  obtain ⟨c16, W⟩ := W
  refine zt_callVi (As := []) (rest := []) dX10_grassLine_35 kX10_grassLine_150 rfl rfl rfl rfl (Nat.le_of_ble_eq_true rfl) (c_isGood c16) (fun r17 N19 h18 => ?_)
  rw [h18.1, h18.2]
  refine zt_ifeq_b (tgt := 69) dX10_grassLine_38 (by decide) (fun h => ?_) (fun h => ?_)
  · have W := W.1 h
    refine zr_aload_n 0 dX10_grassLine_69 rfl ?_
    refine zt_geti 7 rfl dX10_grassLine_70 fX10_140 rfl (by decide) ?_
    obtain ⟨c20, W⟩ := W
    refine zr_if_le (tgt := 77) dX10_grassLine_73 (by decide) c20 (fun h => ?_) (fun h => ?_)
    · have W := W.1 h
      refine zr_aload_n 0 dX10_grassLine_77 rfl ?_
      refine zr_getr (b := 7) dX10_grassLine_78 fX10_32 rfl rfl rfl (by decide) ?_
      refine zr_bipush dX10_grassLine_81 (by decide) ?_
      refine zr_aload_n 0 dX10_grassLine_83 rfl ?_
      refine zr_getr (b := 3) dX10_grassLine_84 fX10_20 rfl rfl rfl (by decide) ?_
      refine zr_bipush dX10_grassLine_87 (by decide) ?_
      refine zr_iald dX10_grassLine_89 rfl (by decide) ⟨by decide, by decide⟩ ?_
      refine zr_iload_n 2 dX10_grassLine_90 rfl ?_
      refine zr_imul dX10_grassLine_91 ?_
      refine zr_iadd dX10_grassLine_92 ?_
      refine zr_iload_n 1 dX10_grassLine_93 rfl ?_
      refine zr_iadd dX10_grassLine_94 ?_
      refine zr_iconst dX10_grassLine_95 ?_
      obtain ⟨c21, W⟩ := W
      refine zr_iast dX10_grassLine_96 rfl (by decide) c21 ?_
      refine zr_aload_n 0 dX10_grassLine_97 rfl ?_
      obtain ⟨q22, k26, W⟩ := W
      refine zt_callVv (As := []) (rest := []) dX10_grassLine_98 kX10_grassLine_154 rfl rfl rfl rfl (Nat.le_of_ble_eq_true rfl) k26 (fun M24 h25 => ?_)
      have W := W M24 h25
      exact zt_ret dX10_grassLine_101 rfl W
    · have W := W.2 h
      exact zt_ret dX10_grassLine_76 rfl W
  · have W := W.2 h
    refine zr_aload_n 0 dX10_grassLine_41 rfl ?_
    refine zr_getr (b := 7) dX10_grassLine_42 fX10_32 rfl rfl rfl (by decide) ?_
    refine zr_bipush dX10_grassLine_45 (by decide) ?_
    refine zr_aload_n 0 dX10_grassLine_47 rfl ?_
    refine zr_getr (b := 3) dX10_grassLine_48 fX10_20 rfl rfl rfl (by decide) ?_
    refine zr_bipush dX10_grassLine_51 (by decide) ?_
    refine zr_iald dX10_grassLine_53 rfl (by decide) ⟨by decide, by decide⟩ ?_
    refine zr_iload_n 2 dX10_grassLine_54 rfl ?_
    refine zr_imul dX10_grassLine_55 ?_
    refine zr_iadd dX10_grassLine_56 ?_
    refine zr_iload_n 1 dX10_grassLine_57 rfl ?_
    refine zr_iadd dX10_grassLine_58 ?_
    obtain ⟨c27, W⟩ := W
    refine zr_iald dX10_grassLine_59 rfl (by decide) c27 ?_
    refine zr_iconst dX10_grassLine_60 ?_
    obtain ⟨c28, W⟩ := W
    refine zr_icmp_ne (tgt := 69) dX10_grassLine_61 (by decide) c28 ⟨by decide, by decide⟩ (fun h => ?_) (fun h => ?_)
    · have W := W.1 h
      refine zr_aload_n 0 dX10_grassLine_69 rfl ?_
      refine zt_geti 7 rfl dX10_grassLine_70 fX10_140 rfl (by decide) ?_
      obtain ⟨c29, W⟩ := W
      refine zr_if_le (tgt := 77) dX10_grassLine_73 (by decide) c29 (fun h => ?_) (fun h => ?_)
      · have W := W.1 h
        refine zr_aload_n 0 dX10_grassLine_77 rfl ?_
        refine zr_getr (b := 7) dX10_grassLine_78 fX10_32 rfl rfl rfl (by decide) ?_
        refine zr_bipush dX10_grassLine_81 (by decide) ?_
        refine zr_aload_n 0 dX10_grassLine_83 rfl ?_
        refine zr_getr (b := 3) dX10_grassLine_84 fX10_20 rfl rfl rfl (by decide) ?_
        refine zr_bipush dX10_grassLine_87 (by decide) ?_
        refine zr_iald dX10_grassLine_89 rfl (by decide) ⟨by decide, by decide⟩ ?_
        refine zr_iload_n 2 dX10_grassLine_90 rfl ?_
        refine zr_imul dX10_grassLine_91 ?_
        refine zr_iadd dX10_grassLine_92 ?_
        refine zr_iload_n 1 dX10_grassLine_93 rfl ?_
        refine zr_iadd dX10_grassLine_94 ?_
        refine zr_iconst dX10_grassLine_95 ?_
        refine zr_iast dX10_grassLine_96 rfl (by decide) c27 ?_
        refine zr_aload_n 0 dX10_grassLine_97 rfl ?_
        obtain ⟨q30, k34, W⟩ := W
        refine zt_callVv (As := []) (rest := []) dX10_grassLine_98 kX10_grassLine_154 rfl rfl rfl rfl (Nat.le_of_ble_eq_true rfl) k34 (fun M32 h33 => ?_)
        have W := W M32 h33
        exact zt_ret dX10_grassLine_101 rfl W
      · have W := W.2 h
        exact zt_ret dX10_grassLine_76 rfl W
    · have W := W.2 h
      refine zr_aload_n 0 dX10_grassLine_64 rfl ?_
      refine zr_iconst dX10_grassLine_65 ?_
      refine zt_callVv (As := [zI 3]) (rest := []) dX10_grassLine_66 kX10_grassLine_143 rfl rfl rfl rfl (Nat.le_of_ble_eq_true rfl) (c_wrong c16) (fun N37 h36 => ?_)
      have W := W N37 h36
      refine zr_aload_n 0 dX10_grassLine_69 rfl ?_
      refine zt_geti 7 rfl dX10_grassLine_70 fX10_140 rfl (by decide) ?_
      obtain ⟨c38, W⟩ := W
      refine zr_if_le (tgt := 77) dX10_grassLine_73 (by decide) c38 (fun h => ?_) (fun h => ?_)
      · have W := W.1 h
        refine zr_aload_n 0 dX10_grassLine_77 rfl ?_
        refine zr_getr (b := 7) dX10_grassLine_78 fX10_32 rfl rfl rfl (by decide) ?_
        refine zr_bipush dX10_grassLine_81 (by decide) ?_
        refine zr_aload_n 0 dX10_grassLine_83 rfl ?_
        refine zr_getr (b := 3) dX10_grassLine_84 fX10_20 rfl rfl rfl (by decide) ?_
        refine zr_bipush dX10_grassLine_87 (by decide) ?_
        refine zr_iald dX10_grassLine_89 rfl (by decide) ⟨by decide, by decide⟩ ?_
        refine zr_iload_n 2 dX10_grassLine_90 rfl ?_
        refine zr_imul dX10_grassLine_91 ?_
        refine zr_iadd dX10_grassLine_92 ?_
        refine zr_iload_n 1 dX10_grassLine_93 rfl ?_
        refine zr_iadd dX10_grassLine_94 ?_
        refine zr_iconst dX10_grassLine_95 ?_
        obtain ⟨c39, W⟩ := W
        refine zr_iast dX10_grassLine_96 rfl (by decide) c39 ?_
        refine zr_aload_n 0 dX10_grassLine_97 rfl ?_
        obtain ⟨q40, k44, W⟩ := W
        refine zt_callVv (As := []) (rest := []) dX10_grassLine_98 kX10_grassLine_154 rfl rfl rfl rfl (Nat.le_of_ble_eq_true rfl) k44 (fun M42 h43 => ?_)
        have W := W M42 h43
        exact zt_ret dX10_grassLine_101 rfl W
      · have W := W.2 h
        exact zt_ret dX10_grassLine_76 rfl W
theorem dX10_windLine_0 : decode cX10_windLine 0 = .ok (.aload_n 0, 1) := by decide +kernel
theorem dX10_windLine_1 : decode cX10_windLine 1 = .ok (.iconst 2, 1) := by decide +kernel
theorem dX10_windLine_2 : decode cX10_windLine 2 = .ok (.invokevirtual 164, 3) := by decide +kernel
theorem dX10_windLine_5 : decode cX10_windLine 5 = .ok (.ifCond .ne 4, 3) := by decide +kernel
theorem dX10_windLine_8 : decode cX10_windLine 8 = .ok (.return_, 1) := by decide +kernel
theorem dX10_windLine_9 : decode cX10_windLine 9 = .ok (.iconst 0, 1) := by decide +kernel
theorem dX10_windLine_10 : decode cX10_windLine 10 = .ok (.istore_n 1, 1) := by decide +kernel
theorem dX10_windLine_11 : decode cX10_windLine 11 = .ok (.aload_n 0, 1) := by decide +kernel
theorem dX10_windLine_12 : decode cX10_windLine 12 = .ok (.invokevirtual 184, 3) := by decide +kernel
theorem dX10_windLine_15 : decode cX10_windLine 15 = .ok (.iconst (-1), 1) := by decide +kernel
theorem dX10_windLine_16 : decode cX10_windLine 16 = .ok (.if_icmp .ne 8, 3) := by decide +kernel
theorem dX10_windLine_19 : decode cX10_windLine 19 = .ok (.aload_n 0, 1) := by decide +kernel
theorem dX10_windLine_20 : decode cX10_windLine 20 = .ok (.iconst 2, 1) := by decide +kernel
theorem dX10_windLine_21 : decode cX10_windLine 21 = .ok (.invokevirtual 143, 3) := by decide +kernel
theorem dX10_windLine_24 : decode cX10_windLine 24 = .ok (.aload_n 0, 1) := by decide +kernel
theorem dX10_windLine_25 : decode cX10_windLine 25 = .ok (.invokevirtual 150, 3) := by decide +kernel
theorem dX10_windLine_28 : decode cX10_windLine 28 = .ok (.ifCond .eq 62, 3) := by decide +kernel
theorem dX10_windLine_31 : decode cX10_windLine 31 = .ok (.aload_n 0, 1) := by decide +kernel
theorem dX10_windLine_32 : decode cX10_windLine 32 = .ok (.invokevirtual 184, 3) := by decide +kernel
theorem dX10_windLine_35 : decode cX10_windLine 35 = .ok (.iconst (-1), 1) := by decide +kernel
theorem dX10_windLine_36 : decode cX10_windLine 36 = .ok (.if_icmp .eq 54, 3) := by decide +kernel
theorem dX10_windLine_39 : decode cX10_windLine 39 = .ok (.iload_n 1, 1) := by decide +kernel
theorem dX10_windLine_40 : decode cX10_windLine 40 = .ok (.bipush 8, 2) := by decide +kernel
theorem dX10_windLine_42 : decode cX10_windLine 42 = .ok (.if_icmp .ne 9, 3) := by decide +kernel
theorem dX10_windLine_45 : decode cX10_windLine 45 = .ok (.aload_n 0, 1) := by decide +kernel
theorem dX10_windLine_46 : decode cX10_windLine 46 = .ok (.iconst 2, 1) := by decide +kernel
theorem dX10_windLine_47 : decode cX10_windLine 47 = .ok (.invokevirtual 143, 3) := by decide +kernel
theorem dX10_windLine_50 : decode cX10_windLine 50 = .ok (.return_, 1) := by decide +kernel
theorem dX10_windLine_51 : decode cX10_windLine 51 = .ok (.aload_n 0, 1) := by decide +kernel
theorem dX10_windLine_52 : decode cX10_windLine 52 = .ok (.getfield 23, 3) := by decide +kernel
theorem dX10_windLine_55 : decode cX10_windLine 55 = .ok (.bipush 8, 2) := by decide +kernel
theorem dX10_windLine_57 : decode cX10_windLine 57 = .ok (.iload_n 1, 1) := by decide +kernel
theorem dX10_windLine_58 : decode cX10_windLine 58 = .ok (.iadd, 1) := by decide +kernel
theorem dX10_windLine_59 : decode cX10_windLine 59 = .ok (.aload_n 0, 1) := by decide +kernel
theorem dX10_windLine_60 : decode cX10_windLine 60 = .ok (.invokevirtual 184, 3) := by decide +kernel
theorem dX10_windLine_63 : decode cX10_windLine 63 = .ok (.iastore, 1) := by decide +kernel
theorem dX10_windLine_64 : decode cX10_windLine 64 = .ok (.aload_n 0, 1) := by decide +kernel
theorem dX10_windLine_65 : decode cX10_windLine 65 = .ok (.invokevirtual 154, 3) := by decide +kernel
theorem dX10_windLine_68 : decode cX10_windLine 68 = .ok (.aload_n 0, 1) := by decide +kernel
theorem dX10_windLine_69 : decode cX10_windLine 69 = .ok (.getfield 26, 3) := by decide +kernel
theorem dX10_windLine_72 : decode cX10_windLine 72 = .ok (.bipush 8, 2) := by decide +kernel
theorem dX10_windLine_74 : decode cX10_windLine 74 = .ok (.iload_n 1, 1) := by decide +kernel
theorem dX10_windLine_75 : decode cX10_windLine 75 = .ok (.iadd, 1) := by decide +kernel
theorem dX10_windLine_76 : decode cX10_windLine 76 = .ok (.aload_n 0, 1) := by decide +kernel
theorem dX10_windLine_77 : decode cX10_windLine 77 = .ok (.iconst 1, 1) := by decide +kernel
theorem dX10_windLine_78 : decode cX10_windLine 78 = .ok (.bipush 99, 2) := by decide +kernel
theorem dX10_windLine_80 : decode cX10_windLine 80 = .ok (.invokevirtual 167, 3) := by decide +kernel
theorem dX10_windLine_83 : decode cX10_windLine 83 = .ok (.iastore, 1) := by decide +kernel
theorem dX10_windLine_84 : decode cX10_windLine 84 = .ok (.iinc 1 1, 3) := by decide +kernel
theorem dX10_windLine_87 : decode cX10_windLine 87 = .ok (.goto (-63), 3) := by decide +kernel
theorem dX10_windLine_90 : decode cX10_windLine 90 = .ok (.aload_n 0, 1) := by decide +kernel
theorem dX10_windLine_91 : decode cX10_windLine 91 = .ok (.getfield 20, 3) := by decide +kernel
theorem dX10_windLine_94 : decode cX10_windLine 94 = .ok (.bipush 19, 2) := by decide +kernel
theorem dX10_windLine_96 : decode cX10_windLine 96 = .ok (.iload_n 1, 1) := by decide +kernel
theorem dX10_windLine_97 : decode cX10_windLine 97 = .ok (.iastore, 1) := by decide +kernel
theorem dX10_windLine_98 : decode cX10_windLine 98 = .ok (.return_, 1) := by decide +kernel
set_option maxRecDepth 100000 in
theorem SX10_windLine_0 {g : zG} {o : Bool} {M : zM} {q : zM → Prop} (W : ∃ q1 : Int → zM → Prop, zKi g (z2 o) mX10_once [zA g 1, zI 2] M q1 ∧ ∀ (r2 : Int) (M3 : zM), q1 r2 M3 → (-2147483648 ≤ r2 ∧ r2 ≤ 2147483647) ∧ ((r2 ≠ 0) → (fOk M3) ∧ (-2147483648 ≤ (wyR M3) ∧ (wyR M3) ≤ 2147483647) ∧ (((wyR M3) ≠ (-1)) → zT g (z2 o) mX10_windLine (zQv (z2 o) q) 24 [(0, zA g 1), (1, zI 0)] [] M3) ∧ (((wyR M3) = (-1)) → ∀ N14 : zM, N14 = wrM 2 M3 → zT g (z2 o) mX10_windLine (zQv (z2 o) q) 24 [(0, zA g 1), (1, zI 0)] [] N14)) ∧ ((r2 = 0) → q M3)) : zT g (z2 o) mX10_windLine (zQv (z2 o) q) 0 [(0, zA g 1)] [] M := by
  refine zr_aload_n 0 dX10_windLine_0 rfl ?_
  refine zr_iconst dX10_windLine_1 ?_
  obtain ⟨q1, k5, W⟩ := W
  refine zt_callVi (As := [zI 2]) (rest := []) dX10_windLine_2 kX10_windLine_164 rfl rfl rfl rfl (Nat.le_of_ble_eq_true rfl) k5 (fun r2 M3 h4 => ?_)
  have W := W r2 M3 h4
  obtain ⟨c6, W⟩ := W
  refine zr_if_ne (tgt := 9) dX10_windLine_5 (by decide) c6 (fun h => ?_) (fun h => ?_)
  · have W := W.1 h
    refine zr_iconst dX10_windLine_9 ?_
    refine zr_istore_n (l' := [(0, zA g 1), (1, zI 0)]) dX10_windLine_10 (by decide) [1, 0] rfl ?_
    refine zr_aload_n 0 dX10_windLine_11 rfl ?_
    obtain ⟨c7, W⟩ := W
    refine zt_callVi (As := []) (rest := []) dX10_windLine_12 kX10_windLine_184 rfl rfl rfl rfl (Nat.le_of_ble_eq_true rfl) (c_wayHere c7) (fun r8 N10 h9 => ?_)
    rw [h9.1, h9.2]
    refine zr_iconst dX10_windLine_15 ?_
    obtain ⟨c11, W⟩ := W
    refine zr_icmp_ne (tgt := 24) dX10_windLine_16 (by decide) c11 ⟨by decide, by decide⟩ (fun h => ?_) (fun h => ?_)
    · have W := W.1 h
      exact W
    · have W := W.2 h
      refine zr_aload_n 0 dX10_windLine_19 rfl ?_
      refine zr_iconst dX10_windLine_20 ?_
      refine zt_callVv (As := [zI 2]) (rest := []) dX10_windLine_21 kX10_windLine_143 rfl rfl rfl rfl (Nat.le_of_ble_eq_true rfl) (c_wrong c7) (fun N14 h13 => ?_)
      have W := W N14 h13
      exact W
  · have W := W.2 h
    exact zt_ret dX10_windLine_8 rfl W
set_option maxRecDepth 100000 in
theorem SX10_windLine_24 {g : zG} {o : Bool} {M : zM} {q : zM → Prop} {x1 : Int} (W : (fOk M) ∧ ((¬ (M 1 7 = 0)) → q (zu M 3 19 x1)) ∧ ((M 1 7 = 0) → (-2147483648 ≤ (wyR M) ∧ (wyR M) ≤ 2147483647) ∧ (((wyR M) = (-1)) → q (zu M 3 19 x1)) ∧ ((¬ ((wyR M) = (-1))) → (-2147483648 ≤ x1 ∧ x1 ≤ 2147483647) ∧ ((x1 ≠ 8) → (0 ≤ (8 + x1) ∧ (8 + x1) < 16) ∧ ∃ q14 : zM → Prop, zKv g (z2 o) mX10_goOn [zA g 1] (zu M 4 (8 + x1) (wyR M)) q14 ∧ ∀ M16 : zM, q14 M16 → ∃ q19 : Int → zM → Prop, zKi g (z2 o) mX10_number [zA g 1, zI 1, zI 99] M16 q19 ∧ ∀ (r20 : Int) (M21 : zM), q19 r20 M21 → zT g (z2 o) mX10_windLine (zQv (z2 o) q) 24 [(0, zA g 1), (1, zI (x1 + 1))] [] (zu M21 5 (8 + x1) r20)) ∧ ((x1 = 8) → ∀ N26 : zM, N26 = wrM 2 M → q N26)))) : zT g (z2 o) mX10_windLine (zQv (z2 o) q) 24 [(0, zA g 1), (1, zI x1)] [] M := by
  refine zr_aload_n 0 dX10_windLine_24 rfl ?_
  obtain ⟨c1, W⟩ := W
  refine zt_callVi (As := []) (rest := []) dX10_windLine_25 kX10_windLine_150 rfl rfl rfl rfl (Nat.le_of_ble_eq_true rfl) (c_isGood c1) (fun r2 N4 h3 => ?_)
  rw [h3.1, h3.2]
  refine zt_ifeq_b (tgt := 90) dX10_windLine_28 (by decide) (fun h => ?_) (fun h => ?_)
  · have W := W.1 h
    refine zr_aload_n 0 dX10_windLine_90 rfl ?_
    refine zr_getr (b := 3) dX10_windLine_91 fX10_20 rfl rfl rfl (by decide) ?_
    refine zr_bipush dX10_windLine_94 (by decide) ?_
    refine zr_iload_n 1 dX10_windLine_96 rfl ?_
    refine zr_iast dX10_windLine_97 rfl (by decide) ⟨by decide, by decide⟩ ?_
    exact zt_ret dX10_windLine_98 rfl W
  · have W := W.2 h
    refine zr_aload_n 0 dX10_windLine_31 rfl ?_
    refine zt_callVi (As := []) (rest := []) dX10_windLine_32 kX10_windLine_184 rfl rfl rfl rfl (Nat.le_of_ble_eq_true rfl) (c_wayHere c1) (fun r5 N7 h6 => ?_)
    rw [h6.1, h6.2]
    refine zr_iconst dX10_windLine_35 ?_
    obtain ⟨c8, W⟩ := W
    refine zr_icmp_eq (tgt := 90) dX10_windLine_36 (by decide) c8 ⟨by decide, by decide⟩ (fun h => ?_) (fun h => ?_)
    · have W := W.1 h
      refine zr_aload_n 0 dX10_windLine_90 rfl ?_
      refine zr_getr (b := 3) dX10_windLine_91 fX10_20 rfl rfl rfl (by decide) ?_
      refine zr_bipush dX10_windLine_94 (by decide) ?_
      refine zr_iload_n 1 dX10_windLine_96 rfl ?_
      refine zr_iast dX10_windLine_97 rfl (by decide) ⟨by decide, by decide⟩ ?_
      exact zt_ret dX10_windLine_98 rfl W
    · have W := W.2 h
      refine zr_iload_n 1 dX10_windLine_39 rfl ?_
      refine zr_bipush dX10_windLine_40 (by decide) ?_
      obtain ⟨c9, W⟩ := W
      refine zr_icmp_ne (tgt := 51) dX10_windLine_42 (by decide) c9 ⟨by decide, by decide⟩ (fun h => ?_) (fun h => ?_)
      · have W := W.1 h
        refine zr_aload_n 0 dX10_windLine_51 rfl ?_
        refine zr_getr (b := 4) dX10_windLine_52 fX10_23 rfl rfl rfl (by decide) ?_
        refine zr_bipush dX10_windLine_55 (by decide) ?_
        refine zr_iload_n 1 dX10_windLine_57 rfl ?_
        refine zr_iadd dX10_windLine_58 ?_
        refine zr_aload_n 0 dX10_windLine_59 rfl ?_
        refine zt_callVi (As := []) (rest := [zI (8 + x1), zA g 4]) dX10_windLine_60 kX10_windLine_184 rfl rfl rfl rfl (Nat.le_of_ble_eq_true rfl) (c_wayHere c1) (fun r10 N12 h11 => ?_)
        rw [h11.1, h11.2]
        obtain ⟨c13, W⟩ := W
        refine zr_iast dX10_windLine_63 rfl (by decide) c13 ?_
        refine zr_aload_n 0 dX10_windLine_64 rfl ?_
        obtain ⟨q14, k18, W⟩ := W
        refine zt_callVv (As := []) (rest := []) dX10_windLine_65 kX10_windLine_154 rfl rfl rfl rfl (Nat.le_of_ble_eq_true rfl) k18 (fun M16 h17 => ?_)
        have W := W M16 h17
        refine zr_aload_n 0 dX10_windLine_68 rfl ?_
        refine zr_getr (b := 5) dX10_windLine_69 fX10_26 rfl rfl rfl (by decide) ?_
        refine zr_bipush dX10_windLine_72 (by decide) ?_
        refine zr_iload_n 1 dX10_windLine_74 rfl ?_
        refine zr_iadd dX10_windLine_75 ?_
        refine zr_aload_n 0 dX10_windLine_76 rfl ?_
        refine zr_iconst dX10_windLine_77 ?_
        refine zr_bipush dX10_windLine_78 (by decide) ?_
        obtain ⟨q19, k23, W⟩ := W
        refine zt_callVi (As := [zI 1, zI 99]) (rest := [zI (8 + x1), zA g 5]) dX10_windLine_80 kX10_windLine_167 rfl rfl rfl rfl (Nat.le_of_ble_eq_true rfl) k23 (fun r20 M21 h22 => ?_)
        have W := W r20 M21 h22
        refine zr_iast dX10_windLine_83 rfl (by decide) c13 ?_
        refine zr_iinc (q := 1) (l' := [(0, zA g 1), (1, zI (x1 + 1))]) dX10_windLine_84 rfl (by decide) [1, 0] rfl ?_
        refine zr_goto (tgt := 24) dX10_windLine_87 (by decide) ?_
        exact W
      · have W := W.2 h
        refine zr_aload_n 0 dX10_windLine_45 rfl ?_
        refine zr_iconst dX10_windLine_46 ?_
        refine zt_callVv (As := [zI 2]) (rest := []) dX10_windLine_47 kX10_windLine_143 rfl rfl rfl rfl (Nat.le_of_ble_eq_true rfl) (c_wrong c1) (fun N26 h25 => ?_)
        have W := W N26 h25
        exact zt_ret dX10_windLine_50 rfl W
theorem dX10_stickLine_0 : decode cX10_stickLine 0 = .ok (.aload_n 0, 1) := by decide +kernel
theorem dX10_stickLine_1 : decode cX10_stickLine 1 = .ok (.bipush 6, 2) := by decide +kernel
theorem dX10_stickLine_3 : decode cX10_stickLine 3 = .ok (.invokevirtual 164, 3) := by decide +kernel
theorem dX10_stickLine_6 : decode cX10_stickLine 6 = .ok (.ifCond .ne 4, 3) := by decide +kernel
theorem dX10_stickLine_9 : decode cX10_stickLine 9 = .ok (.return_, 1) := by decide +kernel
theorem dX10_stickLine_10 : decode cX10_stickLine 10 = .ok (.aload_n 0, 1) := by decide +kernel
theorem dX10_stickLine_11 : decode cX10_stickLine 11 = .ok (.getfield 20, 3) := by decide +kernel
theorem dX10_stickLine_14 : decode cX10_stickLine 14 = .ok (.bipush 16, 2) := by decide +kernel
theorem dX10_stickLine_16 : decode cX10_stickLine 16 = .ok (.aload_n 0, 1) := by decide +kernel
theorem dX10_stickLine_17 : decode cX10_stickLine 17 = .ok (.iconst 0, 1) := by decide +kernel
theorem dX10_stickLine_18 : decode cX10_stickLine 18 = .ok (.bipush 16, 2) := by decide +kernel
theorem dX10_stickLine_20 : decode cX10_stickLine 20 = .ok (.invokevirtual 167, 3) := by decide +kernel
theorem dX10_stickLine_23 : decode cX10_stickLine 23 = .ok (.iastore, 1) := by decide +kernel
theorem dX10_stickLine_24 : decode cX10_stickLine 24 = .ok (.aload_n 0, 1) := by decide +kernel
theorem dX10_stickLine_25 : decode cX10_stickLine 25 = .ok (.getfield 20, 3) := by decide +kernel
theorem dX10_stickLine_28 : decode cX10_stickLine 28 = .ok (.bipush 17, 2) := by decide +kernel
theorem dX10_stickLine_30 : decode cX10_stickLine 30 = .ok (.aload_n 0, 1) := by decide +kernel
theorem dX10_stickLine_31 : decode cX10_stickLine 31 = .ok (.iconst 0, 1) := by decide +kernel
theorem dX10_stickLine_32 : decode cX10_stickLine 32 = .ok (.bipush 16, 2) := by decide +kernel
theorem dX10_stickLine_34 : decode cX10_stickLine 34 = .ok (.invokevirtual 167, 3) := by decide +kernel
theorem dX10_stickLine_37 : decode cX10_stickLine 37 = .ok (.iastore, 1) := by decide +kernel
theorem dX10_stickLine_38 : decode cX10_stickLine 38 = .ok (.return_, 1) := by decide +kernel
set_option maxRecDepth 100000 in
theorem SX10_stickLine_0 {g : zG} {o : Bool} {M : zM} {q : zM → Prop} (W : ∃ q1 : Int → zM → Prop, zKi g (z2 o) mX10_once [zA g 1, zI 6] M q1 ∧ ∀ (r2 : Int) (M3 : zM), q1 r2 M3 → (-2147483648 ≤ r2 ∧ r2 ≤ 2147483647) ∧ ((r2 ≠ 0) → ∃ q7 : Int → zM → Prop, zKi g (z2 o) mX10_number [zA g 1, zI 0, zI 16] M3 q7 ∧ ∀ (r8 : Int) (M9 : zM), q7 r8 M9 → ∃ q12 : Int → zM → Prop, zKi g (z2 o) mX10_number [zA g 1, zI 0, zI 16] (zu M9 3 16 r8) q12 ∧ ∀ (r13 : Int) (M14 : zM), q12 r13 M14 → q (zu M14 3 17 r13)) ∧ ((r2 = 0) → q M3)) : zT g (z2 o) mX10_stickLine (zQv (z2 o) q) 0 [(0, zA g 1)] [] M := by
  refine zr_aload_n 0 dX10_stickLine_0 rfl ?_
  refine zr_bipush dX10_stickLine_1 (by decide) ?_
  obtain ⟨q1, k5, W⟩ := W
  refine zt_callVi (As := [zI 6]) (rest := []) dX10_stickLine_3 kX10_stickLine_164 rfl rfl rfl rfl (Nat.le_of_ble_eq_true rfl) k5 (fun r2 M3 h4 => ?_)
  have W := W r2 M3 h4
  obtain ⟨c6, W⟩ := W
  refine zr_if_ne (tgt := 10) dX10_stickLine_6 (by decide) c6 (fun h => ?_) (fun h => ?_)
  · have W := W.1 h
    refine zr_aload_n 0 dX10_stickLine_10 rfl ?_
    refine zr_getr (b := 3) dX10_stickLine_11 fX10_20 rfl rfl rfl (by decide) ?_
    refine zr_bipush dX10_stickLine_14 (by decide) ?_
    refine zr_aload_n 0 dX10_stickLine_16 rfl ?_
    refine zr_iconst dX10_stickLine_17 ?_
    refine zr_bipush dX10_stickLine_18 (by decide) ?_
    obtain ⟨q7, k11, W⟩ := W
    refine zt_callVi (As := [zI 0, zI 16]) (rest := [zI 16, zA g 3]) dX10_stickLine_20 kX10_stickLine_167 rfl rfl rfl rfl (Nat.le_of_ble_eq_true rfl) k11 (fun r8 M9 h10 => ?_)
    have W := W r8 M9 h10
    refine zr_iast dX10_stickLine_23 rfl (by decide) ⟨by decide, by decide⟩ ?_
    refine zr_aload_n 0 dX10_stickLine_24 rfl ?_
    refine zr_getr (b := 3) dX10_stickLine_25 fX10_20 rfl rfl rfl (by decide) ?_
    refine zr_bipush dX10_stickLine_28 (by decide) ?_
    refine zr_aload_n 0 dX10_stickLine_30 rfl ?_
    refine zr_iconst dX10_stickLine_31 ?_
    refine zr_bipush dX10_stickLine_32 (by decide) ?_
    obtain ⟨q12, k16, W⟩ := W
    refine zt_callVi (As := [zI 0, zI 16]) (rest := [zI 17, zA g 3]) dX10_stickLine_34 kX10_stickLine_167 rfl rfl rfl rfl (Nat.le_of_ble_eq_true rfl) k16 (fun r13 M14 h15 => ?_)
    have W := W r13 M14 h15
    refine zr_iast dX10_stickLine_37 rfl (by decide) ⟨by decide, by decide⟩ ?_
    exact zt_ret dX10_stickLine_38 rfl W
  · have W := W.2 h
    exact zt_ret dX10_stickLine_9 rfl W
theorem dX10_otherLine_0 : decode cX10_otherLine 0 = .ok (.aload_n 0, 1) := by decide +kernel
theorem dX10_otherLine_1 : decode cX10_otherLine 1 = .ok (.iconst 1, 1) := by decide +kernel
theorem dX10_otherLine_2 : decode cX10_otherLine 2 = .ok (.putfield 157, 3) := by decide +kernel
theorem dX10_otherLine_5 : decode cX10_otherLine 5 = .ok (.aload_n 0, 1) := by decide +kernel
theorem dX10_otherLine_6 : decode cX10_otherLine 6 = .ok (.ldc2_w 188, 3) := by decide +kernel
theorem dX10_otherLine_9 : decode cX10_otherLine 9 = .ok (.invokevirtual 172, 3) := by decide +kernel
theorem dX10_otherLine_12 : decode cX10_otherLine 12 = .ok (.ifCond .eq 15, 3) := by decide +kernel
theorem dX10_otherLine_15 : decode cX10_otherLine 15 = .ok (.aload_n 0, 1) := by decide +kernel
theorem dX10_otherLine_16 : decode cX10_otherLine 16 = .ok (.iconst 1, 1) := by decide +kernel
theorem dX10_otherLine_17 : decode cX10_otherLine 17 = .ok (.iconst 2, 1) := by decide +kernel
theorem dX10_otherLine_18 : decode cX10_otherLine 18 = .ok (.iconst 0, 1) := by decide +kernel
theorem dX10_otherLine_19 : decode cX10_otherLine 19 = .ok (.bipush 9, 2) := by decide +kernel
theorem dX10_otherLine_21 : decode cX10_otherLine 21 = .ok (.invokevirtual 190, 3) := by decide +kernel
theorem dX10_otherLine_24 : decode cX10_otherLine 24 = .ok (.goto 167, 3) := by decide +kernel
theorem dX10_otherLine_27 : decode cX10_otherLine 27 = .ok (.aload_n 0, 1) := by decide +kernel
theorem dX10_otherLine_28 : decode cX10_otherLine 28 = .ok (.ldc2_w 194, 3) := by decide +kernel
theorem dX10_otherLine_31 : decode cX10_otherLine 31 = .ok (.invokevirtual 172, 3) := by decide +kernel
theorem dX10_otherLine_34 : decode cX10_otherLine 34 = .ok (.ifCond .eq 10, 3) := by decide +kernel
theorem dX10_otherLine_37 : decode cX10_otherLine 37 = .ok (.aload_n 0, 1) := by decide +kernel
theorem dX10_otherLine_38 : decode cX10_otherLine 38 = .ok (.invokevirtual 196, 3) := by decide +kernel
theorem dX10_otherLine_41 : decode cX10_otherLine 41 = .ok (.goto 150, 3) := by decide +kernel
theorem dX10_otherLine_44 : decode cX10_otherLine 44 = .ok (.aload_n 0, 1) := by decide +kernel
theorem dX10_otherLine_45 : decode cX10_otherLine 45 = .ok (.ldc2_w 199, 3) := by decide +kernel
theorem dX10_otherLine_48 : decode cX10_otherLine 48 = .ok (.invokevirtual 172, 3) := by decide +kernel
theorem dX10_otherLine_51 : decode cX10_otherLine 51 = .ok (.ifCond .eq 10, 3) := by decide +kernel
theorem dX10_otherLine_54 : decode cX10_otherLine 54 = .ok (.aload_n 0, 1) := by decide +kernel
theorem dX10_otherLine_55 : decode cX10_otherLine 55 = .ok (.invokevirtual 201, 3) := by decide +kernel
theorem dX10_otherLine_58 : decode cX10_otherLine 58 = .ok (.goto 133, 3) := by decide +kernel
theorem dX10_otherLine_61 : decode cX10_otherLine 61 = .ok (.aload_n 0, 1) := by decide +kernel
theorem dX10_otherLine_62 : decode cX10_otherLine 62 = .ok (.ldc2_w 204, 3) := by decide +kernel
theorem dX10_otherLine_65 : decode cX10_otherLine 65 = .ok (.invokevirtual 172, 3) := by decide +kernel
theorem dX10_otherLine_68 : decode cX10_otherLine 68 = .ok (.ifCond .eq 10, 3) := by decide +kernel
theorem dX10_otherLine_71 : decode cX10_otherLine 71 = .ok (.aload_n 0, 1) := by decide +kernel
theorem dX10_otherLine_72 : decode cX10_otherLine 72 = .ok (.invokevirtual 206, 3) := by decide +kernel
theorem dX10_otherLine_75 : decode cX10_otherLine 75 = .ok (.goto 116, 3) := by decide +kernel
theorem dX10_otherLine_78 : decode cX10_otherLine 78 = .ok (.aload_n 0, 1) := by decide +kernel
theorem dX10_otherLine_79 : decode cX10_otherLine 79 = .ok (.ldc2_w 209, 3) := by decide +kernel
theorem dX10_otherLine_82 : decode cX10_otherLine 82 = .ok (.invokevirtual 172, 3) := by decide +kernel
theorem dX10_otherLine_85 : decode cX10_otherLine 85 = .ok (.ifCond .eq 15, 3) := by decide +kernel
theorem dX10_otherLine_88 : decode cX10_otherLine 88 = .ok (.aload_n 0, 1) := by decide +kernel
theorem dX10_otherLine_89 : decode cX10_otherLine 89 = .ok (.iconst 3, 1) := by decide +kernel
theorem dX10_otherLine_90 : decode cX10_otherLine 90 = .ok (.iconst 3, 1) := by decide +kernel
theorem dX10_otherLine_91 : decode cX10_otherLine 91 = .ok (.iconst 1, 1) := by decide +kernel
theorem dX10_otherLine_92 : decode cX10_otherLine 92 = .ok (.bipush 6, 2) := by decide +kernel
theorem dX10_otherLine_94 : decode cX10_otherLine 94 = .ok (.invokevirtual 190, 3) := by decide +kernel
theorem dX10_otherLine_97 : decode cX10_otherLine 97 = .ok (.goto 94, 3) := by decide +kernel
theorem dX10_otherLine_100 : decode cX10_otherLine 100 = .ok (.aload_n 0, 1) := by decide +kernel
theorem dX10_otherLine_101 : decode cX10_otherLine 101 = .ok (.ldc2_w 211, 3) := by decide +kernel
theorem dX10_otherLine_104 : decode cX10_otherLine 104 = .ok (.invokevirtual 172, 3) := by decide +kernel
theorem dX10_otherLine_107 : decode cX10_otherLine 107 = .ok (.ifCond .eq 15, 3) := by decide +kernel
theorem dX10_otherLine_110 : decode cX10_otherLine 110 = .ok (.aload_n 0, 1) := by decide +kernel
theorem dX10_otherLine_111 : decode cX10_otherLine 111 = .ok (.iconst 4, 1) := by decide +kernel
theorem dX10_otherLine_112 : decode cX10_otherLine 112 = .ok (.iconst 4, 1) := by decide +kernel
theorem dX10_otherLine_113 : decode cX10_otherLine 113 = .ok (.iconst 1, 1) := by decide +kernel
theorem dX10_otherLine_114 : decode cX10_otherLine 114 = .ok (.bipush 9, 2) := by decide +kernel
theorem dX10_otherLine_116 : decode cX10_otherLine 116 = .ok (.invokevirtual 190, 3) := by decide +kernel
theorem dX10_otherLine_119 : decode cX10_otherLine 119 = .ok (.goto 72, 3) := by decide +kernel
theorem dX10_otherLine_122 : decode cX10_otherLine 122 = .ok (.aload_n 0, 1) := by decide +kernel
theorem dX10_otherLine_123 : decode cX10_otherLine 123 = .ok (.ldc2_w 213, 3) := by decide +kernel
theorem dX10_otherLine_126 : decode cX10_otherLine 126 = .ok (.invokevirtual 172, 3) := by decide +kernel
theorem dX10_otherLine_129 : decode cX10_otherLine 129 = .ok (.ifCond .eq 15, 3) := by decide +kernel
theorem dX10_otherLine_132 : decode cX10_otherLine 132 = .ok (.aload_n 0, 1) := by decide +kernel
theorem dX10_otherLine_133 : decode cX10_otherLine 133 = .ok (.iconst 5, 1) := by decide +kernel
theorem dX10_otherLine_134 : decode cX10_otherLine 134 = .ok (.iconst 5, 1) := by decide +kernel
theorem dX10_otherLine_135 : decode cX10_otherLine 135 = .ok (.iconst 1, 1) := by decide +kernel
theorem dX10_otherLine_136 : decode cX10_otherLine 136 = .ok (.bipush 9, 2) := by decide +kernel
theorem dX10_otherLine_138 : decode cX10_otherLine 138 = .ok (.invokevirtual 190, 3) := by decide +kernel
theorem dX10_otherLine_141 : decode cX10_otherLine 141 = .ok (.goto 50, 3) := by decide +kernel
theorem dX10_otherLine_144 : decode cX10_otherLine 144 = .ok (.aload_n 0, 1) := by decide +kernel
theorem dX10_otherLine_145 : decode cX10_otherLine 145 = .ok (.ldc2_w 215, 3) := by decide +kernel
theorem dX10_otherLine_148 : decode cX10_otherLine 148 = .ok (.invokevirtual 172, 3) := by decide +kernel
theorem dX10_otherLine_151 : decode cX10_otherLine 151 = .ok (.ifCond .eq 10, 3) := by decide +kernel
theorem dX10_otherLine_154 : decode cX10_otherLine 154 = .ok (.aload_n 0, 1) := by decide +kernel
theorem dX10_otherLine_155 : decode cX10_otherLine 155 = .ok (.invokevirtual 217, 3) := by decide +kernel
theorem dX10_otherLine_158 : decode cX10_otherLine 158 = .ok (.goto 33, 3) := by decide +kernel
theorem dX10_otherLine_161 : decode cX10_otherLine 161 = .ok (.aload_n 0, 1) := by decide +kernel
theorem dX10_otherLine_162 : decode cX10_otherLine 162 = .ok (.ldc2_w 220, 3) := by decide +kernel
theorem dX10_otherLine_165 : decode cX10_otherLine 165 = .ok (.invokevirtual 172, 3) := by decide +kernel
theorem dX10_otherLine_168 : decode cX10_otherLine 168 = .ok (.ifCond .eq 18, 3) := by decide +kernel
theorem dX10_otherLine_171 : decode cX10_otherLine 171 = .ok (.aload_n 0, 1) := by decide +kernel
theorem dX10_otherLine_172 : decode cX10_otherLine 172 = .ok (.bipush 7, 2) := by decide +kernel
theorem dX10_otherLine_174 : decode cX10_otherLine 174 = .ok (.bipush 8, 2) := by decide +kernel
theorem dX10_otherLine_176 : decode cX10_otherLine 176 = .ok (.iconst 0, 1) := by decide +kernel
theorem dX10_otherLine_177 : decode cX10_otherLine 177 = .ok (.sipush 9999, 3) := by decide +kernel
theorem dX10_otherLine_180 : decode cX10_otherLine 180 = .ok (.invokevirtual 190, 3) := by decide +kernel
theorem dX10_otherLine_183 : decode cX10_otherLine 183 = .ok (.goto 8, 3) := by decide +kernel
theorem dX10_otherLine_186 : decode cX10_otherLine 186 = .ok (.aload_n 0, 1) := by decide +kernel
theorem dX10_otherLine_187 : decode cX10_otherLine 187 = .ok (.iconst 2, 1) := by decide +kernel
theorem dX10_otherLine_188 : decode cX10_otherLine 188 = .ok (.invokevirtual 143, 3) := by decide +kernel
theorem dX10_otherLine_191 : decode cX10_otherLine 191 = .ok (.return_, 1) := by decide +kernel
set_option maxRecDepth 100000 in
theorem SX10_otherLine_0 {g : zG} {o : Bool} {M : zM} {q : zM → Prop} (W : (fOk (zu M 1 19 1)) ∧ ((¬ (isW 1935765092 (zu M 1 19 1))) → ((¬ (isW 1751474544 (zu M 1 19 1))) → ((¬ (isW 444300620659 (zu M 1 19 1))) → ((¬ (isW 2003398244 (zu M 1 19 1))) → ((¬ (isW 6844272 (zu M 1 19 1))) → ((¬ (isW 126892147765111 (zu M 1 19 1))) → ((¬ (isW 495740481637 (zu M 1 19 1))) → ((¬ (isW 495874302827 (zu M 1 19 1))) → ((¬ (isW 1685217655 (zu M 1 19 1))) → ∀ N31 : zM, N31 = wrM 2 (zu M 1 19 1) → q N31) ∧ ((isW 1685217655 (zu M 1 19 1)) → ∃ q32 : zM → Prop, zKv g (z2 o) mX10_simple [zA g 1, zI 7, zI 8, zI 0, zI 9999] (zu M 1 19 1) q32 ∧ ∀ M34 : zM, q32 M34 → q M34)) ∧ ((isW 495874302827 (zu M 1 19 1)) → ∃ q37 : zM → Prop, zKv g (z2 o) mX10_stickLine [zA g 1] (zu M 1 19 1) q37 ∧ ∀ M39 : zM, q37 M39 → q M39)) ∧ ((isW 495740481637 (zu M 1 19 1)) → ∃ q42 : zM → Prop, zKv g (z2 o) mX10_simple [zA g 1, zI 5, zI 5, zI 1, zI 9] (zu M 1 19 1) q42 ∧ ∀ M44 : zM, q42 M44 → q M44)) ∧ ((isW 126892147765111 (zu M 1 19 1)) → ∃ q47 : zM → Prop, zKv g (z2 o) mX10_simple [zA g 1, zI 4, zI 4, zI 1, zI 9] (zu M 1 19 1) q47 ∧ ∀ M49 : zM, q47 M49 → q M49)) ∧ ((isW 6844272 (zu M 1 19 1)) → ∃ q52 : zM → Prop, zKv g (z2 o) mX10_simple [zA g 1, zI 3, zI 3, zI 1, zI 6] (zu M 1 19 1) q52 ∧ ∀ M54 : zM, q52 M54 → q M54)) ∧ ((isW 2003398244 (zu M 1 19 1)) → ∃ q57 : zM → Prop, zKv g (z2 o) mX10_windLine [zA g 1] (zu M 1 19 1) q57 ∧ ∀ M59 : zM, q57 M59 → q M59)) ∧ ((isW 444300620659 (zu M 1 19 1)) → ∃ q62 : zM → Prop, zKv g (z2 o) mX10_grassLine [zA g 1] (zu M 1 19 1) q62 ∧ ∀ M64 : zM, q62 M64 → q M64)) ∧ ((isW 1751474544 (zu M 1 19 1)) → ∃ q67 : zM → Prop, zKv g (z2 o) mX10_heapLine [zA g 1] (zu M 1 19 1) q67 ∧ ∀ M69 : zM, q67 M69 → q M69)) ∧ ((isW 1935765092 (zu M 1 19 1)) → ∃ q72 : zM → Prop, zKv g (z2 o) mX10_simple [zA g 1, zI 1, zI 2, zI 0, zI 9] (zu M 1 19 1) q72 ∧ ∀ M74 : zM, q72 M74 → q M74)) : zT g (z2 o) mX10_otherLine (zQv (z2 o) q) 0 [(0, zA g 1)] [] M := by
  refine zr_aload_n 0 dX10_otherLine_0 rfl ?_
  refine zr_iconst dX10_otherLine_1 ?_
  refine zt_putz 19 rfl dX10_otherLine_2 fX10_157 lcX10 ltX10_19 rfl (by decide) rfl ?_
  refine zr_aload_n 0 dX10_otherLine_5 rfl ?_
  refine zr_ldc2 (x := 1935765092) dX10_otherLine_6 (zc6 110 (by decide +kernel) rfl) ?_
  obtain ⟨c1, W⟩ := W
  refine zt_callVi (As := [zL 1935765092]) (rest := []) dX10_otherLine_9 kX10_otherLine_172 rfl rfl rfl rfl (Nat.le_of_ble_eq_true rfl) (c_isWord c1 (by decide)) (fun r2 N4 h3 => ?_)
  rw [h3.1, h3.2]
  refine zt_ifeq_b (tgt := 27) dX10_otherLine_12 (by decide) (fun h => ?_) (fun h => ?_)
  · have W := W.1 h
    refine zr_aload_n 0 dX10_otherLine_27 rfl ?_
    refine zr_ldc2 (x := 1751474544) dX10_otherLine_28 (zc6 115 (by decide +kernel) rfl) ?_
    refine zt_callVi (As := [zL 1751474544]) (rest := []) dX10_otherLine_31 kX10_otherLine_172 rfl rfl rfl rfl (Nat.le_of_ble_eq_true rfl) (c_isWord c1 (by decide)) (fun r5 N7 h6 => ?_)
    rw [h6.1, h6.2]
    refine zt_ifeq_b (tgt := 44) dX10_otherLine_34 (by decide) (fun h => ?_) (fun h => ?_)
    · have W := W.1 h
      refine zr_aload_n 0 dX10_otherLine_44 rfl ?_
      refine zr_ldc2 (x := 444300620659) dX10_otherLine_45 (zc6 120 (by decide +kernel) rfl) ?_
      refine zt_callVi (As := [zL 444300620659]) (rest := []) dX10_otherLine_48 kX10_otherLine_172 rfl rfl rfl rfl (Nat.le_of_ble_eq_true rfl) (c_isWord c1 (by decide)) (fun r8 N10 h9 => ?_)
      rw [h9.1, h9.2]
      refine zt_ifeq_b (tgt := 61) dX10_otherLine_51 (by decide) (fun h => ?_) (fun h => ?_)
      · have W := W.1 h
        refine zr_aload_n 0 dX10_otherLine_61 rfl ?_
        refine zr_ldc2 (x := 2003398244) dX10_otherLine_62 (zc6 125 (by decide +kernel) rfl) ?_
        refine zt_callVi (As := [zL 2003398244]) (rest := []) dX10_otherLine_65 kX10_otherLine_172 rfl rfl rfl rfl (Nat.le_of_ble_eq_true rfl) (c_isWord c1 (by decide)) (fun r11 N13 h12 => ?_)
        rw [h12.1, h12.2]
        refine zt_ifeq_b (tgt := 78) dX10_otherLine_68 (by decide) (fun h => ?_) (fun h => ?_)
        · have W := W.1 h
          refine zr_aload_n 0 dX10_otherLine_78 rfl ?_
          refine zr_ldc2 (x := 6844272) dX10_otherLine_79 (zc6 138 (by decide +kernel) rfl) ?_
          refine zt_callVi (As := [zL 6844272]) (rest := []) dX10_otherLine_82 kX10_otherLine_172 rfl rfl rfl rfl (Nat.le_of_ble_eq_true rfl) (c_isWord c1 (by decide)) (fun r14 N16 h15 => ?_)
          rw [h15.1, h15.2]
          refine zt_ifeq_b (tgt := 100) dX10_otherLine_85 (by decide) (fun h => ?_) (fun h => ?_)
          · have W := W.1 h
            refine zr_aload_n 0 dX10_otherLine_100 rfl ?_
            refine zr_ldc2 (x := 126892147765111) dX10_otherLine_101 (zc6 139 (by decide +kernel) rfl) ?_
            refine zt_callVi (As := [zL 126892147765111]) (rest := []) dX10_otherLine_104 kX10_otherLine_172 rfl rfl rfl rfl (Nat.le_of_ble_eq_true rfl) (c_isWord c1 (by decide)) (fun r17 N19 h18 => ?_)
            rw [h18.1, h18.2]
            refine zt_ifeq_b (tgt := 122) dX10_otherLine_107 (by decide) (fun h => ?_) (fun h => ?_)
            · have W := W.1 h
              refine zr_aload_n 0 dX10_otherLine_122 rfl ?_
              refine zr_ldc2 (x := 495740481637) dX10_otherLine_123 (zc6 140 (by decide +kernel) rfl) ?_
              refine zt_callVi (As := [zL 495740481637]) (rest := []) dX10_otherLine_126 kX10_otherLine_172 rfl rfl rfl rfl (Nat.le_of_ble_eq_true rfl) (c_isWord c1 (by decide)) (fun r20 N22 h21 => ?_)
              rw [h21.1, h21.2]
              refine zt_ifeq_b (tgt := 144) dX10_otherLine_129 (by decide) (fun h => ?_) (fun h => ?_)
              · have W := W.1 h
                refine zr_aload_n 0 dX10_otherLine_144 rfl ?_
                refine zr_ldc2 (x := 495874302827) dX10_otherLine_145 (zc6 141 (by decide +kernel) rfl) ?_
                refine zt_callVi (As := [zL 495874302827]) (rest := []) dX10_otherLine_148 kX10_otherLine_172 rfl rfl rfl rfl (Nat.le_of_ble_eq_true rfl) (c_isWord c1 (by decide)) (fun r23 N25 h24 => ?_)
                rw [h24.1, h24.2]
                refine zt_ifeq_b (tgt := 161) dX10_otherLine_151 (by decide) (fun h => ?_) (fun h => ?_)
                · have W := W.1 h
                  refine zr_aload_n 0 dX10_otherLine_161 rfl ?_
                  refine zr_ldc2 (x := 1685217655) dX10_otherLine_162 (zc6 146 (by decide +kernel) rfl) ?_
                  refine zt_callVi (As := [zL 1685217655]) (rest := []) dX10_otherLine_165 kX10_otherLine_172 rfl rfl rfl rfl (Nat.le_of_ble_eq_true rfl) (c_isWord c1 (by decide)) (fun r26 N28 h27 => ?_)
                  rw [h27.1, h27.2]
                  refine zt_ifeq_b (tgt := 186) dX10_otherLine_168 (by decide) (fun h => ?_) (fun h => ?_)
                  · have W := W.1 h
                    refine zr_aload_n 0 dX10_otherLine_186 rfl ?_
                    refine zr_iconst dX10_otherLine_187 ?_
                    refine zt_callVv (As := [zI 2]) (rest := []) dX10_otherLine_188 kX10_otherLine_143 rfl rfl rfl rfl (Nat.le_of_ble_eq_true rfl) (c_wrong c1) (fun N31 h30 => ?_)
                    have W := W N31 h30
                    exact zt_ret dX10_otherLine_191 rfl W
                  · have W := W.2 h
                    refine zr_aload_n 0 dX10_otherLine_171 rfl ?_
                    refine zr_bipush dX10_otherLine_172 (by decide) ?_
                    refine zr_bipush dX10_otherLine_174 (by decide) ?_
                    refine zr_iconst dX10_otherLine_176 ?_
                    refine zr_sipush dX10_otherLine_177 (by decide) ?_
                    obtain ⟨q32, k36, W⟩ := W
                    refine zt_callVv (As := [zI 7, zI 8, zI 0, zI 9999]) (rest := []) dX10_otherLine_180 kX10_otherLine_190 rfl rfl rfl rfl (Nat.le_of_ble_eq_true rfl) k36 (fun M34 h35 => ?_)
                    have W := W M34 h35
                    refine zr_goto (tgt := 191) dX10_otherLine_183 (by decide) ?_
                    exact zt_ret dX10_otherLine_191 rfl W
                · have W := W.2 h
                  refine zr_aload_n 0 dX10_otherLine_154 rfl ?_
                  obtain ⟨q37, k41, W⟩ := W
                  refine zt_callVv (As := []) (rest := []) dX10_otherLine_155 kX10_otherLine_217 rfl rfl rfl rfl (Nat.le_of_ble_eq_true rfl) k41 (fun M39 h40 => ?_)
                  have W := W M39 h40
                  refine zr_goto (tgt := 191) dX10_otherLine_158 (by decide) ?_
                  exact zt_ret dX10_otherLine_191 rfl W
              · have W := W.2 h
                refine zr_aload_n 0 dX10_otherLine_132 rfl ?_
                refine zr_iconst dX10_otherLine_133 ?_
                refine zr_iconst dX10_otherLine_134 ?_
                refine zr_iconst dX10_otherLine_135 ?_
                refine zr_bipush dX10_otherLine_136 (by decide) ?_
                obtain ⟨q42, k46, W⟩ := W
                refine zt_callVv (As := [zI 5, zI 5, zI 1, zI 9]) (rest := []) dX10_otherLine_138 kX10_otherLine_190 rfl rfl rfl rfl (Nat.le_of_ble_eq_true rfl) k46 (fun M44 h45 => ?_)
                have W := W M44 h45
                refine zr_goto (tgt := 191) dX10_otherLine_141 (by decide) ?_
                exact zt_ret dX10_otherLine_191 rfl W
            · have W := W.2 h
              refine zr_aload_n 0 dX10_otherLine_110 rfl ?_
              refine zr_iconst dX10_otherLine_111 ?_
              refine zr_iconst dX10_otherLine_112 ?_
              refine zr_iconst dX10_otherLine_113 ?_
              refine zr_bipush dX10_otherLine_114 (by decide) ?_
              obtain ⟨q47, k51, W⟩ := W
              refine zt_callVv (As := [zI 4, zI 4, zI 1, zI 9]) (rest := []) dX10_otherLine_116 kX10_otherLine_190 rfl rfl rfl rfl (Nat.le_of_ble_eq_true rfl) k51 (fun M49 h50 => ?_)
              have W := W M49 h50
              refine zr_goto (tgt := 191) dX10_otherLine_119 (by decide) ?_
              exact zt_ret dX10_otherLine_191 rfl W
          · have W := W.2 h
            refine zr_aload_n 0 dX10_otherLine_88 rfl ?_
            refine zr_iconst dX10_otherLine_89 ?_
            refine zr_iconst dX10_otherLine_90 ?_
            refine zr_iconst dX10_otherLine_91 ?_
            refine zr_bipush dX10_otherLine_92 (by decide) ?_
            obtain ⟨q52, k56, W⟩ := W
            refine zt_callVv (As := [zI 3, zI 3, zI 1, zI 6]) (rest := []) dX10_otherLine_94 kX10_otherLine_190 rfl rfl rfl rfl (Nat.le_of_ble_eq_true rfl) k56 (fun M54 h55 => ?_)
            have W := W M54 h55
            refine zr_goto (tgt := 191) dX10_otherLine_97 (by decide) ?_
            exact zt_ret dX10_otherLine_191 rfl W
        · have W := W.2 h
          refine zr_aload_n 0 dX10_otherLine_71 rfl ?_
          obtain ⟨q57, k61, W⟩ := W
          refine zt_callVv (As := []) (rest := []) dX10_otherLine_72 kX10_otherLine_206 rfl rfl rfl rfl (Nat.le_of_ble_eq_true rfl) k61 (fun M59 h60 => ?_)
          have W := W M59 h60
          refine zr_goto (tgt := 191) dX10_otherLine_75 (by decide) ?_
          exact zt_ret dX10_otherLine_191 rfl W
      · have W := W.2 h
        refine zr_aload_n 0 dX10_otherLine_54 rfl ?_
        obtain ⟨q62, k66, W⟩ := W
        refine zt_callVv (As := []) (rest := []) dX10_otherLine_55 kX10_otherLine_201 rfl rfl rfl rfl (Nat.le_of_ble_eq_true rfl) k66 (fun M64 h65 => ?_)
        have W := W M64 h65
        refine zr_goto (tgt := 191) dX10_otherLine_58 (by decide) ?_
        exact zt_ret dX10_otherLine_191 rfl W
    · have W := W.2 h
      refine zr_aload_n 0 dX10_otherLine_37 rfl ?_
      obtain ⟨q67, k71, W⟩ := W
      refine zt_callVv (As := []) (rest := []) dX10_otherLine_38 kX10_otherLine_196 rfl rfl rfl rfl (Nat.le_of_ble_eq_true rfl) k71 (fun M69 h70 => ?_)
      have W := W M69 h70
      refine zr_goto (tgt := 191) dX10_otherLine_41 (by decide) ?_
      exact zt_ret dX10_otherLine_191 rfl W
  · have W := W.2 h
    refine zr_aload_n 0 dX10_otherLine_15 rfl ?_
    refine zr_iconst dX10_otherLine_16 ?_
    refine zr_iconst dX10_otherLine_17 ?_
    refine zr_iconst dX10_otherLine_18 ?_
    refine zr_bipush dX10_otherLine_19 (by decide) ?_
    obtain ⟨q72, k76, W⟩ := W
    refine zt_callVv (As := [zI 1, zI 2, zI 0, zI 9]) (rest := []) dX10_otherLine_21 kX10_otherLine_190 rfl rfl rfl rfl (Nat.le_of_ble_eq_true rfl) k76 (fun M74 h75 => ?_)
    have W := W M74 h75
    refine zr_goto (tgt := 191) dX10_otherLine_24 (by decide) ?_
    exact zt_ret dX10_otherLine_191 rfl W
theorem dX10_field_0 : decode cX10_field 0 = .ok (.aload_n 0, 1) := by decide +kernel
theorem dX10_field_1 : decode cX10_field 1 = .ok (.aload_n 0, 1) := by decide +kernel
theorem dX10_field_2 : decode cX10_field 2 = .ok (.getfield 99, 3) := by decide +kernel
theorem dX10_field_5 : decode cX10_field 5 = .ok (.putfield 113, 3) := by decide +kernel
theorem dX10_field_8 : decode cX10_field 8 = .ok (.aload_n 0, 1) := by decide +kernel
theorem dX10_field_9 : decode cX10_field 9 = .ok (.iconst 0, 1) := by decide +kernel
theorem dX10_field_10 : decode cX10_field 10 = .ok (.putfield 99, 3) := by decide +kernel
theorem dX10_field_13 : decode cX10_field 13 = .ok (.aload_n 0, 1) := by decide +kernel
theorem dX10_field_14 : decode cX10_field 14 = .ok (.iconst 0, 1) := by decide +kernel
theorem dX10_field_15 : decode cX10_field 15 = .ok (.putfield 110, 3) := by decide +kernel
theorem dX10_field_18 : decode cX10_field 18 = .ok (.aload_n 0, 1) := by decide +kernel
theorem dX10_field_19 : decode cX10_field 19 = .ok (.iconst 0, 1) := by decide +kernel
theorem dX10_field_20 : decode cX10_field 20 = .ok (.putfield 140, 3) := by decide +kernel
theorem dX10_field_23 : decode cX10_field 23 = .ok (.aload_n 0, 1) := by decide +kernel
theorem dX10_field_24 : decode cX10_field 24 = .ok (.iconst (-1), 1) := by decide +kernel
theorem dX10_field_25 : decode cX10_field 25 = .ok (.putfield 13, 3) := by decide +kernel
theorem dX10_field_28 : decode cX10_field 28 = .ok (.aload_n 0, 1) := by decide +kernel
theorem dX10_field_29 : decode cX10_field 29 = .ok (.invokevirtual 93, 3) := by decide +kernel
theorem dX10_field_32 : decode cX10_field 32 = .ok (.aload_n 0, 1) := by decide +kernel
theorem dX10_field_33 : decode cX10_field 33 = .ok (.invokevirtual 154, 3) := by decide +kernel
theorem dX10_field_36 : decode cX10_field 36 = .ok (.aload_n 0, 1) := by decide +kernel
theorem dX10_field_37 : decode cX10_field 37 = .ok (.invokevirtual 150, 3) := by decide +kernel
theorem dX10_field_40 : decode cX10_field 40 = .ok (.ifCond .eq 65, 3) := by decide +kernel
theorem dX10_field_43 : decode cX10_field 43 = .ok (.aload_n 0, 1) := by decide +kernel
theorem dX10_field_44 : decode cX10_field 44 = .ok (.getfield 130, 3) := by decide +kernel
theorem dX10_field_47 : decode cX10_field 47 = .ok (.ifCond .eq 58, 3) := by decide +kernel
theorem dX10_field_50 : decode cX10_field 50 = .ok (.aload_n 0, 1) := by decide +kernel
theorem dX10_field_51 : decode cX10_field 51 = .ok (.ldc2_w 244, 3) := by decide +kernel
theorem dX10_field_54 : decode cX10_field 54 = .ok (.invokevirtual 172, 3) := by decide +kernel
theorem dX10_field_57 : decode cX10_field 57 = .ok (.ifCond .eq 10, 3) := by decide +kernel
theorem dX10_field_60 : decode cX10_field 60 = .ok (.aload_n 0, 1) := by decide +kernel
theorem dX10_field_61 : decode cX10_field 61 = .ok (.invokevirtual 246, 3) := by decide +kernel
theorem dX10_field_64 : decode cX10_field 64 = .ok (.goto 7, 3) := by decide +kernel
theorem dX10_field_67 : decode cX10_field 67 = .ok (.aload_n 0, 1) := by decide +kernel
theorem dX10_field_68 : decode cX10_field 68 = .ok (.invokevirtual 249, 3) := by decide +kernel
theorem dX10_field_71 : decode cX10_field 71 = .ok (.aload_n 0, 1) := by decide +kernel
theorem dX10_field_72 : decode cX10_field 72 = .ok (.invokevirtual 150, 3) := by decide +kernel
theorem dX10_field_75 : decode cX10_field 75 = .ok (.ifCond .eq 16, 3) := by decide +kernel
theorem dX10_field_78 : decode cX10_field 78 = .ok (.aload_n 0, 1) := by decide +kernel
theorem dX10_field_79 : decode cX10_field 79 = .ok (.getfield 130, 3) := by decide +kernel
theorem dX10_field_82 : decode cX10_field 82 = .ok (.iconst 3, 1) := by decide +kernel
theorem dX10_field_83 : decode cX10_field 83 = .ok (.if_icmp .eq 8, 3) := by decide +kernel
theorem dX10_field_86 : decode cX10_field 86 = .ok (.aload_n 0, 1) := by decide +kernel
theorem dX10_field_87 : decode cX10_field 87 = .ok (.iconst 2, 1) := by decide +kernel
theorem dX10_field_88 : decode cX10_field 88 = .ok (.invokevirtual 143, 3) := by decide +kernel
theorem dX10_field_91 : decode cX10_field 91 = .ok (.aload_n 0, 1) := by decide +kernel
theorem dX10_field_92 : decode cX10_field 92 = .ok (.invokevirtual 150, 3) := by decide +kernel
theorem dX10_field_95 : decode cX10_field 95 = .ok (.ifCond .eq (-59), 3) := by decide +kernel
theorem dX10_field_98 : decode cX10_field 98 = .ok (.aload_n 0, 1) := by decide +kernel
theorem dX10_field_99 : decode cX10_field 99 = .ok (.invokevirtual 154, 3) := by decide +kernel
theorem dX10_field_102 : decode cX10_field 102 = .ok (.goto (-66), 3) := by decide +kernel
theorem dX10_field_105 : decode cX10_field 105 = .ok (.aload_n 0, 1) := by decide +kernel
theorem dX10_field_106 : decode cX10_field 106 = .ok (.aload_n 0, 1) := by decide +kernel
theorem dX10_field_107 : decode cX10_field 107 = .ok (.getfield 140, 3) := by decide +kernel
theorem dX10_field_110 : decode cX10_field 110 = .ok (.putfield 252, 3) := by decide +kernel
theorem dX10_field_113 : decode cX10_field 113 = .ok (.aload_n 0, 1) := by decide +kernel
theorem dX10_field_114 : decode cX10_field 114 = .ok (.aload_n 0, 1) := by decide +kernel
theorem dX10_field_115 : decode cX10_field 115 = .ok (.getfield 13, 3) := by decide +kernel
theorem dX10_field_118 : decode cX10_field 118 = .ok (.putfield 17, 3) := by decide +kernel
theorem dX10_field_121 : decode cX10_field 121 = .ok (.aload_n 0, 1) := by decide +kernel
theorem dX10_field_122 : decode cX10_field 122 = .ok (.getfield 140, 3) := by decide +kernel
theorem dX10_field_125 : decode cX10_field 125 = .ok (.ifCond .le 5, 3) := by decide +kernel
theorem dX10_field_128 : decode cX10_field 128 = .ok (.iconst (-1), 1) := by decide +kernel
theorem dX10_field_129 : decode cX10_field 129 = .ok (.ireturn, 1) := by decide +kernel
theorem dX10_field_130 : decode cX10_field 130 = .ok (.aload_n 0, 1) := by decide +kernel
theorem dX10_field_131 : decode cX10_field 131 = .ok (.invokevirtual 96, 3) := by decide +kernel
theorem dX10_field_134 : decode cX10_field 134 = .ok (.aload_n 0, 1) := by decide +kernel
theorem dX10_field_135 : decode cX10_field 135 = .ok (.invokevirtual 226, 3) := by decide +kernel
theorem dX10_field_138 : decode cX10_field 138 = .ok (.ireturn, 1) := by decide +kernel
set_option maxRecDepth 100000 in
theorem SX10_field_0 {g : zG} {o : Bool} {M : zM} {q : Int → zM → Prop} (W : ∀ N1 : zM, N1 = zu M 1 2 (M 1 1) → ∀ N3 : zM, N3 = zu N1 1 1 0 → ∀ N5 : zM, N5 = zu N3 1 3 0 → ∀ N7 : zM, N7 = zu N5 1 7 0 → ∃ q9 : zM → Prop, zKv g (z2 o) mX10_begins [zA g 1] (zu N7 1 8 (-1)) q9 ∧ ∀ M11 : zM, q9 M11 → ∃ q14 : zM → Prop, zKv g (z2 o) mX10_goOn [zA g 1] M11 q14 ∧ ∀ M16 : zM, q14 M16 → zT g (z2 o) mX10_field (zQi (z2 o) q) 36 [(0, zA g 1)] [] M16) : zT g (z2 o) mX10_field (zQi (z2 o) q) 0 [(0, zA g 1)] [] M := by
  refine zr_aload_n 0 dX10_field_0 rfl ?_
  refine zr_aload_n 0 dX10_field_1 rfl ?_
  refine zt_geti 1 rfl dX10_field_2 fX10_99 rfl (by decide) ?_
  refine zt_puti 2 rfl dX10_field_5 fX10_113 lcX10 ltX10_2 rfl rfl ?_
  refine zr_aload_n 0 dX10_field_8 rfl ?_
  refine zr_iconst dX10_field_9 ?_
  obtain ⟨N1, e2⟩ : ∃ N : zM, N = zu M 1 2 (M 1 1) := ⟨_, rfl⟩
  rw [← e2]
  have W := W N1 e2
  refine zt_puti 1 rfl dX10_field_10 fX10_99 lcX10 ltX10_1 rfl rfl ?_
  refine zr_aload_n 0 dX10_field_13 rfl ?_
  refine zr_iconst dX10_field_14 ?_
  obtain ⟨N3, e4⟩ : ∃ N : zM, N = zu N1 1 1 0 := ⟨_, rfl⟩
  rw [← e4]
  have W := W N3 e4
  refine zt_puti 3 rfl dX10_field_15 fX10_110 lcX10 ltX10_3 rfl rfl ?_
  refine zr_aload_n 0 dX10_field_18 rfl ?_
  refine zr_iconst dX10_field_19 ?_
  obtain ⟨N5, e6⟩ : ∃ N : zM, N = zu N3 1 3 0 := ⟨_, rfl⟩
  rw [← e6]
  have W := W N5 e6
  refine zt_puti 7 rfl dX10_field_20 fX10_140 lcX10 ltX10_7 rfl rfl ?_
  refine zr_aload_n 0 dX10_field_23 rfl ?_
  refine zr_iconst dX10_field_24 ?_
  obtain ⟨N7, e8⟩ : ∃ N : zM, N = zu N5 1 7 0 := ⟨_, rfl⟩
  rw [← e8]
  have W := W N7 e8
  refine zt_puti 8 rfl dX10_field_25 fX10_13 lcX10 ltX10_8 rfl rfl ?_
  refine zr_aload_n 0 dX10_field_28 rfl ?_
  obtain ⟨q9, k13, W⟩ := W
  refine zt_callVv (As := []) (rest := []) dX10_field_29 kX10_field_93 rfl rfl rfl rfl (Nat.le_of_ble_eq_true rfl) k13 (fun M11 h12 => ?_)
  have W := W M11 h12
  refine zr_aload_n 0 dX10_field_32 rfl ?_
  obtain ⟨q14, k18, W⟩ := W
  refine zt_callVv (As := []) (rest := []) dX10_field_33 kX10_field_154 rfl rfl rfl rfl (Nat.le_of_ble_eq_true rfl) k18 (fun M16 h17 => ?_)
  have W := W M16 h17
  exact W
set_option maxRecDepth 100000 in
theorem SX10_field_36 {g : zG} {o : Bool} {C R : Int} {M : zM} {q : Int → zM → Prop} (W : (fOk M) ∧ ((¬ (M 1 7 = 0)) → ∀ N5 : zM, N5 = zu M 1 9 (M 1 7) → (-2147483648 ≤ ((zu N5 1 10 (N5 1 8)) 1 7) ∧ ((zu N5 1 10 (N5 1 8)) 1 7) ≤ 2147483647) ∧ ((((zu N5 1 10 (N5 1 8)) 1 7) ≤ 0) → ∃ q8 : zM → Prop, zKv g (z2 o) mX10_takesOver [zA g 1] (zu N5 1 10 (N5 1 8)) q8 ∧ ∀ M10 : zM, q8 M10 → (zRf M10 C R) ∧ q (C * R) M10) ∧ ((¬ (((zu N5 1 10 (N5 1 8)) 1 7) ≤ 0)) → q (-1) (zu N5 1 10 (N5 1 8)))) ∧ ((M 1 7 = 0) → (-2147483648 ≤ (M 1 5) ∧ (M 1 5) ≤ 2147483647) ∧ (((M 1 5) = 0) → ∀ N18 : zM, N18 = zu M 1 9 (M 1 7) → (-2147483648 ≤ ((zu N18 1 10 (N18 1 8)) 1 7) ∧ ((zu N18 1 10 (N18 1 8)) 1 7) ≤ 2147483647) ∧ ((((zu N18 1 10 (N18 1 8)) 1 7) ≤ 0) → ∃ q21 : zM → Prop, zKv g (z2 o) mX10_takesOver [zA g 1] (zu N18 1 10 (N18 1 8)) q21 ∧ ∀ M23 : zM, q21 M23 → (zRf M23 C R) ∧ q (C * R) M23) ∧ ((¬ (((zu N18 1 10 (N18 1 8)) 1 7) ≤ 0)) → q (-1) (zu N18 1 10 (N18 1 8)))) ∧ ((¬ ((M 1 5) = 0)) → ((¬ (isW 1936292453 M)) → ∃ q33 : zM → Prop, zKv g (z2 o) mX10_otherLine [zA g 1] M q33 ∧ ∀ M35 : zM, q33 M35 → zT g (z2 o) mX10_field (zQi (z2 o) q) 71 [(0, zA g 1)] [] M35) ∧ ((isW 1936292453 M) → ∃ q38 : zM → Prop, zKv g (z2 o) mX10_sizeLine [zA g 1] M q38 ∧ ∀ M40 : zM, q38 M40 → zT g (z2 o) mX10_field (zQi (z2 o) q) 71 [(0, zA g 1)] [] M40)))) : zT g (z2 o) mX10_field (zQi (z2 o) q) 36 [(0, zA g 1)] [] M := by
  refine zr_aload_n 0 dX10_field_36 rfl ?_
  obtain ⟨c1, W⟩ := W
  refine zt_callVi (As := []) (rest := []) dX10_field_37 kX10_field_150 rfl rfl rfl rfl (Nat.le_of_ble_eq_true rfl) (c_isGood c1) (fun r2 N4 h3 => ?_)
  rw [h3.1, h3.2]
  refine zt_ifeq_b (tgt := 105) dX10_field_40 (by decide) (fun h => ?_) (fun h => ?_)
  · have W := W.1 h
    refine zr_aload_n 0 dX10_field_105 rfl ?_
    refine zr_aload_n 0 dX10_field_106 rfl ?_
    refine zt_geti 7 rfl dX10_field_107 fX10_140 rfl (by decide) ?_
    refine zt_puti 9 rfl dX10_field_110 fX10_252 lcX10 ltX10_9 rfl rfl ?_
    refine zr_aload_n 0 dX10_field_113 rfl ?_
    refine zr_aload_n 0 dX10_field_114 rfl ?_
    refine zt_geti 8 rfl dX10_field_115 fX10_13 rfl (by decide) ?_
    obtain ⟨N5, e6⟩ : ∃ N : zM, N = zu M 1 9 (M 1 7) := ⟨_, rfl⟩
    rw [← e6]
    have W := W N5 e6
    refine zt_puti 10 rfl dX10_field_118 fX10_17 lcX10 ltX10_10 rfl rfl ?_
    refine zr_aload_n 0 dX10_field_121 rfl ?_
    refine zt_geti 7 rfl dX10_field_122 fX10_140 rfl (by decide) ?_
    obtain ⟨c7, W⟩ := W
    refine zr_if_le (tgt := 130) dX10_field_125 (by decide) c7 (fun h => ?_) (fun h => ?_)
    · have W := W.1 h
      refine zr_aload_n 0 dX10_field_130 rfl ?_
      obtain ⟨q8, k12, W⟩ := W
      refine zt_callVv (As := []) (rest := []) dX10_field_131 kX10_field_96 rfl rfl rfl rfl (Nat.le_of_ble_eq_true rfl) k12 (fun M10 h11 => ?_)
      have W := W M10 h11
      refine zr_aload_n 0 dX10_field_134 rfl ?_
      obtain ⟨c13, W⟩ := W
      refine zt_callVi (As := []) (rest := []) dX10_field_135 kX10_field_226 rfl rfl rfl rfl (Nat.le_of_ble_eq_true rfl) (c_cells c13) (fun r14 N16 h15 => ?_)
      rw [h15.1, h15.2]
      exact zt_iret dX10_field_138 rfl W
    · have W := W.2 h
      refine zr_iconst dX10_field_128 ?_
      exact zt_iret dX10_field_129 rfl W
  · have W := W.2 h
    refine zr_aload_n 0 dX10_field_43 rfl ?_
    refine zt_geti 5 rfl dX10_field_44 fX10_130 rfl (by decide) ?_
    obtain ⟨c17, W⟩ := W
    refine zr_if_eq (tgt := 105) dX10_field_47 (by decide) c17 (fun h => ?_) (fun h => ?_)
    · have W := W.1 h
      refine zr_aload_n 0 dX10_field_105 rfl ?_
      refine zr_aload_n 0 dX10_field_106 rfl ?_
      refine zt_geti 7 rfl dX10_field_107 fX10_140 rfl (by decide) ?_
      refine zt_puti 9 rfl dX10_field_110 fX10_252 lcX10 ltX10_9 rfl rfl ?_
      refine zr_aload_n 0 dX10_field_113 rfl ?_
      refine zr_aload_n 0 dX10_field_114 rfl ?_
      refine zt_geti 8 rfl dX10_field_115 fX10_13 rfl (by decide) ?_
      obtain ⟨N18, e19⟩ : ∃ N : zM, N = zu M 1 9 (M 1 7) := ⟨_, rfl⟩
      rw [← e19]
      have W := W N18 e19
      refine zt_puti 10 rfl dX10_field_118 fX10_17 lcX10 ltX10_10 rfl rfl ?_
      refine zr_aload_n 0 dX10_field_121 rfl ?_
      refine zt_geti 7 rfl dX10_field_122 fX10_140 rfl (by decide) ?_
      obtain ⟨c20, W⟩ := W
      refine zr_if_le (tgt := 130) dX10_field_125 (by decide) c20 (fun h => ?_) (fun h => ?_)
      · have W := W.1 h
        refine zr_aload_n 0 dX10_field_130 rfl ?_
        obtain ⟨q21, k25, W⟩ := W
        refine zt_callVv (As := []) (rest := []) dX10_field_131 kX10_field_96 rfl rfl rfl rfl (Nat.le_of_ble_eq_true rfl) k25 (fun M23 h24 => ?_)
        have W := W M23 h24
        refine zr_aload_n 0 dX10_field_134 rfl ?_
        obtain ⟨c26, W⟩ := W
        refine zt_callVi (As := []) (rest := []) dX10_field_135 kX10_field_226 rfl rfl rfl rfl (Nat.le_of_ble_eq_true rfl) (c_cells c26) (fun r27 N29 h28 => ?_)
        rw [h28.1, h28.2]
        exact zt_iret dX10_field_138 rfl W
      · have W := W.2 h
        refine zr_iconst dX10_field_128 ?_
        exact zt_iret dX10_field_129 rfl W
    · have W := W.2 h
      refine zr_aload_n 0 dX10_field_50 rfl ?_
      refine zr_ldc2 (x := 1936292453) dX10_field_51 (zc6 80 (by decide +kernel) rfl) ?_
      refine zt_callVi (As := [zL 1936292453]) (rest := []) dX10_field_54 kX10_field_172 rfl rfl rfl rfl (Nat.le_of_ble_eq_true rfl) (c_isWord c1 (by decide)) (fun r30 N32 h31 => ?_)
      rw [h31.1, h31.2]
      refine zt_ifeq_b (tgt := 67) dX10_field_57 (by decide) (fun h => ?_) (fun h => ?_)
      · have W := W.1 h
        refine zr_aload_n 0 dX10_field_67 rfl ?_
        obtain ⟨q33, k37, W⟩ := W
        refine zt_callVv (As := []) (rest := []) dX10_field_68 kX10_field_249 rfl rfl rfl rfl (Nat.le_of_ble_eq_true rfl) k37 (fun M35 h36 => ?_)
        have W := W M35 h36
        exact W
      · have W := W.2 h
        refine zr_aload_n 0 dX10_field_60 rfl ?_
        obtain ⟨q38, k42, W⟩ := W
        refine zt_callVv (As := []) (rest := []) dX10_field_61 kX10_field_246 rfl rfl rfl rfl (Nat.le_of_ble_eq_true rfl) k42 (fun M40 h41 => ?_)
        have W := W M40 h41
        refine zr_goto (tgt := 71) dX10_field_64 (by decide) ?_
        exact W
set_option maxRecDepth 100000 in
theorem SX10_field_71 {g : zG} {o : Bool} {M : zM} {q : Int → zM → Prop} (W : (fOk M) ∧ ((¬ (M 1 7 = 0)) → ((¬ (M 1 7 = 0)) → zT g (z2 o) mX10_field (zQi (z2 o) q) 36 [(0, zA g 1)] [] M) ∧ ((M 1 7 = 0) → ∃ q8 : zM → Prop, zKv g (z2 o) mX10_goOn [zA g 1] M q8 ∧ ∀ M10 : zM, q8 M10 → zT g (z2 o) mX10_field (zQi (z2 o) q) 36 [(0, zA g 1)] [] M10)) ∧ ((M 1 7 = 0) → (-2147483648 ≤ (M 1 5) ∧ (M 1 5) ≤ 2147483647) ∧ (((M 1 5) = 3) → ((¬ (M 1 7 = 0)) → zT g (z2 o) mX10_field (zQi (z2 o) q) 36 [(0, zA g 1)] [] M) ∧ ((M 1 7 = 0) → ∃ q17 : zM → Prop, zKv g (z2 o) mX10_goOn [zA g 1] M q17 ∧ ∀ M19 : zM, q17 M19 → zT g (z2 o) mX10_field (zQi (z2 o) q) 36 [(0, zA g 1)] [] M19)) ∧ ((¬ ((M 1 5) = 3)) → ∀ N24 : zM, N24 = wrM 2 M → (fOk N24) ∧ ((¬ (N24 1 7 = 0)) → zT g (z2 o) mX10_field (zQi (z2 o) q) 36 [(0, zA g 1)] [] N24) ∧ ((N24 1 7 = 0) → ∃ q29 : zM → Prop, zKv g (z2 o) mX10_goOn [zA g 1] N24 q29 ∧ ∀ M31 : zM, q29 M31 → zT g (z2 o) mX10_field (zQi (z2 o) q) 36 [(0, zA g 1)] [] M31)))) : zT g (z2 o) mX10_field (zQi (z2 o) q) 71 [(0, zA g 1)] [] M := by
  refine zr_aload_n 0 dX10_field_71 rfl ?_
  obtain ⟨c1, W⟩ := W
  refine zt_callVi (As := []) (rest := []) dX10_field_72 kX10_field_150 rfl rfl rfl rfl (Nat.le_of_ble_eq_true rfl) (c_isGood c1) (fun r2 N4 h3 => ?_)
  rw [h3.1, h3.2]
  refine zt_ifeq_b (tgt := 91) dX10_field_75 (by decide) (fun h => ?_) (fun h => ?_)
  · have W := W.1 h
    refine zr_aload_n 0 dX10_field_91 rfl ?_
    refine zt_callVi (As := []) (rest := []) dX10_field_92 kX10_field_150 rfl rfl rfl rfl (Nat.le_of_ble_eq_true rfl) (c_isGood c1) (fun r5 N7 h6 => ?_)
    rw [h6.1, h6.2]
    refine zt_ifeq_b (tgt := 36) dX10_field_95 (by decide) (fun h => ?_) (fun h => ?_)
    · have W := W.1 h
      exact W
    · have W := W.2 h
      refine zr_aload_n 0 dX10_field_98 rfl ?_
      obtain ⟨q8, k12, W⟩ := W
      refine zt_callVv (As := []) (rest := []) dX10_field_99 kX10_field_154 rfl rfl rfl rfl (Nat.le_of_ble_eq_true rfl) k12 (fun M10 h11 => ?_)
      have W := W M10 h11
      refine zr_goto (tgt := 36) dX10_field_102 (by decide) ?_
      exact W
  · have W := W.2 h
    refine zr_aload_n 0 dX10_field_78 rfl ?_
    refine zt_geti 5 rfl dX10_field_79 fX10_130 rfl (by decide) ?_
    refine zr_iconst dX10_field_82 ?_
    obtain ⟨c13, W⟩ := W
    refine zr_icmp_eq (tgt := 91) dX10_field_83 (by decide) c13 ⟨by decide, by decide⟩ (fun h => ?_) (fun h => ?_)
    · have W := W.1 h
      refine zr_aload_n 0 dX10_field_91 rfl ?_
      refine zt_callVi (As := []) (rest := []) dX10_field_92 kX10_field_150 rfl rfl rfl rfl (Nat.le_of_ble_eq_true rfl) (c_isGood c1) (fun r14 N16 h15 => ?_)
      rw [h15.1, h15.2]
      refine zt_ifeq_b (tgt := 36) dX10_field_95 (by decide) (fun h => ?_) (fun h => ?_)
      · have W := W.1 h
        exact W
      · have W := W.2 h
        refine zr_aload_n 0 dX10_field_98 rfl ?_
        obtain ⟨q17, k21, W⟩ := W
        refine zt_callVv (As := []) (rest := []) dX10_field_99 kX10_field_154 rfl rfl rfl rfl (Nat.le_of_ble_eq_true rfl) k21 (fun M19 h20 => ?_)
        have W := W M19 h20
        refine zr_goto (tgt := 36) dX10_field_102 (by decide) ?_
        exact W
    · have W := W.2 h
      refine zr_aload_n 0 dX10_field_86 rfl ?_
      refine zr_iconst dX10_field_87 ?_
      refine zt_callVv (As := [zI 2]) (rest := []) dX10_field_88 kX10_field_143 rfl rfl rfl rfl (Nat.le_of_ble_eq_true rfl) (c_wrong c1) (fun N24 h23 => ?_)
      have W := W N24 h23
      refine zr_aload_n 0 dX10_field_91 rfl ?_
      obtain ⟨c25, W⟩ := W
      refine zt_callVi (As := []) (rest := []) dX10_field_92 kX10_field_150 rfl rfl rfl rfl (Nat.le_of_ble_eq_true rfl) (c_isGood c25) (fun r26 N28 h27 => ?_)
      rw [h27.1, h27.2]
      refine zt_ifeq_b (tgt := 36) dX10_field_95 (by decide) (fun h => ?_) (fun h => ?_)
      · have W := W.1 h
        exact W
      · have W := W.2 h
        refine zr_aload_n 0 dX10_field_98 rfl ?_
        obtain ⟨q29, k33, W⟩ := W
        refine zt_callVv (As := []) (rest := []) dX10_field_99 kX10_field_154 rfl rfl rfl rfl (Nat.le_of_ble_eq_true rfl) k33 (fun M31 h32 => ?_)
        have W := W M31 h32
        refine zr_goto (tgt := 36) dX10_field_102 (by decide) ?_
        exact W
