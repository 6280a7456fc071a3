theorem dX7_carry_0 : decode cX7_carry 0 = .ok (.iload_n 1, 1) := by decide +kernel
theorem dX7_carry_1 : decode cX7_carry 1 = .ok (.istore_n 3, 1) := by decide +kernel
theorem dX7_carry_2 : decode cX7_carry 2 = .ok (.iconst 1, 1) := by decide +kernel
theorem dX7_carry_3 : decode cX7_carry 3 = .ok (.istore 4, 2) := by decide +kernel
theorem dX7_carry_5 : decode cX7_carry 5 = .ok (.iload 4, 2) := by decide +kernel
theorem dX7_carry_7 : decode cX7_carry 7 = .ok (.bipush 20, 2) := by decide +kernel
theorem dX7_carry_9 : decode cX7_carry 9 = .ok (.if_icmp .gt 54, 3) := by decide +kernel
theorem dX7_carry_12 : decode cX7_carry 12 = .ok (.aload_n 0, 1) := by decide +kernel
theorem dX7_carry_13 : decode cX7_carry 13 = .ok (.iload_n 3, 1) := by decide +kernel
theorem dX7_carry_14 : decode cX7_carry 14 = .ok (.iload_n 2, 1) := by decide +kernel
theorem dX7_carry_15 : decode cX7_carry 15 = .ok (.invokevirtual 88, 3) := by decide +kernel
theorem dX7_carry_18 : decode cX7_carry 18 = .ok (.istore_n 3, 1) := by decide +kernel
theorem dX7_carry_19 : decode cX7_carry 19 = .ok (.iload 4, 2) := by decide +kernel
theorem dX7_carry_21 : decode cX7_carry 21 = .ok (.bipush 20, 2) := by decide +kernel
theorem dX7_carry_23 : decode cX7_carry 23 = .ok (.if_icmp .eq 32, 3) := by decide +kernel
theorem dX7_carry_26 : decode cX7_carry 26 = .ok (.aload_n 0, 1) := by decide +kernel
theorem dX7_carry_27 : decode cX7_carry 27 = .ok (.iload_n 3, 1) := by decide +kernel
theorem dX7_carry_28 : decode cX7_carry 28 = .ok (.iload_n 2, 1) := by decide +kernel
theorem dX7_carry_29 : decode cX7_carry 29 = .ok (.invokevirtual 85, 3) := by decide +kernel
theorem dX7_carry_32 : decode cX7_carry 32 = .ok (.ifCond .ne 23, 3) := by decide +kernel
theorem dX7_carry_35 : decode cX7_carry 35 = .ok (.aload_n 0, 1) := by decide +kernel
theorem dX7_carry_36 : decode cX7_carry 36 = .ok (.getfield 26, 3) := by decide +kernel
theorem dX7_carry_39 : decode cX7_carry 39 = .ok (.bipush 16, 2) := by decide +kernel
theorem dX7_carry_41 : decode cX7_carry 41 = .ok (.invokevirtual 61, 3) := by decide +kernel
theorem dX7_carry_44 : decode cX7_carry 44 = .ok (.aload_n 0, 1) := by decide +kernel
theorem dX7_carry_45 : decode cX7_carry 45 = .ok (.getfield 26, 3) := by decide +kernel
theorem dX7_carry_48 : decode cX7_carry 48 = .ok (.iload_n 3, 1) := by decide +kernel
theorem dX7_carry_49 : decode cX7_carry 49 = .ok (.invokevirtual 91, 3) := by decide +kernel
theorem dX7_carry_52 : decode cX7_carry 52 = .ok (.if_icmp .ge 5, 3) := by decide +kernel
theorem dX7_carry_55 : decode cX7_carry 55 = .ok (.iload_n 3, 1) := by decide +kernel
theorem dX7_carry_56 : decode cX7_carry 56 = .ok (.ireturn, 1) := by decide +kernel
theorem dX7_carry_57 : decode cX7_carry 57 = .ok (.iinc 4 1, 3) := by decide +kernel
theorem dX7_carry_60 : decode cX7_carry 60 = .ok (.goto (-55), 3) := by decide +kernel
theorem dX7_carry_63 : decode cX7_carry 63 = .ok (.iload_n 3, 1) := by decide +kernel
theorem dX7_carry_64 : decode cX7_carry 64 = .ok (.ireturn, 1) := by decide +kernel
set_option maxRecDepth 100000 in
theorem SX7_carry_0 {g : zG} {o : Bool} {a s : Nat} (ha : zSt a s) {M : zM} {q : Int → zM → Prop} {x1 x2 : Int} (W : zT g (z1 o) mX7_carry (zQi (z1 o) q) 5 [(0, zA g a), (2, zI x2), (3, zI x1), (4, zI 1)] [] M) : zT g (z1 o) mX7_carry (zQi (z1 o) q) 0 [(0, zA g a), (1, zI x1), (2, zI x2)] [] M := by
  refine zr_iload_n 1 dX7_carry_0 rfl ?_
  refine zr_istore_n (l' := [(0, zA g a), (2, zI x2), (3, zI x1)]) dX7_carry_1 (by decide) [1, 3, 0] rfl ?_
  refine zr_iconst dX7_carry_2 ?_
  refine zr_istore (l' := [(0, zA g a), (2, zI x2), (3, zI x1), (4, zI 1)]) dX7_carry_3 (by decide) [1, 2, 3, 0] rfl ?_
  exact W
set_option maxRecDepth 100000 in
theorem SX7_carry_5 {g : zG} {o : Bool} {a s : Nat} (ha : zSt a s) {C R : Int} {M : zM} {q : Int → zM → Prop} {x2 x3 x4 : Int} (W : (-2147483648 ≤ x4 ∧ x4 ≤ 2147483647) ∧ ((20 < x4) → q x3 M) ∧ ((¬ (20 < x4)) → (zLand M C R) ∧ (0 ≤ x3 ∧ x3 < C * R) ∧ (0 ≤ x2 ∧ x2 ≤ 3) ∧ (1 ≤ M (s + 3) 0 ∧ M (s + 3) 0 ≤ 6) ∧ ∀ N8 : zM, N8 = zu (zrw M (a + 1) (hpx C R x2 (M (s + 3) 0).toNat x3 (M (a + 1)))) a 3 (M a 3 + 1) → ((x4 = 20) → q (alg C R x3 x2 (M (s + 3) 0)) N8) ∧ ((¬ (x4 = 20)) → (zLand N8 C R) ∧ (0 ≤ (alg C R x3 x2 (M (s + 3) 0)) ∧ (alg C R x3 x2 (M (s + 3) 0)) < C * R) ∧ (Bd (N8 (s + 1))) ∧ (0 ≤ N8 (s + 3) 1 ∧ N8 (s + 3) 1 ≤ 9) ∧ ((shd C R (N8 (s + 1)) (N8 (s + 3) 1) (alg C R x3 x2 (M (s + 3) 0)) x2) → q (alg C R x3 x2 (M (s + 3) 0)) N8) ∧ ((¬ (shd C R (N8 (s + 1)) (N8 (s + 3) 1) (alg C R x3 x2 (M (s + 3) 0)) x2)) → (0 ≤ N8 s 3 ∧ N8 s 3 ≤ 10006) ∧ ((0 : Int) < 16 ∧ 16 ≤ (2147483647 : Int)) ∧ ∀ N20 : zM, N20 = zu N8 s 3 ((N8 s 3 * 137 + 71) % 10007) → (0 ≤ (alg C R x3 x2 (M (s + 3) 0)) ∧ (alg C R x3 x2 (M (s + 3) 0)) < 96) ∧ (0 ≤ N20 (s + 1) (alg C R x3 x2 (M (s + 3) 0)) ∧ N20 (s + 1) (alg C R x3 x2 (M (s + 3) 0)) ≤ 2000000000) ∧ (-2147483648 ≤ ((N8 s 3 * 137 + 71) % 10007 % 16) ∧ ((N8 s 3 * 137 + 71) % 10007 % 16) ≤ 2147483647) ∧ (-2147483648 ≤ (if 0 < N20 (s + 1) (alg C R x3 x2 (M (s + 3) 0)) then N20 (s + 3) 2 else N20 (s + 3) 3) ∧ (if 0 < N20 (s + 1) (alg C R x3 x2 (M (s + 3) 0)) then N20 (s + 3) 2 else N20 (s + 3) 3) ≤ 2147483647) ∧ (((if 0 < N20 (s + 1) (alg C R x3 x2 (M (s + 3) 0)) then N20 (s + 3) 2 else N20 (s + 3) 3) ≤ ((N8 s 3 * 137 + 71) % 10007 % 16)) → zT g (z1 o) mX7_carry (zQi (z1 o) q) 5 [(0, zA g a), (2, zI x2), (3, zI (alg C R x3 x2 (M (s + 3) 0))), (4, zI (x4 + 1))] [] N20) ∧ ((¬ ((if 0 < N20 (s + 1) (alg C R x3 x2 (M (s + 3) 0)) then N20 (s + 3) 2 else N20 (s + 3) 3) ≤ ((N8 s 3 * 137 + 71) % 10007 % 16))) → q (alg C R x3 x2 (M (s + 3) 0)) N20))))) : zT g (z1 o) mX7_carry (zQi (z1 o) q) 5 [(0, zA g a), (2, zI x2), (3, zI x3), (4, zI x4)] [] M := by
  refine zr_iload 3 dX7_carry_5 rfl ?_
  refine zr_bipush dX7_carry_7 (by decide) ?_
  obtain ⟨c1, W⟩ := W
  refine zr_icmp_gt (tgt := 63) dX7_carry_9 (by decide) c1 ⟨by decide, by decide⟩ (fun h => ?_) (fun h => ?_)
  · have W := W.1 h
    refine zr_iload_n 2 dX7_carry_63 rfl ?_
    exact zt_iret dX7_carry_64 rfl W
  · have W := W.2 h
    refine zr_aload_n 0 dX7_carry_12 rfl ?_
    refine zr_iload_n 2 dX7_carry_13 rfl ?_
    refine zr_iload_n 1 dX7_carry_14 rfl ?_
    obtain ⟨c2, W⟩ := W
    obtain ⟨c3, W⟩ := W
    obtain ⟨c4, W⟩ := W
    obtain ⟨c5, W⟩ := W
    refine zt_callVi (As := [zI x3, zI x2]) (rest := []) dX7_carry_15 kX7_carry_88 (zst_0 ha) rfl rfl rfl (Nat.le_of_ble_eq_true rfl) (c_hop ha c2 c3 c4 c5) (fun r6 N8 h7 => ?_)
    rw [h7.1]
    have W := W N8 h7.2
    refine zr_istore_n (l' := [(0, zA g a), (2, zI x2), (3, zI (alg C R x3 x2 (M (s + 3) 0))), (4, zI x4)]) dX7_carry_18 (by decide) [1, 2, 0, 3] rfl ?_
    refine zr_iload 3 dX7_carry_19 rfl ?_
    refine zr_bipush dX7_carry_21 (by decide) ?_
    refine zr_icmp_eq (tgt := 55) dX7_carry_23 (by decide) c1 ⟨by decide, by decide⟩ (fun h => ?_) (fun h => ?_)
    · have W := W.1 h
      refine zr_iload_n 2 dX7_carry_55 rfl ?_
      exact zt_iret dX7_carry_56 rfl W
    · have W := W.2 h
      refine zr_aload_n 0 dX7_carry_26 rfl ?_
      refine zr_iload_n 2 dX7_carry_27 rfl ?_
      refine zr_iload_n 1 dX7_carry_28 rfl ?_
      obtain ⟨c9, W⟩ := W
      obtain ⟨c10, W⟩ := W
      obtain ⟨c11, W⟩ := W
      obtain ⟨c12, W⟩ := W
      refine zt_callVi (As := [zI (alg C R x3 x2 (M (s + 3) 0)), zI x2]) (rest := []) dX7_carry_29 kX7_carry_85 (zst_0 ha) rfl rfl rfl (Nat.le_of_ble_eq_true rfl) (c_shaded ha c9 c10 c4 c11 c12) (fun r13 N15 h14 => ?_)
      rw [h14.1, h14.2]
      refine zt_ifne_b (tgt := 55) dX7_carry_32 (by decide) (fun h => ?_) (fun h => ?_)
      · have W := W.1 h
        refine zr_iload_n 2 dX7_carry_55 rfl ?_
        exact zt_iret dX7_carry_56 rfl W
      · have W := W.2 h
        refine zr_aload_n 0 dX7_carry_35 rfl ?_
        refine zr_getr (b := s) dX7_carry_36 fX7_26 (zst_0 ha) rfl (zst_f1 ha) (zsd_nz (zst_s ha)) ?_
        refine zr_bipush dX7_carry_39 (by decide) ?_
        obtain ⟨c16, W⟩ := W
        obtain ⟨c17, W⟩ := W
        refine zt_callVi (As := [zI 16]) (rest := []) dX7_carry_41 kX7_carry_61 (zsd_0 (zst_s ha)) rfl rfl rfl (Nat.le_of_ble_eq_true rfl) (c_draw (zst_s ha) c16 c17) (fun r18 N20 h19 => ?_)
        rw [h19.1]
        have W := W N20 h19.2
        refine zr_aload_n 0 dX7_carry_44 rfl ?_
        refine zr_getr (b := s) dX7_carry_45 fX7_26 (zst_0 ha) rfl (zst_f1 ha) (zsd_nz (zst_s ha)) ?_
        refine zr_iload_n 2 dX7_carry_48 rfl ?_
        obtain ⟨c21, W⟩ := W
        obtain ⟨c22, W⟩ := W
        refine zt_callVi (As := [zI (alg C R x3 x2 (M (s + 3) 0))]) (rest := [zI ((N8 s 3 * 137 + 71) % 10007 % 16)]) dX7_carry_49 kX7_carry_91 (zsd_0 (zst_s ha)) rfl rfl rfl (Nat.le_of_ble_eq_true rfl) (c_stick (zst_s ha) c21 c22) (fun r23 N25 h24 => ?_)
        rw [h24.1, h24.2]
        obtain ⟨c26, W⟩ := W
        obtain ⟨c27, W⟩ := W
        refine zr_icmp_ge (tgt := 57) dX7_carry_52 (by decide) c26 c27 (fun h => ?_) (fun h => ?_)
        · have W := W.1 h
          refine zr_iinc (q := 3) (l' := [(0, zA g a), (2, zI x2), (3, zI (alg C R x3 x2 (M (s + 3) 0))), (4, zI (x4 + 1))]) dX7_carry_57 rfl (by decide) [1, 2, 3, 0] rfl ?_
          refine zr_goto (tgt := 5) dX7_carry_60 (by decide) ?_
          exact W
        · have W := W.2 h
          refine zr_iload_n 2 dX7_carry_55 rfl ?_
          exact zt_iret dX7_carry_56 rfl W
noncomputable def fly (C R w hop : Int) (H : Int → Int) (sh st bt : Int) : Nat → Int → Int → (Int → Int) → Int → Int × Int × (Int → Int) × Int
  | 0, c, sd, X, hp => (c, sd, X, hp)
  | n + 1, c, sd, X, hp => if zb (n = 0 ∨ shd C R H sh (alg C R c w hop) w) = 1 then (alg C R c w hop, sd, hpx C R w hop.toNat c X, hp + 1)
      else if (sd * 137 + 71) % 10007 % 16 < (if 0 < H (alg C R c w hop) then st else bt) then (alg C R c w hop, (sd * 137 + 71) % 10007, hpx C R w hop.toNat c X, hp + 1)
      else fly C R w hop H sh st bt n (alg C R c w hop) ((sd * 137 + 71) % 10007) (hpx C R w hop.toNat c X) (hp + 1)
def zfm (M : zM) (a s : Nat) (sd : Int) (X : Int → Int) (hp : Int) : zM := zu (zu (zrw M (a + 1) X) a 3 hp) s 3 sd
section CF
variable {g : zG} {o : Bool} {M : zM} {C R c w sd hp sd' hp' : Int} {s a b : Nat} {X X' : Int → Int}
theorem zfm_x (ha : zSt a s) : zfm M a s sd X hp (a + 1) = X := by
  have h := zst_ne ha
  unfold zfm; rw [zu_other (by omega), zu_other (by omega), zrw_row]
theorem zfm_a (ha : zSt a s) (i : Int) : zfm M a s sd X hp a i = if i = 3 then hp else M a i := by
  have h := zst_ne ha
  unfold zfm; rw [zu_other (by omega), zu_row, zrw_other (by omega)]
theorem zfm_s (ha : zSt a s) (i : Int) : zfm M a s sd X hp s i = if i = 3 then sd else M s i := by
  have h := zst_ne ha
  unfold zfm; rw [zu_row, zu_other (by omega), zrw_other (by omega)]
theorem zfm_o (h1 : b ≠ s) (h2 : b ≠ a) (h3 : b ≠ a + 1) : zfm M a s sd X hp b = M b := by
  unfold zfm; rw [zu_other h1, zu_other h2, zrw_other h3]
theorem zfm_hop (ha : zSt a s) : zu (zrw (zfm M a s sd X hp) (a + 1) X') a 3 hp' = zfm M a s sd X' hp' := by
  have h := zst_ne ha
  funext b j
  by_cases h1 : b = s
  · subst h1; rw [zu_other (by omega), zrw_other (by omega), zfm_s ha, zfm_s ha]
  · by_cases h2 : b = a
    · subst h2; rw [zu_row, zrw_other (by omega), zfm_a ha, zfm_a ha]; split <;> rfl
    · by_cases h3 : b = a + 1
      · subst h3; rw [zu_other (by omega), zrw_row, zfm_x ha]
      · rw [zu_other h2, zrw_other h3, zfm_o h1 h2 h3, zfm_o h1 h2 h3]
theorem zfm_draw (ha : zSt a s) : zu (zfm M a s sd X hp) s 3 sd' = zfm M a s sd' X hp := by
  have h := zst_ne ha
  funext b j
  by_cases h1 : b = s
  · subst h1; rw [zu_row, zfm_s ha, zfm_s ha]; split <;> rfl
  · by_cases h2 : b = a
    · subst h2; rw [zu_other (by omega), zfm_a ha, zfm_a ha]
    · by_cases h3 : b = a + 1
      · subst h3; rw [zu_other (by omega), zfm_x ha, zfm_x ha]
      · rw [zu_other h1, zfm_o h1 h2 h3, zfm_o h1 h2 h3]
theorem zfm_self (ha : zSt a s) : zfm M a s (M s 3) (M (a + 1)) (M a 3) = M := by
  have h := zst_ne ha
  funext b j
  by_cases h1 : b = s
  · subst h1; rw [zfm_s ha]; split
    · rename_i e; rw [e]
    · rfl
  · by_cases h2 : b = a
    · subst h2; rw [zfm_a ha]; split
      · rename_i e; rw [e]
      · rfl
    · by_cases h3 : b = a + 1
      · subst h3; rw [zfm_x ha]
      · rw [zfm_o h1 h2 h3]
theorem zfm_L (ha : zSt a s) (hL : zLand M C R) : zLand (zfm M a s sd X hp) C R := by
  have h := zst_ne ha
  exact hL.of (fun b h1 h2 => zfm_o (by omega) (by omega) (by omega))
theorem c_carry (ha : zSt a s) (hL : zLand M C R) (hc : 0 ≤ c ∧ c < C * R) (hw : 0 ≤ w ∧ w ≤ 3) (hB : Bd (M (s + 1))) (hh : 1 ≤ M (s + 3) 0 ∧ M (s + 3) 0 ≤ 6) (hsh : 0 ≤ M (s + 3) 1 ∧ M (s + 3) 1 ≤ 9) (h2 : 0 ≤ M (s + 3) 2 ∧ M (s + 3) 2 ≤ 16) (h3 : 0 ≤ M (s + 3) 3 ∧ M (s + 3) 3 ≤ 16) (hsd : 0 ≤ M s 3 ∧ M s 3 ≤ 10006) :
    zKi g (z1 o) mX7_carry [zA g a, zI c, zI w] M (fun r M' => r = (fly C R w (M (s + 3) 0) (M (s + 1)) (M (s + 3) 1) (M (s + 3) 2) (M (s + 3) 3) 20 c (M s 3) (M (a + 1)) (M a 3)).1 ∧ M' = zfm M a s (fly C R w (M (s + 3) 0) (M (s + 1)) (M (s + 3) 1) (M (s + 3) 2) (M (s + 3) 3) 20 c (M s 3) (M (a + 1)) (M a 3)).2.1 (fly C R w (M (s + 3) 0) (M (s + 1)) (M (s + 3) 1) (M (s + 3) 2) (M (s + 3) 3) 20 c (M s 3) (M (a + 1)) (M a 3)).2.2.1 (fly C R w (M (s + 3) 0) (M (s + 1)) (M (s + 3) 1) (M (s + 3) 2) (M (s + 3) 3) 20 c (M s 3) (M (a + 1)) (M a 3)).2.2.2) := by
  have hn := geo_n hL.1
  have hne := zst_ne ha
  refine zki_of rfl (Nat.le_of_ble_eq_true rfl) (SX7_carry_0 ha ?_)
  suffices h : ∀ (n : Nat) (i c sd : Int) (X : Int → Int) (hp : Int), 1 ≤ i → i + n = 21 → 1 ≤ n → 0 ≤ c ∧ c < C * R → 0 ≤ sd ∧ sd ≤ 10006 → zT g (z1 o) mX7_carry (zQi (z1 o) (fun r M' => r = (fly C R w (M (s + 3) 0) (M (s + 1)) (M (s + 3) 1) (M (s + 3) 2) (M (s + 3) 3) n c sd X hp).1 ∧ M' = zfm M a s (fly C R w (M (s + 3) 0) (M (s + 1)) (M (s + 3) 1) (M (s + 3) 2) (M (s + 3) 3) n c sd X hp).2.1 (fly C R w (M (s + 3) 0) (M (s + 1)) (M (s + 3) 1) (M (s + 3) 2) (M (s + 3) 3) n c sd X hp).2.2.1 (fly C R w (M (s + 3) 0) (M (s + 1)) (M (s + 3) 1) (M (s + 3) 2) (M (s + 3) 3) n c sd X hp).2.2.2)) 5 [(0, zA g a), (2, zI w), (3, zI c), (4, zI i)] [] (zfm M a s sd X hp) by
    have hh := h 20 1 c (M s 3) (M (a + 1)) (M a 3) (by omega) (by omega) (by omega) hc hsd
    rw [zfm_self ha] at hh
    exact hh
  intro n
  induction n with
  | zero => intro i c sd X hp h1 h2 h3; omega
  | succ n ih =>
    intro i c sd X hp i1 i2 i3 hc hsd
    refine SX7_carry_5 (C := C) (R := R) ha ?_
    have e3 : zfm M a s sd X hp (s + 3) = M (s + 3) := zfm_o (by omega) (by omega) (by omega)
    have e1 : zfm M a s sd X hp (s + 1) = M (s + 1) := zfm_o (by omega) (by omega) (by omega)
    rw [e3, zfm_x ha, zfm_hop ha, show zfm M a s sd X hp a 3 = hp by rw [zfm_a ha, if_pos rfl]]
    have a1 := alg_in (w := w) (k := M (s + 3) 0) hL.1 hc
    have b1 := hB _ a1.1 (by omega)
    refine ⟨by omega, fun h => by omega, fun h => ⟨zfm_L ha hL, hc, hw, hh, fun N8 eN => ?_⟩⟩
    subst eN
    have f3 : zfm M a s sd (hpx C R w (M (s + 3) 0).toNat c X) (hp + 1) (s + 3) = M (s + 3) := zfm_o (by omega) (by omega) (by omega)
    have f1 : zfm M a s sd (hpx C R w (M (s + 3) 0).toNat c X) (hp + 1) (s + 1) = M (s + 1) := zfm_o (by omega) (by omega) (by omega)
    rw [f3, f1, show zfm M a s sd (hpx C R w (M (s + 3) 0).toNat c X) (hp + 1) s 3 = sd by rw [zfm_s ha, if_pos rfl], zfm_draw ha]
    have e : ∀ y, fly C R w (M (s + 3) 0) (M (s + 1)) (M (s + 3) 1) (M (s + 3) 2) (M (s + 3) 3) (n + 1) c sd X hp = y ↔ (if zb (n = 0 ∨ shd C R (M (s + 1)) (M (s + 3) 1) (alg C R c w (M (s + 3) 0)) w) = 1 then (alg C R c w (M (s + 3) 0), sd, hpx C R w (M (s + 3) 0).toNat c X, hp + 1)
      else if (sd * 137 + 71) % 10007 % 16 < (if 0 < M (s + 1) (alg C R c w (M (s + 3) 0)) then M (s + 3) 2 else M (s + 3) 3) then (alg C R c w (M (s + 3) 0), (sd * 137 + 71) % 10007, hpx C R w (M (s + 3) 0).toNat c X, hp + 1)
      else fly C R w (M (s + 3) 0) (M (s + 1)) (M (s + 3) 1) (M (s + 3) 2) (M (s + 3) 3) n (alg C R c w (M (s + 3) 0)) ((sd * 137 + 71) % 10007) (hpx C R w (M (s + 3) 0).toNat c X) (hp + 1)) = y := fun y => Iff.rfl
    refine ⟨fun h4 => ?_, fun h4 => ⟨zfm_L ha hL, a1, hB, hsh, fun h5 => ?_, fun h5 => ⟨hsd, by omega, fun N20 eN2 => ?_⟩⟩⟩
    · rw [(e _).mpr (if_pos (zb_t (Or.inl (by omega))))]; exact ⟨rfl, rfl⟩
    · rw [(e _).mpr (if_pos (zb_t (Or.inr h5)))]; exact ⟨rfl, rfl⟩
    · subst eN2
      have g3 : zfm M a s ((sd * 137 + 71) % 10007) (hpx C R w (M (s + 3) 0).toNat c X) (hp + 1) (s + 3) = M (s + 3) := zfm_o (by omega) (by omega) (by omega)
      have g1 : zfm M a s ((sd * 137 + 71) % 10007) (hpx C R w (M (s + 3) 0).toNat c X) (hp + 1) (s + 1) = M (s + 1) := zfm_o (by omega) (by omega) (by omega)
      rw [g3, g1]
      have hst : 0 ≤ (if 0 < M (s + 1) (alg C R c w (M (s + 3) 0)) then M (s + 3) 2 else M (s + 3) 3) ∧ (if 0 < M (s + 1) (alg C R c w (M (s + 3) 0)) then M (s + 3) 2 else M (s + 3) 3) ≤ 16 := by split <;> assumption
      have hz : ¬ zb (n = 0 ∨ shd C R (M (s + 1)) (M (s + 3) 1) (alg C R c w (M (s + 3) 0)) w) = 1 := fun q => by
        rcases zb_1.mp q with q | q
        · omega
        · exact h5 q
      refine ⟨by omega, by omega, by omega, by omega, fun h6 => ?_, fun h6 => ?_⟩
      · have hh := ih (i + 1) (alg C R c w (M (s + 3) 0)) ((sd * 137 + 71) % 10007) (hpx C R w (M (s + 3) 0).toNat c X) (hp + 1) (by omega) (by omega) (by omega) a1 (by omega)
        rw [(e _).mpr ((if_neg hz).trans (if_neg (by omega)))]
        exact hh
      · rw [(e _).mpr ((if_neg hz).trans (if_pos (by omega)))]; exact ⟨rfl, rfl⟩
end CF
