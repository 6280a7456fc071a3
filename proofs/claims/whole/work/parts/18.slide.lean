theorem dX7_slide_0 : decode cX7_slide 0 = .ok (.aload_n 0, 1) := by decide +kernel
theorem dX7_slide_1 : decode cX7_slide 1 = .ok (.getfield 22, 3) := by decide +kernel
theorem dX7_slide_4 : decode cX7_slide 4 = .ok (.iload_n 1, 1) := by decide +kernel
theorem dX7_slide_5 : decode cX7_slide 5 = .ok (.iload_n 2, 1) := by decide +kernel
theorem dX7_slide_6 : decode cX7_slide 6 = .ok (.invokevirtual 97, 3) := by decide +kernel
theorem dX7_slide_9 : decode cX7_slide 9 = .ok (.istore_n 3, 1) := by decide +kernel
theorem dX7_slide_10 : decode cX7_slide 10 = .ok (.aload_n 0, 1) := by decide +kernel
theorem dX7_slide_11 : decode cX7_slide 11 = .ok (.getfield 26, 3) := by decide +kernel
theorem dX7_slide_14 : decode cX7_slide 14 = .ok (.getfield 79, 3) := by decide +kernel
theorem dX7_slide_17 : decode cX7_slide 17 = .ok (.iload_n 1, 1) := by decide +kernel
theorem dX7_slide_18 : decode cX7_slide 18 = .ok (.dup2, 1) := by decide +kernel
theorem dX7_slide_19 : decode cX7_slide 19 = .ok (.iaload, 1) := by decide +kernel
theorem dX7_slide_20 : decode cX7_slide 20 = .ok (.iconst 1, 1) := by decide +kernel
theorem dX7_slide_21 : decode cX7_slide 21 = .ok (.isub, 1) := by decide +kernel
theorem dX7_slide_22 : decode cX7_slide 22 = .ok (.iastore, 1) := by decide +kernel
theorem dX7_slide_23 : decode cX7_slide 23 = .ok (.aload_n 0, 1) := by decide +kernel
theorem dX7_slide_24 : decode cX7_slide 24 = .ok (.getfield 26, 3) := by decide +kernel
theorem dX7_slide_27 : decode cX7_slide 27 = .ok (.getfield 79, 3) := by decide +kernel
theorem dX7_slide_30 : decode cX7_slide 30 = .ok (.iload_n 3, 1) := by decide +kernel
theorem dX7_slide_31 : decode cX7_slide 31 = .ok (.dup2, 1) := by decide +kernel
theorem dX7_slide_32 : decode cX7_slide 32 = .ok (.iaload, 1) := by decide +kernel
theorem dX7_slide_33 : decode cX7_slide 33 = .ok (.iconst 1, 1) := by decide +kernel
theorem dX7_slide_34 : decode cX7_slide 34 = .ok (.iadd, 1) := by decide +kernel
theorem dX7_slide_35 : decode cX7_slide 35 = .ok (.iastore, 1) := by decide +kernel
theorem dX7_slide_36 : decode cX7_slide 36 = .ok (.aload_n 0, 1) := by decide +kernel
theorem dX7_slide_37 : decode cX7_slide 37 = .ok (.dup, 1) := by decide +kernel
theorem dX7_slide_38 : decode cX7_slide 38 = .ok (.getfield 19, 3) := by decide +kernel
theorem dX7_slide_41 : decode cX7_slide 41 = .ok (.iconst 1, 1) := by decide +kernel
theorem dX7_slide_42 : decode cX7_slide 42 = .ok (.iadd, 1) := by decide +kernel
theorem dX7_slide_43 : decode cX7_slide 43 = .ok (.putfield 19, 3) := by decide +kernel
theorem dX7_slide_46 : decode cX7_slide 46 = .ok (.aload_n 0, 1) := by decide +kernel
theorem dX7_slide_47 : decode cX7_slide 47 = .ok (.iload_n 1, 1) := by decide +kernel
theorem dX7_slide_48 : decode cX7_slide 48 = .ok (.iload_n 3, 1) := by decide +kernel
theorem dX7_slide_49 : decode cX7_slide 49 = .ok (.iload_n 2, 1) := by decide +kernel
theorem dX7_slide_50 : decode cX7_slide 50 = .ok (.invokevirtual 100, 3) := by decide +kernel
theorem dX7_slide_53 : decode cX7_slide 53 = .ok (.return_, 1) := by decide +kernel
set_option maxRecDepth 100000 in
theorem SX7_slide_0 {g : zG} {o : Bool} {a s : Nat} (ha : zSt a s) {C R : Int} {M : zM} {q : zM → Prop} {x1 x2 : Int} (W : (zLand M C R) ∧ (0 ≤ x1 ∧ x1 < C * R) ∧ (0 ≤ x2 ∧ x2 ≤ 3) ∧ (0 ≤ x1 ∧ x1 < 96) ∧ (0 ≤ (alg C R x1 x2 1) ∧ (alg C R x1 x2 1) < 96) ∧ (zLand (zu (zu (zu M (s + 1) x1 ((M (s + 1) x1) - 1)) (s + 1) (alg C R x1 x2 1) (((zu M (s + 1) x1 ((M (s + 1) x1) - 1)) (s + 1) (alg C R x1 x2 1)) + 1)) a 4 (((zu (zu M (s + 1) x1 ((M (s + 1) x1) - 1)) (s + 1) (alg C R x1 x2 1) (((zu M (s + 1) x1 ((M (s + 1) x1) - 1)) (s + 1) (alg C R x1 x2 1)) + 1)) a 4) + 1)) C R) ∧ (0 ≤ (alg C R x1 x2 1) ∧ (alg C R x1 x2 1) < C * R) ∧ q (zrw (zu (zu (zu M (s + 1) x1 ((M (s + 1) x1) - 1)) (s + 1) (alg C R x1 x2 1) (((zu M (s + 1) x1 ((M (s + 1) x1) - 1)) (s + 1) (alg C R x1 x2 1)) + 1)) a 4 (((zu (zu M (s + 1) x1 ((M (s + 1) x1) - 1)) (s + 1) (alg C R x1 x2 1) (((zu M (s + 1) x1 ((M (s + 1) x1) - 1)) (s + 1) (alg C R x1 x2 1)) + 1)) a 4) + 1)) (a + 1) (crs C ((zu (zu (zu M (s + 1) x1 ((M (s + 1) x1) - 1)) (s + 1) (alg C R x1 x2 1) (((zu M (s + 1) x1 ((M (s + 1) x1) - 1)) (s + 1) (alg C R x1 x2 1)) + 1)) a 4 (((zu (zu M (s + 1) x1 ((M (s + 1) x1) - 1)) (s + 1) (alg C R x1 x2 1) (((zu M (s + 1) x1 ((M (s + 1) x1) - 1)) (s + 1) (alg C R x1 x2 1)) + 1)) a 4) + 1)) (a + 1)) x1 (alg C R x1 x2 1) x2))) : zT g (z1 o) mX7_slide (zQv (z1 o) q) 0 [(0, zA g a), (1, zI x1), (2, zI x2)] [] M := by
  refine zr_aload_n 0 dX7_slide_0 rfl ?_
  refine zr_getr (b := 14) dX7_slide_1 fX7_22 (zst_0 ha) rfl (zst_f0 ha) (by decide) ?_
  refine zr_iload_n 1 dX7_slide_4 rfl ?_
  refine zr_iload_n 2 dX7_slide_5 rfl ?_
  obtain ⟨c1, W⟩ := W
  obtain ⟨c2, W⟩ := W
  obtain ⟨c3, W⟩ := W
  refine zt_callVi (As := [zI x1, zI x2]) (rest := []) dX7_slide_6 kX7_slide_97 rfl rfl rfl rfl (Nat.le_of_ble_eq_true rfl) (c_nbr c1 c2 c3) (fun r11 N13 h12 => ?_)
  rw [h12.1, h12.2]
  refine zr_istore_n (l' := [(0, zA g a), (1, zI x1), (2, zI x2), (3, zI (alg C R x1 x2 1))]) dX7_slide_9 (by decide) [1, 2, 3, 0] rfl ?_
  refine zr_aload_n 0 dX7_slide_10 rfl ?_
  refine zr_getr (b := s) dX7_slide_11 fX7_26 (zst_0 ha) rfl (zst_f1 ha) (zsd_nz (zst_s ha)) ?_
  refine zr_getr (b := (s + 1)) dX7_slide_14 fX7_79 (zsd_0 (zst_s ha)) rfl (zsd_f0 (zst_s ha)) (Nat.succ_ne_zero _) ?_
  refine zr_iload_n 1 dX7_slide_17 rfl ?_
  refine zr_dup2 dX7_slide_18 rfl rfl ?_
  obtain ⟨c4, W⟩ := W
  refine zr_iald dX7_slide_19 (zsd_1 (zst_s ha)) (by decide) c4 ?_
  refine zr_iconst dX7_slide_20 ?_
  refine zr_isub dX7_slide_21 ?_
  refine zr_iast dX7_slide_22 (zsd_1 (zst_s ha)) (by decide) c4 ?_
  refine zr_aload_n 0 dX7_slide_23 rfl ?_
  refine zr_getr (b := s) dX7_slide_24 fX7_26 (zst_0 ha) rfl (zst_f1 ha) (zsd_nz (zst_s ha)) ?_
  refine zr_getr (b := (s + 1)) dX7_slide_27 fX7_79 (zsd_0 (zst_s ha)) rfl (zsd_f0 (zst_s ha)) (Nat.succ_ne_zero _) ?_
  refine zr_iload_n 3 dX7_slide_30 rfl ?_
  refine zr_dup2 dX7_slide_31 rfl rfl ?_
  obtain ⟨c5, W⟩ := W
  refine zr_iald dX7_slide_32 (zsd_1 (zst_s ha)) (by decide) c5 ?_
  refine zr_iconst dX7_slide_33 ?_
  refine zr_iadd dX7_slide_34 ?_
  refine zr_iast dX7_slide_35 (zsd_1 (zst_s ha)) (by decide) c5 ?_
  refine zr_aload_n 0 dX7_slide_36 rfl ?_
  refine zr_dup dX7_slide_37 rfl ?_
  refine zt_geti 4 rfl dX7_slide_38 fX7_19 (zst_0 ha) (by decide) ?_
  refine zr_iconst dX7_slide_41 ?_
  refine zr_iadd dX7_slide_42 ?_
  refine zt_puti 4 rfl dX7_slide_43 fX7_19 lcX7 ltX7_4 rfl (zst_0 ha) ?_
  refine zr_aload_n 0 dX7_slide_46 rfl ?_
  refine zr_iload_n 1 dX7_slide_47 rfl ?_
  refine zr_iload_n 3 dX7_slide_48 rfl ?_
  refine zr_iload_n 2 dX7_slide_49 rfl ?_
  obtain ⟨c6, W⟩ := W
  obtain ⟨c7, W⟩ := W
  refine zt_callVv (As := [zI x1, zI (alg C R x1 x2 1), zI x2]) (rest := []) dX7_slide_50 kX7_slide_100 (zst_0 ha) rfl rfl rfl (Nat.le_of_ble_eq_true rfl) (c_cross ha c6 c2 c7 c3) (fun N10 h9 => ?_)
  rw [h9]
  exact zt_ret dX7_slide_53 rfl W
abbrev Hz : Type := (Int → Int) × Int × (Int → Int)
def zget (M : zM) (a s : Nat) : Hz := (M (s + 1), M a 4, M (a + 1))
def zput (M : zM) (a s : Nat) (z : Hz) : zM := zrw (zu (zrw M (s + 1) z.1) a 4 z.2.1) (a + 1) z.2.2
def sldz (C R : Int) (z : Hz) (f w : Int) : Hz := (sld z.1 f (alg C R f w 1), z.2.1 + 1, crs C z.2.2 f (alg C R f w 1) w)
def yld (C R : Int) (H G : Int → Int) (sh c w : Int) : Prop := 0 < H c ∧ G c = 0 ∧ ¬ shd C R H sh c w
section CP
variable {g : zG} {o : Bool} {M : zM} {C R x c w t f : Int} {s a b : Nat} {z z' : Hz}
theorem zput_h (ha : zSt a s) : zput M a s z (s + 1) = z.1 := by
  have := zst_ne ha
  unfold zput
  rw [zrw_other (by omega), zu_other (by omega), zrw_row]
theorem zput_x : zput M a s z (a + 1) = z.2.2 := by unfold zput; rw [zrw_row]
theorem zput_a (ha : zSt a s) (i : Int) : zput M a s z a i = if i = 4 then z.2.1 else M a i := by
  have := zst_ne ha
  unfold zput
  rw [zrw_other (by omega), zu_row, zrw_other (by omega)]
theorem zput_o (h1 : b ≠ s + 1) (h2 : b ≠ a) (h3 : b ≠ a + 1) : zput M a s z b = M b := by
  unfold zput
  rw [zrw_other h3, zu_other h2, zrw_other h1]
theorem zget_put (ha : zSt a s) : zget (zput M a s z) a s = z := by
  unfold zget
  rw [zput_h ha, zput_x, zput_a ha, if_pos rfl]
theorem zput_put (ha : zSt a s) : zput (zput M a s z) a s z' = zput M a s z' := by
  have h := zst_ne ha
  funext b j
  by_cases h1 : b = s + 1
  · subst h1; rw [zput_h ha, zput_h ha]
  · by_cases h2 : b = a
    · subst h2
      simp only [zput_a ha]
      by_cases hj : j = 4 <;> simp [hj]
    · by_cases h3 : b = a + 1
      · subst h3; rw [zput_x, zput_x]
      · rw [zput_o h1 h2 h3, zput_o h1 h2 h3, zput_o h1 h2 h3]
theorem zput_get (ha : zSt a s) : zput M a s (zget M a s) = M := by
  have h := zst_ne ha
  funext b j
  by_cases h1 : b = s + 1
  · subst h1; rw [zput_h ha]; rfl
  · by_cases h2 : b = a
    · subst h2
      rw [zput_a ha]
      split
      · rename_i hj; subst hj; rfl
      · rfl
    · by_cases h3 : b = a + 1
      · subst h3; rw [zput_x]; rfl
      · rw [zput_o h1 h2 h3]
theorem zput_L (ha : zSt a s) (hL : zLand M C R) : zLand (zput M a s z) C R := by
  have h := zst_ne ha
  exact hL.of (fun b h1 h2 => zput_o (by omega) (by omega) (by omega))
theorem zput_14 (ha : zSt a s) : zput M a s z 14 = M 14 := by
  have h := zst_ne ha
  exact zput_o (by omega) (by omega) (by omega)
theorem c_slide (ha : zSt a s) (hL : zLand M C R) (hf : 0 ≤ f ∧ f < C * R) (hw : 0 ≤ w ∧ w ≤ 3) : zKv g (z1 o) mX7_slide [zA g a, zI f, zI w] M (fun M' => M' = zput M a s (sldz C R (zget M a s) f w)) := by
  have hn := geo_n hL.1
  have h := zst_ne ha
  have a1 := alg_in (w := w) (k := 1) hL.1 hf
  refine zkv_of rfl (Nat.le_of_ble_eq_true rfl) (SX7_slide_0 ha ⟨hL, hf, hw, by omega, by omega, ?_, a1, ?_⟩)
  · exact hL.of (fun b h1 h2 => by rw [zu_other (by omega), zu_other (by omega), zu_other (by omega)])
  · have e1 : zu (zu M (s + 1) f (M (s + 1) f - 1)) (s + 1) (alg C R f w 1) (zu M (s + 1) f (M (s + 1) f - 1) (s + 1) (alg C R f w 1) + 1) = zrw M (s + 1) (sld (M (s + 1)) f (alg C R f w 1)) := by
      rw [zu_zrw, zu_zrw, zrw_row, zrw_zrw]; rfl
    rw [e1, zu_other (by omega), zrw_other (by omega), zrw_other (by omega)]
    rfl
theorem zu_put (ha : zSt a s) : zu M (s + 1) c x = zput M a s (up (M (s + 1)) c x, M a 4, M (a + 1)) := by
  have h := zst_ne ha
  rw [zu_zrw]
  funext b j
  by_cases h1 : b = s + 1
  · subst h1; rw [zput_h ha, zrw_row]
  · rw [zrw_other h1]
    by_cases h2 : b = a
    · subst h2
      rw [zput_a ha]
      split
      · rename_i hj; subst hj; rfl
      · rfl
    · by_cases h3 : b = a + 1
      · subst h3; rw [zput_x]
      · rw [zput_o h1 h2 h3]
end CP
